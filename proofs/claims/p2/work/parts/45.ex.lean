set_option maxRecDepth 100000 in
set_option maxHeartbeats 4000000 in
theorem b_MO_placeIn_25 {l : Launch} {G : jj_G} {d : Nat} {h : jj_H} {i : Nat} {c x : Int32} (hi : i < jj_nS) (hdd : 4 ≤ d) : jj_P l G y_MO_placeIn d (fun out h' => ∃ v : Int32, out = .inl (some (.int v)) ∧ h' = h) 25 [some (.ref (G.2.2.2.1 i)), some (.int c), some (.int x)] [] h := by
  refine jj_iload_n (j := 2) (by decide +kernel) rfl ?_
  refine jj_aload_n (j := 0) (by decide +kernel) rfl ?_
  refine jj_callr (c_JS_length (d := d - 1) hi (by omega)) (fun o1 h1 hC => jj_callV ok_JS_length ml_MO_59 im_JS_length se_JS_JS_length (by decide +kernel) (jj_rcv.str hi) rfl (by omega) (Nat.le_of_ble_eq_true rfl) hC) (by rintro E h1 ⟨q, -⟩; cases q) ?_
  rintro v h1 ⟨hv, rfl⟩
  cases hv
  refine jj_icmp_ge (off := 7) (tgt := 37) (by decide +kernel) (by decide) (fun _ => ?_) (fun _ => ?_)
  · refine jj_iconst (n := (-1)) (v := (-1)) (by decide +kernel) (by decide) ?_
    exact jj_iret .int (by decide +kernel) rfl rfl ⟨_, rfl, rfl⟩
  · refine jj_iload_n (j := 2) (by decide +kernel) rfl ?_
    refine jj_goto (off := 4) (tgt := 38) (by decide +kernel) (by decide) ?_
    exact jj_iret .int (by decide +kernel) rfl rfl ⟨_, rfl, rfl⟩
set_option maxRecDepth 100000 in
set_option maxHeartbeats 4000000 in
theorem b_MO_placeIn_2 {l : Launch} {G : jj_G} {d : Nat} {h : jj_H} {i : Nat} {c : Int32} (hi : i < jj_nS) (hdd : 4 ≤ d) : ∀ (n j : Nat), jj_lS.getD i 0 - j < n → j ≤ jj_lS.getD i 0 → jj_P l G y_MO_placeIn d (fun out h' => ∃ v : Int32, out = .inl (some (.int v)) ∧ h' = h) 2 [some (.ref (G.2.2.2.1 i)), some (.int c), some (.int (nI j))] [] h := by
  have hlen := lS_small i hi
  intro n
  induction n with
  | zero => intro j hn; exact absurd hn (Nat.not_lt_zero _)
  | succ n ih =>
    intro j hn hj
    refine jj_iload_n (j := 2) (by decide +kernel) rfl ?_
    refine jj_aload_n (j := 0) (by decide +kernel) rfl ?_
    refine jj_callr (c_JS_length (d := d - 1) hi (by omega)) (fun o1 h1 hC => jj_callV ok_JS_length ml_MO_59 im_JS_length se_JS_JS_length (by decide +kernel) (jj_rcv.str hi) rfl (by omega) (Nat.le_of_ble_eq_true rfl) hC) (by rintro E h1 ⟨q, -⟩; cases q) ?_
    rintro v h1 ⟨hv, rfl⟩
    cases hv
    refine jj_icmp_ge (off := 18) (tgt := 25) (by decide +kernel) (by decide) (fun _ => b_MO_placeIn_25 hi hdd) (fun c1 => ?_)
    have hlt : j < jj_lS.getD i 0 := Nat.not_le.mp (fun q => c1 (nI_le q (by omega)))
    refine jj_aload_n (j := 0) (by decide +kernel) rfl ?_
    refine jj_iload_n (j := 2) (by decide +kernel) rfl ?_
    refine jj_callr (e_JS_charAt (d := d - 1) hi hlt (by omega)) (fun o1 h1 hC => jj_callV ok_JS_charAt ml_MO_64 im_JS_charAt se_JS_JS_charAt (by decide +kernel) (jj_rcv.str hi) rfl (by omega) (Nat.le_of_ble_eq_true rfl) hC) (by rintro E h1 ⟨q, -⟩; cases q) ?_
    rintro v h1 ⟨hv, rfl⟩
    cases hv
    refine jj_iload_n (j := 1) (by decide +kernel) rfl ?_
    refine jj_icmp_eq (off := 9) (tgt := 25) (by decide +kernel) (by decide) (fun _ => b_MO_placeIn_25 hi hdd) (fun _ => ?_)
    refine jj_iinc (i := 2) (n := 1) (v := nI (j + 1)) (by decide +kernel) rfl (by rw [show Int32.ofInt 1 = 1 from rfl]; exact nI_1 j) (by decide) rfl ?_
    refine jj_goto (off := (-20)) (tgt := 2) (by decide +kernel) (by decide) ?_
    exact ih (j + 1) (by omega) (by omega)
set_option maxRecDepth 100000 in
set_option maxHeartbeats 4000000 in
theorem m_placeIn {l : Launch} {G : jj_G} {d : Nat} {h : jj_H} {i : Nat} {c : Int32} (hi : i < jj_nS) (hdd : 4 ≤ d) : jj_Q l G y_MO_placeIn d [.ref (G.2.2.2.1 i), .int c] h (fun out h' => ∃ v : Int32, out = .inl (some (.int v)) ∧ h' = h) := by
  refine jj_Q.of (by decide +kernel) (Nat.le_of_ble_eq_true rfl) ?_
  refine jj_iconst (n := 0) (v := 0) (by decide +kernel) (by decide) ?_
  refine jj_istore_n (j := 2) (by decide +kernel) (by decide) rfl ?_
  exact b_MO_placeIn_2 hi hdd _ 0 (Nat.lt_succ_self _) (Nat.zero_le _)
set_option maxRecDepth 100000 in
set_option maxHeartbeats 4000000 in
theorem m_nine {l : Launch} {G : jj_G} {d : Nat} {h : jj_H} {c : Int32} (hdd : 5 ≤ d) : jj_Q l G y_MO_nine d [.int c] h (fun out h' => ∃ v : Int32, out = .inl (some (.int v)) ∧ h' = h) := by
  refine jj_Q.of (by decide +kernel) (Nat.le_of_ble_eq_true rfl) ?_
  refine jj_ldcS (index := 74) (i := 13) (tx := "UX01ZWLH-") (by decide +kernel) (List.mem_of_getElem? (i := 14) rfl) ?_
  refine jj_iload_n (j := 0) (by decide +kernel) rfl ?_
  refine jj_bipush (n := 97) (v := 97) (by decide +kernel) (by decide) ?_
  refine jj_icmp_lt (off := 16) (tgt := 21) (by decide +kernel) (by decide) (fun _ => ?_) (fun _ => ?_)
  · refine jj_iload_n (j := 0) (by decide +kernel) rfl ?_
    refine jj_callr (m_placeIn (d := d - 1) (i := 13) (by decide) (by omega)) (fun o1 h1 hC => jj_callS ok_MO_placeIn ml_MO_76 st_MO_placeIn (by decide +kernel) rfl (by omega) (Nat.le_of_ble_eq_true rfl) hC) (by rintro E h1 ⟨v, q, -⟩; cases q) ?_
    rintro v h1 ⟨v9, hv, rfl⟩
    cases hv
    exact jj_iret .int (by decide +kernel) rfl rfl ⟨_, rfl, rfl⟩
  · refine jj_iload_n (j := 0) (by decide +kernel) rfl ?_
    refine jj_bipush (n := 122) (v := 122) (by decide +kernel) (by decide) ?_
    refine jj_icmp_gt (off := 10) (tgt := 21) (by decide +kernel) (by decide) (fun _ => ?_) (fun _ => ?_)
    · refine jj_iload_n (j := 0) (by decide +kernel) rfl ?_
      refine jj_callr (m_placeIn (d := d - 1) (i := 13) (by decide) (by omega)) (fun o1 h1 hC => jj_callS ok_MO_placeIn ml_MO_76 st_MO_placeIn (by decide +kernel) rfl (by omega) (Nat.le_of_ble_eq_true rfl) hC) (by rintro E h1 ⟨v, q, -⟩; cases q) ?_
      rintro v h1 ⟨v9, hv, rfl⟩
      cases hv
      exact jj_iret .int (by decide +kernel) rfl rfl ⟨_, rfl, rfl⟩
    · refine jj_iload_n (j := 0) (by decide +kernel) rfl ?_
      refine jj_bipush (n := 32) (v := 32) (by decide +kernel) (by decide) ?_
      refine jj_isub (by decide +kernel) ?_
      refine jj_goto (off := 4) (tgt := 22) (by decide +kernel) (by decide) ?_
      refine jj_callr (m_placeIn (d := d - 1) (i := 13) (by decide) (by omega)) (fun o1 h1 hC => jj_callS ok_MO_placeIn ml_MO_76 st_MO_placeIn (by decide +kernel) rfl (by omega) (Nat.le_of_ble_eq_true rfl) hC) (by rintro E h1 ⟨v, q, -⟩; cases q) ?_
      rintro v h1 ⟨v9, hv, rfl⟩
      cases hv
      exact jj_iret .int (by decide +kernel) rfl rfl ⟨_, rfl, rfl⟩
set_option maxRecDepth 100000 in
set_option maxHeartbeats 4000000 in
theorem b_MO_primary_134 {l : Launch} {G : jj_G} {C : mo_C} {u0 o d a b : Nat} (hG : jj_tyG G) (hk : mo_k C) (hab : a + b ≤ 16384) (hdd : 12 ≤ d) : ∀ (n j u : Nat) (h : jj_H), b - j < n → j ≤ b → u ≤ u0 - 1 → Pq G C u o h → jj_P l G y_MO_primary d (mq_V G C o (fun u' => u' ≤ u0 - 1)) 134 [some (.ref (C.2.1 0)), some (.int (nI b)), some (.int (nI a)), some (.int (nI j))] [] h := by
  intro n
  induction n with
  | zero => intro j u h hn; exact absurd hn (Nat.not_lt_zero _)
  | succ n ih =>
    intro j u h hn hj hle hq
    refine jj_iload_n (j := 3) (by decide +kernel) rfl ?_
    refine jj_iload_n (j := 1) (by decide +kernel) rfl ?_
    refine jj_icmp_ge (off := 30) (tgt := 166) (by decide +kernel) (by decide) (fun c1 => ?_) (fun c1 => ?_)
    · refine jj_aload_n (j := 0) (by decide +kernel) rfl ?_
      refine jj_iconst (n := 4) (v := 4) (by decide +kernel) (by decide) ?_
      refine jj_iconst (n := 0) (v := 0) (by decide +kernel) (by decide) ?_
      refine jj_iload_n (j := 1) (by decide +kernel) rfl ?_
      refine mq_cv (mq_v hq (fun g hm => m_lay (d := d - 1) hG hk (by omega) hm)) (fun o1 h1 hC => jj_callV ok_MO_lay ml_MO_166 im_MO_lay se_MO_MO_lay (by decide +kernel) hq.rcv rfl (by omega) (Nat.le_of_ble_eq_true rfl) hC) (fun u2 h hp2 hq => ?_)
      refine jj_goto (off := 30) (tgt := 203) (by decide +kernel) (by decide) ?_
      exact jj_vret (by decide +kernel) rfl ⟨rfl, u2, by omega, hq⟩
    · have hlt : j < b := Nat.not_le.mp (fun q => c1 (nI_le q (by omega)))
      obtain ⟨g, wr, nw, ow, hb, hu⟩ := id hq
      obtain ⟨th, wh, S, b0, hS, hg, ⟨a1, a5, a6, a7, a9, a10⟩, nd, fr, hz⟩ := id hb
      refine jj_aload_n (j := 0) (by decide +kernel) rfl ?_
      refine jj_iconst (n := 3) (v := 3) (by decide +kernel) (by decide) ?_
      refine jj_aload_n (j := 0) (by decide +kernel) rfl ?_
      refine jj_getfield 1 ck_MO fl_MO_7 (by decide) (by decide +kernel) b0 rfl ?_
      refine jj_iload_n (j := 2) (by decide +kernel) rfl ?_
      refine jj_iload_n (j := 3) (by decide +kernel) rfl ?_
      refine jj_iadd (by decide +kernel) ?_
      rw [nI_add]
      refine jj_baload (jj_tB hG) (by decide +kernel) a1 (vp_in_nI (show a + j < 16384 by omega) (by decide)) ?_
      refine jj_sipush (n := 255) (v := 255) (by decide +kernel) (by decide) ?_
      refine jj_iand (by decide +kernel) ?_
      refine jj_callr (m_nine (d := d - 1) (by omega)) (fun o1 h1 hC => jj_callS ok_MO_nine ml_MO_115 st_MO_nine (by decide +kernel) rfl (by omega) (Nat.le_of_ble_eq_true rfl) hC) (by rintro E h1 ⟨v, q, -⟩; cases q) ?_
      rintro v h1 ⟨v9, hv, rfl⟩
      cases hv
      refine jj_iconst (n := 0) (v := 0) (by decide +kernel) (by decide) ?_
      refine mq_cv (mq_v hq (fun g hm => m_lay (d := d - 1) hG hk (by omega) hm)) (fun o1 h1 hC => jj_callV ok_MO_lay ml_MO_166 im_MO_lay se_MO_MO_lay (by decide +kernel) hq.rcv rfl (by omega) (Nat.le_of_ble_eq_true rfl) hC) (fun u2 h hp2 hq => ?_)
      refine jj_iinc (i := 3) (n := 1) (v := nI (j + 1)) (by decide +kernel) rfl (by rw [show Int32.ofInt 1 = 1 from rfl]; exact nI_1 j) (by decide) rfl ?_
      refine jj_goto (off := (-29)) (tgt := 134) (by decide +kernel) (by decide) ?_
      exact ih (j + 1) u2 h (by omega) (by omega) (by omega) hq
set_option maxRecDepth 100000 in
set_option maxHeartbeats 4000000 in
theorem b_MO_primary_43 {l : Launch} {G : jj_G} {C : mo_C} {u0 o d : Nat} {m : Nat} {u : Nat} {h : jj_H} {x1 y0 : Int32} (hG : jj_tyG G) (hk : mo_k C) (ho : u0 = 0 ∨ o + m = 41) (hE : 0 < m → mo_Ex l G C (m - 1)) (hdd : 12 + 20 * m ≤ d) (hle : u ≤ u0) (hfx1 : 0 < u → x1 = C.2.2.2.2.2 6 (C.2.2.2.1 - u)) (hfy0 : 0 < u → y0 = C.2.2.2.2.2 7 (C.2.2.2.1 - u) + 1) (hq : Pq G C u o h) : jj_P l G y_MO_primary d (mq_V G C o (fun u' => u' ≤ u0 - 1)) 43 [some (.ref (C.2.1 0)), some (.int x1), none, none] [.int y0] h := by
  refine jj_istore_n (j := 2) (by decide +kernel) (by decide) rfl ?_
  refine jj_aload_n (j := 0) (by decide +kernel) rfl ?_
  refine jj_bipush (n := 40) (v := 40) (by decide +kernel) (by decide) ?_
  refine mq_ci (mq_i hq (fun g hm => m_isMark (d := d - 1) (x := 40) hG hk (by decide) (by decide) (by omega) hm) (fun _ _ q => q)) (fun o1 h1 hC => jj_callV ok_MO_isMark ml_MO_144 im_MO_isMark se_MO_MO_isMark (by decide +kernel) hq.rcv rfl (by omega) (Nat.le_of_ble_eq_true rfl) hC) (fun v1 u1 h hp1 hq => ?_)
  obtain ⟨e1, -, hf1⟩ := hp1
  rw [e1] at hq
  refine jj_if_eq (off := 20) (tgt := 70) (by decide +kernel) (by decide) (fun c2 => ?_) (fun c2 => ?_)
  · skip
    refine jj_aload_n (j := 0) (by decide +kernel) rfl ?_
    refine mq_ci (mq_i hq (fun g hm => m_kind (d := d - 1) hG hk hm) (fun _ _ q => q)) (fun o1 h1 hC => jj_callV ok_MO_kind ml_MO_130 im_MO_kind se_MO_MO_kind (by decide +kernel) hq.rcv rfl (by omega) (Nat.le_of_ble_eq_true rfl) hC) (fun v3 u3 h hp3 hq => ?_)
    obtain ⟨e3, hf3⟩ := hp3
    rw [e3] at hq
    refine jj_sipush (n := 2001) (v := 2001) (by decide +kernel) (by decide) ?_
    refine jj_icmp_ne (off := 17) (tgt := 94) (by decide +kernel) (by decide) (fun c4 => ?_) (fun c4 => ?_)
    · skip
      refine jj_aload_n (j := 0) (by decide +kernel) rfl ?_
      refine mq_ci (mq_i hq (fun g hm => m_kind (d := d - 1) hG hk hm) (fun _ _ q => q)) (fun o1 h1 hC => jj_callV ok_MO_kind ml_MO_130 im_MO_kind se_MO_MO_kind (by decide +kernel) hq.rcv rfl (by omega) (Nat.le_of_ble_eq_true rfl) hC) (fun v5 u5 h hp5 hq => ?_)
      obtain ⟨e5, hf5⟩ := hp5
      rw [e5] at hq
      refine jj_sipush (n := 2002) (v := 2002) (by decide +kernel) (by decide) ?_
      refine jj_icmp_ne (off := 17) (tgt := 118) (by decide +kernel) (by decide) (fun c6 => ?_) (fun c6 => ?_)
      · skip
        refine jj_aload_n (j := 0) (by decide +kernel) rfl ?_
        refine mq_ci (mq_i hq (fun g hm => m_kind (d := d - 1) hG hk hm) (fun _ _ q => q)) (fun o1 h1 hC => jj_callV ok_MO_kind ml_MO_130 im_MO_kind se_MO_MO_kind (by decide +kernel) hq.rcv rfl (by omega) (Nat.le_of_ble_eq_true rfl) hC) (fun v7 u7 h hp7 hq => ?_)
        obtain ⟨e7, hf7⟩ := hp7
        rw [e7] at hq
        refine jj_sipush (n := 2003) (v := 2003) (by decide +kernel) (by decide) ?_
        refine jj_icmp_ne (off := 51) (tgt := 176) (by decide +kernel) (by decide) (fun c8 => ?_) (fun c8 => ?_)
        · skip
          refine jj_aload_n (j := 0) (by decide +kernel) rfl ?_
          refine mq_ci (mq_i hq (fun g hm => m_kind (d := d - 1) hG hk hm) (fun _ _ q => q)) (fun o1 h1 hC => jj_callV ok_MO_kind ml_MO_130 im_MO_kind se_MO_MO_kind (by decide +kernel) hq.rcv rfl (by omega) (Nat.le_of_ble_eq_true rfl) hC) (fun v9 u9 h hp9 hq => ?_)
          obtain ⟨e9, hf9⟩ := hp9
          rw [e9] at hq
          refine jj_sipush (n := 2000) (v := 2000) (by decide +kernel) (by decide) ?_
          refine jj_icmp_ne (off := 15) (tgt := 198) (by decide +kernel) (by decide) (fun c10 => ?_) (fun c10 => ?_)
          · skip
            refine jj_aload_n (j := 0) (by decide +kernel) rfl ?_
            refine jj_iconst (n := 3) (v := 3) (by decide +kernel) (by decide) ?_
            refine mq_cv (mq_v hq (fun g hm => m_stop (d := d - 1) (x := 3) hG hk (by decide) hm)) (fun o1 h1 hC => jj_callV ok_MO_stop ml_MO_126 im_MO_stop se_MO_MO_stop (by decide +kernel) hq.rcv rfl (by omega) (Nat.le_of_ble_eq_true rfl) hC) (fun u11 h hp11 hq => ?_)
            exact jj_vret (by decide +kernel) rfl ⟨rfl, u11, by omega, hq⟩
          · skip
            have hz10 := mo_kd.pos hf9 (by rw [c10]; decide)
            refine jj_aload_n (j := 0) (by decide +kernel) rfl ?_
            refine mq_cv (mq_v hq (fun g hm => m_on (d := d - 1) hG hk (mo_nl.of hf9 (by rw [c10]; decide)) (by omega) hm)) (fun o1 h1 hC => jj_callV ok_MO_on ml_MO_141 im_MO_on se_MO_MO_on (by decide +kernel) hq.rcv rfl (by omega) (Nat.le_of_ble_eq_true rfl) hC) (fun u12 h hp12 hq => ?_)
            refine jj_aload_n (j := 0) (by decide +kernel) rfl ?_
            refine jj_iload_n (j := 1) (by decide +kernel) rfl ?_
            refine mq_cv (q_MO_behind (d := d - 1) (m := m) hG hk (by omega) hE (by omega) hq) (fun o1 h1 hC => jj_callV ok_MO_behind ml_MO_440 im_MO_behind se_MO_MO_behind (by decide +kernel) hq.rcv rfl (by omega) (Nat.le_of_ble_eq_true rfl) hC) (fun u13 h hp13 hq => ?_)
            refine jj_goto (off := 8) (tgt := 203) (by decide +kernel) (by decide) ?_
            exact jj_vret (by decide +kernel) rfl ⟨rfl, u13, by omega, hq⟩
        · skip
          have hz8 := mo_kd.pos hf7 (by rw [c8]; decide)
          have hk5 : C.2.2.2.2.2 5 (C.2.2.2.1 - u) = 2003 := by
            rcases hf7 with ⟨-, q9⟩ | ⟨-, q9, -⟩
            · rw [c8] at q9; exact absurd q9 (by decide)
            · rw [← q9]; exact c8
          obtain ⟨a, b, ea, eb, hab⟩ := hk.2.2.2.2.2.2 _ (by have := hk.2.2.1; omega) hk5
          have e1 := (hfx1 (by omega)).trans eb
          have e2 := (hfy0 (by omega)).trans (show C.2.2.2.2.2 7 (C.2.2.2.1 - u) + 1 = nI (a + 1) by rw [ea]; exact nI_1 a)
          rw [e1, e2]
          refine jj_aload_n (j := 0) (by decide +kernel) rfl ?_
          refine mq_cv (mq_v hq (fun g hm => m_on (d := d - 1) hG hk (mo_nl.of hf7 (by rw [c8]; decide)) (by omega) hm)) (fun o1 h1 hC => jj_callV ok_MO_on ml_MO_141 im_MO_on se_MO_MO_on (by decide +kernel) hq.rcv rfl (by omega) (Nat.le_of_ble_eq_true rfl) hC) (fun u9 h hp9 hq => ?_)
          refine jj_iconst (n := 0) (v := 0) (by decide +kernel) (by decide) ?_
          refine jj_istore_n (j := 3) (by decide +kernel) (by decide) rfl ?_
          exact jj_wk (js_s (js_s (js_s (js_s js_0)))) (b_MO_primary_134 hG hk (by omega) (by omega) _ 0 u9 h (Nat.lt_succ_self _) (Nat.zero_le _) (by omega) hq)
      · skip
        have hz6 := mo_kd.pos hf5 (by rw [c6]; decide)
        refine jj_aload_n (j := 0) (by decide +kernel) rfl ?_
        refine mq_cv (mq_v hq (fun g hm => m_on (d := d - 1) hG hk (mo_nl.of hf5 (by rw [c6]; decide)) (by omega) hm)) (fun o1 h1 hC => jj_callV ok_MO_on ml_MO_141 im_MO_on se_MO_MO_on (by decide +kernel) hq.rcv rfl (by omega) (Nat.le_of_ble_eq_true rfl) hC) (fun u14 h hp14 hq => ?_)
        refine jj_aload_n (j := 0) (by decide +kernel) rfl ?_
        refine jj_iconst (n := 3) (v := 3) (by decide +kernel) (by decide) ?_
        refine jj_iload_n (j := 1) (by decide +kernel) rfl ?_
        refine jj_iconst (n := 0) (v := 0) (by decide +kernel) (by decide) ?_
        refine mq_cv (mq_v hq (fun g hm => m_lay (d := d - 1) hG hk (by omega) hm)) (fun o1 h1 hC => jj_callV ok_MO_lay ml_MO_166 im_MO_lay se_MO_MO_lay (by decide +kernel) hq.rcv rfl (by omega) (Nat.le_of_ble_eq_true rfl) hC) (fun u15 h hp15 hq => ?_)
        refine jj_goto (off := 88) (tgt := 203) (by decide +kernel) (by decide) ?_
        exact jj_vret (by decide +kernel) rfl ⟨rfl, u15, by omega, hq⟩
    · skip
      have hz4 := mo_kd.pos hf3 (by rw [c4]; decide)
      refine jj_aload_n (j := 0) (by decide +kernel) rfl ?_
      refine mq_cv (mq_v hq (fun g hm => m_on (d := d - 1) hG hk (mo_nl.of hf3 (by rw [c4]; decide)) (by omega) hm)) (fun o1 h1 hC => jj_callV ok_MO_on ml_MO_141 im_MO_on se_MO_MO_on (by decide +kernel) hq.rcv rfl (by omega) (Nat.le_of_ble_eq_true rfl) hC) (fun u16 h hp16 hq => ?_)
      refine jj_aload_n (j := 0) (by decide +kernel) rfl ?_
      refine jj_iconst (n := 2) (v := 2) (by decide +kernel) (by decide) ?_
      refine jj_iload_n (j := 1) (by decide +kernel) rfl ?_
      refine jj_iconst (n := 0) (v := 0) (by decide +kernel) (by decide) ?_
      refine mq_cv (mq_v hq (fun g hm => m_lay (d := d - 1) hG hk (by omega) hm)) (fun o1 h1 hC => jj_callV ok_MO_lay ml_MO_166 im_MO_lay se_MO_MO_lay (by decide +kernel) hq.rcv rfl (by omega) (Nat.le_of_ble_eq_true rfl) hC) (fun u17 h hp17 hq => ?_)
      refine jj_goto (off := 112) (tgt := 203) (by decide +kernel) (by decide) ?_
      exact jj_vret (by decide +kernel) rfl ⟨rfl, u17, by omega, hq⟩
  · skip
    have hz2 := hf1 c2
    refine jj_aload_n (j := 0) (by decide +kernel) rfl ?_
    have hm1 : 0 < m := by have h40 := hq.le (by omega); omega
    refine mq_cv (mq_v hq (fun g hm => m_opens (d := d - 1) hG hk hz2.2 (by omega) hm)) (fun o1 h1 hC => jj_callV ok_MO_opens ml_MO_304 im_MO_opens se_MO_MO_opens (by decide +kernel) hq.rcv rfl (by omega) (Nat.le_of_ble_eq_true rfl) hC) (fun u18 h hp18 hq => ?_)
    obtain ⟨hp18, hq18⟩ := hp18
    refine jj_aload_n (j := 0) (by decide +kernel) rfl ?_
    refine mq_cv (hE hm1 _ _ _ (d - 1) (by omega) hq (by omega)) (fun o1 h1 hC => jj_callV ok_MO_expression ml_MO_226 im_MO_expression se_MO_MO_expression (by decide +kernel) hq.rcv rfl (by omega) (Nat.le_of_ble_eq_true rfl) hC) (fun u19 h hp19 hq => ?_)
    refine jj_aload_n (j := 0) (by decide +kernel) rfl ?_
    refine jj_bipush (n := 41) (v := 41) (by decide +kernel) (by decide) ?_
    refine mq_cv (mq_v hq (fun g hm => m_closes (d := d - 1) (x := 41) hG hk (by decide) (by decide) (by omega) hm)) (fun o1 h1 hC => jj_callV ok_MO_closes ml_MO_312 im_MO_closes se_MO_MO_closes (by decide +kernel) hq.rcv rfl (by omega) (Nat.le_of_ble_eq_true rfl) hC) (fun u20 h hp20 hq => ?_)
    refine jj_goto (off := 136) (tgt := 203) (by decide +kernel) (by decide) ?_
    exact jj_vret (by decide +kernel) rfl ⟨rfl, u20, by omega, hq⟩
set_option maxRecDepth 100000 in
set_option maxHeartbeats 4000000 in
theorem b_MO_primary_20 {l : Launch} {G : jj_G} {C : mo_C} {u0 o d : Nat} {m : Nat} {u : Nat} {h : jj_H} {y0 : Int32} (hG : jj_tyG G) (hk : mo_k C) (ho : u0 = 0 ∨ o + m = 41) (hE : 0 < m → mo_Ex l G C (m - 1)) (hdd : 12 + 20 * m ≤ d) (hle : u ≤ u0) (hfy0 : 0 < u → y0 = C.2.2.2.2.2 6 (C.2.2.2.1 - u)) (hq : Pq G C u o h) : jj_P l G y_MO_primary d (mq_V G C o (fun u' => u' ≤ u0 - 1)) 20 [some (.ref (C.2.1 0)), none, none, none] [.int y0] h := by
  refine jj_istore_n (j := 1) (by decide +kernel) (by decide) rfl ?_
  refine jj_aload_n (j := 0) (by decide +kernel) rfl ?_
  obtain ⟨g, wr, nw, ow, hb, hu⟩ := id hq
  obtain ⟨th, wh, S, b0, hS, hg, ⟨a1, a5, a6, a7, a9, a10⟩, nd, fr, hz⟩ := id hb
  refine jj_getfield 3 ck_MO fl_MO_120 (by decide) (by decide +kernel) b0 rfl ?_
  refine jj_if_le (off := 7) (tgt := 32) (by decide +kernel) (by decide) (fun c1 => ?_) (fun c1 => ?_)
  · skip
    rcases hu with ⟨-, q9⟩ | ⟨hu0, huT, rfl, rfl, rfl, ho9, hb5⟩
    · exact absurd q9 (Int32.not_lt.mpr c1)
    refine jj_aload_n (j := 0) (by decide +kernel) rfl ?_
    refine jj_getfield 7 ck_MO fl_MO_24 (by decide) (by decide +kernel) b0 rfl ?_
    refine jj_aload_n (j := 0) (by decide +kernel) rfl ?_
    refine jj_getfield 16 ck_MO fl_MO_123 (by decide) (by decide +kernel) b0 rfl ?_
    have hT := hk.2.2.2.1
    refine jj_iaload (jj_tI hG) (by decide +kernel) a7 (vp_in_nI (show C.2.2.2.1 - u < 16386 by omega) (by decide)) ?_
    rw [nI_clamp (show C.2.2.2.1 - u < 2 ^ 31 by omega)]
    refine jj_iconst (n := 1) (v := 1) (by decide +kernel) (by decide) ?_
    refine jj_iadd (by decide +kernel) ?_
    exact jj_wk (js_s (js_s (js_n (js_n js_0)))) (b_MO_primary_43 (o := o) hG hk ho hE hdd (by omega) hfy0 (fun _ => rfl) hq)
  · skip
    have hu0 : u = 0 := by
      rcases hu with ⟨q9, -⟩ | ⟨-, -, q9, -⟩
      · exact q9
      · exact absurd (show wr ≤ 0 by rw [q9]; decide) c1
    refine jj_iconst (n := 0) (v := 0) (by decide +kernel) (by decide) ?_
    refine jj_goto (off := 14) (tgt := 43) (by decide +kernel) (by decide) ?_
    exact jj_wk (js_s (js_s (js_n (js_n js_0)))) (b_MO_primary_43 (o := o) hG hk ho hE hdd (by omega) hfy0 (fun q => absurd q (by omega)) hq)
set_option maxRecDepth 100000 in
set_option maxHeartbeats 4000000 in
theorem b_MO_primary_0 {l : Launch} {G : jj_G} {C : mo_C} {u0 o d : Nat} {m : Nat} {u : Nat} {h : jj_H} (hG : jj_tyG G) (hk : mo_k C) (ho : u0 = 0 ∨ o + m = 41) (hE : 0 < m → mo_Ex l G C (m - 1)) (hdd : 12 + 20 * m ≤ d) (hle : u ≤ u0) (hq : Pq G C u o h) : jj_P l G y_MO_primary d (mq_V G C o (fun u' => u' ≤ u0 - 1)) 0 [some (.ref (C.2.1 0)), none, none, none] [] h := by
  refine jj_aload_n (j := 0) (by decide +kernel) rfl ?_
  obtain ⟨g, wr, nw, ow, hb, hu⟩ := id hq
  obtain ⟨th, wh, S, b0, hS, hg, ⟨a1, a5, a6, a7, a9, a10⟩, nd, fr, hz⟩ := id hb
  refine jj_getfield 3 ck_MO fl_MO_120 (by decide) (by decide +kernel) b0 rfl ?_
  refine jj_if_le (off := 7) (tgt := 11) (by decide +kernel) (by decide) (fun c1 => ?_) (fun c1 => ?_)
  · skip
    rcases hu with ⟨-, q9⟩ | ⟨hu0, huT, rfl, rfl, rfl, ho9, hb5⟩
    · exact absurd q9 (Int32.not_lt.mpr c1)
    refine jj_aload_n (j := 0) (by decide +kernel) rfl ?_
    refine jj_getfield 6 ck_MO fl_MO_21 (by decide) (by decide +kernel) b0 rfl ?_
    refine jj_aload_n (j := 0) (by decide +kernel) rfl ?_
    refine jj_getfield 16 ck_MO fl_MO_123 (by decide) (by decide +kernel) b0 rfl ?_
    have hT := hk.2.2.2.1
    refine jj_iaload (jj_tI hG) (by decide +kernel) a6 (vp_in_nI (show C.2.2.2.1 - u < 16386 by omega) (by decide)) ?_
    rw [nI_clamp (show C.2.2.2.1 - u < 2 ^ 31 by omega)]
    exact jj_wk (js_s (js_n (js_n (js_n js_0)))) (b_MO_primary_20 (o := o) hG hk ho hE hdd (by omega) (fun _ => rfl) hq)
  · skip
    have hu0 : u = 0 := by
      rcases hu with ⟨q9, -⟩ | ⟨-, -, q9, -⟩
      · exact q9
      · exact absurd (show wr ≤ 0 by rw [q9]; decide) c1
    refine jj_iconst (n := 0) (v := 0) (by decide +kernel) (by decide) ?_
    refine jj_goto (off := 12) (tgt := 20) (by decide +kernel) (by decide) ?_
    exact jj_wk (js_s (js_n (js_n (js_n js_0)))) (b_MO_primary_20 (o := o) hG hk ho hE hdd (by omega) (fun q => absurd q (by omega)) hq)
theorem q_MO_primary {l : Launch} {G : jj_G} {C : mo_C} {u0 o d : Nat} {m : Nat} {h : jj_H} (hG : jj_tyG G) (hk : mo_k C) (ho : u0 = 0 ∨ o + m = 41) (hE : 0 < m → mo_Ex l G C (m - 1)) (hdd : 12 + 20 * m ≤ d) (hq : Pq G C u0 o h) : jj_Q l G y_MO_primary d [.ref (C.2.1 0)] h (mq_V G C o (fun u' => u' ≤ u0 - 1)) :=
  jj_Q.of (by decide +kernel) (Nat.le_of_ble_eq_true rfl) (b_MO_primary_0 (o := o) hG hk ho hE hdd (Nat.le_refl _) hq)
set_option maxRecDepth 100000 in
set_option maxHeartbeats 4000000 in
theorem b_MO_factor_39 {l : Launch} {G : jj_G} {C : mo_C} {u0 o d : Nat} {m : Nat} {u : Nat} {h : jj_H} {x1 : Int32} (hG : jj_tyG G) (hk : mo_k C) (ho : u0 = 0 ∨ o + m = 41) (hE : 0 < m → mo_Ex l G C (m - 1)) (hdd : 13 + 20 * m ≤ d) (hle : u ≤ u0) (hq : Pq G C u o h) : jj_P l G y_MO_factor d (mq_V G C o (fun u' => u' ≤ u0 - 1)) 39 [some (.ref (C.2.1 0)), some (.int x1)] [] h := by
  refine jj_aload_n (j := 0) (by decide +kernel) rfl ?_
  refine mq_cv (q_MO_primary (d := d - 1) (m := m) hG hk (by omega) hE (by omega) hq) (fun o1 h1 hC => jj_callV ok_MO_primary ml_MO_324 im_MO_primary se_MO_MO_primary (by decide +kernel) hq.rcv rfl (by omega) (Nat.le_of_ble_eq_true rfl) hC) (fun u1 h hp1 hq => ?_)
  refine jj_iload_n (j := 1) (by decide +kernel) rfl ?_
  refine jj_iconst (n := (-1)) (v := (-1)) (by decide +kernel) (by decide) ?_
  refine jj_icmp_eq (off := 11) (tgt := 56) (by decide +kernel) (by decide) (fun c2 => ?_) (fun c2 => ?_)
  · skip
    exact jj_vret (by decide +kernel) rfl ⟨rfl, u1, by omega, hq⟩
  · skip
    refine jj_aload_n (j := 0) (by decide +kernel) rfl ?_
    refine jj_bipush (n := 20) (v := 20) (by decide +kernel) (by decide) ?_
    refine jj_iload_n (j := 1) (by decide +kernel) rfl ?_
    refine jj_iconst (n := 1) (v := 1) (by decide +kernel) (by decide) ?_
    refine mq_cv (mq_v hq (fun g hm => m_lay (d := d - 1) hG hk (by omega) hm)) (fun o1 h1 hC => jj_callV ok_MO_lay ml_MO_166 im_MO_lay se_MO_MO_lay (by decide +kernel) hq.rcv rfl (by omega) (Nat.le_of_ble_eq_true rfl) hC) (fun u3 h hp3 hq => ?_)
    exact jj_vret (by decide +kernel) rfl ⟨rfl, u3, by omega, hq⟩
set_option maxRecDepth 100000 in
set_option maxHeartbeats 4000000 in
theorem b_MO_factor_29 {l : Launch} {G : jj_G} {C : mo_C} {u0 o d : Nat} {m : Nat} {u : Nat} {h : jj_H} {y0 : Int32} (hG : jj_tyG G) (hk : mo_k C) (ho : u0 = 0 ∨ o + m = 41) (hE : 0 < m → mo_Ex l G C (m - 1)) (hdd : 13 + 20 * m ≤ d) (hle : u ≤ u0) (hfy0 : y0 ≠ (-1) → 0 < u ∧ mo_nl C u) (hq : Pq G C u o h) : jj_P l G y_MO_factor d (mq_V G C o (fun u' => u' ≤ u0 - 1)) 29 [some (.ref (C.2.1 0)), none] [.int y0] h := by
  refine jj_istore_n (j := 1) (by decide +kernel) (by decide) rfl ?_
  refine jj_iload_n (j := 1) (by decide +kernel) rfl ?_
  refine jj_iconst (n := (-1)) (v := (-1)) (by decide +kernel) (by decide) ?_
  refine jj_icmp_eq (off := 7) (tgt := 39) (by decide +kernel) (by decide) (fun c1 => ?_) (fun c1 => ?_)
  · skip
    exact jj_wk (js_s (js_s js_0)) (b_MO_factor_39 (o := o) hG hk ho hE hdd (by omega) hq)
  · skip
    have hz1 := hfy0 c1
    refine jj_aload_n (j := 0) (by decide +kernel) rfl ?_
    refine mq_cv (mq_v hq (fun g hm => m_on (d := d - 1) hG hk hz1.2 (by omega) hm)) (fun o1 h1 hC => jj_callV ok_MO_on ml_MO_141 im_MO_on se_MO_MO_on (by decide +kernel) hq.rcv rfl (by omega) (Nat.le_of_ble_eq_true rfl) hC) (fun u2 h hp2 hq => ?_)
    exact jj_wk (js_s (js_s js_0)) (b_MO_factor_39 (o := o) hG hk ho hE hdd (by omega) hq)
set_option maxRecDepth 100000 in
set_option maxHeartbeats 4000000 in
theorem b_MO_factor_0 {l : Launch} {G : jj_G} {C : mo_C} {u0 o d : Nat} {m : Nat} {u : Nat} {h : jj_H} (hG : jj_tyG G) (hk : mo_k C) (ho : u0 = 0 ∨ o + m = 41) (hE : 0 < m → mo_Ex l G C (m - 1)) (hdd : 13 + 20 * m ≤ d) (hle : u ≤ u0) (hq : Pq G C u o h) : jj_P l G y_MO_factor d (mq_V G C o (fun u' => u' ≤ u0 - 1)) 0 [some (.ref (C.2.1 0)), none] [] h := by
  refine jj_aload_n (j := 0) (by decide +kernel) rfl ?_
  refine jj_ldcW (index := 436) (i := 22) (tx := "not") (by decide +kernel) (List.mem_of_getElem? (i := 23) rfl) ?_
  refine mq_ci (mq_i hq (fun g hm => m_isWord (d := d - 1) (i := 22) hG hk (by decide) (by omega) hm) (fun _ _ q => q)) (fun o1 h1 hC => jj_callV ok_MO_isWord ml_MO_137 im_MO_isWord se_MO_MO_isWord (by decide +kernel) hq.rcv rfl (by omega) (Nat.le_of_ble_eq_true rfl) hC) (fun v1 u1 h hp1 hq => ?_)
  obtain ⟨e1, -, hf1⟩ := hp1
  rw [e1] at hq
  refine jj_if_eq (off := 7) (tgt := 14) (by decide +kernel) (by decide) (fun c2 => ?_) (fun c2 => ?_)
  · skip
    refine jj_aload_n (j := 0) (by decide +kernel) rfl ?_
    refine jj_ldcW (index := 438) (i := 23) (tx := "abs") (by decide +kernel) (List.mem_of_getElem? (i := 24) rfl) ?_
    refine mq_ci (mq_i hq (fun g hm => m_isWord (d := d - 1) (i := 23) hG hk (by decide) (by omega) hm) (fun _ _ q => q)) (fun o1 h1 hC => jj_callV ok_MO_isWord ml_MO_137 im_MO_isWord se_MO_MO_isWord (by decide +kernel) hq.rcv rfl (by omega) (Nat.le_of_ble_eq_true rfl) hC) (fun v3 u3 h hp3 hq => ?_)
    obtain ⟨e3, -, hf3⟩ := hp3
    rw [e3] at hq
    refine jj_if_eq (off := 7) (tgt := 28) (by decide +kernel) (by decide) (fun c4 => ?_) (fun c4 => ?_)
    · skip
      refine jj_iconst (n := (-1)) (v := (-1)) (by decide +kernel) (by decide) ?_
      exact jj_wk (js_s (js_n js_0)) (b_MO_factor_29 (o := o) hG hk ho hE hdd (by omega) (fun q => absurd rfl q) hq)
    · skip
      have hz4 := hf3 c4
      refine jj_iconst (n := 3) (v := 3) (by decide +kernel) (by decide) ?_
      refine jj_goto (off := 4) (tgt := 29) (by decide +kernel) (by decide) ?_
      exact jj_wk (js_s (js_n js_0)) (b_MO_factor_29 (o := o) hG hk ho hE hdd (by omega) (fun _ => ⟨by omega, hz4.2⟩) hq)
  · skip
    have hz2 := hf1 c2
    refine jj_iconst (n := 0) (v := 0) (by decide +kernel) (by decide) ?_
    refine jj_goto (off := 18) (tgt := 29) (by decide +kernel) (by decide) ?_
    exact jj_wk (js_s (js_n js_0)) (b_MO_factor_29 (o := o) hG hk ho hE hdd (by omega) (fun _ => ⟨by omega, hz2.2⟩) hq)
theorem q_MO_factor {l : Launch} {G : jj_G} {C : mo_C} {u0 o d : Nat} {m : Nat} {h : jj_H} (hG : jj_tyG G) (hk : mo_k C) (ho : u0 = 0 ∨ o + m = 41) (hE : 0 < m → mo_Ex l G C (m - 1)) (hdd : 13 + 20 * m ≤ d) (hq : Pq G C u0 o h) : jj_Q l G y_MO_factor d [.ref (C.2.1 0)] h (mq_V G C o (fun u' => u' ≤ u0 - 1)) :=
  jj_Q.of (by decide +kernel) (Nat.le_of_ble_eq_true rfl) (b_MO_factor_0 (o := o) hG hk ho hE hdd (Nat.le_refl _) hq)
set_option maxRecDepth 100000 in
set_option maxHeartbeats 4000000 in
theorem b_MO_term_9 {l : Launch} {G : jj_G} {C : mo_C} {u0 o d : Nat} {m : Nat} (hG : jj_tyG G) (hk : mo_k C) (ho : u0 = 0 ∨ o + m = 41) (hE : 0 < m → mo_Ex l G C (m - 1)) (hdd : 14 + 20 * m ≤ d) : ∀ (n : Nat) (x1 : Int32) (u : Nat) (h : jj_H), u < n → u ≤ u0 - 1 → (x1 ≠ (-1) → 0 < u ∧ mo_nl C u) → Pq G C u o h → jj_P l G y_MO_term d (mq_V G C o (fun u' => u' ≤ u0 - 1)) 9 [some (.ref (C.2.1 0)), some (.int x1)] [] h := by
  intro n
  induction n with
  | zero => intro x1 u h hn0; exact absurd hn0 (Nat.not_lt_zero _)
  | succ n ih =>
    intro x1 u h hn0 hle hfx1 hq
    refine jj_iload_n (j := 1) (by decide +kernel) rfl ?_
    refine jj_iconst (n := (-1)) (v := (-1)) (by decide +kernel) (by decide) ?_
    refine jj_icmp_eq (off := 27) (tgt := 38) (by decide +kernel) (by decide) (fun c1 => ?_) (fun c1 => ?_)
    · skip
      exact jj_vret (by decide +kernel) rfl ⟨rfl, u, by omega, hq⟩
    · skip
      have hz1 := hfx1 c1
      refine jj_aload_n (j := 0) (by decide +kernel) rfl ?_
      refine mq_cv (mq_v hq (fun g hm => m_on (d := d - 1) hG hk hz1.2 (by omega) hm)) (fun o1 h1 hC => jj_callV ok_MO_on ml_MO_141 im_MO_on se_MO_MO_on (by decide +kernel) hq.rcv rfl (by omega) (Nat.le_of_ble_eq_true rfl) hC) (fun u2 h hp2 hq => ?_)
      refine jj_aload_n (j := 0) (by decide +kernel) rfl ?_
      refine mq_cv (q_MO_factor (d := d - 1) (m := m) hG hk (by omega) hE (by omega) hq) (fun o1 h1 hC => jj_callV ok_MO_factor ml_MO_426 im_MO_factor se_MO_MO_factor (by decide +kernel) hq.rcv rfl (by omega) (Nat.le_of_ble_eq_true rfl) hC) (fun u3 h hp3 hq => ?_)
      refine jj_aload_n (j := 0) (by decide +kernel) rfl ?_
      refine jj_bipush (n := 21) (v := 21) (by decide +kernel) (by decide) ?_
      refine jj_iload_n (j := 1) (by decide +kernel) rfl ?_
      refine jj_iconst (n := 2) (v := 2) (by decide +kernel) (by decide) ?_
      refine mq_cv (mq_v hq (fun g hm => m_lay (d := d - 1) hG hk (by omega) hm)) (fun o1 h1 hC => jj_callV ok_MO_lay ml_MO_166 im_MO_lay se_MO_MO_lay (by decide +kernel) hq.rcv rfl (by omega) (Nat.le_of_ble_eq_true rfl) hC) (fun u4 h hp4 hq => ?_)
      refine jj_aload_n (j := 0) (by decide +kernel) rfl ?_
      refine mq_ci (q_MO_termSign (d := d - 1) hG hk  (by omega) hq) (fun o1 h1 hC => jj_callV ok_MO_termSign ml_MO_429 im_MO_termSign se_MO_MO_termSign (by decide +kernel) hq.rcv rfl (by omega) (Nat.le_of_ble_eq_true rfl) hC) (fun v5 u5 h hp5 hq => ?_)
      obtain ⟨e5, hf5⟩ := hp5
      rw [e5] at hq
      refine jj_istore_n (j := 1) (by decide +kernel) (by decide) rfl ?_
      refine jj_goto (off := (-26)) (tgt := 9) (by decide +kernel) (by decide) ?_
      exact jj_wk (js_s (js_s js_0)) (ih _ u4 _ (by omega) (by omega) hf5 hq)
set_option maxRecDepth 100000 in
set_option maxHeartbeats 4000000 in
theorem b_MO_term_0 {l : Launch} {G : jj_G} {C : mo_C} {u0 o d : Nat} {m : Nat} {u : Nat} {h : jj_H} (hG : jj_tyG G) (hk : mo_k C) (ho : u0 = 0 ∨ o + m = 41) (hE : 0 < m → mo_Ex l G C (m - 1)) (hdd : 14 + 20 * m ≤ d) (hle : u ≤ u0) (hq : Pq G C u o h) : jj_P l G y_MO_term d (mq_V G C o (fun u' => u' ≤ u0 - 1)) 0 [some (.ref (C.2.1 0)), none] [] h := by
  refine jj_aload_n (j := 0) (by decide +kernel) rfl ?_
  refine mq_cv (q_MO_factor (d := d - 1) (m := m) hG hk (by omega) hE (by omega) hq) (fun o1 h1 hC => jj_callV ok_MO_factor ml_MO_426 im_MO_factor se_MO_MO_factor (by decide +kernel) hq.rcv rfl (by omega) (Nat.le_of_ble_eq_true rfl) hC) (fun u1 h hp1 hq => ?_)
  refine jj_aload_n (j := 0) (by decide +kernel) rfl ?_
  refine mq_ci (q_MO_termSign (d := d - 1) hG hk  (by omega) hq) (fun o1 h1 hC => jj_callV ok_MO_termSign ml_MO_429 im_MO_termSign se_MO_MO_termSign (by decide +kernel) hq.rcv rfl (by omega) (Nat.le_of_ble_eq_true rfl) hC) (fun v2 u2 h hp2 hq => ?_)
  obtain ⟨e2, hf2⟩ := hp2
  rw [e2] at hq
  refine jj_istore_n (j := 1) (by decide +kernel) (by decide) rfl ?_
  exact jj_wk (js_s (js_s js_0)) (b_MO_term_9 (o := o) hG hk ho hE hdd _ _ u1 _ (Nat.lt_succ_self _) (by omega) hf2 hq)
theorem q_MO_term {l : Launch} {G : jj_G} {C : mo_C} {u0 o d : Nat} {m : Nat} {h : jj_H} (hG : jj_tyG G) (hk : mo_k C) (ho : u0 = 0 ∨ o + m = 41) (hE : 0 < m → mo_Ex l G C (m - 1)) (hdd : 14 + 20 * m ≤ d) (hq : Pq G C u0 o h) : jj_Q l G y_MO_term d [.ref (C.2.1 0)] h (mq_V G C o (fun u' => u' ≤ u0 - 1)) :=
  jj_Q.of (by decide +kernel) (Nat.le_of_ble_eq_true rfl) (b_MO_term_0 (o := o) hG hk ho hE hdd (Nat.le_refl _) hq)
set_option maxRecDepth 100000 in
set_option maxHeartbeats 4000000 in
theorem b_MO_sum_59 {l : Launch} {G : jj_G} {C : mo_C} {u0 o d : Nat} {m : Nat} (hG : jj_tyG G) (hk : mo_k C) (ho : u0 = 0 ∨ o + m = 41) (hE : 0 < m → mo_Ex l G C (m - 1)) (hdd : 15 + 20 * m ≤ d) : ∀ (n : Nat) (x1 : Int32) (x2 : Int32) (u : Nat) (h : jj_H), u < n → u ≤ u0 - 1 → (x2 ≠ (-1) → 0 < u ∧ mo_nl C u) → Pq G C u o h → jj_P l G y_MO_sum d (mq_V G C o (fun u' => u' ≤ u0 - 1)) 59 [some (.ref (C.2.1 0)), some (.int x1), some (.int x2)] [] h := by
  intro n
  induction n with
  | zero => intro x1 x2 u h hn0; exact absurd hn0 (Nat.not_lt_zero _)
  | succ n ih =>
    intro x1 x2 u h hn0 hle hfx2 hq
    refine jj_iload_n (j := 2) (by decide +kernel) rfl ?_
    refine jj_iconst (n := (-1)) (v := (-1)) (by decide +kernel) (by decide) ?_
    refine jj_icmp_eq (off := 27) (tgt := 88) (by decide +kernel) (by decide) (fun c1 => ?_) (fun c1 => ?_)
    · skip
      exact jj_vret (by decide +kernel) rfl ⟨rfl, u, by omega, hq⟩
    · skip
      have hz1 := hfx2 c1
      refine jj_aload_n (j := 0) (by decide +kernel) rfl ?_
      refine mq_cv (mq_v hq (fun g hm => m_on (d := d - 1) hG hk hz1.2 (by omega) hm)) (fun o1 h1 hC => jj_callV ok_MO_on ml_MO_141 im_MO_on se_MO_MO_on (by decide +kernel) hq.rcv rfl (by omega) (Nat.le_of_ble_eq_true rfl) hC) (fun u2 h hp2 hq => ?_)
      refine jj_aload_n (j := 0) (by decide +kernel) rfl ?_
      refine mq_cv (q_MO_term (d := d - 1) (m := m) hG hk (by omega) hE (by omega) hq) (fun o1 h1 hC => jj_callV ok_MO_term ml_MO_420 im_MO_term se_MO_MO_term (by decide +kernel) hq.rcv rfl (by omega) (Nat.le_of_ble_eq_true rfl) hC) (fun u3 h hp3 hq => ?_)
      refine jj_aload_n (j := 0) (by decide +kernel) rfl ?_
      refine jj_bipush (n := 21) (v := 21) (by decide +kernel) (by decide) ?_
      refine jj_iload_n (j := 2) (by decide +kernel) rfl ?_
      refine jj_iconst (n := 2) (v := 2) (by decide +kernel) (by decide) ?_
      refine mq_cv (mq_v hq (fun g hm => m_lay (d := d - 1) hG hk (by omega) hm)) (fun o1 h1 hC => jj_callV ok_MO_lay ml_MO_166 im_MO_lay se_MO_MO_lay (by decide +kernel) hq.rcv rfl (by omega) (Nat.le_of_ble_eq_true rfl) hC) (fun u4 h hp4 hq => ?_)
      refine jj_aload_n (j := 0) (by decide +kernel) rfl ?_
      refine mq_ci (q_MO_sumSign (d := d - 1) hG hk  (by omega) hq) (fun o1 h1 hC => jj_callV ok_MO_sumSign ml_MO_423 im_MO_sumSign se_MO_MO_sumSign (by decide +kernel) hq.rcv rfl (by omega) (Nat.le_of_ble_eq_true rfl) hC) (fun v5 u5 h hp5 hq => ?_)
      obtain ⟨e5, hf5⟩ := hp5
      rw [e5] at hq
      refine jj_istore_n (j := 2) (by decide +kernel) (by decide) rfl ?_
      refine jj_goto (off := (-26)) (tgt := 59) (by decide +kernel) (by decide) ?_
      exact jj_wk (js_s (js_s (js_s js_0))) (ih _ _ u4 _ (by omega) (by omega) hf5 hq)
set_option maxRecDepth 100000 in
set_option maxHeartbeats 4000000 in
theorem b_MO_sum_54 {l : Launch} {G : jj_G} {C : mo_C} {u0 o d : Nat} {m : Nat} {u : Nat} {h : jj_H} {x1 : Int32} (hG : jj_tyG G) (hk : mo_k C) (ho : u0 = 0 ∨ o + m = 41) (hE : 0 < m → mo_Ex l G C (m - 1)) (hdd : 15 + 20 * m ≤ d) (hle : u ≤ u0 - 1) (hq : Pq G C u o h) : jj_P l G y_MO_sum d (mq_V G C o (fun u' => u' ≤ u0 - 1)) 54 [some (.ref (C.2.1 0)), some (.int x1), none] [] h := by
  refine jj_aload_n (j := 0) (by decide +kernel) rfl ?_
  refine mq_ci (q_MO_sumSign (d := d - 1) hG hk  (by omega) hq) (fun o1 h1 hC => jj_callV ok_MO_sumSign ml_MO_423 im_MO_sumSign se_MO_MO_sumSign (by decide +kernel) hq.rcv rfl (by omega) (Nat.le_of_ble_eq_true rfl) hC) (fun v1 u1 h hp1 hq => ?_)
  obtain ⟨e1, hf1⟩ := hp1
  rw [e1] at hq
  refine jj_istore_n (j := 2) (by decide +kernel) (by decide) rfl ?_
  exact jj_wk (js_s (js_s (js_s js_0))) (b_MO_sum_59 (o := o) hG hk ho hE hdd _ _ _ u _ (Nat.lt_succ_self _) (by omega) hf1 hq)
set_option maxRecDepth 100000 in
set_option maxHeartbeats 4000000 in
theorem b_MO_sum_37 {l : Launch} {G : jj_G} {C : mo_C} {u0 o d : Nat} {m : Nat} {u : Nat} {h : jj_H} {x1 : Int32} (hG : jj_tyG G) (hk : mo_k C) (ho : u0 = 0 ∨ o + m = 41) (hE : 0 < m → mo_Ex l G C (m - 1)) (hdd : 15 + 20 * m ≤ d) (hle : u ≤ u0) (hq : Pq G C u o h) : jj_P l G y_MO_sum d (mq_V G C o (fun u' => u' ≤ u0 - 1)) 37 [some (.ref (C.2.1 0)), some (.int x1), none] [] h := by
  refine jj_aload_n (j := 0) (by decide +kernel) rfl ?_
  refine mq_cv (q_MO_term (d := d - 1) (m := m) hG hk (by omega) hE (by omega) hq) (fun o1 h1 hC => jj_callV ok_MO_term ml_MO_420 im_MO_term se_MO_MO_term (by decide +kernel) hq.rcv rfl (by omega) (Nat.le_of_ble_eq_true rfl) hC) (fun u1 h hp1 hq => ?_)
  refine jj_iload_n (j := 1) (by decide +kernel) rfl ?_
  refine jj_iconst (n := (-1)) (v := (-1)) (by decide +kernel) (by decide) ?_
  refine jj_icmp_eq (off := 11) (tgt := 54) (by decide +kernel) (by decide) (fun c2 => ?_) (fun c2 => ?_)
  · skip
    exact jj_wk (js_s (js_s (js_n js_0))) (b_MO_sum_54 (o := o) hG hk ho hE hdd (by omega) hq)
  · skip
    refine jj_aload_n (j := 0) (by decide +kernel) rfl ?_
    refine jj_bipush (n := 20) (v := 20) (by decide +kernel) (by decide) ?_
    refine jj_iload_n (j := 1) (by decide +kernel) rfl ?_
    refine jj_iconst (n := 1) (v := 1) (by decide +kernel) (by decide) ?_
    refine mq_cv (mq_v hq (fun g hm => m_lay (d := d - 1) hG hk (by omega) hm)) (fun o1 h1 hC => jj_callV ok_MO_lay ml_MO_166 im_MO_lay se_MO_MO_lay (by decide +kernel) hq.rcv rfl (by omega) (Nat.le_of_ble_eq_true rfl) hC) (fun u3 h hp3 hq => ?_)
    exact jj_wk (js_s (js_s (js_n js_0))) (b_MO_sum_54 (o := o) hG hk ho hE hdd (by omega) hq)
set_option maxRecDepth 100000 in
set_option maxHeartbeats 4000000 in
theorem b_MO_sum_27 {l : Launch} {G : jj_G} {C : mo_C} {u0 o d : Nat} {m : Nat} {u : Nat} {h : jj_H} {y0 : Int32} (hG : jj_tyG G) (hk : mo_k C) (ho : u0 = 0 ∨ o + m = 41) (hE : 0 < m → mo_Ex l G C (m - 1)) (hdd : 15 + 20 * m ≤ d) (hle : u ≤ u0) (hfy0 : y0 ≠ (-1) → 0 < u ∧ mo_nl C u) (hq : Pq G C u o h) : jj_P l G y_MO_sum d (mq_V G C o (fun u' => u' ≤ u0 - 1)) 27 [some (.ref (C.2.1 0)), none, none] [.int y0] h := by
  refine jj_istore_n (j := 1) (by decide +kernel) (by decide) rfl ?_
  refine jj_iload_n (j := 1) (by decide +kernel) rfl ?_
  refine jj_iconst (n := (-1)) (v := (-1)) (by decide +kernel) (by decide) ?_
  refine jj_icmp_eq (off := 7) (tgt := 37) (by decide +kernel) (by decide) (fun c1 => ?_) (fun c1 => ?_)
  · skip
    exact jj_wk (js_s (js_s (js_n js_0))) (b_MO_sum_37 (o := o) hG hk ho hE hdd (by omega) hq)
  · skip
    have hz1 := hfy0 c1
    refine jj_aload_n (j := 0) (by decide +kernel) rfl ?_
    refine mq_cv (mq_v hq (fun g hm => m_on (d := d - 1) hG hk hz1.2 (by omega) hm)) (fun o1 h1 hC => jj_callV ok_MO_on ml_MO_141 im_MO_on se_MO_MO_on (by decide +kernel) hq.rcv rfl (by omega) (Nat.le_of_ble_eq_true rfl) hC) (fun u2 h hp2 hq => ?_)
    exact jj_wk (js_s (js_s (js_n js_0))) (b_MO_sum_37 (o := o) hG hk ho hE hdd (by omega) hq)
set_option maxRecDepth 100000 in
set_option maxHeartbeats 4000000 in
theorem b_MO_sum_0 {l : Launch} {G : jj_G} {C : mo_C} {u0 o d : Nat} {m : Nat} {u : Nat} {h : jj_H} (hG : jj_tyG G) (hk : mo_k C) (ho : u0 = 0 ∨ o + m = 41) (hE : 0 < m → mo_Ex l G C (m - 1)) (hdd : 15 + 20 * m ≤ d) (hle : u ≤ u0) (hq : Pq G C u o h) : jj_P l G y_MO_sum d (mq_V G C o (fun u' => u' ≤ u0 - 1)) 0 [some (.ref (C.2.1 0)), none, none] [] h := by
  refine jj_aload_n (j := 0) (by decide +kernel) rfl ?_
  refine jj_bipush (n := 45) (v := 45) (by decide +kernel) (by decide) ?_
  refine mq_ci (mq_i hq (fun g hm => m_isMark (d := d - 1) (x := 45) hG hk (by decide) (by decide) (by omega) hm) (fun _ _ q => q)) (fun o1 h1 hC => jj_callV ok_MO_isMark ml_MO_144 im_MO_isMark se_MO_MO_isMark (by decide +kernel) hq.rcv rfl (by omega) (Nat.le_of_ble_eq_true rfl) hC) (fun v1 u1 h hp1 hq => ?_)
  obtain ⟨e1, -, hf1⟩ := hp1
  rw [e1] at hq
  refine jj_if_eq (off := 7) (tgt := 13) (by decide +kernel) (by decide) (fun c2 => ?_) (fun c2 => ?_)
  · skip
    refine jj_aload_n (j := 0) (by decide +kernel) rfl ?_
    refine jj_bipush (n := 43) (v := 43) (by decide +kernel) (by decide) ?_
    refine mq_ci (mq_i hq (fun g hm => m_isMark (d := d - 1) (x := 43) hG hk (by decide) (by decide) (by omega) hm) (fun _ _ q => q)) (fun o1 h1 hC => jj_callV ok_MO_isMark ml_MO_144 im_MO_isMark se_MO_MO_isMark (by decide +kernel) hq.rcv rfl (by omega) (Nat.le_of_ble_eq_true rfl) hC) (fun v3 u3 h hp3 hq => ?_)
    obtain ⟨e3, -, hf3⟩ := hp3
    rw [e3] at hq
    refine jj_if_eq (off := 7) (tgt := 26) (by decide +kernel) (by decide) (fun c4 => ?_) (fun c4 => ?_)
    · skip
      refine jj_iconst (n := (-1)) (v := (-1)) (by decide +kernel) (by decide) ?_
      exact jj_wk (js_s (js_n (js_n js_0))) (b_MO_sum_27 (o := o) hG hk ho hE hdd (by omega) (fun q => absurd rfl q) hq)
    · skip
      have hz4 := hf3 c4
      refine jj_iconst (n := 2) (v := 2) (by decide +kernel) (by decide) ?_
      refine jj_goto (off := 4) (tgt := 27) (by decide +kernel) (by decide) ?_
      exact jj_wk (js_s (js_n (js_n js_0))) (b_MO_sum_27 (o := o) hG hk ho hE hdd (by omega) (fun _ => ⟨by omega, hz4.2⟩) hq)
  · skip
    have hz2 := hf1 c2
    refine jj_iconst (n := 1) (v := 1) (by decide +kernel) (by decide) ?_
    refine jj_goto (off := 17) (tgt := 27) (by decide +kernel) (by decide) ?_
    exact jj_wk (js_s (js_n (js_n js_0))) (b_MO_sum_27 (o := o) hG hk ho hE hdd (by omega) (fun _ => ⟨by omega, hz2.2⟩) hq)
theorem q_MO_sum {l : Launch} {G : jj_G} {C : mo_C} {u0 o d : Nat} {m : Nat} {h : jj_H} (hG : jj_tyG G) (hk : mo_k C) (ho : u0 = 0 ∨ o + m = 41) (hE : 0 < m → mo_Ex l G C (m - 1)) (hdd : 15 + 20 * m ≤ d) (hq : Pq G C u0 o h) : jj_Q l G y_MO_sum d [.ref (C.2.1 0)] h (mq_V G C o (fun u' => u' ≤ u0 - 1)) :=
  jj_Q.of (by decide +kernel) (Nat.le_of_ble_eq_true rfl) (b_MO_sum_0 (o := o) hG hk ho hE hdd (Nat.le_refl _) hq)
set_option maxRecDepth 100000 in
set_option maxHeartbeats 4000000 in
theorem b_MO_shift_35 {l : Launch} {G : jj_G} {C : mo_C} {u0 o d : Nat} {m : Nat} {u : Nat} {h : jj_H} {y0 : Int32} (hG : jj_tyG G) (hk : mo_k C) (ho : u0 = 0 ∨ o + m = 41) (hE : 0 < m → mo_Ex l G C (m - 1)) (hdd : 16 + 20 * m ≤ d) (hle : u ≤ u0 - 1) (hfy0 : y0 ≠ (-1) → 0 < u ∧ mo_nl C u) (hq : Pq G C u o h) : jj_P l G y_MO_shift d (mq_V G C o (fun u' => u' ≤ u0 - 1)) 35 [some (.ref (C.2.1 0)), none] [.int y0] h := by
  refine jj_istore_n (j := 1) (by decide +kernel) (by decide) rfl ?_
  refine jj_iload_n (j := 1) (by decide +kernel) rfl ?_
  refine jj_iconst (n := (-1)) (v := (-1)) (by decide +kernel) (by decide) ?_
  refine jj_icmp_ne (off := 4) (tgt := 42) (by decide +kernel) (by decide) (fun c1 => ?_) (fun c1 => ?_)
  · skip
    have hz1 := hfy0 c1
    refine jj_aload_n (j := 0) (by decide +kernel) rfl ?_
    refine mq_cv (mq_v hq (fun g hm => m_on (d := d - 1) hG hk hz1.2 (by omega) hm)) (fun o1 h1 hC => jj_callV ok_MO_on ml_MO_141 im_MO_on se_MO_MO_on (by decide +kernel) hq.rcv rfl (by omega) (Nat.le_of_ble_eq_true rfl) hC) (fun u2 h hp2 hq => ?_)
    refine jj_aload_n (j := 0) (by decide +kernel) rfl ?_
    refine mq_cv (q_MO_sum (d := d - 1) (m := m) hG hk (by omega) hE (by omega) hq) (fun o1 h1 hC => jj_callV ok_MO_sum ml_MO_413 im_MO_sum se_MO_MO_sum (by decide +kernel) hq.rcv rfl (by omega) (Nat.le_of_ble_eq_true rfl) hC) (fun u3 h hp3 hq => ?_)
    refine jj_aload_n (j := 0) (by decide +kernel) rfl ?_
    refine jj_bipush (n := 21) (v := 21) (by decide +kernel) (by decide) ?_
    refine jj_iload_n (j := 1) (by decide +kernel) rfl ?_
    refine jj_iconst (n := 2) (v := 2) (by decide +kernel) (by decide) ?_
    refine mq_cv (mq_v hq (fun g hm => m_lay (d := d - 1) hG hk (by omega) hm)) (fun o1 h1 hC => jj_callV ok_MO_lay ml_MO_166 im_MO_lay se_MO_MO_lay (by decide +kernel) hq.rcv rfl (by omega) (Nat.le_of_ble_eq_true rfl) hC) (fun u4 h hp4 hq => ?_)
    exact jj_vret (by decide +kernel) rfl ⟨rfl, u4, by omega, hq⟩
  · skip
    exact jj_vret (by decide +kernel) rfl ⟨rfl, u, by omega, hq⟩
set_option maxRecDepth 100000 in
set_option maxHeartbeats 4000000 in
theorem b_MO_shift_0 {l : Launch} {G : jj_G} {C : mo_C} {u0 o d : Nat} {m : Nat} {u : Nat} {h : jj_H} (hG : jj_tyG G) (hk : mo_k C) (ho : u0 = 0 ∨ o + m = 41) (hE : 0 < m → mo_Ex l G C (m - 1)) (hdd : 16 + 20 * m ≤ d) (hle : u ≤ u0) (hq : Pq G C u o h) : jj_P l G y_MO_shift d (mq_V G C o (fun u' => u' ≤ u0 - 1)) 0 [some (.ref (C.2.1 0)), none] [] h := by
  refine jj_aload_n (j := 0) (by decide +kernel) rfl ?_
  refine mq_cv (q_MO_sum (d := d - 1) (m := m) hG hk (by omega) hE (by omega) hq) (fun o1 h1 hC => jj_callV ok_MO_sum ml_MO_413 im_MO_sum se_MO_MO_sum (by decide +kernel) hq.rcv rfl (by omega) (Nat.le_of_ble_eq_true rfl) hC) (fun u1 h hp1 hq => ?_)
  refine jj_aload_n (j := 0) (by decide +kernel) rfl ?_
  refine jj_ldcW (index := 416) (i := 28) (tx := "sll") (by decide +kernel) (List.mem_of_getElem? (i := 29) rfl) ?_
  refine mq_ci (mq_i hq (fun g hm => m_isWord (d := d - 1) (i := 28) hG hk (by decide) (by omega) hm) (fun _ _ q => q)) (fun o1 h1 hC => jj_callV ok_MO_isWord ml_MO_137 im_MO_isWord se_MO_MO_isWord (by decide +kernel) hq.rcv rfl (by omega) (Nat.le_of_ble_eq_true rfl) hC) (fun v2 u2 h hp2 hq => ?_)
  obtain ⟨e2, -, hf2⟩ := hp2
  rw [e2] at hq
  refine jj_if_eq (off := 8) (tgt := 19) (by decide +kernel) (by decide) (fun c3 => ?_) (fun c3 => ?_)
  · skip
    refine jj_aload_n (j := 0) (by decide +kernel) rfl ?_
    refine jj_ldcW (index := 418) (i := 29) (tx := "srl") (by decide +kernel) (List.mem_of_getElem? (i := 30) rfl) ?_
    refine mq_ci (mq_i hq (fun g hm => m_isWord (d := d - 1) (i := 29) hG hk (by decide) (by omega) hm) (fun _ _ q => q)) (fun o1 h1 hC => jj_callV ok_MO_isWord ml_MO_137 im_MO_isWord se_MO_MO_isWord (by decide +kernel) hq.rcv rfl (by omega) (Nat.le_of_ble_eq_true rfl) hC) (fun v4 u4 h hp4 hq => ?_)
    obtain ⟨e4, -, hf4⟩ := hp4
    rw [e4] at hq
    refine jj_if_eq (off := 8) (tgt := 34) (by decide +kernel) (by decide) (fun c5 => ?_) (fun c5 => ?_)
    · skip
      refine jj_iconst (n := (-1)) (v := (-1)) (by decide +kernel) (by decide) ?_
      exact jj_wk (js_s (js_n js_0)) (b_MO_shift_35 (o := o) hG hk ho hE hdd (by omega) (fun q => absurd rfl q) hq)
    · skip
      have hz5 := hf4 c5
      refine jj_bipush (n := 20) (v := 20) (by decide +kernel) (by decide) ?_
      refine jj_goto (off := 4) (tgt := 35) (by decide +kernel) (by decide) ?_
      exact jj_wk (js_s (js_n js_0)) (b_MO_shift_35 (o := o) hG hk ho hE hdd (by omega) (fun _ => ⟨by omega, hz5.2⟩) hq)
  · skip
    have hz3 := hf2 c3
    refine jj_bipush (n := 19) (v := 19) (by decide +kernel) (by decide) ?_
    refine jj_goto (off := 19) (tgt := 35) (by decide +kernel) (by decide) ?_
    exact jj_wk (js_s (js_n js_0)) (b_MO_shift_35 (o := o) hG hk ho hE hdd (by omega) (fun _ => ⟨by omega, hz3.2⟩) hq)
theorem q_MO_shift {l : Launch} {G : jj_G} {C : mo_C} {u0 o d : Nat} {m : Nat} {h : jj_H} (hG : jj_tyG G) (hk : mo_k C) (ho : u0 = 0 ∨ o + m = 41) (hE : 0 < m → mo_Ex l G C (m - 1)) (hdd : 16 + 20 * m ≤ d) (hq : Pq G C u0 o h) : jj_Q l G y_MO_shift d [.ref (C.2.1 0)] h (mq_V G C o (fun u' => u' ≤ u0 - 1)) :=
  jj_Q.of (by decide +kernel) (Nat.le_of_ble_eq_true rfl) (b_MO_shift_0 (o := o) hG hk ho hE hdd (Nat.le_refl _) hq)
set_option maxRecDepth 100000 in
set_option maxHeartbeats 4000000 in
theorem b_MO_relation_89 {l : Launch} {G : jj_G} {C : mo_C} {u0 o d : Nat} {m : Nat} {u : Nat} {h : jj_H} {y0 : Int32} (hG : jj_tyG G) (hk : mo_k C) (ho : u0 = 0 ∨ o + m = 41) (hE : 0 < m → mo_Ex l G C (m - 1)) (hdd : 17 + 20 * m ≤ d) (hle : u ≤ u0 - 1) (hfy0 : y0 ≠ (-1) → 0 < u ∧ mo_nl C u) (hq : Pq G C u o h) : jj_P l G y_MO_relation d (mq_V G C o (fun u' => u' ≤ u0 - 1)) 89 [some (.ref (C.2.1 0)), none] [.int y0] h := by
  refine jj_istore_n (j := 1) (by decide +kernel) (by decide) rfl ?_
  refine jj_iload_n (j := 1) (by decide +kernel) rfl ?_
  refine jj_iconst (n := (-1)) (v := (-1)) (by decide +kernel) (by decide) ?_
  refine jj_icmp_ne (off := 4) (tgt := 96) (by decide +kernel) (by decide) (fun c1 => ?_) (fun c1 => ?_)
  · skip
    have hz1 := hfy0 c1
    refine jj_aload_n (j := 0) (by decide +kernel) rfl ?_
    refine mq_cv (mq_v hq (fun g hm => m_on (d := d - 1) hG hk hz1.2 (by omega) hm)) (fun o1 h1 hC => jj_callV ok_MO_on ml_MO_141 im_MO_on se_MO_MO_on (by decide +kernel) hq.rcv rfl (by omega) (Nat.le_of_ble_eq_true rfl) hC) (fun u2 h hp2 hq => ?_)
    refine jj_aload_n (j := 0) (by decide +kernel) rfl ?_
    refine mq_cv (q_MO_shift (d := d - 1) (m := m) hG hk (by omega) hE (by omega) hq) (fun o1 h1 hC => jj_callV ok_MO_shift ml_MO_410 im_MO_shift se_MO_MO_shift (by decide +kernel) hq.rcv rfl (by omega) (Nat.le_of_ble_eq_true rfl) hC) (fun u3 h hp3 hq => ?_)
    refine jj_aload_n (j := 0) (by decide +kernel) rfl ?_
    refine jj_bipush (n := 21) (v := 21) (by decide +kernel) (by decide) ?_
    refine jj_iload_n (j := 1) (by decide +kernel) rfl ?_
    refine jj_iconst (n := 2) (v := 2) (by decide +kernel) (by decide) ?_
    refine mq_cv (mq_v hq (fun g hm => m_lay (d := d - 1) hG hk (by omega) hm)) (fun o1 h1 hC => jj_callV ok_MO_lay ml_MO_166 im_MO_lay se_MO_MO_lay (by decide +kernel) hq.rcv rfl (by omega) (Nat.le_of_ble_eq_true rfl) hC) (fun u4 h hp4 hq => ?_)
    exact jj_vret (by decide +kernel) rfl ⟨rfl, u4, by omega, hq⟩
  · skip
    exact jj_vret (by decide +kernel) rfl ⟨rfl, u, by omega, hq⟩
set_option maxRecDepth 100000 in
set_option maxHeartbeats 4000000 in
theorem b_MO_relation_0 {l : Launch} {G : jj_G} {C : mo_C} {u0 o d : Nat} {m : Nat} {u : Nat} {h : jj_H} (hG : jj_tyG G) (hk : mo_k C) (ho : u0 = 0 ∨ o + m = 41) (hE : 0 < m → mo_Ex l G C (m - 1)) (hdd : 17 + 20 * m ≤ d) (hle : u ≤ u0) (hq : Pq G C u o h) : jj_P l G y_MO_relation d (mq_V G C o (fun u' => u' ≤ u0 - 1)) 0 [some (.ref (C.2.1 0)), none] [] h := by
  refine jj_aload_n (j := 0) (by decide +kernel) rfl ?_
  refine mq_cv (q_MO_shift (d := d - 1) (m := m) hG hk (by omega) hE (by omega) hq) (fun o1 h1 hC => jj_callV ok_MO_shift ml_MO_410 im_MO_shift se_MO_MO_shift (by decide +kernel) hq.rcv rfl (by omega) (Nat.le_of_ble_eq_true rfl) hC) (fun u1 h hp1 hq => ?_)
  refine jj_aload_n (j := 0) (by decide +kernel) rfl ?_
  refine jj_bipush (n := 61) (v := 61) (by decide +kernel) (by decide) ?_
  refine mq_ci (mq_i hq (fun g hm => m_isMark (d := d - 1) (x := 61) hG hk (by decide) (by decide) (by omega) hm) (fun _ _ q => q)) (fun o1 h1 hC => jj_callV ok_MO_isMark ml_MO_144 im_MO_isMark se_MO_MO_isMark (by decide +kernel) hq.rcv rfl (by omega) (Nat.le_of_ble_eq_true rfl) hC) (fun v2 u2 h hp2 hq => ?_)
  obtain ⟨e2, -, hf2⟩ := hp2
  rw [e2] at hq
  refine jj_if_eq (off := 8) (tgt := 18) (by decide +kernel) (by decide) (fun c3 => ?_) (fun c3 => ?_)
  · skip
    refine jj_aload_n (j := 0) (by decide +kernel) rfl ?_
    refine jj_bipush (n := 47) (v := 47) (by decide +kernel) (by decide) ?_
    refine mq_ci (mq_i hq (fun g hm => m_isTwo (d := d - 1) (x := 47) hG hk (by decide) (by decide) (by omega) hm) (fun _ _ q => q)) (fun o1 h1 hC => jj_callV ok_MO_isTwo ml_MO_147 im_MO_isTwo se_MO_MO_isTwo (by decide +kernel) hq.rcv rfl (by omega) (Nat.le_of_ble_eq_true rfl) hC) (fun v4 u4 h hp4 hq => ?_)
    obtain ⟨e4, -, hf4⟩ := hp4
    rw [e4] at hq
    refine jj_if_eq (off := 8) (tgt := 32) (by decide +kernel) (by decide) (fun c5 => ?_) (fun c5 => ?_)
    · skip
      refine jj_aload_n (j := 0) (by decide +kernel) rfl ?_
      refine jj_bipush (n := 60) (v := 60) (by decide +kernel) (by decide) ?_
      refine mq_ci (mq_i hq (fun g hm => m_isMark (d := d - 1) (x := 60) hG hk (by decide) (by decide) (by omega) hm) (fun _ _ q => q)) (fun o1 h1 hC => jj_callV ok_MO_isMark ml_MO_144 im_MO_isMark se_MO_MO_isMark (by decide +kernel) hq.rcv rfl (by omega) (Nat.le_of_ble_eq_true rfl) hC) (fun v6 u6 h hp6 hq => ?_)
      obtain ⟨e6, -, hf6⟩ := hp6
      rw [e6] at hq
      refine jj_if_eq (off := 8) (tgt := 46) (by decide +kernel) (by decide) (fun c7 => ?_) (fun c7 => ?_)
      · skip
        refine jj_aload_n (j := 0) (by decide +kernel) rfl ?_
        refine jj_bipush (n := 60) (v := 60) (by decide +kernel) (by decide) ?_
        refine mq_ci (mq_i hq (fun g hm => m_isTwo (d := d - 1) (x := 60) hG hk (by decide) (by decide) (by omega) hm) (fun _ _ q => q)) (fun o1 h1 hC => jj_callV ok_MO_isTwo ml_MO_147 im_MO_isTwo se_MO_MO_isTwo (by decide +kernel) hq.rcv rfl (by omega) (Nat.le_of_ble_eq_true rfl) hC) (fun v8 u8 h hp8 hq => ?_)
        obtain ⟨e8, -, hf8⟩ := hp8
        rw [e8] at hq
        refine jj_if_eq (off := 8) (tgt := 60) (by decide +kernel) (by decide) (fun c9 => ?_) (fun c9 => ?_)
        · skip
          refine jj_aload_n (j := 0) (by decide +kernel) rfl ?_
          refine jj_bipush (n := 62) (v := 62) (by decide +kernel) (by decide) ?_
          refine mq_ci (mq_i hq (fun g hm => m_isMark (d := d - 1) (x := 62) hG hk (by decide) (by decide) (by omega) hm) (fun _ _ q => q)) (fun o1 h1 hC => jj_callV ok_MO_isMark ml_MO_144 im_MO_isMark se_MO_MO_isMark (by decide +kernel) hq.rcv rfl (by omega) (Nat.le_of_ble_eq_true rfl) hC) (fun v10 u10 h hp10 hq => ?_)
          obtain ⟨e10, -, hf10⟩ := hp10
          rw [e10] at hq
          refine jj_if_eq (off := 8) (tgt := 74) (by decide +kernel) (by decide) (fun c11 => ?_) (fun c11 => ?_)
          · skip
            refine jj_aload_n (j := 0) (by decide +kernel) rfl ?_
            refine jj_bipush (n := 62) (v := 62) (by decide +kernel) (by decide) ?_
            refine mq_ci (mq_i hq (fun g hm => m_isTwo (d := d - 1) (x := 62) hG hk (by decide) (by decide) (by omega) hm) (fun _ _ q => q)) (fun o1 h1 hC => jj_callV ok_MO_isTwo ml_MO_147 im_MO_isTwo se_MO_MO_isTwo (by decide +kernel) hq.rcv rfl (by omega) (Nat.le_of_ble_eq_true rfl) hC) (fun v12 u12 h hp12 hq => ?_)
            obtain ⟨e12, -, hf12⟩ := hp12
            rw [e12] at hq
            refine jj_if_eq (off := 8) (tgt := 88) (by decide +kernel) (by decide) (fun c13 => ?_) (fun c13 => ?_)
            · skip
              refine jj_iconst (n := (-1)) (v := (-1)) (by decide +kernel) (by decide) ?_
              exact jj_wk (js_s (js_n js_0)) (b_MO_relation_89 (o := o) hG hk ho hE hdd (by omega) (fun q => absurd rfl q) hq)
            · skip
              have hz13 := hf12 c13
              refine jj_bipush (n := 11) (v := 11) (by decide +kernel) (by decide) ?_
              refine jj_goto (off := 4) (tgt := 89) (by decide +kernel) (by decide) ?_
              exact jj_wk (js_s (js_n js_0)) (b_MO_relation_89 (o := o) hG hk ho hE hdd (by omega) (fun _ => ⟨by omega, hz13.2⟩) hq)
          · skip
            have hz11 := hf10 c11
            refine jj_bipush (n := 10) (v := 10) (by decide +kernel) (by decide) ?_
            refine jj_goto (off := 18) (tgt := 89) (by decide +kernel) (by decide) ?_
            exact jj_wk (js_s (js_n js_0)) (b_MO_relation_89 (o := o) hG hk ho hE hdd (by omega) (fun _ => ⟨by omega, hz11.2⟩) hq)
        · skip
          have hz9 := hf8 c9
          refine jj_bipush (n := 9) (v := 9) (by decide +kernel) (by decide) ?_
          refine jj_goto (off := 32) (tgt := 89) (by decide +kernel) (by decide) ?_
          exact jj_wk (js_s (js_n js_0)) (b_MO_relation_89 (o := o) hG hk ho hE hdd (by omega) (fun _ => ⟨by omega, hz9.2⟩) hq)
      · skip
        have hz7 := hf6 c7
        refine jj_bipush (n := 8) (v := 8) (by decide +kernel) (by decide) ?_
        refine jj_goto (off := 46) (tgt := 89) (by decide +kernel) (by decide) ?_
        exact jj_wk (js_s (js_n js_0)) (b_MO_relation_89 (o := o) hG hk ho hE hdd (by omega) (fun _ => ⟨by omega, hz7.2⟩) hq)
    · skip
      have hz5 := hf4 c5
      refine jj_bipush (n := 7) (v := 7) (by decide +kernel) (by decide) ?_
      refine jj_goto (off := 60) (tgt := 89) (by decide +kernel) (by decide) ?_
      exact jj_wk (js_s (js_n js_0)) (b_MO_relation_89 (o := o) hG hk ho hE hdd (by omega) (fun _ => ⟨by omega, hz5.2⟩) hq)
  · skip
    have hz3 := hf2 c3
    refine jj_bipush (n := 6) (v := 6) (by decide +kernel) (by decide) ?_
    refine jj_goto (off := 74) (tgt := 89) (by decide +kernel) (by decide) ?_
    exact jj_wk (js_s (js_n js_0)) (b_MO_relation_89 (o := o) hG hk ho hE hdd (by omega) (fun _ => ⟨by omega, hz3.2⟩) hq)
theorem q_MO_relation {l : Launch} {G : jj_G} {C : mo_C} {u0 o d : Nat} {m : Nat} {h : jj_H} (hG : jj_tyG G) (hk : mo_k C) (ho : u0 = 0 ∨ o + m = 41) (hE : 0 < m → mo_Ex l G C (m - 1)) (hdd : 17 + 20 * m ≤ d) (hq : Pq G C u0 o h) : jj_Q l G y_MO_relation d [.ref (C.2.1 0)] h (mq_V G C o (fun u' => u' ≤ u0 - 1)) :=
  jj_Q.of (by decide +kernel) (Nat.le_of_ble_eq_true rfl) (b_MO_relation_0 (o := o) hG hk ho hE hdd (Nat.le_refl _) hq)
theorem mo_kd.ne {C : mo_C} {u : Nat} {v : Int32} (hk : mo_kd C u v) (hn : mo_nl C u) : v ≠ 2004 := by
  rcases hk with ⟨-, q⟩ | ⟨q1, q2, -⟩
  · rw [q]; decide
  · rcases hn with q | q
    · omega
    · rw [q2]; exact q
set_option maxRecDepth 100000 in
set_option maxHeartbeats 4000000 in
theorem b_MO_expression_128 {l : Launch} {G : jj_G} {C : mo_C} {u0 o d : Nat} {m : Nat} (hG : jj_tyG G) (hk : mo_k C) (ho : u0 = 0 ∨ o + m = 41) (hE : 0 < m → mo_Ex l G C (m - 1)) (hdd : 18 + 20 * m ≤ d) : ∀ (n : Nat) (x1 x2 x3 x4 : Int32) (u : Nat) (h : jj_H), u < n → u ≤ u0 - 1 → (x4 ≠ 0 → 0 < u ∧ mo_nl C u) → (x4 ≠ 0 → x2 ≠ 2004) → Pq G C u o h → jj_P l G y_MO_expression d (mq_V G C o (fun u' => u' ≤ u0 - 1)) 128 [some (.ref (C.2.1 0)), some (.int x1), some (.int x2), some (.int x3), some (.int x4)] [] h := by
  intro n
  induction n with
  | zero => intro x1 x2 x3 x4 u h hn0; exact absurd hn0 (Nat.not_lt_zero _)
  | succ n ih =>
    intro x1 x2 x3 x4 u h hn0 hle hf4 hw4 hq
    refine jj_iload (i := 4) (by decide +kernel) rfl ?_
    refine jj_if_eq (off := 48) (tgt := 178) (by decide +kernel) (by decide) (fun c1 => ?_) (fun c1 => ?_)
    · exact jj_vret (by decide +kernel) rfl ⟨rfl, u, by omega, hq⟩
    · have hz := hf4 c1
      have hw := hw4 c1
      refine jj_aload_n (j := 0) (by decide +kernel) rfl ?_
      refine mq_cv (mq_v hq (fun g hm => m_on (d := d - 1) hG hk hz.2 (by omega) hm)) (fun o1 h1 hC => jj_callV ok_MO_on ml_MO_141 im_MO_on se_MO_MO_on (by decide +kernel) hq.rcv rfl (by omega) (Nat.le_of_ble_eq_true rfl) hC) (fun u1 h hp1 hq => ?_)
      refine jj_aload_n (j := 0) (by decide +kernel) rfl ?_
      refine mq_cv (q_MO_relation (d := d - 1) (m := m) hG hk (by omega) hE (by omega) hq) (fun o1 h1 hC => jj_callV ok_MO_relation ml_MO_395 im_MO_relation se_MO_MO_relation (by decide +kernel) hq.rcv rfl (by omega) (Nat.le_of_ble_eq_true rfl) hC) (fun u2 h hp2 hq => ?_)
      refine jj_aload_n (j := 0) (by decide +kernel) rfl ?_
      refine jj_bipush (n := 21) (v := 21) (by decide +kernel) (by decide) ?_
      refine jj_iload_n (j := 1) (by decide +kernel) rfl ?_
      refine jj_iconst (n := 2) (v := 2) (by decide +kernel) (by decide) ?_
      refine mq_cv (mq_v hq (fun g hm => m_lay (d := d - 1) hG hk (by omega) hm)) (fun o1 h1 hC => jj_callV ok_MO_lay ml_MO_166 im_MO_lay se_MO_MO_lay (by decide +kernel) hq.rcv rfl (by omega) (Nat.le_of_ble_eq_true rfl) hC) (fun u3 h hp3 hq => ?_)
      have stopit : ∀ h : jj_H, Pq G C u3 o h → jj_P l G y_MO_expression d (mq_V G C o (fun u' => u' ≤ u0 - 1)) 172 [some (.ref (C.2.1 0)), some (.int x1), some (.int x2), some (.int x3), some (.int x4)] [] h := by
        intro h hq
        refine jj_iconst (n := 0) (v := 0) (by decide +kernel) (by decide) ?_
        refine jj_istore (i := 4) (by decide +kernel) (by decide) rfl ?_
        refine jj_goto (off := (-47)) (tgt := 128) (by decide +kernel) (by decide) ?_
        exact ih _ _ _ _ u3 _ (by omega) (by omega) (fun q => absurd rfl q) (fun q => absurd rfl q) hq
      refine jj_iload_n (j := 3) (by decide +kernel) rfl ?_
      refine jj_if_ne (off := 22) (tgt := 172) (by decide +kernel) (by decide) (fun _ => stopit _ hq) (fun _ => ?_)
      refine jj_aload_n (j := 0) (by decide +kernel) rfl ?_
      refine mq_ci (mq_i hq (fun g hm => m_kind (d := d - 1) hG hk hm) (fun _ _ q => q)) (fun o1 h1 hC => jj_callV ok_MO_kind ml_MO_130 im_MO_kind se_MO_MO_kind (by decide +kernel) hq.rcv rfl (by omega) (Nat.le_of_ble_eq_true rfl) hC) (fun v4 u4 h hp4 hq => ?_)
      obtain ⟨e4, hf5⟩ := hp4
      rw [e4] at hq
      refine jj_iload_n (j := 2) (by decide +kernel) rfl ?_
      refine jj_icmp_ne (off := 14) (tgt := 172) (by decide +kernel) (by decide) (fun _ => stopit _ hq) (fun c5 => ?_)
      obtain ⟨g, wr, nw, ow, hb, hu⟩ := id hq
      obtain ⟨th, wh, S, b0, hS, hg, ⟨a1, a5, a6, a7, a9, a10⟩, nd, fr, hz⟩ := id hb
      refine jj_aload_n (j := 0) (by decide +kernel) rfl ?_
      refine jj_getfield 3 ck_MO fl_MO_120 (by decide) (by decide +kernel) b0 rfl ?_
      refine jj_if_ne (off := 7) (tgt := 172) (by decide +kernel) (by decide) (fun _ => stopit _ hq) (fun c6 => ?_)
      have hp6 : 0 < u3 := by
        rcases hu with ⟨-, q9⟩ | ⟨q9, -⟩
        · rw [c6] at q9; exact absurd q9 (by decide)
        · exact q9
      refine jj_iconst (n := 1) (v := 1) (by decide +kernel) (by decide) ?_
      refine jj_goto (off := 4) (tgt := 173) (by decide +kernel) (by decide) ?_
      refine jj_istore (i := 4) (by decide +kernel) (by decide) rfl ?_
      refine jj_goto (off := (-47)) (tgt := 128) (by decide +kernel) (by decide) ?_
      exact ih _ _ _ _ u3 _ (by omega) (by omega) (fun _ => ⟨hp6, mo_nl.of hf5 (by rw [c5]; exact hw)⟩) (fun _ => hw) hq
set_option maxRecDepth 100000 in
set_option maxHeartbeats 4000000 in
theorem b_MO_expression_126 {l : Launch} {G : jj_G} {C : mo_C} {u0 o d : Nat} {m : Nat} {u : Nat} {h : jj_H} {x1 x2 x3 y0 : Int32} (hG : jj_tyG G) (hk : mo_k C) (ho : u0 = 0 ∨ o + m = 41) (hE : 0 < m → mo_Ex l G C (m - 1)) (hdd : 18 + 20 * m ≤ d) (hle : u ≤ u0 - 1) (hfx1 : x1 ≠ (-1) → 0 < u ∧ mo_nl C u) (hfx2 : mo_kd C u x2) (hfy0 : y0 ≠ 0 → 0 < u ∧ mo_nl C u) (hq : Pq G C u o h) : jj_P l G y_MO_expression d (mq_V G C o (fun u' => u' ≤ u0 - 1)) 126 [some (.ref (C.2.1 0)), some (.int x1), some (.int x2), some (.int x3), none] [.int y0] h := by
  refine jj_istore (i := 4) (by decide +kernel) (by decide) rfl ?_
  exact jj_wk (js_s (js_s (js_s (js_s (js_s js_0))))) (b_MO_expression_128 hG hk ho hE hdd _ _ _ _ _ u _ (Nat.lt_succ_self _) (by omega) hfy0 (fun z => mo_kd.ne hfx2 (hfy0 z).2) hq)
set_option maxRecDepth 100000 in
set_option maxHeartbeats 4000000 in
theorem b_MO_expression_115 {l : Launch} {G : jj_G} {C : mo_C} {u0 o d : Nat} {m : Nat} {u : Nat} {h : jj_H} {x1 x2 y0 : Int32} (hG : jj_tyG G) (hk : mo_k C) (ho : u0 = 0 ∨ o + m = 41) (hE : 0 < m → mo_Ex l G C (m - 1)) (hdd : 18 + 20 * m ≤ d) (hle : u ≤ u0 - 1) (hfx1 : x1 ≠ (-1) → 0 < u ∧ mo_nl C u) (hfx2 : mo_kd C u x2) (hq : Pq G C u o h) : jj_P l G y_MO_expression d (mq_V G C o (fun u' => u' ≤ u0 - 1)) 115 [some (.ref (C.2.1 0)), some (.int x1), some (.int x2), none, none] [.int y0] h := by
  refine jj_istore_n (j := 3) (by decide +kernel) (by decide) rfl ?_
  refine jj_iload_n (j := 1) (by decide +kernel) rfl ?_
  refine jj_iconst (n := (-1)) (v := (-1)) (by decide +kernel) (by decide) ?_
  refine jj_icmp_eq (off := 7) (tgt := 125) (by decide +kernel) (by decide) (fun c1 => ?_) (fun c1 => ?_)
  · skip
    refine jj_iconst (n := 0) (v := 0) (by decide +kernel) (by decide) ?_
    exact jj_wk (js_s (js_s (js_s (js_s (js_n js_0))))) (b_MO_expression_126 (o := o) hG hk ho hE hdd (by omega) hfx1 hfx2 (fun q => absurd rfl q) hq)
  · skip
    have hz1 := hfx1 c1
    refine jj_iconst (n := 1) (v := 1) (by decide +kernel) (by decide) ?_
    refine jj_goto (off := 4) (tgt := 126) (by decide +kernel) (by decide) ?_
    exact jj_wk (js_s (js_s (js_s (js_s (js_n js_0))))) (b_MO_expression_126 (o := o) hG hk ho hE hdd (by omega) hfx1 hfx2 (fun _ => ⟨by omega, hz1.2⟩) hq)
set_option maxRecDepth 100000 in
set_option maxHeartbeats 4000000 in
theorem b_MO_expression_89 {l : Launch} {G : jj_G} {C : mo_C} {u0 o d : Nat} {m : Nat} {u : Nat} {h : jj_H} {y0 : Int32} (hG : jj_tyG G) (hk : mo_k C) (ho : u0 = 0 ∨ o + m = 41) (hE : 0 < m → mo_Ex l G C (m - 1)) (hdd : 18 + 20 * m ≤ d) (hle : u ≤ u0 - 1) (hfy0 : y0 ≠ (-1) → 0 < u ∧ mo_nl C u) (hq : Pq G C u o h) : jj_P l G y_MO_expression d (mq_V G C o (fun u' => u' ≤ u0 - 1)) 89 [some (.ref (C.2.1 0)), none, none, none, none] [.int y0] h := by
  refine jj_istore_n (j := 1) (by decide +kernel) (by decide) rfl ?_
  refine jj_aload_n (j := 0) (by decide +kernel) rfl ?_
  refine mq_ci (mq_i hq (fun g hm => m_kind (d := d - 1) hG hk hm) (fun _ _ q => q)) (fun o1 h1 hC => jj_callV ok_MO_kind ml_MO_130 im_MO_kind se_MO_MO_kind (by decide +kernel) hq.rcv rfl (by omega) (Nat.le_of_ble_eq_true rfl) hC) (fun v1 u1 h hp1 hq => ?_)
  obtain ⟨e1, hf1⟩ := hp1
  rw [e1] at hq
  refine jj_istore_n (j := 2) (by decide +kernel) (by decide) rfl ?_
  refine jj_iload_n (j := 1) (by decide +kernel) rfl ?_
  refine jj_iconst (n := 2) (v := 2) (by decide +kernel) (by decide) ?_
  refine jj_icmp_eq (off := 13) (tgt := 110) (by decide +kernel) (by decide) (fun c2 => ?_) (fun c2 => ?_)
  · skip
    refine jj_iconst (n := 1) (v := 1) (by decide +kernel) (by decide) ?_
    refine jj_goto (off := 4) (tgt := 115) (by decide +kernel) (by decide) ?_
    exact jj_wk (js_s (js_s (js_s (js_n (js_n js_0))))) (b_MO_expression_115 (o := o) hG hk ho hE hdd (by omega) hfy0 hf1 hq)
  · skip
    refine jj_iload_n (j := 1) (by decide +kernel) rfl ?_
    refine jj_iconst (n := 3) (v := 3) (by decide +kernel) (by decide) ?_
    refine jj_icmp_eq (off := 8) (tgt := 110) (by decide +kernel) (by decide) (fun c3 => ?_) (fun c3 => ?_)
    · skip
      refine jj_iconst (n := 1) (v := 1) (by decide +kernel) (by decide) ?_
      refine jj_goto (off := 4) (tgt := 115) (by decide +kernel) (by decide) ?_
      exact jj_wk (js_s (js_s (js_s (js_n (js_n js_0))))) (b_MO_expression_115 (o := o) hG hk ho hE hdd (by omega) hfy0 hf1 hq)
    · skip
      refine jj_iload_n (j := 1) (by decide +kernel) rfl ?_
      refine jj_iconst (n := 5) (v := 5) (by decide +kernel) (by decide) ?_
      refine jj_icmp_ne (off := 7) (tgt := 114) (by decide +kernel) (by decide) (fun c4 => ?_) (fun c4 => ?_)
      · skip
        refine jj_iconst (n := 0) (v := 0) (by decide +kernel) (by decide) ?_
        exact jj_wk (js_s (js_s (js_s (js_n (js_n js_0))))) (b_MO_expression_115 (o := o) hG hk ho hE hdd (by omega) hfy0 hf1 hq)
      · skip
        refine jj_iconst (n := 1) (v := 1) (by decide +kernel) (by decide) ?_
        refine jj_goto (off := 4) (tgt := 115) (by decide +kernel) (by decide) ?_
        exact jj_wk (js_s (js_s (js_s (js_n (js_n js_0))))) (b_MO_expression_115 (o := o) hG hk ho hE hdd (by omega) hfy0 hf1 hq)
set_option maxRecDepth 100000 in
set_option maxHeartbeats 4000000 in
theorem b_MO_expression_0 {l : Launch} {G : jj_G} {C : mo_C} {u0 o d : Nat} {m : Nat} {u : Nat} {h : jj_H} (hG : jj_tyG G) (hk : mo_k C) (ho : u0 = 0 ∨ o + m = 41) (hE : 0 < m → mo_Ex l G C (m - 1)) (hdd : 18 + 20 * m ≤ d) (hle : u ≤ u0) (hq : Pq G C u o h) : jj_P l G y_MO_expression d (mq_V G C o (fun u' => u' ≤ u0 - 1)) 0 [some (.ref (C.2.1 0)), none, none, none, none] [] h := by
  refine jj_aload_n (j := 0) (by decide +kernel) rfl ?_
  refine mq_cv (q_MO_relation (d := d - 1) (m := m) hG hk (by omega) hE (by omega) hq) (fun o1 h1 hC => jj_callV ok_MO_relation ml_MO_395 im_MO_relation se_MO_MO_relation (by decide +kernel) hq.rcv rfl (by omega) (Nat.le_of_ble_eq_true rfl) hC) (fun u1 h hp1 hq => ?_)
  refine jj_aload_n (j := 0) (by decide +kernel) rfl ?_
  refine jj_ldcW (index := 398) (i := 30) (tx := "and") (by decide +kernel) (List.mem_of_getElem? (i := 31) rfl) ?_
  refine mq_ci (mq_i hq (fun g hm => m_isWord (d := d - 1) (i := 30) hG hk (by decide) (by omega) hm) (fun _ _ q => q)) (fun o1 h1 hC => jj_callV ok_MO_isWord ml_MO_137 im_MO_isWord se_MO_MO_isWord (by decide +kernel) hq.rcv rfl (by omega) (Nat.le_of_ble_eq_true rfl) hC) (fun v2 u2 h hp2 hq => ?_)
  obtain ⟨e2, -, hf2⟩ := hp2
  rw [e2] at hq
  refine jj_if_eq (off := 7) (tgt := 18) (by decide +kernel) (by decide) (fun c3 => ?_) (fun c3 => ?_)
  · skip
    refine jj_aload_n (j := 0) (by decide +kernel) rfl ?_
    refine jj_ldcW (index := 400) (i := 31) (tx := "or") (by decide +kernel) (List.mem_of_getElem? (i := 32) rfl) ?_
    refine mq_ci (mq_i hq (fun g hm => m_isWord (d := d - 1) (i := 31) hG hk (by decide) (by omega) hm) (fun _ _ q => q)) (fun o1 h1 hC => jj_callV ok_MO_isWord ml_MO_137 im_MO_isWord se_MO_MO_isWord (by decide +kernel) hq.rcv rfl (by omega) (Nat.le_of_ble_eq_true rfl) hC) (fun v4 u4 h hp4 hq => ?_)
    obtain ⟨e4, -, hf4⟩ := hp4
    rw [e4] at hq
    refine jj_if_eq (off := 7) (tgt := 32) (by decide +kernel) (by decide) (fun c5 => ?_) (fun c5 => ?_)
    · skip
      refine jj_aload_n (j := 0) (by decide +kernel) rfl ?_
      refine jj_ldcW (index := 402) (i := 32) (tx := "nand") (by decide +kernel) (List.mem_of_getElem? (i := 33) rfl) ?_
      refine mq_ci (mq_i hq (fun g hm => m_isWord (d := d - 1) (i := 32) hG hk (by decide) (by omega) hm) (fun _ _ q => q)) (fun o1 h1 hC => jj_callV ok_MO_isWord ml_MO_137 im_MO_isWord se_MO_MO_isWord (by decide +kernel) hq.rcv rfl (by omega) (Nat.le_of_ble_eq_true rfl) hC) (fun v6 u6 h hp6 hq => ?_)
      obtain ⟨e6, -, hf6⟩ := hp6
      rw [e6] at hq
      refine jj_if_eq (off := 7) (tgt := 46) (by decide +kernel) (by decide) (fun c7 => ?_) (fun c7 => ?_)
      · skip
        refine jj_aload_n (j := 0) (by decide +kernel) rfl ?_
        refine jj_ldcW (index := 404) (i := 33) (tx := "nor") (by decide +kernel) (List.mem_of_getElem? (i := 34) rfl) ?_
        refine mq_ci (mq_i hq (fun g hm => m_isWord (d := d - 1) (i := 33) hG hk (by decide) (by omega) hm) (fun _ _ q => q)) (fun o1 h1 hC => jj_callV ok_MO_isWord ml_MO_137 im_MO_isWord se_MO_MO_isWord (by decide +kernel) hq.rcv rfl (by omega) (Nat.le_of_ble_eq_true rfl) hC) (fun v8 u8 h hp8 hq => ?_)
        obtain ⟨e8, -, hf8⟩ := hp8
        rw [e8] at hq
        refine jj_if_eq (off := 7) (tgt := 60) (by decide +kernel) (by decide) (fun c9 => ?_) (fun c9 => ?_)
        · skip
          refine jj_aload_n (j := 0) (by decide +kernel) rfl ?_
          refine jj_ldcW (index := 406) (i := 34) (tx := "xor") (by decide +kernel) (List.mem_of_getElem? (i := 35) rfl) ?_
          refine mq_ci (mq_i hq (fun g hm => m_isWord (d := d - 1) (i := 34) hG hk (by decide) (by omega) hm) (fun _ _ q => q)) (fun o1 h1 hC => jj_callV ok_MO_isWord ml_MO_137 im_MO_isWord se_MO_MO_isWord (by decide +kernel) hq.rcv rfl (by omega) (Nat.le_of_ble_eq_true rfl) hC) (fun v10 u10 h hp10 hq => ?_)
          obtain ⟨e10, -, hf10⟩ := hp10
          rw [e10] at hq
          refine jj_if_eq (off := 7) (tgt := 74) (by decide +kernel) (by decide) (fun c11 => ?_) (fun c11 => ?_)
          · skip
            refine jj_aload_n (j := 0) (by decide +kernel) rfl ?_
            refine jj_ldcW (index := 408) (i := 35) (tx := "xnor") (by decide +kernel) (List.mem_of_getElem? (i := 36) rfl) ?_
            refine mq_ci (mq_i hq (fun g hm => m_isWord (d := d - 1) (i := 35) hG hk (by decide) (by omega) hm) (fun _ _ q => q)) (fun o1 h1 hC => jj_callV ok_MO_isWord ml_MO_137 im_MO_isWord se_MO_MO_isWord (by decide +kernel) hq.rcv rfl (by omega) (Nat.le_of_ble_eq_true rfl) hC) (fun v12 u12 h hp12 hq => ?_)
            obtain ⟨e12, -, hf12⟩ := hp12
            rw [e12] at hq
            refine jj_if_eq (off := 7) (tgt := 88) (by decide +kernel) (by decide) (fun c13 => ?_) (fun c13 => ?_)
            · skip
              refine jj_iconst (n := (-1)) (v := (-1)) (by decide +kernel) (by decide) ?_
              exact jj_wk (js_s (js_n (js_n (js_n (js_n js_0))))) (b_MO_expression_89 (o := o) hG hk ho hE hdd (by omega) (fun q => absurd rfl q) hq)
            · skip
              have hz13 := hf12 c13
              refine jj_iconst (n := 5) (v := 5) (by decide +kernel) (by decide) ?_
              refine jj_goto (off := 4) (tgt := 89) (by decide +kernel) (by decide) ?_
              exact jj_wk (js_s (js_n (js_n (js_n (js_n js_0))))) (b_MO_expression_89 (o := o) hG hk ho hE hdd (by omega) (fun _ => ⟨by omega, hz13.2⟩) hq)
          · skip
            have hz11 := hf10 c11
            refine jj_iconst (n := 4) (v := 4) (by decide +kernel) (by decide) ?_
            refine jj_goto (off := 18) (tgt := 89) (by decide +kernel) (by decide) ?_
            exact jj_wk (js_s (js_n (js_n (js_n (js_n js_0))))) (b_MO_expression_89 (o := o) hG hk ho hE hdd (by omega) (fun _ => ⟨by omega, hz11.2⟩) hq)
        · skip
          have hz9 := hf8 c9
          refine jj_iconst (n := 3) (v := 3) (by decide +kernel) (by decide) ?_
          refine jj_goto (off := 32) (tgt := 89) (by decide +kernel) (by decide) ?_
          exact jj_wk (js_s (js_n (js_n (js_n (js_n js_0))))) (b_MO_expression_89 (o := o) hG hk ho hE hdd (by omega) (fun _ => ⟨by omega, hz9.2⟩) hq)
      · skip
        have hz7 := hf6 c7
        refine jj_iconst (n := 2) (v := 2) (by decide +kernel) (by decide) ?_
        refine jj_goto (off := 46) (tgt := 89) (by decide +kernel) (by decide) ?_
        exact jj_wk (js_s (js_n (js_n (js_n (js_n js_0))))) (b_MO_expression_89 (o := o) hG hk ho hE hdd (by omega) (fun _ => ⟨by omega, hz7.2⟩) hq)
    · skip
      have hz5 := hf4 c5
      refine jj_iconst (n := 1) (v := 1) (by decide +kernel) (by decide) ?_
      refine jj_goto (off := 60) (tgt := 89) (by decide +kernel) (by decide) ?_
      exact jj_wk (js_s (js_n (js_n (js_n (js_n js_0))))) (b_MO_expression_89 (o := o) hG hk ho hE hdd (by omega) (fun _ => ⟨by omega, hz5.2⟩) hq)
  · skip
    have hz3 := hf2 c3
    refine jj_iconst (n := 0) (v := 0) (by decide +kernel) (by decide) ?_
    refine jj_goto (off := 74) (tgt := 89) (by decide +kernel) (by decide) ?_
    exact jj_wk (js_s (js_n (js_n (js_n (js_n js_0))))) (b_MO_expression_89 (o := o) hG hk ho hE hdd (by omega) (fun _ => ⟨by omega, hz3.2⟩) hq)
theorem q_MO_expression {l : Launch} {G : jj_G} {C : mo_C} {u0 o d : Nat} {m : Nat} {h : jj_H} (hG : jj_tyG G) (hk : mo_k C) (ho : u0 = 0 ∨ o + m = 41) (hE : 0 < m → mo_Ex l G C (m - 1)) (hdd : 18 + 20 * m ≤ d) (hq : Pq G C u0 o h) : jj_Q l G y_MO_expression d [.ref (C.2.1 0)] h (mq_V G C o (fun u' => u' ≤ u0 - 1)) :=
  jj_Q.of (by decide +kernel) (Nat.le_of_ble_eq_true rfl) (b_MO_expression_0 (o := o) hG hk ho hE hdd (Nat.le_refl _) hq)
theorem mexpr_all {l : Launch} {G : jj_G} {C : mo_C} (hG : jj_tyG G) (hk : mo_k C) : ∀ m, mo_Ex l G C m := by
  intro m
  induction m with
  | zero => exact fun u o h d ho hq hdd => q_MO_expression hG hk ho (fun q => absurd q (by decide)) hdd hq
  | succ m ih => exact fun u o h d ho hq hdd => q_MO_expression hG hk ho (fun _ => ih) hdd hq
