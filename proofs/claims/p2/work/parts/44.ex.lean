set_option maxRecDepth 100000 in
set_option maxHeartbeats 4000000 in
theorem b_MO_sumSign_0 {l : Launch} {G : jj_G} {C : mo_C} {u0 o d : Nat} {u : Nat} {h : jj_H} (hG : jj_tyG G) (hk : mo_k C) (hdd : 2 ≤ d) (hle : u = u0) (hq : Pq G C u o h) : jj_P l G y_MO_sumSign d (mq_I G C o (mq_G C u0)) 0 [some (.ref (C.2.1 0))] [] h := by
  refine jj_aload_n (j := 0) (by decide +kernel) rfl ?_
  refine jj_bipush (n := 43) (v := 43) (by decide +kernel) (by decide) ?_
  refine mq_ci (mq_i hq (fun g hm => m_isMark (d := d - 1) (x := 43) hG hk (by decide) (by decide) (by omega) hm) (fun _ _ q => q)) (fun o1 h1 hC => jj_callV ok_MO_isMark ml_MO_144 im_MO_isMark se_MO_MO_isMark (by decide +kernel) hq.rcv rfl (by omega) (Nat.le_of_ble_eq_true rfl) hC) (fun v1 u1 h hp1 hq => ?_)
  obtain ⟨e1, -, hf1⟩ := hp1
  rw [e1] at hq
  refine jj_if_eq (off := 8) (tgt := 14) (by decide +kernel) (by decide) (fun c2 => ?_) (fun c2 => ?_)
  · skip
    refine jj_aload_n (j := 0) (by decide +kernel) rfl ?_
    refine jj_bipush (n := 45) (v := 45) (by decide +kernel) (by decide) ?_
    refine mq_ci (mq_i hq (fun g hm => m_isMark (d := d - 1) (x := 45) hG hk (by decide) (by decide) (by omega) hm) (fun _ _ q => q)) (fun o1 h1 hC => jj_callV ok_MO_isMark ml_MO_144 im_MO_isMark se_MO_MO_isMark (by decide +kernel) hq.rcv rfl (by omega) (Nat.le_of_ble_eq_true rfl) hC) (fun v3 u3 h hp3 hq => ?_)
    obtain ⟨e3, -, hf3⟩ := hp3
    rw [e3] at hq
    refine jj_if_eq (off := 8) (tgt := 28) (by decide +kernel) (by decide) (fun c4 => ?_) (fun c4 => ?_)
    · skip
      refine jj_aload_n (j := 0) (by decide +kernel) rfl ?_
      refine jj_bipush (n := 38) (v := 38) (by decide +kernel) (by decide) ?_
      refine mq_ci (mq_i hq (fun g hm => m_isMark (d := d - 1) (x := 38) hG hk (by decide) (by decide) (by omega) hm) (fun _ _ q => q)) (fun o1 h1 hC => jj_callV ok_MO_isMark ml_MO_144 im_MO_isMark se_MO_MO_isMark (by decide +kernel) hq.rcv rfl (by omega) (Nat.le_of_ble_eq_true rfl) hC) (fun v5 u5 h hp5 hq => ?_)
      obtain ⟨e5, -, hf5⟩ := hp5
      rw [e5] at hq
      refine jj_if_eq (off := 8) (tgt := 42) (by decide +kernel) (by decide) (fun c6 => ?_) (fun c6 => ?_)
      · skip
        refine jj_iconst (n := (-1)) (v := (-1)) (by decide +kernel) (by decide) ?_
        exact jj_iret .int (by decide +kernel) rfl rfl ⟨_, u, rfl, ⟨hle, fun q => absurd rfl q⟩, hq⟩
      · skip
        have hz6 := hf5 c6
        refine jj_bipush (n := 14) (v := 14) (by decide +kernel) (by decide) ?_
        refine jj_goto (off := 4) (tgt := 43) (by decide +kernel) (by decide) ?_
        exact jj_iret .int (by decide +kernel) rfl rfl ⟨_, u, rfl, ⟨hle, fun _ => ⟨by omega, by rw [← hle]; exact hz6.2⟩⟩, hq⟩
    · skip
      have hz4 := hf3 c4
      refine jj_bipush (n := 13) (v := 13) (by decide +kernel) (by decide) ?_
      refine jj_goto (off := 18) (tgt := 43) (by decide +kernel) (by decide) ?_
      exact jj_iret .int (by decide +kernel) rfl rfl ⟨_, u, rfl, ⟨hle, fun _ => ⟨by omega, by rw [← hle]; exact hz4.2⟩⟩, hq⟩
  · skip
    have hz2 := hf1 c2
    refine jj_bipush (n := 12) (v := 12) (by decide +kernel) (by decide) ?_
    refine jj_goto (off := 32) (tgt := 43) (by decide +kernel) (by decide) ?_
    exact jj_iret .int (by decide +kernel) rfl rfl ⟨_, u, rfl, ⟨hle, fun _ => ⟨by omega, by rw [← hle]; exact hz2.2⟩⟩, hq⟩
theorem q_MO_sumSign {l : Launch} {G : jj_G} {C : mo_C} {u0 o d : Nat} {h : jj_H} (hG : jj_tyG G) (hk : mo_k C) (hdd : 2 ≤ d) (hq : Pq G C u0 o h) : jj_Q l G y_MO_sumSign d [.ref (C.2.1 0)] h (mq_I G C o (mq_G C u0)) :=
  jj_Q.of (by decide +kernel) (Nat.le_of_ble_eq_true rfl) (b_MO_sumSign_0 (o := o) hG hk hdd rfl hq)
set_option maxRecDepth 100000 in
set_option maxHeartbeats 4000000 in
theorem b_MO_termSign_0 {l : Launch} {G : jj_G} {C : mo_C} {u0 o d : Nat} {u : Nat} {h : jj_H} (hG : jj_tyG G) (hk : mo_k C) (hdd : 6 ≤ d) (hle : u = u0) (hq : Pq G C u o h) : jj_P l G y_MO_termSign d (mq_I G C o (mq_G C u0)) 0 [some (.ref (C.2.1 0))] [] h := by
  refine jj_aload_n (j := 0) (by decide +kernel) rfl ?_
  refine jj_bipush (n := 42) (v := 42) (by decide +kernel) (by decide) ?_
  refine mq_ci (mq_i hq (fun g hm => m_isMark (d := d - 1) (x := 42) hG hk (by decide) (by decide) (by omega) hm) (fun _ _ q => q)) (fun o1 h1 hC => jj_callV ok_MO_isMark ml_MO_144 im_MO_isMark se_MO_MO_isMark (by decide +kernel) hq.rcv rfl (by omega) (Nat.le_of_ble_eq_true rfl) hC) (fun v1 u1 h hp1 hq => ?_)
  obtain ⟨e1, -, hf1⟩ := hp1
  rw [e1] at hq
  refine jj_if_eq (off := 8) (tgt := 14) (by decide +kernel) (by decide) (fun c2 => ?_) (fun c2 => ?_)
  · skip
    refine jj_aload_n (j := 0) (by decide +kernel) rfl ?_
    refine jj_bipush (n := 47) (v := 47) (by decide +kernel) (by decide) ?_
    refine mq_ci (mq_i hq (fun g hm => m_isMark (d := d - 1) (x := 47) hG hk (by decide) (by decide) (by omega) hm) (fun _ _ q => q)) (fun o1 h1 hC => jj_callV ok_MO_isMark ml_MO_144 im_MO_isMark se_MO_MO_isMark (by decide +kernel) hq.rcv rfl (by omega) (Nat.le_of_ble_eq_true rfl) hC) (fun v3 u3 h hp3 hq => ?_)
    obtain ⟨e3, -, hf3⟩ := hp3
    rw [e3] at hq
    refine jj_if_eq (off := 8) (tgt := 28) (by decide +kernel) (by decide) (fun c4 => ?_) (fun c4 => ?_)
    · skip
      refine jj_aload_n (j := 0) (by decide +kernel) rfl ?_
      refine jj_ldcW (index := 432) (i := 26) (tx := "mod") (by decide +kernel) (List.mem_of_getElem? (i := 27) rfl) ?_
      refine mq_ci (mq_i hq (fun g hm => m_isWord (d := d - 1) (i := 26) hG hk (by decide) (by omega) hm) (fun _ _ q => q)) (fun o1 h1 hC => jj_callV ok_MO_isWord ml_MO_137 im_MO_isWord se_MO_MO_isWord (by decide +kernel) hq.rcv rfl (by omega) (Nat.le_of_ble_eq_true rfl) hC) (fun v5 u5 h hp5 hq => ?_)
      obtain ⟨e5, -, hf5⟩ := hp5
      rw [e5] at hq
      refine jj_if_eq (off := 8) (tgt := 43) (by decide +kernel) (by decide) (fun c6 => ?_) (fun c6 => ?_)
      · skip
        refine jj_aload_n (j := 0) (by decide +kernel) rfl ?_
        refine jj_ldcW (index := 434) (i := 27) (tx := "rem") (by decide +kernel) (List.mem_of_getElem? (i := 28) rfl) ?_
        refine mq_ci (mq_i hq (fun g hm => m_isWord (d := d - 1) (i := 27) hG hk (by decide) (by omega) hm) (fun _ _ q => q)) (fun o1 h1 hC => jj_callV ok_MO_isWord ml_MO_137 im_MO_isWord se_MO_MO_isWord (by decide +kernel) hq.rcv rfl (by omega) (Nat.le_of_ble_eq_true rfl) hC) (fun v7 u7 h hp7 hq => ?_)
        obtain ⟨e7, -, hf7⟩ := hp7
        rw [e7] at hq
        refine jj_if_eq (off := 8) (tgt := 58) (by decide +kernel) (by decide) (fun c8 => ?_) (fun c8 => ?_)
        · skip
          refine jj_iconst (n := (-1)) (v := (-1)) (by decide +kernel) (by decide) ?_
          exact jj_iret .int (by decide +kernel) rfl rfl ⟨_, u, rfl, ⟨hle, fun q => absurd rfl q⟩, hq⟩
        · skip
          have hz8 := hf7 c8
          refine jj_bipush (n := 18) (v := 18) (by decide +kernel) (by decide) ?_
          refine jj_goto (off := 4) (tgt := 59) (by decide +kernel) (by decide) ?_
          exact jj_iret .int (by decide +kernel) rfl rfl ⟨_, u, rfl, ⟨hle, fun _ => ⟨by omega, by rw [← hle]; exact hz8.2⟩⟩, hq⟩
      · skip
        have hz6 := hf5 c6
        refine jj_bipush (n := 17) (v := 17) (by decide +kernel) (by decide) ?_
        refine jj_goto (off := 19) (tgt := 59) (by decide +kernel) (by decide) ?_
        exact jj_iret .int (by decide +kernel) rfl rfl ⟨_, u, rfl, ⟨hle, fun _ => ⟨by omega, by rw [← hle]; exact hz6.2⟩⟩, hq⟩
    · skip
      have hz4 := hf3 c4
      refine jj_bipush (n := 16) (v := 16) (by decide +kernel) (by decide) ?_
      refine jj_goto (off := 34) (tgt := 59) (by decide +kernel) (by decide) ?_
      exact jj_iret .int (by decide +kernel) rfl rfl ⟨_, u, rfl, ⟨hle, fun _ => ⟨by omega, by rw [← hle]; exact hz4.2⟩⟩, hq⟩
  · skip
    have hz2 := hf1 c2
    refine jj_bipush (n := 15) (v := 15) (by decide +kernel) (by decide) ?_
    refine jj_goto (off := 48) (tgt := 59) (by decide +kernel) (by decide) ?_
    exact jj_iret .int (by decide +kernel) rfl rfl ⟨_, u, rfl, ⟨hle, fun _ => ⟨by omega, by rw [← hle]; exact hz2.2⟩⟩, hq⟩
theorem q_MO_termSign {l : Launch} {G : jj_G} {C : mo_C} {u0 o d : Nat} {h : jj_H} (hG : jj_tyG G) (hk : mo_k C) (hdd : 6 ≤ d) (hq : Pq G C u0 o h) : jj_Q l G y_MO_termSign d [.ref (C.2.1 0)] h (mq_I G C o (mq_G C u0)) :=
  jj_Q.of (by decide +kernel) (Nat.le_of_ble_eq_true rfl) (b_MO_termSign_0 (o := o) hG hk hdd rfl hq)
set_option maxRecDepth 100000 in
set_option maxHeartbeats 4000000 in
theorem b_MO_behind_121 {l : Launch} {G : jj_G} {C : mo_C} {u0 o d : Nat} {m : Nat} {x1 : Int32} {u : Nat} {h : jj_H} {x2 x3 : Int32} (hG : jj_tyG G) (hk : mo_k C) (ho : u0 = 0 ∨ o + m = 41) (hE : 0 < m → mo_Ex l G C (m - 1)) (hdd : 11 + 20 * m ≤ d) (hm1 : 0 < m) (hle : u ≤ u0 - 1) (hq : Pq G C u (o + 1) h) : jj_P l G y_MO_behind d (mq_V G C o (fun u' => u' ≤ u0)) 121 [some (.ref (C.2.1 0)), some (.int x1), some (.int x2), some (.int x3)] [] h := by
  refine jj_aload_n (j := 0) (by decide +kernel) rfl ?_
  refine jj_bipush (n := 41) (v := 41) (by decide +kernel) (by decide) ?_
  refine mq_cv (mq_v hq (fun g hm => m_closes (d := d - 1) (x := 41) hG hk (by decide) (by decide) (by omega) hm)) (fun o1 h1 hC => jj_callV ok_MO_closes ml_MO_312 im_MO_closes se_MO_MO_closes (by decide +kernel) hq.rcv rfl (by omega) (Nat.le_of_ble_eq_true rfl) hC) (fun u1 h hp1 hq => ?_)
  refine jj_aload_n (j := 0) (by decide +kernel) rfl ?_
  refine jj_iload_n (j := 2) (by decide +kernel) rfl ?_
  refine jj_iload_n (j := 1) (by decide +kernel) rfl ?_
  refine jj_iload_n (j := 3) (by decide +kernel) rfl ?_
  refine mq_cv (mq_v hq (fun g hm => m_lay (d := d - 1) hG hk (by omega) hm)) (fun o1 h1 hC => jj_callV ok_MO_lay ml_MO_166 im_MO_lay se_MO_MO_lay (by decide +kernel) hq.rcv rfl (by omega) (Nat.le_of_ble_eq_true rfl) hC) (fun u2 h hp2 hq => ?_)
  exact jj_vret (by decide +kernel) rfl ⟨rfl, u2, by omega, hq⟩
set_option maxRecDepth 100000 in
set_option maxHeartbeats 4000000 in
theorem b_MO_behind_96 {l : Launch} {G : jj_G} {C : mo_C} {u0 o d : Nat} {m : Nat} {x1 : Int32} (hG : jj_tyG G) (hk : mo_k C) (ho : u0 = 0 ∨ o + m = 41) (hE : 0 < m → mo_Ex l G C (m - 1)) (hdd : 11 + 20 * m ≤ d) (hm1 : 0 < m) : ∀ (n : Nat) (x2 : Int32) (x3 : Int32) (u : Nat) (h : jj_H), u < n → u ≤ u0 - 1 → Pq G C u (o + 1) h → jj_P l G y_MO_behind d (mq_V G C o (fun u' => u' ≤ u0)) 96 [some (.ref (C.2.1 0)), some (.int x1), some (.int x2), some (.int x3)] [] h := by
  intro n
  induction n with
  | zero => intro x2 x3 u h hn0; exact absurd hn0 (Nat.not_lt_zero _)
  | succ n ih =>
    intro x2 x3 u h hn0 hle hq
    refine jj_iload_n (j := 2) (by decide +kernel) rfl ?_
    refine jj_bipush (n := 22) (v := 22) (by decide +kernel) (by decide) ?_
    refine jj_icmp_ne (off := 22) (tgt := 121) (by decide +kernel) (by decide) (fun c1 => ?_) (fun c1 => ?_)
    · skip
      exact jj_wk (js_s (js_s (js_s (js_s js_0)))) (b_MO_behind_121 (o := o) hG hk ho hE hdd hm1 (by omega) hq)
    · skip
      refine jj_aload_n (j := 0) (by decide +kernel) rfl ?_
      refine jj_bipush (n := 44) (v := 44) (by decide +kernel) (by decide) ?_
      refine mq_ci (mq_k hq (fun g hm => m_takesMark (d := d - 1) (x := 44) hG hk (by decide) (by decide) (by omega) hm)) (fun o1 h1 hC => jj_callV ok_MO_takesMark ml_MO_157 im_MO_takesMark se_MO_MO_takesMark (by decide +kernel) hq.rcv rfl (by omega) (Nat.le_of_ble_eq_true rfl) hC) (fun v2 u2 h hp2 hq => ?_)
      obtain ⟨hp2, hf2⟩ := hp2
      refine jj_if_eq (off := 13) (tgt := 121) (by decide +kernel) (by decide) (fun c3 => ?_) (fun c3 => ?_)
      · skip
        exact jj_wk (js_s (js_s (js_s (js_s js_0)))) (b_MO_behind_121 (o := o) hG hk ho hE hdd hm1 (by omega) hq)
      · skip
        have hz3 := hf2 c3
        refine jj_aload_n (j := 0) (by decide +kernel) rfl ?_
        refine mq_cv (hE hm1 _ _ _ (d - 1) (by omega) hq (by omega)) (fun o1 h1 hC => jj_callV ok_MO_expression ml_MO_226 im_MO_expression se_MO_MO_expression (by decide +kernel) hq.rcv rfl (by omega) (Nat.le_of_ble_eq_true rfl) hC) (fun u4 h hp4 hq => ?_)
        refine jj_iinc (i := 3) (n := 1) (by decide +kernel) rfl rfl (by decide) rfl ?_
        refine jj_goto (off := (-22)) (tgt := 96) (by decide +kernel) (by decide) ?_
        exact jj_wk (js_s (js_s (js_s (js_s js_0)))) (ih _ _ u4 _ (by omega) (by omega) hq)
set_option maxRecDepth 100000 in
set_option maxHeartbeats 4000000 in
theorem b_MO_behind_77 {l : Launch} {G : jj_G} {C : mo_C} {u0 o d : Nat} {m : Nat} {x1 : Int32} {u : Nat} {h : jj_H} {y0 : Int32} (hG : jj_tyG G) (hk : mo_k C) (ho : u0 = 0 ∨ o + m = 41) (hE : 0 < m → mo_Ex l G C (m - 1)) (hdd : 11 + 20 * m ≤ d) (hm1 : 0 < m) (hle : u ≤ u0 - 1) (hfy0 : y0 ≠ 22 → 0 < u ∧ mo_nl C u) (hq : Pq G C u (o + 1) h) : jj_P l G y_MO_behind d (mq_V G C o (fun u' => u' ≤ u0)) 77 [some (.ref (C.2.1 0)), some (.int x1), none, none] [.int y0] h := by
  refine jj_istore_n (j := 2) (by decide +kernel) (by decide) rfl ?_
  refine jj_iconst (n := 1) (v := 1) (by decide +kernel) (by decide) ?_
  refine jj_istore_n (j := 3) (by decide +kernel) (by decide) rfl ?_
  refine jj_iload_n (j := 2) (by decide +kernel) rfl ?_
  refine jj_bipush (n := 22) (v := 22) (by decide +kernel) (by decide) ?_
  refine jj_icmp_le (off := 13) (tgt := 96) (by decide +kernel) (by decide) (fun c1 => ?_) (fun c1 => ?_)
  · skip
    exact jj_wk (js_s (js_s (js_s (js_s js_0)))) (b_MO_behind_96 (o := o) hG hk ho hE hdd hm1 _ _ _ u _ (Nat.lt_succ_self _) (by omega) hq)
  · skip
    have hz1 := hfy0 (fun e9 => c1 (by rw [e9]; decide))
    refine jj_aload_n (j := 0) (by decide +kernel) rfl ?_
    refine mq_cv (mq_v hq (fun g hm => m_on (d := d - 1) hG hk hz1.2 (by omega) hm)) (fun o1 h1 hC => jj_callV ok_MO_on ml_MO_141 im_MO_on se_MO_MO_on (by decide +kernel) hq.rcv rfl (by omega) (Nat.le_of_ble_eq_true rfl) hC) (fun u2 h hp2 hq => ?_)
    refine jj_aload_n (j := 0) (by decide +kernel) rfl ?_
    refine mq_cv (hE hm1 _ _ _ (d - 1) (by omega) hq (by omega)) (fun o1 h1 hC => jj_callV ok_MO_expression ml_MO_226 im_MO_expression se_MO_MO_expression (by decide +kernel) hq.rcv rfl (by omega) (Nat.le_of_ble_eq_true rfl) hC) (fun u3 h hp3 hq => ?_)
    refine jj_iconst (n := 2) (v := 2) (by decide +kernel) (by decide) ?_
    refine jj_istore_n (j := 3) (by decide +kernel) (by decide) rfl ?_
    exact jj_wk (js_s (js_s (js_s (js_s js_0)))) (b_MO_behind_96 (o := o) hG hk ho hE hdd hm1 _ _ _ u3 _ (Nat.lt_succ_self _) (by omega) hq)
set_option maxRecDepth 100000 in
set_option maxHeartbeats 4000000 in
theorem b_MO_behind_0 {l : Launch} {G : jj_G} {C : mo_C} {u0 o d : Nat} {m : Nat} {x1 : Int32} {u : Nat} {h : jj_H} (hG : jj_tyG G) (hk : mo_k C) (ho : u0 = 0 ∨ o + m = 41) (hE : 0 < m → mo_Ex l G C (m - 1)) (hdd : 11 + 20 * m ≤ d) (hle : u ≤ u0) (hq : Pq G C u o h) : jj_P l G y_MO_behind d (mq_V G C o (fun u' => u' ≤ u0)) 0 [some (.ref (C.2.1 0)), some (.int x1), none, none] [] h := by
  refine jj_aload_n (j := 0) (by decide +kernel) rfl ?_
  refine jj_bipush (n := 39) (v := 39) (by decide +kernel) (by decide) ?_
  refine mq_ci (mq_k hq (fun g hm => m_takesMark (d := d - 1) (x := 39) hG hk (by decide) (by decide) (by omega) hm)) (fun o1 h1 hC => jj_callV ok_MO_takesMark ml_MO_157 im_MO_takesMark se_MO_MO_takesMark (by decide +kernel) hq.rcv rfl (by omega) (Nat.le_of_ble_eq_true rfl) hC) (fun v1 u1 h hp1 hq => ?_)
  obtain ⟨hp1, hf1⟩ := hp1
  refine jj_if_eq (off := 16) (tgt := 22) (by decide +kernel) (by decide) (fun c2 => ?_) (fun c2 => ?_)
  · skip
    refine jj_aload_n (j := 0) (by decide +kernel) rfl ?_
    refine jj_bipush (n := 40) (v := 40) (by decide +kernel) (by decide) ?_
    refine mq_ci (mq_i hq (fun g hm => m_isMark (d := d - 1) (x := 40) hG hk (by decide) (by decide) (by omega) hm) (fun _ _ q => q)) (fun o1 h1 hC => jj_callV ok_MO_isMark ml_MO_144 im_MO_isMark se_MO_MO_isMark (by decide +kernel) hq.rcv rfl (by omega) (Nat.le_of_ble_eq_true rfl) hC) (fun v3 u3 h hp3 hq => ?_)
    obtain ⟨e3, -, hf3⟩ := hp3
    rw [e3] at hq
    refine jj_if_ne (off := 11) (tgt := 39) (by decide +kernel) (by decide) (fun c4 => ?_) (fun c4 => ?_)
    · skip
      have hz4 := hf3 c4
      refine jj_aload_n (j := 0) (by decide +kernel) rfl ?_
      have hm1 : 0 < m := by have h40 := hq.le (by omega); omega
      refine mq_cv (mq_v hq (fun g hm => m_opens (d := d - 1) hG hk hz4.2 (by omega) hm)) (fun o1 h1 hC => jj_callV ok_MO_opens ml_MO_304 im_MO_opens se_MO_MO_opens (by decide +kernel) hq.rcv rfl (by omega) (Nat.le_of_ble_eq_true rfl) hC) (fun u5 h hp5 hq => ?_)
      obtain ⟨hp5, hq5⟩ := hp5
      refine jj_aload_n (j := 0) (by decide +kernel) rfl ?_
      refine mq_cv (hE hm1 _ _ _ (d - 1) (by omega) hq (by omega)) (fun o1 h1 hC => jj_callV ok_MO_expression ml_MO_226 im_MO_expression se_MO_MO_expression (by decide +kernel) hq.rcv rfl (by omega) (Nat.le_of_ble_eq_true rfl) hC) (fun u6 h hp6 hq => ?_)
      refine jj_aload_n (j := 0) (by decide +kernel) rfl ?_
      refine jj_ldcS (index := 235) (i := 24) (tx := "to") (by decide +kernel) (List.mem_of_getElem? (i := 25) rfl) ?_
      refine mq_ci (mq_i hq (fun g hm => m_isWord (d := d - 1) (i := 24) hG hk (by decide) (by omega) hm) (fun _ _ q => q)) (fun o1 h1 hC => jj_callV ok_MO_isWord ml_MO_137 im_MO_isWord se_MO_MO_isWord (by decide +kernel) hq.rcv rfl (by omega) (Nat.le_of_ble_eq_true rfl) hC) (fun v7 u7 h hp7 hq => ?_)
      obtain ⟨e7, -, hf7⟩ := hp7
      rw [e7] at hq
      refine jj_if_eq (off := 8) (tgt := 61) (by decide +kernel) (by decide) (fun c8 => ?_) (fun c8 => ?_)
      · skip
        refine jj_aload_n (j := 0) (by decide +kernel) rfl ?_
        refine jj_ldcS (index := 237) (i := 25) (tx := "downto") (by decide +kernel) (List.mem_of_getElem? (i := 26) rfl) ?_
        refine mq_ci (mq_i hq (fun g hm => m_isWord (d := d - 1) (i := 25) hG hk (by decide) (by omega) hm) (fun _ _ q => q)) (fun o1 h1 hC => jj_callV ok_MO_isWord ml_MO_137 im_MO_isWord se_MO_MO_isWord (by decide +kernel) hq.rcv rfl (by omega) (Nat.le_of_ble_eq_true rfl) hC) (fun v9 u9 h hp9 hq => ?_)
        obtain ⟨e9, -, hf9⟩ := hp9
        rw [e9] at hq
        refine jj_if_eq (off := 8) (tgt := 75) (by decide +kernel) (by decide) (fun c10 => ?_) (fun c10 => ?_)
        · skip
          refine jj_bipush (n := 22) (v := 22) (by decide +kernel) (by decide) ?_
          exact jj_wk (js_s (js_s (js_n (js_n js_0)))) (b_MO_behind_77 (o := o) hG hk ho hE hdd hm1 (by omega) (fun q => absurd rfl q) hq)
        · skip
          have hz10 := hf9 c10
          refine jj_bipush (n := 24) (v := 24) (by decide +kernel) (by decide) ?_
          refine jj_goto (off := 5) (tgt := 77) (by decide +kernel) (by decide) ?_
          exact jj_wk (js_s (js_s (js_n (js_n js_0)))) (b_MO_behind_77 (o := o) hG hk ho hE hdd hm1 (by omega) (fun _ => ⟨by omega, hz10.2⟩) hq)
      · skip
        have hz8 := hf7 c8
        refine jj_bipush (n := 23) (v := 23) (by decide +kernel) (by decide) ?_
        refine jj_goto (off := 19) (tgt := 77) (by decide +kernel) (by decide) ?_
        exact jj_wk (js_s (js_s (js_n (js_n js_0)))) (b_MO_behind_77 (o := o) hG hk ho hE hdd hm1 (by omega) (fun _ => ⟨by omega, hz8.2⟩) hq)
    · skip
      refine jj_aload_n (j := 0) (by decide +kernel) rfl ?_
      refine jj_iconst (n := 1) (v := 1) (by decide +kernel) (by decide) ?_
      refine jj_iload_n (j := 1) (by decide +kernel) rfl ?_
      refine jj_iconst (n := 0) (v := 0) (by decide +kernel) (by decide) ?_
      refine mq_cv (mq_v hq (fun g hm => m_lay (d := d - 1) hG hk (by omega) hm)) (fun o1 h1 hC => jj_callV ok_MO_lay ml_MO_166 im_MO_lay se_MO_MO_lay (by decide +kernel) hq.rcv rfl (by omega) (Nat.le_of_ble_eq_true rfl) hC) (fun u11 h hp11 hq => ?_)
      exact jj_vret (by decide +kernel) rfl ⟨rfl, u11, by omega, hq⟩
  · skip
    have hz2 := hf1 c2
    refine jj_aload_n (j := 0) (by decide +kernel) rfl ?_
    refine mq_cv (mq_v hq (fun g hm => m_nameNode (d := d - 1) hG hk (by omega) hm)) (fun o1 h1 hC => jj_callV ok_MO_nameNode ml_MO_241 im_MO_nameNode se_MO_MO_nameNode (by decide +kernel) hq.rcv rfl (by omega) (Nat.le_of_ble_eq_true rfl) hC) (fun u12 h hp12 hq => ?_)
    refine jj_aload_n (j := 0) (by decide +kernel) rfl ?_
    refine jj_bipush (n := 25) (v := 25) (by decide +kernel) (by decide) ?_
    refine jj_iload_n (j := 1) (by decide +kernel) rfl ?_
    refine jj_iconst (n := 1) (v := 1) (by decide +kernel) (by decide) ?_
    refine mq_cv (mq_v hq (fun g hm => m_lay (d := d - 1) hG hk (by omega) hm)) (fun o1 h1 hC => jj_callV ok_MO_lay ml_MO_166 im_MO_lay se_MO_MO_lay (by decide +kernel) hq.rcv rfl (by omega) (Nat.le_of_ble_eq_true rfl) hC) (fun u13 h hp13 hq => ?_)
    exact jj_vret (by decide +kernel) rfl ⟨rfl, u13, by omega, hq⟩
theorem q_MO_behind {l : Launch} {G : jj_G} {C : mo_C} {u0 o d : Nat} {m : Nat} {x1 : Int32} {h : jj_H} (hG : jj_tyG G) (hk : mo_k C) (ho : u0 = 0 ∨ o + m = 41) (hE : 0 < m → mo_Ex l G C (m - 1)) (hdd : 11 + 20 * m ≤ d) (hq : Pq G C u0 o h) : jj_Q l G y_MO_behind d [.ref (C.2.1 0), .int x1] h (mq_V G C o (fun u' => u' ≤ u0)) :=
  jj_Q.of (by decide +kernel) (Nat.le_of_ble_eq_true rfl) (b_MO_behind_0 (o := o) hG hk ho hE hdd (Nat.le_refl _) hq)
