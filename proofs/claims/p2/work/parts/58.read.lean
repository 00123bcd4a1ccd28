def rd_F (G : jj_G) (h0 : jj_H) (A : Nat → Nat) (N : Nat) : jj_O → jj_H → Prop := fun out h' => ∃ (v : Int32) (T' M' : Nat) (c' : Nat → Nat → Int32) (wr nw ow : Int32) (g : Nat), out = .inl (some (.int v)) ∧ M' ≤ 1000 ∧ mo_nm (c' 10) M' 16519 ∧ Pb G (h0, A, N, T', M', c') wr nw ow g h'
set_option maxRecDepth 100000 in
set_option maxHeartbeats 4000000 in
theorem b_MO_read_109 {l : Launch} {G : jj_G} {h0 : jj_H} {A : Nat → Nat} {N T M : Nat} {c : Nat → Nat → Int32} {d : Nat} (hi : mo_inj A) (hG : jj_tyG G) (hk : mo_k (h0, A, N, T, M, c)) (hM : M ≤ 1000) (hnm : mo_nm (c 10) M 16519) (hdd : 900 ≤ d) {u : Nat} {x1 : Int32} {h : jj_H} (hq : Pq G (h0, A, N, T, M, c) u 0 h) : jj_P l G y_MO_read d (rd_F G h0 A N) 109 [some (.ref (A 0)), some (.int x1)] [] h := by
  refine jj_aload_n (j := 0) (by decide +kernel) rfl ?_
  refine jj_bipush (n := 74) (v := 74) (by decide +kernel) (by decide) ?_
  refine jj_iconst (n := 0) (v := 0) (by decide +kernel) (by decide) ?_
  refine jj_iload_n (j := 1) (by decide +kernel) rfl ?_
  refine mq_cv (mq_v hq (fun g hm => m_lay (d := d - 1) hG hk (by omega) hm)) (fun o1 h1 hC => jj_callV ok_MO_lay ml_MO_166 im_MO_lay se_MO_MO_lay (by decide +kernel) hq.rcv rfl (by omega) (Nat.le_of_ble_eq_true rfl) hC) (fun u1 h hp1 hq => ?_)
  obtain ⟨g, wr, nw, ow, hb, -⟩ := hq
  obtain ⟨th, wh, S, b0, hS, hg, a1, a5, a6, a7, a9, a10, nd, fr, hz⟩ := hb.un
  refine jj_aload_n (j := 0) (by decide +kernel) rfl ?_
  refine jj_getfield 3 ck_MO fl_MO_120 (by decide) (by decide +kernel) b0 rfl ?_
  have K133 : ∀ (M' : Nat) (c' : Nat → Nat → Int32) (h : jj_H), M' ≤ 1000 → mo_nm (c' 10) M' 16519 → Pb G (h0, A, N, T, M', c') wr nw ow g h → jj_P l G y_MO_read d (rd_F G h0 A N) 133 [some (.ref (A 0)), some (.int x1)] [] h := by
    intro M' c' h g1 g2 hb
    obtain ⟨th, wh, S, b0, hS, hg, a1, a5, a6, a7, a9, a10, nd, fr, hz⟩ := hb.un
    refine jj_aload_n (j := 0) (by decide +kernel) rfl ?_
    refine jj_getfield 3 ck_MO fl_MO_120 (by decide) (by decide +kernel) b0 rfl ?_
    exact jj_iret .int (by decide +kernel) rfl rfl ⟨_, T, M', c', wr, nw, ow, g, rfl, g1, g2, hb⟩
  refine jj_if_le (off := 12) (tgt := 133) (by decide +kernel) (by decide) (fun c1 => K133 M c _ hM hnm hb) (fun c1 => ?_)
  refine jj_aload_n (j := 0) (by decide +kernel) rfl ?_
  refine jj_iconst (n := 0) (v := nI 0) (by decide +kernel) (by decide) ?_
  refine jj_putfield 15 ck_MO fl_MO_160 (by decide) rfl (by decide +kernel) b0 rfl rfl (Nat.lt_of_sub_eq_succ rfl) ?_
  have hb := hb.obj hi th wr wh nw ow N T M (S := 0) (Nat.zero_le _) hg
  refine jj_aload_n (j := 0) (by decide +kernel) rfl ?_
  refine jj_callr (m_firstNames (d := d - 1) hi hG hb hnm.at0 (by omega)) (fun o1 h1 hC => jj_callV ok_MO_firstNames ml_MO_45 im_MO_firstNames se_MO_MO_firstNames (by decide +kernel) hb.rcv rfl (by omega) (Nat.le_of_ble_eq_true rfl) hC) (by rintro E h1 ⟨q, -⟩; cases q) ?_
  rintro v h2 ⟨hv, M1, c1, hM1, hc1, hnm1, hb⟩
  cases hv
  exact K133 M1 c1 h2 hM1 (hnm1.le (by omega)) hb
set_option maxRecDepth 100000 in
set_option maxHeartbeats 4000000 in
theorem b_MO_read_52 {l : Launch} {G : jj_G} {h0 : jj_H} {A : Nat → Nat} {N T M : Nat} {c : Nat → Nat → Int32} {d : Nat} (hi : mo_inj A) (hG : jj_tyG G) (hk : mo_k (h0, A, N, T, M, c)) (hM : M ≤ 1000) (hnm : mo_nm (c 10) M 16519) (hdd : 900 ≤ d) : ∀ (n u : Nat) (x1 : Int32) (h : jj_H), u < n → Pq G (h0, A, N, T, M, c) u 0 h → jj_P l G y_MO_read d (rd_F G h0 A N) 52 [some (.ref (A 0)), some (.int x1)] [] h := by
  intro n
  induction n with
  | zero => intro u x1 h hn; exact absurd hn (Nat.not_lt_zero _)
  | succ n ih =>
    intro u x1 h hn hq
    have K89 : ∀ (u1 : Nat) (h : jj_H), (u1 < u ∨ u1 = 0) → Pq G (h0, A, N, T, M, c) u1 0 h → jj_P l G y_MO_read d (rd_F G h0 A N) 89 [some (.ref (A 0)), some (.int x1)] [] h := by
      intro u1 h hu hq
      refine jj_iinc (i := 1) (n := 1) (by decide +kernel) rfl rfl (by decide) rfl ?_
      obtain ⟨g, wr, nw, ow, hb, hx⟩ := id hq
      obtain ⟨th, wh, S, b0, hS, hg, a1, a5, a6, a7, a9, a10, nd, fr, hz⟩ := hb.un
      refine jj_aload_n (j := 0) (by decide +kernel) rfl ?_
      refine jj_getfield 3 ck_MO fl_MO_120 (by decide) (by decide +kernel) b0 rfl ?_
      refine jj_if_ne (off := 13) (tgt := 109) (by decide +kernel) (by decide) (fun c1 => b_MO_read_109 hi hG hk hM hnm hdd hq) (fun c1 => ?_)
      have hu1 : 0 < u1 := by
        rcases hx with ⟨-, q⟩ | ⟨q, -⟩
        · rw [c1] at q
          exact absurd q (by decide)
        · exact q
      refine jj_aload_n (j := 0) (by decide +kernel) rfl ?_
      refine mq_ci (mq_i hq (fun g hm => m_kind (d := d - 1) hG hk hm) (fun _ _ q => q)) (fun o1 h1 hC => jj_callV ok_MO_kind ml_MO_130 im_MO_kind se_MO_MO_kind (by decide +kernel) hq.rcv rfl (by omega) (Nat.le_of_ble_eq_true rfl) hC) (fun v2 u2 h hp2 hq => ?_)
      obtain ⟨e2, -⟩ := hp2
      rw [e2] at hq
      refine jj_sipush (n := 2004) (v := 2004) (by decide +kernel) (by decide) ?_
      refine jj_icmp_ne (off := (-54)) (tgt := 52) (by decide +kernel) (by decide) (fun c3 => ih u1 _ h (by omega) hq) (fun c3 => b_MO_read_109 hi hG hk hM hnm hdd hq)
    refine jj_aload_n (j := 0) (by decide +kernel) rfl ?_
    refine jj_ldcS (index := 178) (i := 15) (tx := "unit") (by decide +kernel) (List.mem_of_getElem? (i := 16) rfl) ?_
    refine mq_ci (mq_i hq (fun g hm => m_isWord (d := d - 1) (i := 15) hG hk (by decide) (by omega) hm) (fun _ _ q => q)) (fun o1 h1 hC => jj_callV ok_MO_isWord ml_MO_137 im_MO_isWord se_MO_MO_isWord (by decide +kernel) hq.rcv rfl (by omega) (Nat.le_of_ble_eq_true rfl) hC) (fun v2 u2 h hp2 hq => ?_)
    obtain ⟨e2, -, hf2⟩ := hp2
    rw [e2] at hq
    refine jj_if_eq (off := 10) (tgt := 68) (by decide +kernel) (by decide) (fun c1 => ?_) (fun c1 => ?_)
    · refine jj_aload_n (j := 0) (by decide +kernel) rfl ?_
      refine jj_ldcS (index := 182) (i := 38) (tx := "body") (by decide +kernel) (List.mem_of_getElem? (i := 39) rfl) ?_
      refine mq_ci (mq_i hq (fun g hm => m_isWord (d := d - 1) (i := 38) hG hk (by decide) (by omega) hm) (fun _ _ q => q)) (fun o1 h1 hC => jj_callV ok_MO_isWord ml_MO_137 im_MO_isWord se_MO_MO_isWord (by decide +kernel) hq.rcv rfl (by omega) (Nat.le_of_ble_eq_true rfl) hC) (fun v3 u3 h hp3 hq => ?_)
      obtain ⟨e3, -, hf3⟩ := hp3
      rw [e3] at hq
      refine jj_if_eq (off := 10) (tgt := 84) (by decide +kernel) (by decide) (fun c2 => ?_) (fun c2 => ?_)
      · refine jj_aload_n (j := 0) (by decide +kernel) rfl ?_
        refine jj_iconst (n := 3) (v := 3) (by decide +kernel) (by decide) ?_
        refine mq_cv (mq_v hq (fun g hm => m_stop (d := d - 1) hG hk (by decide) hm)) (fun o1 h1 hC => jj_callV ok_MO_stop ml_MO_126 im_MO_stop se_MO_MO_stop (by decide +kernel) hq.rcv rfl (by omega) (Nat.le_of_ble_eq_true rfl) hC) (fun u4 h hp4 hq => ?_)
        exact K89 u4 h (Or.inr hp4) hq
      · have hz := hf3 c2
        refine jj_aload_n (j := 0) (by decide +kernel) rfl ?_
        refine mq_cv (q_MO_body (d := d - 1) (m := 41) hG hk (by omega) (by omega) hz.2 hz.1 hq) (fun o1 h1 hC => jj_callV ok_MO_body ml_MO_184 im_MO_body se_MO_MO_body (by decide +kernel) hq.rcv rfl (by omega) (Nat.le_of_ble_eq_true rfl) hC) (fun u4 h hp4 hq => ?_)
        refine jj_goto (off := 8) (tgt := 89) (by decide +kernel) (by decide) ?_
        exact K89 u4 h (Or.inl (by have hz1 := hz.1; omega)) hq
    · have hz := hf2 c1
      refine jj_aload_n (j := 0) (by decide +kernel) rfl ?_
      refine mq_cv (q_MO_unit (d := d - 1) (m := 41) hG hk (by omega) (by omega) hz.2 hz.1 hq) (fun o1 h1 hC => jj_callV ok_MO_unit ml_MO_180 im_MO_unit se_MO_MO_unit (by decide +kernel) hq.rcv rfl (by omega) (Nat.le_of_ble_eq_true rfl) hC) (fun u4 h hp4 hq => ?_)
      refine jj_goto (off := 24) (tgt := 89) (by decide +kernel) (by decide) ?_
      exact K89 u4 h (Or.inl (by have hz1 := hz.1; omega)) hq
set_option maxRecDepth 100000 in
set_option maxHeartbeats 4000000 in
theorem m_read {l : Launch} {G : jj_G} {h0 : jj_H} {A : Nat → Nat} {N T M : Nat} {c : Nat → Nat → Int32} {wr nw ow : Int32} {g d : Nat} {h : jj_H} (hi : mo_inj A) (hG : jj_tyG G) (hN : N ≤ 16384) (hnm : mo_nm (c 10) M 16519) (hb : Pb G (h0, A, N, T, M, c) wr nw ow g h) (hdd : 900 ≤ d) : jj_Q l G y_MO_read d [.ref (A 0)] h (rd_F G h0 A N) := by
  refine jj_Q.of (by decide +kernel) (Nat.le_of_ble_eq_true rfl) ?_
  obtain ⟨th, wh, S, b0, hS, hg, a1, a5, a6, a7, a9, a10, nd, fr, hz⟩ := hb.un
  refine jj_aload_n (j := 0) (by decide +kernel) rfl ?_
  refine jj_iconst (n := 0) (v := 0) (by decide +kernel) (by decide) ?_
  refine jj_putfield 3 ck_MO fl_MO_120 (by decide) rfl (by decide +kernel) b0 rfl rfl (Nat.lt_of_sub_eq_succ rfl) ?_
  have hb := hb.obj hi th 0 wh nw ow N T M hS hg
  obtain ⟨th, wh, S, b0, hS, hg, a1, a5, a6, a7, a9, a10, nd, fr, hz⟩ := hb.un
  refine jj_aload_n (j := 0) (by decide +kernel) rfl ?_
  refine jj_iconst (n := (-1)) (v := (-1)) (by decide +kernel) (by decide) ?_
  refine jj_putfield 4 ck_MO fl_MO_13 (by decide) rfl (by decide +kernel) b0 rfl rfl (Nat.lt_of_sub_eq_succ rfl) ?_
  have hb := hb.obj hi th 0 (-1) nw ow N T M hS hg
  obtain ⟨th, wh, S, b0, hS, hg, a1, a5, a6, a7, a9, a10, nd, fr, hz⟩ := hb.un
  refine jj_aload_n (j := 0) (by decide +kernel) rfl ?_
  refine jj_iconst (n := 0) (v := nI 0) (by decide +kernel) (by decide) ?_
  refine jj_putfield 15 ck_MO fl_MO_160 (by decide) rfl (by decide +kernel) b0 rfl rfl (Nat.lt_of_sub_eq_succ rfl) ?_
  have hb := hb.obj hi th 0 wh nw ow N T M (S := 0) (Nat.zero_le _) hg
  obtain ⟨th, wh, S, b0, hS, hg, a1, a5, a6, a7, a9, a10, nd, fr, hz⟩ := hb.un
  refine jj_aload_n (j := 0) (by decide +kernel) rfl ?_
  refine jj_iconst (n := 0) (v := nI 0) (by decide +kernel) (by decide) ?_
  refine jj_putfield 16 ck_MO fl_MO_123 (by decide) rfl (by decide +kernel) b0 rfl rfl (Nat.lt_of_sub_eq_succ rfl) ?_
  have hb := hb.obj hi th 0 wh (nI 0) ow N T M hS hg
  obtain ⟨th, wh, S, b0, hS, hg, a1, a5, a6, a7, a9, a10, nd, fr, hz⟩ := hb.un
  refine jj_aload_n (j := 0) (by decide +kernel) rfl ?_
  refine jj_iconst (n := 0) (v := nI 0) (by decide +kernel) (by decide) ?_
  refine jj_putfield 17 ck_MO fl_MO_169 (by decide) rfl (by decide +kernel) b0 rfl rfl (Nat.lt_of_sub_eq_succ rfl) ?_
  have hb := hb.obj hi th 0 wh (nI 0) (nI 0) N T M hS hg
  obtain ⟨th, wh, S, b0, hS, hg, a1, a5, a6, a7, a9, a10, nd, fr, hz⟩ := hb.un
  refine jj_aload_n (j := 0) (by decide +kernel) rfl ?_
  refine jj_callr (m_firstNames (d := d - 1) hi hG hb hnm.at0 (by omega)) (fun o1 h1 hC => jj_callV ok_MO_firstNames ml_MO_45 im_MO_firstNames se_MO_MO_firstNames (by decide +kernel) hb.rcv rfl (by omega) (Nat.le_of_ble_eq_true rfl) hC) (by rintro E h1 ⟨q, -⟩; cases q) ?_
  rintro v h2 ⟨hv, M1, c1, hM1, hc1, hnm1, hb⟩
  cases hv
  refine jj_aload_n (j := 0) (by decide +kernel) rfl ?_
  refine jj_callr (m_cutUp (d := d - 1) hi hG hN (by omega) hM1 hnm1 hb) (fun o1 h1 hC => jj_callV ok_MO_cutUp ml_MO_175 im_MO_cutUp se_MO_MO_cutUp (by decide +kernel) hb.rcv rfl (by omega) (Nat.le_of_ble_eq_true rfl) hC) (by rintro E h1 ⟨q, -⟩; cases q) ?_
  rintro v h ⟨hv, T2, M2, c2, e1, hM2, hnm2, hT1, hT2, hlast, htk, hb⟩
  cases hv
  have hk : mo_k (h0, A, N, T2, M2, c2) := ⟨hi, hN, hT1, hT2, hlast, htk.1, htk.2⟩
  have K50 : ∀ (u : Nat) (h : jj_H), Pq G (h0, A, N, T2, M2, c2) u 0 h → jj_P l G y_MO_read d (rd_F G h0 A N) 50 [some (.ref (A 0)), none] [] h := by
    intro u h hq
    refine jj_iconst (n := 0) (v := 0) (by decide +kernel) (by decide) ?_
    refine jj_istore_n (j := 1) (by decide +kernel) (by decide) rfl ?_
    exact b_MO_read_52 hi hG hk hM2 hnm2 hdd _ u 0 h (Nat.lt_succ_self _) hq
  obtain ⟨th, wh, S, b0, hS, hg, a1, a5, a6, a7, a9, a10, nd, fr, hz⟩ := hb.un
  refine jj_aload_n (j := 0) (by decide +kernel) rfl ?_
  refine jj_getfield 5 ck_MO fl_MO_17 (by decide) (by decide +kernel) b0 rfl ?_
  refine jj_iconst (n := 0) (v := nI 0) (by decide +kernel) (by decide) ?_
  refine jj_iaload (jj_tI hG) (by decide +kernel) a5 (vp_in_nI (show 0 < 16386 by omega) (by decide)) ?_
  rw [nI_clamp (show 0 < 2 ^ 31 by omega)]
  refine jj_sipush (n := 2005) (v := 2005) (by decide +kernel) (by decide) ?_
  refine jj_icmp_ne (off := 8) (tgt := 50) (by decide +kernel) (by decide) (fun c3 => ?_) (fun c3 => ?_)
  · refine K50 T2 h ⟨_, 0, nI 0, nI 0, hb, Or.inr ⟨hT1, Nat.le_refl _, rfl, ?_, rfl, by omega, ?_⟩⟩
    · show nI 0 = nI (T2 - T2)
      rw [Nat.sub_self]
    · show c2 5 (T2 - T2) ≠ 2005
      rw [Nat.sub_self]
      exact c3
  · refine jj_aload_n (j := 0) (by decide +kernel) rfl ?_
    refine jj_iconst (n := 0) (v := 0) (by decide +kernel) (by decide) ?_
    refine mo_cv (m_stop_raw (d := d - 1) (o := 0) (p := 0) hG hk hb hT1 (Or.inr c3)) (fun o1 h1 hC => jj_callV ok_MO_stop ml_MO_126 im_MO_stop se_MO_MO_stop (by decide +kernel) hb.rcv rfl (by omega) (Nat.le_of_ble_eq_true rfl) hC) (fun u4 h hp4 hm => ?_)
    exact K50 u4 h ⟨_, hm⟩
