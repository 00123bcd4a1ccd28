/-! the reference's calls, as the law asks them -/
def rf_own (A : Nat → Nat) (q : Nat) : Prop := ∃ i, mo_is i ∧ q = A i
def rf_R (G : jj_G) (A : Nat → Nat) (N : Nat) (t : Int32) (h : jj_H) : Prop := (∃ (T M : Nat) (c : Nat → Nat → Int32) (wr nw ow : Int32) (g : Nat), M ≤ 1000 ∧ mo_nm (c 10) M 16519 ∧ Pb G (h, A, N, T, M, c) wr nw ow g h) ∧ ∃ fs : List Value, h.1 (A 0) = some (.inr (6, .int t :: fs))
theorem rf_toT {G : jj_G} {A : Nat → Nat} {N T M : Nat} {c : Nat → Nat → Int32} {wr nw ow t : Int32} {g : Nat} {h h' : jj_H} {fs : List Value} (hM : M ≤ 1000) (hnm : mo_nm (c 10) M 16519) (hb : Pb G (h, A, N, T, M, c) wr nw ow g h') (ht : h'.1 (A 0) = some (.inr (6, .int t :: fs))) : rf_R G A N t h' ∧ (∀ q, ¬ rf_own A q → h'.1 q = h.1 q) ∧ h'.2 = h.2 := by
  obtain ⟨th, wh, S, b0, hS, hg, a, nd, fr, hz⟩ := id hb
  have hb' : Pb G (h', A, N, T, M, c) wr nw ow g h' := ⟨th, wh, S, b0, hS, hg, a, nd, fun q _ => rfl, rfl⟩
  exact ⟨⟨⟨T, M, c, wr, nw, ow, g, hM, hnm, hb'⟩, fs, ht⟩, fr, hz⟩
theorem rf_toR {G : jj_G} {A : Nat → Nat} {N T M : Nat} {c : Nat → Nat → Int32} {wr nw ow : Int32} {g : Nat} {h h' : jj_H} (hM : M ≤ 1000) (hnm : mo_nm (c 10) M 16519) (hb : Pb G (h, A, N, T, M, c) wr nw ow g h') : (∃ t, rf_R G A N t h') ∧ (∀ q, ¬ rf_own A q → h'.1 q = h.1 q) ∧ h'.2 = h.2 := by
  obtain ⟨th, wh, S, b0, -⟩ := id hb
  obtain ⟨r1, r2, r3⟩ := rf_toT hM hnm hb b0
  exact ⟨⟨th, r1⟩, r2, r3⟩
theorem rf_loc {G : jj_G} {A : Nat → Nat} {N : Nat} {t : Int32} {h h' : jj_H} (e : ∀ q, rf_own A q → h'.1 q = h.1 q) (hR : rf_R G A N t h) : rf_R G A N t h' := by
  obtain ⟨⟨T, M, c, wr, nw, ow, g, hM, hnm, hb⟩, fs, ht⟩ := hR
  obtain ⟨th, wh, S, b0, hS, hg, a1, a5, a6, a7, a9, a10, nd, fr, hz⟩ := hb.un
  have ee : ∀ i, mo_is i → h'.1 (A i) = h.1 (A i) := fun i hi => e _ ⟨i, hi, rfl⟩
  refine ⟨⟨T, M, c, wr, nw, ow, g, hM, hnm, th, wh, S, (ee 0 (Or.inl rfl)).trans b0, hS, hg, ⟨(ee 1 (by unfold mo_is; decide)).trans a1, (ee 5 (by unfold mo_is; decide)).trans a5, (ee 6 (by unfold mo_is; decide)).trans a6, (ee 7 (by unfold mo_is; decide)).trans a7, (ee 9 (by unfold mo_is; decide)).trans a9, (ee 10 (by unfold mo_is; decide)).trans a10⟩, fun k hk => ?_, fun q _ => rfl, rfl⟩, fs, (ee 0 (Or.inl rfl)).trans ht⟩
  obtain ⟨f, hf⟩ := nd k hk
  exact ⟨f, (ee k (by unfold mo_is; omega)).trans hf⟩
set_option maxRecDepth 100000 in
set_option maxHeartbeats 4000000 in
theorem rf_length {l : Launch} {G : jj_G} {A : Nat → Nat} {N : Nat} {t : Int32} {d : Nat} {h : jj_H} (hR : rf_R G A N t h) : jj_Q l G y_MO_length d [.ref (A 0)] h (rf_I (rf_own A) (rf_R G A) N (fun v => v = nI N) h) := by
  refine jj_Q.of (by decide +kernel) (Nat.le_of_ble_eq_true rfl) ?_
  obtain ⟨⟨T, M, c, wr, nw, ow, g, hM, hnm, hb⟩, fs, ht⟩ := hR
  obtain ⟨th, wh, S, b0, hS, hg, a1, a5, a6, a7, a9, a10, nd, fr, hz⟩ := hb.un
  refine jj_aload_n (j := 0) (by decide +kernel) rfl ?_
  refine jj_getfield 2 ck_MO fl_MO_51 (by decide) (by decide +kernel) b0 rfl ?_
  exact jj_iret .int (by decide +kernel) rfl rfl ⟨_, rfl, rfl, rf_toR hM hnm hb⟩
set_option maxRecDepth 100000 in
set_option maxHeartbeats 4000000 in
theorem rf_place {l : Launch} {G : jj_G} {A : Nat → Nat} {N : Nat} {t : Int32} {d : Nat} {h : jj_H} (hR : rf_R G A N t h) : jj_Q l G y_MO_place d [.ref (A 0)] h (rf_I (rf_own A) (rf_R G A) N (fun _ => True) h) := by
  refine jj_Q.of (by decide +kernel) (Nat.le_of_ble_eq_true rfl) ?_
  obtain ⟨⟨T, M, c, wr, nw, ow, g, hM, hnm, hb⟩, fs, ht⟩ := hR
  obtain ⟨th, wh, S, b0, hS, hg, a1, a5, a6, a7, a9, a10, nd, fr, hz⟩ := hb.un
  refine jj_aload_n (j := 0) (by decide +kernel) rfl ?_
  refine jj_getfield 4 ck_MO fl_MO_13 (by decide) (by decide +kernel) b0 rfl ?_
  exact jj_iret .int (by decide +kernel) rfl rfl ⟨_, rfl, trivial, rf_toR hM hnm hb⟩
set_option maxRecDepth 100000 in
set_option maxHeartbeats 4000000 in
theorem rf_nodes {l : Launch} {G : jj_G} {A : Nat → Nat} {N : Nat} {t : Int32} {d : Nat} {h : jj_H} (hR : rf_R G A N t h) : jj_Q l G y_MO_nodes d [.ref (A 0)] h (rf_I (rf_own A) (rf_R G A) N (fun _ => True) h) := by
  refine jj_Q.of (by decide +kernel) (Nat.le_of_ble_eq_true rfl) ?_
  obtain ⟨⟨T, M, c, wr, nw, ow, g, hM, hnm, hb⟩, fs, ht⟩ := hR
  obtain ⟨th, wh, S, b0, hS, hg, a1, a5, a6, a7, a9, a10, nd, fr, hz⟩ := hb.un
  refine jj_aload_n (j := 0) (by decide +kernel) rfl ?_
  refine jj_getfield 15 ck_MO fl_MO_160 (by decide) (by decide +kernel) b0 rfl ?_
  exact jj_iret .int (by decide +kernel) rfl rfl ⟨_, rfl, trivial, rf_toR hM hnm hb⟩
set_option maxRecDepth 100000 in
set_option maxHeartbeats 4000000 in
theorem rf_names {l : Launch} {G : jj_G} {A : Nat → Nat} {N : Nat} {t : Int32} {d : Nat} {h : jj_H} (hR : rf_R G A N t h) : jj_Q l G y_MO_names d [.ref (A 0)] h (rf_I (rf_own A) (rf_R G A) N (fun _ => True) h) := by
  refine jj_Q.of (by decide +kernel) (Nat.le_of_ble_eq_true rfl) ?_
  obtain ⟨⟨T, M, c, wr, nw, ow, g, hM, hnm, hb⟩, fs, ht⟩ := hR
  obtain ⟨th, wh, S, b0, hS, hg, a1, a5, a6, a7, a9, a10, nd, fr, hz⟩ := hb.un
  refine jj_aload_n (j := 0) (by decide +kernel) rfl ?_
  refine jj_getfield 11 ck_MO fl_MO_54 (by decide) (by decide +kernel) b0 rfl ?_
  exact jj_iret .int (by decide +kernel) rfl rfl ⟨_, rfl, trivial, rf_toR hM hnm hb⟩
set_option maxRecDepth 100000 in
set_option maxHeartbeats 4000000 in
theorem rf_cut {l : Launch} {G : jj_G} {A : Nat → Nat} {N : Nat} {t : Int32} {d : Nat} {h : jj_H} {x : Int32} (hi : mo_inj A) (hN : N ≤ 16384) (hR : rf_R G A N t h) : jj_Q l G y_MO_cut d [.ref (A 0), .int x] h (rf_W (rf_own A) (rf_R G A) (if x < 0 ∨ nI N < x then N else x.toNatClampNeg) (if x < 0 ∨ nI N < x then 1 else 0) h) := by
  refine jj_Q.of (by decide +kernel) (Nat.le_of_ble_eq_true rfl) ?_
  obtain ⟨⟨T, M, c, wr, nw, ow, g, hM, hnm, hb⟩, fs, ht⟩ := hR
  obtain ⟨th, wh, S, b0, hS, hg, a1, a5, a6, a7, a9, a10, nd, fr, hz⟩ := hb.un
  have K18 : ∀ y : Int32, ((y = 1 ∧ (x < 0 ∨ nI N < x)) ∨ (y = 0 ∧ ¬ (x < 0 ∨ nI N < x))) → jj_P l G y_MO_cut d (rf_W (rf_own A) (rf_R G A) (if x < 0 ∨ nI N < x then N else x.toNatClampNeg) (if x < 0 ∨ nI N < x then 1 else 0) h) 18 [some (.ref (A 0)), some (.int x)] [.int y, .ref (A 0)] h := by
    intro y hy
    refine jj_putfield 0 ck_MO fl_MO_48 (by decide) rfl (by decide +kernel) b0 rfl rfl (Nat.lt_of_sub_eq_succ rfl) ?_
    have hb := hb.obj hi y wr wh nw ow N T M hS hg
    refine jj_aload_n (j := 0) (by decide +kernel) rfl ?_
    refine jj_getfield 0 ck_MO fl_MO_48 (by decide) (by decide +kernel) jj_up_self rfl ?_
    refine jj_if_ne (off := 8) (tgt := 33) (by decide +kernel) (by decide) (fun c1 => ?_) (fun c1 => ?_)
    · obtain ⟨rfl, hx⟩ := hy.resolve_right (fun q => c1 q.1)
      rw [if_pos hx, if_pos hx]
      exact jj_vret (by decide +kernel) rfl ⟨rfl, rf_toT hM hnm hb jj_up_self⟩
    · obtain ⟨rfl, hx⟩ := hy.resolve_left (fun q => absurd (q.1.symm.trans c1) (by decide))
      rw [if_neg hx, if_neg hx]
      obtain ⟨j, hj, rfl⟩ := nI_of (fun q => hx (Or.inl q))
      rw [nI_clamp hj]
      refine jj_aload_n (j := 0) (by decide +kernel) rfl ?_
      refine jj_iload_n (j := 1) (by decide +kernel) rfl ?_
      refine jj_putfield 2 ck_MO fl_MO_51 (by decide) rfl (by decide +kernel) jj_up_self rfl rfl (Nat.lt_of_sub_eq_succ rfl) ?_
      have hb := hb.obj hi 0 wr wh nw ow j T M hS hg
      exact jj_vret (by decide +kernel) rfl ⟨rfl, rf_toT hM hnm hb jj_up_self⟩
  refine jj_aload_n (j := 0) (by decide +kernel) rfl ?_
  refine jj_iload_n (j := 1) (by decide +kernel) rfl ?_
  refine jj_if_lt (off := 11) (tgt := 13) (by decide +kernel) (by decide) (fun c1 => ?_) (fun c1 => ?_)
  · refine jj_iconst (n := 1) (v := 1) (by decide +kernel) (by decide) ?_
    refine jj_goto (off := 4) (tgt := 18) (by decide +kernel) (by decide) ?_
    exact K18 1 (Or.inl ⟨rfl, Or.inl c1⟩)
  · refine jj_iload_n (j := 1) (by decide +kernel) rfl ?_
    refine jj_aload_n (j := 0) (by decide +kernel) rfl ?_
    refine jj_getfield 2 ck_MO fl_MO_51 (by decide) (by decide +kernel) b0 rfl ?_
    refine jj_icmp_le (off := 7) (tgt := 17) (by decide +kernel) (by decide) (fun c2 => ?_) (fun c2 => ?_)
    · refine jj_iconst (n := 0) (v := 0) (by decide +kernel) (by decide) ?_
      exact K18 0 (Or.inr ⟨rfl, fun q => q.elim c1 (Int32.not_lt.mpr c2)⟩)
    · refine jj_iconst (n := 1) (v := 1) (by decide +kernel) (by decide) ?_
      refine jj_goto (off := 4) (tgt := 18) (by decide +kernel) (by decide) ?_
      exact K18 1 (Or.inl ⟨rfl, Or.inr (Int32.not_le.mp c2)⟩)
set_option maxRecDepth 100000 in
set_option maxHeartbeats 4000000 in
theorem rf_node {l : Launch} {G : jj_G} {A : Nat → Nat} {N : Nat} {t : Int32} {d : Nat} {h : jj_H} {x y : Int32} (hi : mo_inj A) (hG : jj_tyG G) (hR : rf_R G A N t h) : jj_Q l G y_MO_node d [.ref (A 0), .int x, .int y] h (rf_I (rf_own A) (rf_R G A) N (fun _ => True) h) := by
  refine jj_Q.of (by decide +kernel) (Nat.le_of_ble_eq_true rfl) ?_
  obtain ⟨⟨T, M, c, wr, nw, ow, g, hM, hnm, hb⟩, fs, ht⟩ := hR
  obtain ⟨th, wh, S, b0, hS, hg, a1, a5, a6, a7, a9, a10, nd, fr, hz⟩ := hb.un
  have K31 : ∀ z : Int32, (0 < z ∨ (z = 0 ∧ ¬ x < 0 ∧ x < nI S)) → jj_P l G y_MO_node d (rf_I (rf_own A) (rf_R G A) N (fun _ => True) h) 31 [some (.ref (A 0)), some (.int x), some (.int y)] [.int z, .ref (A 0)] h := by
    intro z hz9
    refine jj_putfield 0 ck_MO fl_MO_48 (by decide) rfl (by decide +kernel) b0 rfl rfl (Nat.lt_of_sub_eq_succ rfl) ?_
    have hb := hb.obj hi z wr wh nw ow N T M hS hg
    refine jj_aload_n (j := 0) (by decide +kernel) rfl ?_
    refine jj_getfield 0 ck_MO fl_MO_48 (by decide) (by decide +kernel) jj_up_self rfl ?_
    refine jj_if_le (off := 5) (tgt := 43) (by decide +kernel) (by decide) (fun c1 => ?_) (fun c1 => ?_)
    · obtain ⟨-, hx0, hxS⟩ := hz9.resolve_left (fun q => Int32.not_lt.mpr c1 q)
      obtain ⟨j, hj, rfl⟩ := nI_of hx0
      have hjS := (nI_ltI hj (by omega)).mp hxS
      have hret : ∀ v : Int32, (rf_I (rf_own A) (rf_R G A) N (fun _ => True) h) (.inl (some (.int v))) (jj_up h.1 (A 0) (.inr (6, mo_fs A z (nI N) wr wh (nI T) (nI M) (nI S) nw ow (nI g))), h.2) := fun v => ⟨v, rfl, trivial, rf_toR hM hnm hb⟩
      obtain ⟨th1, wh1, S1, b0, -, -, -, -, -, -, -, -, nd, -⟩ := hb.un
      refine jj_iload_n (j := 2) (by decide +kernel) rfl ?_
      refine jj_if_ne (off := 12) (tgt := 56) (by decide +kernel) (by decide) (fun c2 => ?_) (fun c2 => ?_)
      · refine jj_iload_n (j := 2) (by decide +kernel) rfl ?_
        refine jj_iconst (n := 1) (v := 1) (by decide +kernel) (by decide) ?_
        refine jj_icmp_ne (off := 12) (tgt := 70) (by decide +kernel) (by decide) (fun c3 => ?_) (fun c3 => ?_)
        · refine jj_aload_n (j := 0) (by decide +kernel) rfl ?_
          refine jj_getfield 14 ck_MO fl_MO_39 (by decide) (by decide +kernel) b0 rfl ?_
          refine jj_iload_n (j := 1) (by decide +kernel) rfl ?_
          obtain ⟨f, hf⟩ := nd 14 (by omega)
          refine jj_iaload (jj_tI hG) (by decide +kernel) hf (vp_in_nI (show j < 16384 by omega) (by decide)) ?_
          exact jj_iret .int (by decide +kernel) rfl rfl (hret _)
        · refine jj_aload_n (j := 0) (by decide +kernel) rfl ?_
          refine jj_getfield 13 ck_MO fl_MO_36 (by decide) (by decide +kernel) b0 rfl ?_
          refine jj_iload_n (j := 1) (by decide +kernel) rfl ?_
          obtain ⟨f, hf⟩ := nd 13 (by omega)
          refine jj_iaload (jj_tI hG) (by decide +kernel) hf (vp_in_nI (show j < 16384 by omega) (by decide)) ?_
          refine jj_goto (off := 9) (tgt := 76) (by decide +kernel) (by decide) ?_
          exact jj_iret .int (by decide +kernel) rfl rfl (hret _)
      · refine jj_aload_n (j := 0) (by decide +kernel) rfl ?_
        refine jj_getfield 12 ck_MO fl_MO_33 (by decide) (by decide +kernel) b0 rfl ?_
        refine jj_iload_n (j := 1) (by decide +kernel) rfl ?_
        obtain ⟨f, hf⟩ := nd 12 (by omega)
        refine jj_iaload (jj_tI hG) (by decide +kernel) hf (vp_in_nI (show j < 16384 by omega) (by decide)) ?_
        refine jj_goto (off := 23) (tgt := 76) (by decide +kernel) (by decide) ?_
        exact jj_iret .int (by decide +kernel) rfl rfl (hret _)
    · refine jj_iconst (n := 0) (v := 0) (by decide +kernel) (by decide) ?_
      exact jj_iret .int (by decide +kernel) rfl rfl ⟨_, rfl, trivial, rf_toR hM hnm hb⟩
  have K13 : jj_P l G y_MO_node d (rf_I (rf_own A) (rf_R G A) N (fun _ => True) h) 13 [some (.ref (A 0)), some (.int x), some (.int y)] [.ref (A 0)] h := by
    refine jj_iconst (n := 1) (v := 1) (by decide +kernel) (by decide) ?_
    refine jj_goto (off := 17) (tgt := 31) (by decide +kernel) (by decide) ?_
    exact K31 1 (Or.inl (by decide))
  have K26 : jj_P l G y_MO_node d (rf_I (rf_own A) (rf_R G A) N (fun _ => True) h) 26 [some (.ref (A 0)), some (.int x), some (.int y)] [.ref (A 0)] h := by
    refine jj_iconst (n := 2) (v := 2) (by decide +kernel) (by decide) ?_
    refine jj_goto (off := 4) (tgt := 31) (by decide +kernel) (by decide) ?_
    exact K31 2 (Or.inl (by decide))
  refine jj_aload_n (j := 0) (by decide +kernel) rfl ?_
  refine jj_iload_n (j := 1) (by decide +kernel) rfl ?_
  refine jj_if_lt (off := 11) (tgt := 13) (by decide +kernel) (by decide) (fun c1 => K13) (fun c1 => ?_)
  refine jj_iload_n (j := 1) (by decide +kernel) rfl ?_
  refine jj_aload_n (j := 0) (by decide +kernel) rfl ?_
  refine jj_getfield 15 ck_MO fl_MO_160 (by decide) (by decide +kernel) b0 rfl ?_
  refine jj_icmp_lt (off := 7) (tgt := 17) (by decide +kernel) (by decide) (fun c2 => ?_) (fun c2 => K13)
  refine jj_iload_n (j := 2) (by decide +kernel) rfl ?_
  refine jj_if_lt (off := 8) (tgt := 26) (by decide +kernel) (by decide) (fun c3 => K26) (fun c3 => ?_)
  refine jj_iload_n (j := 2) (by decide +kernel) rfl ?_
  refine jj_iconst (n := 2) (v := 2) (by decide +kernel) (by decide) ?_
  refine jj_icmp_le (off := 7) (tgt := 30) (by decide +kernel) (by decide) (fun c4 => ?_) (fun c4 => K26)
  refine jj_iconst (n := 0) (v := 0) (by decide +kernel) (by decide) ?_
  exact K31 0 (Or.inr ⟨rfl, c1, c2⟩)
set_option maxRecDepth 100000 in
set_option maxHeartbeats 4000000 in
theorem rf_name {l : Launch} {G : jj_G} {A : Nat → Nat} {N : Nat} {t : Int32} {d : Nat} {h : jj_H} {x y : Int32} (hi : mo_inj A) (hG : jj_tyG G) (hR : rf_R G A N t h) : jj_Q l G y_MO_name d [.ref (A 0), .int x, .int y] h (rf_I (rf_own A) (rf_R G A) N (fun _ => True) h) := by
  refine jj_Q.of (by decide +kernel) (Nat.le_of_ble_eq_true rfl) ?_
  obtain ⟨⟨T, M, c, wr, nw, ow, g, hM, hnm, hb⟩, fs, ht⟩ := hR
  obtain ⟨th, wh, S, b0, hS, hg, a1, a5, a6, a7, a9, a10, nd, fr, hz⟩ := hb.un
  have K18 : ∀ z : Int32, (0 < z ∨ (z = 0 ∧ ¬ x < 0 ∧ x < nI M)) → jj_P l G y_MO_name d (rf_I (rf_own A) (rf_R G A) N (fun _ => True) h) 18 [some (.ref (A 0)), some (.int x), some (.int y)] [.int z, .ref (A 0)] h := by
    intro z hz9
    refine jj_putfield 0 ck_MO fl_MO_48 (by decide) rfl (by decide +kernel) b0 rfl rfl (Nat.lt_of_sub_eq_succ rfl) ?_
    have hb := hb.obj hi z wr wh nw ow N T M hS hg
    refine jj_aload_n (j := 0) (by decide +kernel) rfl ?_
    refine jj_getfield 0 ck_MO fl_MO_48 (by decide) (by decide +kernel) jj_up_self rfl ?_
    refine jj_if_le (off := 5) (tgt := 30) (by decide +kernel) (by decide) (fun c1 => ?_) (fun c1 => ?_)
    · obtain ⟨-, hx0, hxS⟩ := hz9.resolve_left (fun q => Int32.not_lt.mpr c1 q)
      obtain ⟨j, hj, rfl⟩ := nI_of hx0
      have hjS := (nI_ltI hj (by omega)).mp hxS
      have hret : ∀ v : Int32, (rf_I (rf_own A) (rf_R G A) N (fun _ => True) h) (.inl (some (.int v))) (jj_up h.1 (A 0) (.inr (6, mo_fs A z (nI N) wr wh (nI T) (nI M) (nI S) nw ow (nI g))), h.2) := fun v => ⟨v, rfl, trivial, rf_toR hM hnm hb⟩
      obtain ⟨b, hnb, hB⟩ := hnm
      have m1 := hnb.2.2 (j + 1) M (by omega) (Nat.le_refl _)
      have m2 := hnb.2.2 j (j + 1) (by omega) (by omega)
      obtain ⟨th1, wh1, S1, b0, -, -, -, -, -, -, a9, a10, nd, -⟩ := hb.un
      have K53 : jj_P l G y_MO_name d (rf_I (rf_own A) (rf_R G A) N (fun _ => True) h) 53 [some (.ref (A 0)), some (.int (nI j)), some (.int y)] [] (jj_up h.1 (A 0) (.inr (6, mo_fs A z (nI N) wr wh (nI T) (nI M) (nI S) nw ow (nI g))), h.2) := by
        refine jj_iconst (n := (-1)) (v := (-1)) (by decide +kernel) (by decide) ?_
        refine jj_goto (off := 16) (tgt := 70) (by decide +kernel) (by decide) ?_
        exact jj_iret .int (by decide +kernel) rfl rfl (hret _)
      refine jj_iload_n (j := 2) (by decide +kernel) rfl ?_
      refine jj_if_lt (off := 22) (tgt := 53) (by decide +kernel) (by decide) (fun c2 => K53) (fun c2 => ?_)
      obtain ⟨k, hk, rfl⟩ := nI_of c2
      refine jj_iload_n (j := 2) (by decide +kernel) rfl ?_
      refine jj_aload_n (j := 0) (by decide +kernel) rfl ?_
      refine jj_getfield 10 ck_MO fl_MO_30 (by decide) (by decide +kernel) b0 rfl ?_
      refine jj_iload_n (j := 1) (by decide +kernel) rfl ?_
      refine jj_iconst (n := 1) (v := 1) (by decide +kernel) (by decide) ?_
      refine jj_iadd (by decide +kernel) ?_
      rw [nI_1 j]
      refine jj_iaload (jj_tI hG) (by decide +kernel) a10 (vp_in_nI (show j + 1 < 1002 by omega) (by decide)) ?_
      rw [nI_clamp (show j + 1 < 2 ^ 31 by omega), hnb.2.1 (j + 1) (by omega)]
      refine jj_aload_n (j := 0) (by decide +kernel) rfl ?_
      refine jj_getfield 10 ck_MO fl_MO_30 (by decide) (by decide +kernel) b0 rfl ?_
      refine jj_iload_n (j := 1) (by decide +kernel) rfl ?_
      refine jj_iaload (jj_tI hG) (by decide +kernel) a10 (vp_in_nI (show j < 1002 by omega) (by decide)) ?_
      rw [nI_clamp (show j < 2 ^ 31 by omega), hnb.2.1 j (by omega)]
      refine jj_isub (by decide +kernel) ?_
      rw [nI_sub m2]
      refine jj_icmp_lt (off := 7) (tgt := 57) (by decide +kernel) (by decide) (fun c3 => ?_) (fun c3 => K53)
      have hk2 := (nI_ltI hk (by omega)).mp c3
      refine jj_aload_n (j := 0) (by decide +kernel) rfl ?_
      refine jj_getfield 9 ck_MO fl_MO_27 (by decide) (by decide +kernel) b0 rfl ?_
      refine jj_aload_n (j := 0) (by decide +kernel) rfl ?_
      refine jj_getfield 10 ck_MO fl_MO_30 (by decide) (by decide +kernel) b0 rfl ?_
      refine jj_iload_n (j := 1) (by decide +kernel) rfl ?_
      refine jj_iaload (jj_tI hG) (by decide +kernel) a10 (vp_in_nI (show j < 1002 by omega) (by decide)) ?_
      rw [nI_clamp (show j < 2 ^ 31 by omega), hnb.2.1 j (by omega)]
      refine jj_iload_n (j := 2) (by decide +kernel) rfl ?_
      refine jj_iadd (by decide +kernel) ?_
      rw [nI_add]
      refine jj_baload (jj_tB hG) (by decide +kernel) a9 (vp_in_nI (show b j + k < 20000 by omega) (by decide)) ?_
      exact jj_iret .int (by decide +kernel) rfl rfl (hret _)
    · refine jj_iconst (n := 0) (v := 0) (by decide +kernel) (by decide) ?_
      exact jj_iret .int (by decide +kernel) rfl rfl ⟨_, rfl, trivial, rf_toR hM hnm hb⟩
  have K13 : jj_P l G y_MO_name d (rf_I (rf_own A) (rf_R G A) N (fun _ => True) h) 13 [some (.ref (A 0)), some (.int x), some (.int y)] [.ref (A 0)] h := by
    refine jj_iconst (n := 1) (v := 1) (by decide +kernel) (by decide) ?_
    refine jj_goto (off := 4) (tgt := 18) (by decide +kernel) (by decide) ?_
    exact K18 1 (Or.inl (by decide))
  refine jj_aload_n (j := 0) (by decide +kernel) rfl ?_
  refine jj_iload_n (j := 1) (by decide +kernel) rfl ?_
  refine jj_if_lt (off := 11) (tgt := 13) (by decide +kernel) (by decide) (fun c1 => K13) (fun c1 => ?_)
  refine jj_iload_n (j := 1) (by decide +kernel) rfl ?_
  refine jj_aload_n (j := 0) (by decide +kernel) rfl ?_
  refine jj_getfield 11 ck_MO fl_MO_54 (by decide) (by decide +kernel) b0 rfl ?_
  refine jj_icmp_lt (off := 7) (tgt := 17) (by decide +kernel) (by decide) (fun c2 => ?_) (fun c2 => K13)
  refine jj_iconst (n := 0) (v := 0) (by decide +kernel) (by decide) ?_
  exact K18 0 (Or.inr ⟨rfl, c1, c2⟩)
set_option maxRecDepth 100000 in
set_option maxHeartbeats 4000000 in
theorem b_MO_text_25 {l : Launch} {G : jj_G} {h0 : jj_H} {A : Nat → Nat} {N T M : Nat} {c0 : Nat → Nat → Int32} {wr nw ow wh : Int32} {g d S : Nat} {x y z w : Int32} (hi : mo_inj A) (hG : jj_tyG G) (hN : N + 16 ≤ 16384) (hS : S ≤ 16384) (hg : g ≤ 16384) : ∀ (n i : Nat) (c : Nat → Nat → Int32) (h : jj_H), 16 - i < n → i ≤ 16 → c 10 = c0 10 → h.1 (A 0) = some (.inr (6, mo_fs A 0 (nI (N + i)) wr wh (nI T) (nI M) (nI S) nw ow (nI g))) → Pb G (h0, A, N + i, T, M, c) wr nw ow g h → jj_P l G y_MO_text d (fun out h' => out = .inl none ∧ ∃ c' : Nat → Nat → Int32, c' 10 = c0 10 ∧ Pb G (h0, A, N + 16, T, M, c') wr nw ow g h' ∧ ∃ fs : List Value, h'.1 (A 0) = some (.inr (6, .int 0 :: fs))) 25 [some (.ref (A 0)), some (.int x), some (.int y), some (.int z), some (.int w), some (.int (nI i)), none] [] h := by
  intro n
  induction n with
  | zero => intro i c h hn; exact absurd hn (Nat.not_lt_zero _)
  | succ n ih =>
    intro i c h hn hi16 hc b0 hb
    refine jj_iload (i := 5) (by decide +kernel) rfl ?_
    refine jj_bipush (n := 16) (v := nI 16) (by decide +kernel) (by decide) ?_
    refine jj_icmp_ge (off := 85) (tgt := 114) (by decide +kernel) (by decide) (fun c1 => ?_) (fun c1 => ?_)
    · have e : i = 16 := Nat.le_antisymm hi16 ((nI_leI (by omega) (by omega)).mp c1)
      subst e
      exact jj_vret (by decide +kernel) rfl ⟨rfl, c, hc, hb, _, b0⟩
    · have hlt : i < 16 := Nat.not_le.mp (fun q9 => c1 (nI_le q9 (by omega)))
      refine jj_aload_n (j := 0) (by decide +kernel) rfl ?_
      refine jj_getfield 0 ck_MO fl_MO_48 (by decide) (by decide +kernel) b0 rfl ?_
      refine jj_if_ne (off := 78) (tgt := 114) (by decide +kernel) (by decide) (fun c2 => absurd rfl c2) (fun c2 => ?_)
      obtain ⟨-, -, -, -, -, -, a1, -⟩ := hb.un
      have K97 : ∀ V v6 : Int32, jj_P l G y_MO_text d (fun out h' => out = .inl none ∧ ∃ c' : Nat → Nat → Int32, c' 10 = c0 10 ∧ Pb G (h0, A, N + 16, T, M, c') wr nw ow g h' ∧ ∃ fs : List Value, h'.1 (A 0) = some (.inr (6, .int 0 :: fs))) 97 [some (.ref (A 0)), some (.int x), some (.int y), some (.int z), some (.int w), some (.int (nI i)), some (.int v6)] [.int V, .int (nI (N + i)), .ref (A 1)] h := by
        intro V v6
        refine jj_bastore (jj_tB hG) (by decide +kernel) a1 (vp_in_nI (show N + i < 16384 by omega) (by decide)) ?_
        rw [nI_clamp (show N + i < 2 ^ 31 by omega)]
        have hb := hb.ar1 hi (upd (c 1) (N + i) (vp_nar .byte V))
        have b2 : jj_up h.1 (A 1) (.inl (jj_cB G, 16384, .inl (upd (c 1) (N + i) (vp_nar .byte V)))) (A 0) = some (.inr (6, mo_fs A 0 (nI (N + i)) wr wh (nI T) (nI M) (nI S) nw ow (nI g))) := (jj_up_ne (fun e : A 0 = A 1 => absurd (hi 0 1 (Or.inl rfl) (by unfold mo_is; decide) e) (by decide))).trans b0
        refine jj_aload_n (j := 0) (by decide +kernel) rfl ?_
        refine jj_dup (by decide +kernel) rfl ?_
        refine jj_getfield 2 ck_MO fl_MO_51 (by decide) (by decide +kernel) b2 rfl ?_
        refine jj_iconst (n := 1) (v := 1) (by decide +kernel) (by decide) ?_
        refine jj_iadd (by decide +kernel) ?_
        rw [nI_1 (N + i)]
        refine jj_putfield 2 ck_MO fl_MO_51 (by decide) rfl (by decide +kernel) b2 rfl rfl (Nat.lt_of_sub_eq_succ rfl) ?_
        have hb := hb.obj hi 0 wr wh nw ow (N + i + 1) T M hS hg
        refine jj_iinc (i := 5) (n := 1) (v := nI (i + 1)) (by decide +kernel) rfl (by rw [show Int32.ofInt 1 = 1 from rfl]; exact nI_1 i) (by decide) rfl ?_
        refine jj_goto (off := (-86)) (tgt := 25) (by decide +kernel) (by decide) ?_
        exact jj_wk (js_s (js_s (js_s (js_s (js_s (js_s (js_n js_0))))))) (ih (i + 1) _ _ (by omega) (by omega) (show mo_u c 1 (upd (c 1) (N + i) (vp_nar .byte V)) 10 = c0 10 from hc) jj_up_self hb)
      have K73 : ∀ v : Int32, jj_P l G y_MO_text d (fun out h' => out = .inl none ∧ ∃ c' : Nat → Nat → Int32, c' 10 = c0 10 ∧ Pb G (h0, A, N + 16, T, M, c') wr nw ow g h' ∧ ∃ fs : List Value, h'.1 (A 0) = some (.inr (6, .int 0 :: fs))) 73 [some (.ref (A 0)), some (.int x), some (.int y), some (.int z), some (.int w), some (.int (nI i)), none] [.int v] h := by
        intro v
        refine jj_istore (i := 6) (by decide +kernel) (by decide) rfl ?_
        refine jj_aload_n (j := 0) (by decide +kernel) rfl ?_
        refine jj_getfield 1 ck_MO fl_MO_7 (by decide) (by decide +kernel) b0 rfl ?_
        refine jj_aload_n (j := 0) (by decide +kernel) rfl ?_
        refine jj_getfield 2 ck_MO fl_MO_51 (by decide) (by decide +kernel) b0 rfl ?_
        refine jj_iload (i := 6) (by decide +kernel) rfl ?_
        refine jj_bipush (n := 24) (v := 24) (by decide +kernel) (by decide) ?_
        refine jj_bipush (n := 8) (v := 8) (by decide +kernel) (by decide) ?_
        refine jj_iload (i := 5) (by decide +kernel) rfl ?_
        refine jj_iconst (n := 4) (v := 4) (by decide +kernel) (by decide) ?_
        refine jj_irem (by decide +kernel) (by decide) ?_
        refine jj_imul (by decide +kernel) ?_
        refine jj_isub (by decide +kernel) ?_
        refine jj_ishr (by decide +kernel) ?_
        refine jj_i2b (by decide +kernel) ?_
        exact K97 _ v
      refine jj_iload (i := 5) (by decide +kernel) rfl ?_
      refine jj_iconst (n := 4) (v := 4) (by decide +kernel) (by decide) ?_
      refine jj_icmp_ge (off := 7) (tgt := 49) (by decide +kernel) (by decide) (fun c3 => ?_) (fun c3 => ?_)
      · refine jj_iload (i := 5) (by decide +kernel) rfl ?_
        refine jj_bipush (n := 8) (v := 8) (by decide +kernel) (by decide) ?_
        refine jj_icmp_ge (off := 7) (tgt := 60) (by decide +kernel) (by decide) (fun c4 => ?_) (fun c4 => ?_)
        · refine jj_iload (i := 5) (by decide +kernel) rfl ?_
          refine jj_bipush (n := 12) (v := 12) (by decide +kernel) (by decide) ?_
          refine jj_icmp_ge (off := 7) (tgt := 71) (by decide +kernel) (by decide) (fun c5 => ?_) (fun c5 => ?_)
          · refine jj_iload (i := 4) (by decide +kernel) rfl ?_
            exact K73 _
          · refine jj_iload_n (j := 3) (by decide +kernel) rfl ?_
            refine jj_goto (off := 5) (tgt := 73) (by decide +kernel) (by decide) ?_
            exact K73 _
        · refine jj_iload_n (j := 2) (by decide +kernel) rfl ?_
          refine jj_goto (off := 16) (tgt := 73) (by decide +kernel) (by decide) ?_
          exact K73 _
      · refine jj_iload_n (j := 1) (by decide +kernel) rfl ?_
        refine jj_goto (off := 27) (tgt := 73) (by decide +kernel) (by decide) ?_
        exact K73 _
set_option maxRecDepth 100000 in
set_option maxHeartbeats 4000000 in
theorem rf_text {l : Launch} {G : jj_G} {A : Nat → Nat} {N : Nat} {t : Int32} {d : Nat} {h : jj_H} {x y z w : Int32} (hi : mo_inj A) (hG : jj_tyG G) (hN : N ≤ 16384) (hR : rf_R G A N t h) : jj_Q l G y_MO_text d [.ref (A 0), .int x, .int y, .int z, .int w] h (rf_W (rf_own A) (rf_R G A) (if N ≤ 16368 then N + 16 else N) (if N ≤ 16368 then 0 else 1) h) := by
  refine jj_Q.of (by decide +kernel) (Nat.le_of_ble_eq_true rfl) ?_
  obtain ⟨⟨T, M, c, wr, nw, ow, g, hM, hnm, hb⟩, fs, ht⟩ := hR
  obtain ⟨th, wh, S, b0, hS, hg, a1, a5, a6, a7, a9, a10, nd, fr, hz⟩ := hb.un
  refine jj_aload_n (j := 0) (by decide +kernel) rfl ?_
  refine jj_aload_n (j := 0) (by decide +kernel) rfl ?_
  refine jj_getfield 2 ck_MO fl_MO_51 (by decide) (by decide +kernel) b0 rfl ?_
  refine jj_bipush (n := 16) (v := nI 16) (by decide +kernel) (by decide) ?_
  refine jj_iadd (by decide +kernel) ?_
  rw [nI_add]
  refine jj_sipush (n := 16384) (v := nI 16384) (by decide +kernel) (by decide) ?_
  refine jj_icmp_le (off := 7) (tgt := 18) (by decide +kernel) (by decide) (fun c1 => ?_) (fun c1 => ?_)
  · have hle : N + 16 ≤ 16384 := (nI_leI (by omega) (by omega)).mp c1
    rw [if_pos (show N ≤ 16368 by omega), if_pos (show N ≤ 16368 by omega)]
    refine jj_iconst (n := 0) (v := 0) (by decide +kernel) (by decide) ?_
    refine jj_putfield 0 ck_MO fl_MO_48 (by decide) rfl (by decide +kernel) b0 rfl rfl (Nat.lt_of_sub_eq_succ rfl) ?_
    have hb := hb.obj hi 0 wr wh nw ow N T M hS hg
    refine jj_iconst (n := 0) (v := nI 0) (by decide +kernel) (by decide) ?_
    refine jj_istore (i := 5) (by decide +kernel) (by decide) rfl ?_
    refine jj_P.imp (b_MO_text_25 (c0 := c) hi hG hle hS hg _ 0 c _ (Nat.lt_succ_self _) (Nat.zero_le _) rfl jj_up_self hb) ?_
    rintro out h' ⟨rfl, c', hc', hb', fs9, ht9⟩
    exact ⟨rfl, rf_toT hM (by rw [hc']; exact hnm) hb' ht9⟩
  · have hgt : ¬ N ≤ 16368 := fun q => c1 (nI_le (by omega) (by omega))
    rw [if_neg hgt, if_neg hgt]
    refine jj_iconst (n := 1) (v := 1) (by decide +kernel) (by decide) ?_
    refine jj_goto (off := 4) (tgt := 19) (by decide +kernel) (by decide) ?_
    refine jj_putfield 0 ck_MO fl_MO_48 (by decide) rfl (by decide +kernel) b0 rfl rfl (Nat.lt_of_sub_eq_succ rfl) ?_
    have hb := hb.obj hi 1 wr wh nw ow N T M hS hg
    refine jj_iconst (n := 0) (v := 0) (by decide +kernel) (by decide) ?_
    refine jj_istore (i := 5) (by decide +kernel) (by decide) rfl ?_
    refine jj_iload (i := 5) (by decide +kernel) rfl ?_
    refine jj_bipush (n := 16) (v := 16) (by decide +kernel) (by decide) ?_
    refine jj_icmp_ge (off := 85) (tgt := 114) (by decide +kernel) (by decide) (fun c2 => absurd c2 (by decide)) (fun c2 => ?_)
    refine jj_aload_n (j := 0) (by decide +kernel) rfl ?_
    refine jj_getfield 0 ck_MO fl_MO_48 (by decide) (by decide +kernel) jj_up_self rfl ?_
    refine jj_if_ne (off := 78) (tgt := 114) (by decide +kernel) (by decide) (fun c3 => ?_) (fun c3 => absurd c3 (by decide))
    exact jj_vret (by decide +kernel) rfl ⟨rfl, rf_toT hM hnm hb jj_up_self⟩
set_option maxRecDepth 100000 in
set_option maxHeartbeats 4000000 in
theorem rf_thrown {l : Launch} {G : jj_G} {A : Nat → Nat} {N : Nat} {t : Int32} {d : Nat} {h : jj_H} (hR : rf_R G A N t h) : jj_Q l G y_MO_thrown d [.ref (A 0)] h (rf_I (rf_own A) (rf_R G A) N (fun v => v = t) h) := by
  refine jj_Q.of (by decide +kernel) (Nat.le_of_ble_eq_true rfl) ?_
  obtain ⟨⟨T, M, c, wr, nw, ow, g, hM, hnm, hb⟩, fs, ht⟩ := hR
  obtain ⟨th, wh, S, b0, hS, hg, a1, a5, a6, a7, a9, a10, nd, fr, hz⟩ := hb.un
  have hth : th = t := by
    have e := Option.some.inj (b0.symm.trans ht)
    injection e with e
    injection e with _ e
    injection e with e _
    injection e
  refine jj_aload_n (j := 0) (by decide +kernel) rfl ?_
  refine jj_getfield 0 ck_MO fl_MO_48 (by decide) (by decide +kernel) b0 rfl ?_
  exact jj_iret .int (by decide +kernel) rfl rfl ⟨_, rfl, hth, rf_toR hM hnm hb⟩
theorem rf_all {l : Launch} {G : jj_G} {A : Nat → Nat} (hi : mo_inj A) (hG : jj_tyG G) : rf_ok l G (A 0) (rf_own A) (rf_R G A) 1900 := by
  refine ⟨fun N t h h' e hR => rf_loc e hR, fun N t h hR => ?_, fun N t h x y z w hN hR => rf_text hi hG hN hR, fun N t h x hN hR => rf_cut hi hN hR, fun N t h hN hR => rf_length hR, fun N t h hN hR => ?_, fun N t h hN hR => rf_place hR, fun N t h hN hR => rf_nodes hR, fun N t h x y hN hR => rf_node hi hG hR, fun N t h hN hR => rf_names hR, fun N t h x y hN hR => rf_name hi hG hR, fun N t h hN hR => rf_thrown hR⟩
  · obtain ⟨⟨T, M, c, wr, nw, ow, g, hM, hnm, hb⟩, fs, ht⟩ := hR
    exact hb.rcv
  · obtain ⟨⟨T, M, c, wr, nw, ow, g, hM, hnm, hb⟩, fs, ht⟩ := hR
    refine (m_read (d := 1900) hi hG hN hnm hb (by omega)).imp ?_
    rintro out h' ⟨v, T', M', c', wr', nw', ow', g', rfl, hM', hnm', hb'⟩
    exact ⟨v, rfl, trivial, rf_toR hM' hnm' hb'⟩
