/-! the reference's constructor -/
def mk_F (l : Launch) (G : jj_G) (h : jj_H) (r : Nat) : jj_O → jj_H → Prop := fun out h' => out = .inl none ∧ ∃ (own : Nat → Prop) (R : Nat → Int32 → jj_H → Prop) (t : Int32), rf_ok l G r own R 1900 ∧ R 0 t h' ∧ (∀ q, own q → (q = r ∨ h.2.1 ≤ q) ∧ q < h'.2.1) ∧ (∀ q, q < h.2.1 → q ≠ r → h'.1 q = h.1 q) ∧ h.2.1 ≤ h'.2.1 ∧ h'.2.1 ≤ h.2.1 + 1000 ∧ h'.2.2 ≤ h.2.2 + 3000000
def mk_cl (G : jj_G) : Nat → ClassId × vp_A
  | 0 => (jj_cB G, 16384, .inl (fun _ => 0))
  | 1 => (jj_cI G, 16386, .inl (fun _ => 0))
  | 2 => (jj_cI G, 16386, .inl (fun _ => 0))
  | 3 => (jj_cI G, 16386, .inl (fun _ => 0))
  | 4 => (jj_cB G, 20000, .inl (fun _ => 0))
  | 5 => (jj_cI G, 1002, .inl (fun _ => 0))
  | _ => (jj_cI G, 16384, .inl (fun _ => 0))
/-- k arrays are made -/
def mk_S (G : jj_G) (r : Nat) (h0 : jj_H) (k : Nat) (fs : List Value) (h : jj_H) : Prop := h.1 r = some (.inr (6, fs)) ∧ h.2.1 = h0.2.1 + k ∧ (∀ j, j < k → h.1 (h0.2.1 + j) = some (.inl (mk_cl G j))) ∧ (∀ q, q < h0.2.1 → q ≠ r → h.1 q = h0.1 q) ∧ h.2.2 ≤ h0.2.2 + 20000 * k
theorem mk_S.step {G : jj_G} {r : Nat} {h0 : jj_H} {k n w : Nat} {fs : List Value} {hm : Nat → Option ((ClassId × vp_A) ⊕ (Nat × List Value))} (hr : r < h0.2.1) (hn : n ≤ 20000) (s : mk_S G r h0 k fs (hm, h0.2.1 + k, w)) (fs' : List Value) : mk_S G r h0 (k + 1) fs' (jj_up (jj_up hm (h0.2.1 + k) (.inl (mk_cl G k))) r (.inr (6, fs')), h0.2.1 + k + 1, w + n) := by
  obtain ⟨s1, s2, s3, s4, s5⟩ := s
  refine ⟨jj_up_self, rfl, fun j hj => ?_, fun q hq hqr => ?_, ?_⟩
  · refine (jj_up_ne (by omega)).trans ?_
    by_cases e : j = k
    · subst e
      exact jj_up_self
    · exact (jj_up_ne (by omega)).trans (s3 j (by omega))
  · exact (jj_up_ne hqr).trans ((jj_up_ne (by omega)).trans (s4 q hq hqr))
  · show w + n ≤ h0.2.2 + 20000 * (k + 1)
    have s5' : w ≤ h0.2.2 + 20000 * k := s5
    omega
theorem mk_S.put {G : jj_G} {r : Nat} {h0 h : jj_H} {k : Nat} {fs : List Value} (hr : r < h0.2.1) (s : mk_S G r h0 k fs h) (fs' : List Value) : mk_S G r h0 k fs' (jj_up h.1 r (.inr (6, fs')), h.2) := by
  obtain ⟨s1, s2, s3, s4, s5⟩ := s
  exact ⟨jj_up_self, s2, fun j hj => (jj_up_ne (by omega)).trans (s3 j hj), fun q hq hqr => (jj_up_ne hqr).trans (s4 q hq hqr), s5⟩
def mk_ix : Nat → Nat
  | 1 => 0
  | 5 => 1
  | 6 => 2
  | 7 => 3
  | 9 => 4
  | 10 => 5
  | 12 => 6
  | 13 => 7
  | 14 => 8
  | 18 => 9
  | _ => 10
def mk_iv : Nat → Nat
  | 0 => 1
  | 1 => 5
  | 2 => 6
  | 3 => 7
  | 4 => 9
  | 5 => 10
  | 6 => 12
  | 7 => 13
  | 8 => 14
  | _ => 18
def mk_A (r z : Nat) : Nat → Nat := fun i => if i = 0 then r else z + mk_ix i
theorem mk_ix.iv {i : Nat} (h : mo_is i) (h0 : i ≠ 0) : mk_iv (mk_ix i) = i ∧ mk_ix i < 10 := by
  rcases h with rfl | rfl | rfl | rfl | rfl | rfl | rfl | rfl | rfl | rfl | rfl
  · exact absurd rfl h0
  all_goals decide
theorem mk_inj {r z : Nat} (hr : r < z) : mo_inj (mk_A r z) := by
  intro i j hi hj e
  unfold mk_A at e
  by_cases e1 : i = 0
  · by_cases e2 : j = 0
    · rw [e1, e2]
    · rw [if_pos e1, if_neg e2] at e
      omega
  · by_cases e2 : j = 0
    · rw [if_neg e1, if_pos e2] at e
      omega
    · rw [if_neg e1, if_neg e2] at e
      have e3 : mk_ix i = mk_ix j := by omega
      rw [← (mk_ix.iv hi e1).1, ← (mk_ix.iv hj e2).1, e3]
set_option maxRecDepth 100000 in
set_option maxHeartbeats 4000000 in
theorem b_MO_init_99 {l : Launch} {G : jj_G} {h0 h : jj_H} {r : Nat} (hG : jj_tyG G) (hr : r < h0.2.1) (s : mk_S G r h0 10 [.int 0, .ref (h0.2.1 + 0), .int 0, .int 0, .int (-1), .ref (h0.2.1 + 1), .ref (h0.2.1 + 2), .ref (h0.2.1 + 3), .int 0, .ref (h0.2.1 + 4), .ref (h0.2.1 + 5), .int 0, .ref (h0.2.1 + 6), .ref (h0.2.1 + 7), .ref (h0.2.1 + 8), .int 0, .int 0, .int 0, .ref (h0.2.1 + 9), .int 0] h) : jj_P l G y_MO_init 1900 (mk_F l G h0 r) 99 [some (.ref r)] [] h := by
  obtain ⟨s1, s2, s3, s4, s5⟩ := s
  have hi := mk_inj hr
  have hb : Pb G (h, mk_A r h0.2.1, 0, 0, 0, fun _ _ => 0) 0 0 0 0 h := ⟨0, -1, 0, s1, Nat.zero_le _, Nat.zero_le _, ⟨s3 0 (by decide), s3 1 (by decide), s3 2 (by decide), s3 3 (by decide), s3 4 (by decide), s3 5 (by decide)⟩, fun k hk => by
      rcases hk with rfl | rfl | rfl | rfl
      · exact ⟨_, s3 6 (by decide)⟩
      · exact ⟨_, s3 7 (by decide)⟩
      · exact ⟨_, s3 8 (by decide)⟩
      · exact ⟨_, s3 9 (by decide)⟩, fun q _ => rfl, rfl⟩
  refine jj_aload_n (j := 0) (by decide +kernel) rfl ?_
  refine jj_callr (m_firstNames (d := 1899) hi hG hb rfl (by omega)) (fun o1 h1 hC => jj_callV ok_MO_firstNames ml_MO_45 im_MO_firstNames se_MO_MO_firstNames (by decide +kernel) hb.rcv rfl (by omega) (Nat.le_of_ble_eq_true rfl) hC) (by rintro E h1 ⟨q, -⟩; cases q) ?_
  rintro v h2 ⟨hv, M1, c1, hM1, hc1, hnm1, hb2⟩
  cases hv
  obtain ⟨⟨t, hR⟩, fr, hz⟩ := rf_toR hM1 (hnm1.le (by omega)) hb2
  have z1 : h2.2.1 = h0.2.1 + 10 := by rw [hz]; exact s2
  have z2 : h2.2.2 ≤ h0.2.2 + 20000 * 10 := by rw [hz]; exact s5
  have hown : ∀ q, rf_own (mk_A r h0.2.1) q → (q = r ∨ h0.2.1 ≤ q) ∧ q < h0.2.1 + 10 := by
    rintro q ⟨i, hi9, rfl⟩
    unfold mk_A
    by_cases e : i = 0
    · rw [if_pos e]
      exact ⟨Or.inl rfl, by omega⟩
    · rw [if_neg e]
      have h9 := (mk_ix.iv hi9 e).2
      exact ⟨Or.inr (by omega), by omega⟩
  refine jj_vret (by decide +kernel) rfl ⟨rfl, rf_own (mk_A r h0.2.1), rf_R G (mk_A r h0.2.1), t, rf_all hi hG, hR, fun q hq => ?_, fun q hq hqr => ?_, by omega, by omega, by omega⟩
  · have h9 := hown q hq
    exact ⟨h9.1, by omega⟩
  · refine (fr q (fun hq9 => ?_)).trans (s4 q hq hqr)
    have h9 := (hown q hq9).1
    omega
set_option maxRecDepth 100000 in
set_option maxHeartbeats 4000000 in
theorem b_MO_init_90 {l : Launch} {G : jj_G} {h0 h : jj_H} {r : Nat} (hG : jj_tyG G) (hr : r < h0.2.1) (s : mk_S G r h0 9 [.int 0, .ref (h0.2.1 + 0), .int 0, .int 0, .int (-1), .ref (h0.2.1 + 1), .ref (h0.2.1 + 2), .ref (h0.2.1 + 3), .int 0, .ref (h0.2.1 + 4), .ref (h0.2.1 + 5), .int 0, .ref (h0.2.1 + 6), .ref (h0.2.1 + 7), .ref (h0.2.1 + 8), .int 0, .int 0, .int 0, .null, .int 0] h) : jj_P l G y_MO_init 1900 (mk_F l G h0 r) 90 [some (.ref r)] [] h := by
  obtain ⟨hm, z, w⟩ := h
  have e : z = h0.2.1 + 9 := s.2.1
  subst e
  refine jj_aload_n (j := 0) (by decide +kernel) rfl ?_
  refine jj_sipush (n := 16384) (v := nI 16384) (by decide +kernel) (by decide) ?_
  refine jj_newarray (atype := .int) (fty := .int) (N' := 16384) (a0 := (16384, .inl (fun _ => 0))) rfl (jj_tI hG) (fun _ q => q) ac_int (fun _ => rfl) (nI_pos (by omega)) (nI_clamp (by omega)) (by show 16384 * 4 ≤ _; omega) (by decide +kernel) ?_
  have b0 : jj_up hm (h0.2.1 + 9) (.inl (mk_cl G 9)) r = some (.inr (6, [.int 0, .ref (h0.2.1 + 0), .int 0, .int 0, .int (-1), .ref (h0.2.1 + 1), .ref (h0.2.1 + 2), .ref (h0.2.1 + 3), .int 0, .ref (h0.2.1 + 4), .ref (h0.2.1 + 5), .int 0, .ref (h0.2.1 + 6), .ref (h0.2.1 + 7), .ref (h0.2.1 + 8), .int 0, .int 0, .int 0, .null, .int 0])) := (jj_up_ne (by omega)).trans s.1
  refine jj_putfinal 18 ck_MO fl_MO_42 (by decide) rfl rfl rfl (by decide +kernel) b0 rfl rfl (Nat.lt_of_sub_eq_succ rfl) ?_
  exact b_MO_init_99 hG hr (s.step hr (n := 16384) (by decide) [.int 0, .ref (h0.2.1 + 0), .int 0, .int 0, .int (-1), .ref (h0.2.1 + 1), .ref (h0.2.1 + 2), .ref (h0.2.1 + 3), .int 0, .ref (h0.2.1 + 4), .ref (h0.2.1 + 5), .int 0, .ref (h0.2.1 + 6), .ref (h0.2.1 + 7), .ref (h0.2.1 + 8), .int 0, .int 0, .int 0, .ref (h0.2.1 + 9), .int 0])
set_option maxRecDepth 100000 in
set_option maxHeartbeats 4000000 in
theorem b_MO_init_81 {l : Launch} {G : jj_G} {h0 h : jj_H} {r : Nat} (hG : jj_tyG G) (hr : r < h0.2.1) (s : mk_S G r h0 8 [.int 0, .ref (h0.2.1 + 0), .int 0, .int 0, .int (-1), .ref (h0.2.1 + 1), .ref (h0.2.1 + 2), .ref (h0.2.1 + 3), .int 0, .ref (h0.2.1 + 4), .ref (h0.2.1 + 5), .int 0, .ref (h0.2.1 + 6), .ref (h0.2.1 + 7), .null, .int 0, .int 0, .int 0, .null, .int 0] h) : jj_P l G y_MO_init 1900 (mk_F l G h0 r) 81 [some (.ref r)] [] h := by
  obtain ⟨hm, z, w⟩ := h
  have e : z = h0.2.1 + 8 := s.2.1
  subst e
  refine jj_aload_n (j := 0) (by decide +kernel) rfl ?_
  refine jj_sipush (n := 16384) (v := nI 16384) (by decide +kernel) (by decide) ?_
  refine jj_newarray (atype := .int) (fty := .int) (N' := 16384) (a0 := (16384, .inl (fun _ => 0))) rfl (jj_tI hG) (fun _ q => q) ac_int (fun _ => rfl) (nI_pos (by omega)) (nI_clamp (by omega)) (by show 16384 * 4 ≤ _; omega) (by decide +kernel) ?_
  have b0 : jj_up hm (h0.2.1 + 8) (.inl (mk_cl G 8)) r = some (.inr (6, [.int 0, .ref (h0.2.1 + 0), .int 0, .int 0, .int (-1), .ref (h0.2.1 + 1), .ref (h0.2.1 + 2), .ref (h0.2.1 + 3), .int 0, .ref (h0.2.1 + 4), .ref (h0.2.1 + 5), .int 0, .ref (h0.2.1 + 6), .ref (h0.2.1 + 7), .null, .int 0, .int 0, .int 0, .null, .int 0])) := (jj_up_ne (by omega)).trans s.1
  refine jj_putfinal 14 ck_MO fl_MO_39 (by decide) rfl rfl rfl (by decide +kernel) b0 rfl rfl (Nat.lt_of_sub_eq_succ rfl) ?_
  exact b_MO_init_90 hG hr (s.step hr (n := 16384) (by decide) [.int 0, .ref (h0.2.1 + 0), .int 0, .int 0, .int (-1), .ref (h0.2.1 + 1), .ref (h0.2.1 + 2), .ref (h0.2.1 + 3), .int 0, .ref (h0.2.1 + 4), .ref (h0.2.1 + 5), .int 0, .ref (h0.2.1 + 6), .ref (h0.2.1 + 7), .ref (h0.2.1 + 8), .int 0, .int 0, .int 0, .null, .int 0])
set_option maxRecDepth 100000 in
set_option maxHeartbeats 4000000 in
theorem b_MO_init_72 {l : Launch} {G : jj_G} {h0 h : jj_H} {r : Nat} (hG : jj_tyG G) (hr : r < h0.2.1) (s : mk_S G r h0 7 [.int 0, .ref (h0.2.1 + 0), .int 0, .int 0, .int (-1), .ref (h0.2.1 + 1), .ref (h0.2.1 + 2), .ref (h0.2.1 + 3), .int 0, .ref (h0.2.1 + 4), .ref (h0.2.1 + 5), .int 0, .ref (h0.2.1 + 6), .null, .null, .int 0, .int 0, .int 0, .null, .int 0] h) : jj_P l G y_MO_init 1900 (mk_F l G h0 r) 72 [some (.ref r)] [] h := by
  obtain ⟨hm, z, w⟩ := h
  have e : z = h0.2.1 + 7 := s.2.1
  subst e
  refine jj_aload_n (j := 0) (by decide +kernel) rfl ?_
  refine jj_sipush (n := 16384) (v := nI 16384) (by decide +kernel) (by decide) ?_
  refine jj_newarray (atype := .int) (fty := .int) (N' := 16384) (a0 := (16384, .inl (fun _ => 0))) rfl (jj_tI hG) (fun _ q => q) ac_int (fun _ => rfl) (nI_pos (by omega)) (nI_clamp (by omega)) (by show 16384 * 4 ≤ _; omega) (by decide +kernel) ?_
  have b0 : jj_up hm (h0.2.1 + 7) (.inl (mk_cl G 7)) r = some (.inr (6, [.int 0, .ref (h0.2.1 + 0), .int 0, .int 0, .int (-1), .ref (h0.2.1 + 1), .ref (h0.2.1 + 2), .ref (h0.2.1 + 3), .int 0, .ref (h0.2.1 + 4), .ref (h0.2.1 + 5), .int 0, .ref (h0.2.1 + 6), .null, .null, .int 0, .int 0, .int 0, .null, .int 0])) := (jj_up_ne (by omega)).trans s.1
  refine jj_putfinal 13 ck_MO fl_MO_36 (by decide) rfl rfl rfl (by decide +kernel) b0 rfl rfl (Nat.lt_of_sub_eq_succ rfl) ?_
  exact b_MO_init_81 hG hr (s.step hr (n := 16384) (by decide) [.int 0, .ref (h0.2.1 + 0), .int 0, .int 0, .int (-1), .ref (h0.2.1 + 1), .ref (h0.2.1 + 2), .ref (h0.2.1 + 3), .int 0, .ref (h0.2.1 + 4), .ref (h0.2.1 + 5), .int 0, .ref (h0.2.1 + 6), .ref (h0.2.1 + 7), .null, .int 0, .int 0, .int 0, .null, .int 0])
set_option maxRecDepth 100000 in
set_option maxHeartbeats 4000000 in
theorem b_MO_init_63 {l : Launch} {G : jj_G} {h0 h : jj_H} {r : Nat} (hG : jj_tyG G) (hr : r < h0.2.1) (s : mk_S G r h0 6 [.int 0, .ref (h0.2.1 + 0), .int 0, .int 0, .int (-1), .ref (h0.2.1 + 1), .ref (h0.2.1 + 2), .ref (h0.2.1 + 3), .int 0, .ref (h0.2.1 + 4), .ref (h0.2.1 + 5), .int 0, .null, .null, .null, .int 0, .int 0, .int 0, .null, .int 0] h) : jj_P l G y_MO_init 1900 (mk_F l G h0 r) 63 [some (.ref r)] [] h := by
  obtain ⟨hm, z, w⟩ := h
  have e : z = h0.2.1 + 6 := s.2.1
  subst e
  refine jj_aload_n (j := 0) (by decide +kernel) rfl ?_
  refine jj_sipush (n := 16384) (v := nI 16384) (by decide +kernel) (by decide) ?_
  refine jj_newarray (atype := .int) (fty := .int) (N' := 16384) (a0 := (16384, .inl (fun _ => 0))) rfl (jj_tI hG) (fun _ q => q) ac_int (fun _ => rfl) (nI_pos (by omega)) (nI_clamp (by omega)) (by show 16384 * 4 ≤ _; omega) (by decide +kernel) ?_
  have b0 : jj_up hm (h0.2.1 + 6) (.inl (mk_cl G 6)) r = some (.inr (6, [.int 0, .ref (h0.2.1 + 0), .int 0, .int 0, .int (-1), .ref (h0.2.1 + 1), .ref (h0.2.1 + 2), .ref (h0.2.1 + 3), .int 0, .ref (h0.2.1 + 4), .ref (h0.2.1 + 5), .int 0, .null, .null, .null, .int 0, .int 0, .int 0, .null, .int 0])) := (jj_up_ne (by omega)).trans s.1
  refine jj_putfinal 12 ck_MO fl_MO_33 (by decide) rfl rfl rfl (by decide +kernel) b0 rfl rfl (Nat.lt_of_sub_eq_succ rfl) ?_
  exact b_MO_init_72 hG hr (s.step hr (n := 16384) (by decide) [.int 0, .ref (h0.2.1 + 0), .int 0, .int 0, .int (-1), .ref (h0.2.1 + 1), .ref (h0.2.1 + 2), .ref (h0.2.1 + 3), .int 0, .ref (h0.2.1 + 4), .ref (h0.2.1 + 5), .int 0, .ref (h0.2.1 + 6), .null, .null, .int 0, .int 0, .int 0, .null, .int 0])
set_option maxRecDepth 100000 in
set_option maxHeartbeats 4000000 in
theorem b_MO_init_54 {l : Launch} {G : jj_G} {h0 h : jj_H} {r : Nat} (hG : jj_tyG G) (hr : r < h0.2.1) (s : mk_S G r h0 5 [.int 0, .ref (h0.2.1 + 0), .int 0, .int 0, .int (-1), .ref (h0.2.1 + 1), .ref (h0.2.1 + 2), .ref (h0.2.1 + 3), .int 0, .ref (h0.2.1 + 4), .null, .int 0, .null, .null, .null, .int 0, .int 0, .int 0, .null, .int 0] h) : jj_P l G y_MO_init 1900 (mk_F l G h0 r) 54 [some (.ref r)] [] h := by
  obtain ⟨hm, z, w⟩ := h
  have e : z = h0.2.1 + 5 := s.2.1
  subst e
  refine jj_aload_n (j := 0) (by decide +kernel) rfl ?_
  refine jj_sipush (n := 1002) (v := nI 1002) (by decide +kernel) (by decide) ?_
  refine jj_newarray (atype := .int) (fty := .int) (N' := 1002) (a0 := (1002, .inl (fun _ => 0))) rfl (jj_tI hG) (fun _ q => q) ac_int (fun _ => rfl) (nI_pos (by omega)) (nI_clamp (by omega)) (by show 1002 * 4 ≤ _; omega) (by decide +kernel) ?_
  have b0 : jj_up hm (h0.2.1 + 5) (.inl (mk_cl G 5)) r = some (.inr (6, [.int 0, .ref (h0.2.1 + 0), .int 0, .int 0, .int (-1), .ref (h0.2.1 + 1), .ref (h0.2.1 + 2), .ref (h0.2.1 + 3), .int 0, .ref (h0.2.1 + 4), .null, .int 0, .null, .null, .null, .int 0, .int 0, .int 0, .null, .int 0])) := (jj_up_ne (by omega)).trans s.1
  refine jj_putfinal 10 ck_MO fl_MO_30 (by decide) rfl rfl rfl (by decide +kernel) b0 rfl rfl (Nat.lt_of_sub_eq_succ rfl) ?_
  exact b_MO_init_63 hG hr (s.step hr (n := 1002) (by decide) [.int 0, .ref (h0.2.1 + 0), .int 0, .int 0, .int (-1), .ref (h0.2.1 + 1), .ref (h0.2.1 + 2), .ref (h0.2.1 + 3), .int 0, .ref (h0.2.1 + 4), .ref (h0.2.1 + 5), .int 0, .null, .null, .null, .int 0, .int 0, .int 0, .null, .int 0])
set_option maxRecDepth 100000 in
set_option maxHeartbeats 4000000 in
theorem b_MO_init_45 {l : Launch} {G : jj_G} {h0 h : jj_H} {r : Nat} (hG : jj_tyG G) (hr : r < h0.2.1) (s : mk_S G r h0 4 [.int 0, .ref (h0.2.1 + 0), .int 0, .int 0, .int (-1), .ref (h0.2.1 + 1), .ref (h0.2.1 + 2), .ref (h0.2.1 + 3), .int 0, .null, .null, .int 0, .null, .null, .null, .int 0, .int 0, .int 0, .null, .int 0] h) : jj_P l G y_MO_init 1900 (mk_F l G h0 r) 45 [some (.ref r)] [] h := by
  obtain ⟨hm, z, w⟩ := h
  have e : z = h0.2.1 + 4 := s.2.1
  subst e
  refine jj_aload_n (j := 0) (by decide +kernel) rfl ?_
  refine jj_sipush (n := 20000) (v := nI 20000) (by decide +kernel) (by decide) ?_
  refine jj_newarray (atype := .byte) (fty := .byte) (N' := 20000) (a0 := (20000, .inl (fun _ => 0))) rfl (jj_tB hG) (fun _ q => q) ac_byte (fun _ => rfl) (nI_pos (by omega)) (nI_clamp (by omega)) (by show 20000 * 1 ≤ _; omega) (by decide +kernel) ?_
  have b0 : jj_up hm (h0.2.1 + 4) (.inl (mk_cl G 4)) r = some (.inr (6, [.int 0, .ref (h0.2.1 + 0), .int 0, .int 0, .int (-1), .ref (h0.2.1 + 1), .ref (h0.2.1 + 2), .ref (h0.2.1 + 3), .int 0, .null, .null, .int 0, .null, .null, .null, .int 0, .int 0, .int 0, .null, .int 0])) := (jj_up_ne (by omega)).trans s.1
  refine jj_putfinal 9 ck_MO fl_MO_27 (by decide) rfl rfl rfl (by decide +kernel) b0 rfl rfl (Nat.lt_of_sub_eq_succ rfl) ?_
  exact b_MO_init_54 hG hr (s.step hr (n := 20000) (by decide) [.int 0, .ref (h0.2.1 + 0), .int 0, .int 0, .int (-1), .ref (h0.2.1 + 1), .ref (h0.2.1 + 2), .ref (h0.2.1 + 3), .int 0, .ref (h0.2.1 + 4), .null, .int 0, .null, .null, .null, .int 0, .int 0, .int 0, .null, .int 0])
set_option maxRecDepth 100000 in
set_option maxHeartbeats 4000000 in
theorem b_MO_init_36 {l : Launch} {G : jj_G} {h0 h : jj_H} {r : Nat} (hG : jj_tyG G) (hr : r < h0.2.1) (s : mk_S G r h0 3 [.int 0, .ref (h0.2.1 + 0), .int 0, .int 0, .int (-1), .ref (h0.2.1 + 1), .ref (h0.2.1 + 2), .null, .int 0, .null, .null, .int 0, .null, .null, .null, .int 0, .int 0, .int 0, .null, .int 0] h) : jj_P l G y_MO_init 1900 (mk_F l G h0 r) 36 [some (.ref r)] [] h := by
  obtain ⟨hm, z, w⟩ := h
  have e : z = h0.2.1 + 3 := s.2.1
  subst e
  refine jj_aload_n (j := 0) (by decide +kernel) rfl ?_
  refine jj_sipush (n := 16386) (v := nI 16386) (by decide +kernel) (by decide) ?_
  refine jj_newarray (atype := .int) (fty := .int) (N' := 16386) (a0 := (16386, .inl (fun _ => 0))) rfl (jj_tI hG) (fun _ q => q) ac_int (fun _ => rfl) (nI_pos (by omega)) (nI_clamp (by omega)) (by show 16386 * 4 ≤ _; omega) (by decide +kernel) ?_
  have b0 : jj_up hm (h0.2.1 + 3) (.inl (mk_cl G 3)) r = some (.inr (6, [.int 0, .ref (h0.2.1 + 0), .int 0, .int 0, .int (-1), .ref (h0.2.1 + 1), .ref (h0.2.1 + 2), .null, .int 0, .null, .null, .int 0, .null, .null, .null, .int 0, .int 0, .int 0, .null, .int 0])) := (jj_up_ne (by omega)).trans s.1
  refine jj_putfinal 7 ck_MO fl_MO_24 (by decide) rfl rfl rfl (by decide +kernel) b0 rfl rfl (Nat.lt_of_sub_eq_succ rfl) ?_
  exact b_MO_init_45 hG hr (s.step hr (n := 16386) (by decide) [.int 0, .ref (h0.2.1 + 0), .int 0, .int 0, .int (-1), .ref (h0.2.1 + 1), .ref (h0.2.1 + 2), .ref (h0.2.1 + 3), .int 0, .null, .null, .int 0, .null, .null, .null, .int 0, .int 0, .int 0, .null, .int 0])
set_option maxRecDepth 100000 in
set_option maxHeartbeats 4000000 in
theorem b_MO_init_27 {l : Launch} {G : jj_G} {h0 h : jj_H} {r : Nat} (hG : jj_tyG G) (hr : r < h0.2.1) (s : mk_S G r h0 2 [.int 0, .ref (h0.2.1 + 0), .int 0, .int 0, .int (-1), .ref (h0.2.1 + 1), .null, .null, .int 0, .null, .null, .int 0, .null, .null, .null, .int 0, .int 0, .int 0, .null, .int 0] h) : jj_P l G y_MO_init 1900 (mk_F l G h0 r) 27 [some (.ref r)] [] h := by
  obtain ⟨hm, z, w⟩ := h
  have e : z = h0.2.1 + 2 := s.2.1
  subst e
  refine jj_aload_n (j := 0) (by decide +kernel) rfl ?_
  refine jj_sipush (n := 16386) (v := nI 16386) (by decide +kernel) (by decide) ?_
  refine jj_newarray (atype := .int) (fty := .int) (N' := 16386) (a0 := (16386, .inl (fun _ => 0))) rfl (jj_tI hG) (fun _ q => q) ac_int (fun _ => rfl) (nI_pos (by omega)) (nI_clamp (by omega)) (by show 16386 * 4 ≤ _; omega) (by decide +kernel) ?_
  have b0 : jj_up hm (h0.2.1 + 2) (.inl (mk_cl G 2)) r = some (.inr (6, [.int 0, .ref (h0.2.1 + 0), .int 0, .int 0, .int (-1), .ref (h0.2.1 + 1), .null, .null, .int 0, .null, .null, .int 0, .null, .null, .null, .int 0, .int 0, .int 0, .null, .int 0])) := (jj_up_ne (by omega)).trans s.1
  refine jj_putfinal 6 ck_MO fl_MO_21 (by decide) rfl rfl rfl (by decide +kernel) b0 rfl rfl (Nat.lt_of_sub_eq_succ rfl) ?_
  exact b_MO_init_36 hG hr (s.step hr (n := 16386) (by decide) [.int 0, .ref (h0.2.1 + 0), .int 0, .int 0, .int (-1), .ref (h0.2.1 + 1), .ref (h0.2.1 + 2), .null, .int 0, .null, .null, .int 0, .null, .null, .null, .int 0, .int 0, .int 0, .null, .int 0])
set_option maxRecDepth 100000 in
set_option maxHeartbeats 4000000 in
theorem b_MO_init_18 {l : Launch} {G : jj_G} {h0 h : jj_H} {r : Nat} (hG : jj_tyG G) (hr : r < h0.2.1) (s : mk_S G r h0 1 [.int 0, .ref (h0.2.1 + 0), .int 0, .int 0, .int (-1), .null, .null, .null, .int 0, .null, .null, .int 0, .null, .null, .null, .int 0, .int 0, .int 0, .null, .int 0] h) : jj_P l G y_MO_init 1900 (mk_F l G h0 r) 18 [some (.ref r)] [] h := by
  obtain ⟨hm, z, w⟩ := h
  have e : z = h0.2.1 + 1 := s.2.1
  subst e
  refine jj_aload_n (j := 0) (by decide +kernel) rfl ?_
  refine jj_sipush (n := 16386) (v := nI 16386) (by decide +kernel) (by decide) ?_
  refine jj_newarray (atype := .int) (fty := .int) (N' := 16386) (a0 := (16386, .inl (fun _ => 0))) rfl (jj_tI hG) (fun _ q => q) ac_int (fun _ => rfl) (nI_pos (by omega)) (nI_clamp (by omega)) (by show 16386 * 4 ≤ _; omega) (by decide +kernel) ?_
  have b0 : jj_up hm (h0.2.1 + 1) (.inl (mk_cl G 1)) r = some (.inr (6, [.int 0, .ref (h0.2.1 + 0), .int 0, .int 0, .int (-1), .null, .null, .null, .int 0, .null, .null, .int 0, .null, .null, .null, .int 0, .int 0, .int 0, .null, .int 0])) := (jj_up_ne (by omega)).trans s.1
  refine jj_putfinal 5 ck_MO fl_MO_17 (by decide) rfl rfl rfl (by decide +kernel) b0 rfl rfl (Nat.lt_of_sub_eq_succ rfl) ?_
  exact b_MO_init_27 hG hr (s.step hr (n := 16386) (by decide) [.int 0, .ref (h0.2.1 + 0), .int 0, .int 0, .int (-1), .ref (h0.2.1 + 1), .null, .null, .int 0, .null, .null, .int 0, .null, .null, .null, .int 0, .int 0, .int 0, .null, .int 0])
set_option maxRecDepth 100000 in
set_option maxHeartbeats 4000000 in
theorem b_MO_init_4 {l : Launch} {G : jj_G} {h0 h : jj_H} {r : Nat} (hG : jj_tyG G) (hr : r < h0.2.1) (s : mk_S G r h0 0 [.int 0, .null, .int 0, .int 0, .int 0, .null, .null, .null, .int 0, .null, .null, .int 0, .null, .null, .null, .int 0, .int 0, .int 0, .null, .int 0] h) : jj_P l G y_MO_init 1900 (mk_F l G h0 r) 4 [some (.ref r)] [] h := by
  obtain ⟨hm, z, w⟩ := h
  have e : z = h0.2.1 + 0 := s.2.1
  subst e
  refine jj_aload_n (j := 0) (by decide +kernel) rfl ?_
  refine jj_sipush (n := 16384) (v := nI 16384) (by decide +kernel) (by decide) ?_
  refine jj_newarray (atype := .byte) (fty := .byte) (N' := 16384) (a0 := (16384, .inl (fun _ => 0))) rfl (jj_tB hG) (fun _ q => q) ac_byte (fun _ => rfl) (nI_pos (by omega)) (nI_clamp (by omega)) (by show 16384 * 1 ≤ _; omega) (by decide +kernel) ?_
  have b0 : jj_up hm (h0.2.1 + 0) (.inl (mk_cl G 0)) r = some (.inr (6, [.int 0, .null, .int 0, .int 0, .int 0, .null, .null, .null, .int 0, .null, .null, .int 0, .null, .null, .null, .int 0, .int 0, .int 0, .null, .int 0])) := (jj_up_ne (by omega)).trans s.1
  refine jj_putfinal 1 ck_MO fl_MO_7 (by decide) rfl rfl rfl (by decide +kernel) b0 rfl rfl (Nat.lt_of_sub_eq_succ rfl) ?_
  have s := s.step hr (n := 16384) (by decide) [.int 0, .ref (h0.2.1 + 0), .int 0, .int 0, .int 0, .null, .null, .null, .int 0, .null, .null, .int 0, .null, .null, .null, .int 0, .int 0, .int 0, .null, .int 0]
  refine jj_aload_n (j := 0) (by decide +kernel) rfl ?_
  refine jj_iconst (n := (-1)) (v := (-1)) (by decide +kernel) (by decide) ?_
  refine jj_putfield 4 ck_MO fl_MO_13 (by decide) rfl (by decide +kernel) s.1 rfl rfl (Nat.lt_of_sub_eq_succ rfl) ?_
  exact b_MO_init_18 hG hr (s.put hr [.int 0, .ref (h0.2.1 + 0), .int 0, .int 0, .int (-1), .null, .null, .null, .int 0, .null, .null, .int 0, .null, .null, .null, .int 0, .int 0, .int 0, .null, .int 0])
set_option maxRecDepth 100000 in
set_option maxHeartbeats 4000000 in
theorem mo_all (l : Launch) : mo_ok l := by
  intro G h r hG hrr hr
  refine jj_Q.of (by decide +kernel) (Nat.le_of_ble_eq_true rfl) ?_
  refine jj_aload_n (j := 0) (by decide +kernel) rfl ?_
  refine jj_objInit ml_MO_1 im_JO cw_JO (by decide +kernel) (by omega) (by decide) ?_
  exact b_MO_init_4 hG hr ⟨hrr, rfl, fun j hj => absurd hj (Nat.not_lt_zero _), fun _ _ _ => rfl, Nat.le_refl _⟩
