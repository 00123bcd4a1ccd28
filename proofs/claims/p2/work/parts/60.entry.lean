/-! from the law's entry to its loop -/
def mo_d : List Value := [.int 0, .null, .int 0, .int 0, .int 0, .null, .null, .null, .int 0, .null, .null, .int 0, .null, .null, .null, .int 0, .int 0, .int 0, .null, .int 0]
/-- the reference's constructor makes a reference -/
def mo_ok (l : Launch) : Prop := ∀ (G : jj_G) (h : jj_H) (r : Nat), jj_tyG G → h.1 r = some (.inr (6, mo_d)) → r < h.2.1 → jj_Q l G y_MO_init 1900 [.ref r] h (fun out h' => out = .inl none ∧ ∃ (own : Nat → Prop) (R : Nat → Int32 → jj_H → Prop) (t : Int32), rf_ok l G r own R 1900 ∧ R 0 t h' ∧ (∀ q, own q → (q = r ∨ h.2.1 ≤ q) ∧ q < h'.2.1) ∧ (∀ q, q < h.2.1 → q ≠ r → h'.1 q = h.1 q) ∧ h.2.1 ≤ h'.2.1 ∧ h'.2.1 ≤ h.2.1 + 1000 ∧ h'.2.2 ≤ h.2.2 + 3000000)
set_option maxRecDepth 100000 in
set_option maxHeartbeats 4000000 in
theorem law_all {l : Launch} {G : jj_G} {h : jj_H} (hG : jj_tyG G) (hmo : mo_ok l) (hL : G.2.2.2.2.2.2.1 ≤ 2560) : jj_P l G y_law 2000 (fun out h' => out = .inl (some (.int 1)) ∧ h'.2.1 ≤ h.2.1 + 601024 ∧ h'.2.2 ≤ h.2.2 + 7293034) 0 [some (.ref G.2.2.2.2.2.1), none, none, none, none, none, none] [] h := by
  refine jj_new (fs := [.null, .null, .null, .null, .null, .int 0]) ck_ST cl_LW_8 ni_ST it_ST (by intro j hj; rcases (show j = 0 ∨ j = 1 ∨ j = 2 ∨ j = 3 ∨ j = 4 ∨ j = 5 by omega) with rfl | rfl | rfl | rfl | rfl | rfl <;> rfl) (by decide +kernel) ?_
  refine jj_dup (by decide +kernel) rfl ?_
  refine jj_callr (c_ST_init (d := 1900) hG jj_up_self (Nat.lt_succ_self _) (by omega)) (fun o1 h1 hC => jj_callI ok_ST_init rfl rfl rfl ml_LW_30 im_ST_init (by decide +kernel) rfl (by omega) (Nat.le_of_ble_eq_true rfl) hC) (by rintro E h9 ⟨q9, -⟩; cases q9) ?_
  rintro v h1 ⟨hv, A, hA9, hS⟩
  cases hv
  refine jj_astore_n (j := 1) (by decide +kernel) (by decide) rfl ?_
  refine jj_new (fs := mo_d) ck_MO cl_LW_31 ni_MO it_MO (by intro j hj; rcases (show j = 0 ∨ j = 1 ∨ j = 2 ∨ j = 3 ∨ j = 4 ∨ j = 5 ∨ j = 6 ∨ j = 7 ∨ j = 8 ∨ j = 9 ∨ j = 10 ∨ j = 11 ∨ j = 12 ∨ j = 13 ∨ j = 14 ∨ j = 15 ∨ j = 16 ∨ j = 17 ∨ j = 18 ∨ j = 19 by omega) with rfl | rfl | rfl | rfl | rfl | rfl | rfl | rfl | rfl | rfl | rfl | rfl | rfl | rfl | rfl | rfl | rfl | rfl | rfl | rfl <;> rfl) (by decide +kernel) ?_
  refine jj_dup (by decide +kernel) rfl ?_
  refine jj_callr (hmo G _ _ hG jj_up_self (Nat.lt_succ_self _)) (fun o1 h1 hC => jj_callI ok_MO_init rfl rfl rfl ml_LW_33 im_MO_init (by decide +kernel) rfl (by omega) (Nat.le_of_ble_eq_true rfl) hC) (by rintro E h9 ⟨q9, -⟩; cases q9) ?_
  rintro v h3 ⟨hv, own, R, t, hrf, hR, ho, hfr, hz1, hz2, hz3⟩
  cases hv
  refine jj_astore_n (j := 2) (by decide +kernel) (by decide) rfl ?_
  refine jj_iconst (n := 1) (v := nI 1) (by decide +kernel) (by decide) ?_
  refine jj_newarray (atype := .long) (fty := .long) (N' := 1) (a0 := (1, .inr (.inl (fun _ => 0)))) rfl (jj_tL hG) (fun _ q => q) ac_long (fun _ => rfl) (by decide) (by decide) (by decide) (by decide +kernel) ?_
  refine jj_astore_n (j := 3) (by decide +kernel) (by decide) rfl ?_
  refine jj_iconst (n := 0) (v := nI 0) (by decide +kernel) (by decide) ?_
  refine jj_istore (i := 4) (by decide +kernel) (by decide) rfl ?_
  have hz1' : h1.2.1 + 1 ≤ h3.2.1 := hz1
  have hz2' : h3.2.1 ≤ h1.2.1 + 1 + 1000 := hz2
  have hz3' : h3.2.2 ≤ h1.2.2 + 20 + 3000000 := hz3
  have hfr' : ∀ q, q < h1.2.1 → h3.1 q = h1.1 q := fun q hq => (hfr q (Nat.lt_succ_of_lt hq) (Nat.ne_of_lt hq)).trans (jj_up_ne (Nat.ne_of_lt hq))
  obtain ⟨own', hS2, ha, hb⟩ := hS.rebase (h' := (jj_up h3.1 h3.2.1 (.inl (jj_cL G, 1, .inr (.inl (fun _ => 0)))), h3.2.1 + 1, h3.2.2 + 1)) (k1 := h.2.1 + 1013) (k2 := h.2.2 + 3000027) (fun q hq _ => (jj_up_ne (by omega)).trans (hfr' q hq)) (by show h1.2.1 ≤ h3.2.1 + 1; omega) (by show h3.2.1 + 1 + (h.2.1 + 1 + 10) ≤ h1.2.1 + (h.2.1 + 1013); omega) (by show h3.2.2 + 1 + (h.2.2 + 6) ≤ h1.2.2 + (h.2.2 + 3000027); omega)
  refine jj_P.imp (jj_wk (js_s (js_s (js_s (js_s (js_s (js_n (js_n js_0))))))) (law_loop (x := h.2.1) (m := h1.2.1) (q := h3.2.1) (k1 := h.2.1 + 1013) (k2 := h.2.2 + 3000027) hG hrf hL _ 0 _ (Nat.lt_succ_self _) (Nat.zero_le _) ⟨(_, own', A, h.2.1 + 1013, h.2.2 + 3000027, false), 0, 0, 0, t, (fun _ => 0), rfl, hA9, rfl, rfl, rfl, hS2, Nat.zero_le _, ?_, fun z hz => ?_, jj_up_self, Nat.lt_succ_self _, ?_, ?_, Nat.zero_le _⟩)) ?_
  · exact hrf.1 0 t h3 _ (fun q hq => jj_up_ne (Nat.ne_of_lt (ho q hq).2)) hR
  · have h9 := ho z hz
    refine ⟨Nat.lt_succ_of_lt h9.2, hb z ?_⟩
    rcases h9.1 with e | e
    · omega
    · have e' : h1.2.1 + 1 ≤ z := e
      omega
  · exact hb _ (by omega)
  · intro h9
    exact absurd (ho _ h9).2 (Nat.lt_irrefl _)
  · rintro out h9 ⟨rfl, b1, b2⟩
    exact ⟨rfl, by omega, by omega⟩
