/-! the cursor's faults, and what is open -/
section SYU
variable {l : Launch} {G : jj_G} {X : sy_X} {K o N d m : Nat} {h : jj_H} {x : Int32}
theorem s_CU_raise (hX : X.2.2.2.2.2 = false) (hs : Sy G X K o N h) (hdd : 7 ≤ d) : jj_Q l G y_CU_raise d [.ref (X.2.2.1 12), .int x] h (sy_F 9 true G X K o N) := by
  obtain ⟨ki, va, pl, fa, fp, ne, hg⟩ := hs.gr hX
  refine (c_CU_raise (show gr_is h (X.2.2.1 12) (X.2.2.1 8) (X.2.2.1 7) (X.2.2.1 0) (X.2.2.1 5) (X.2.2.1 6) ki va pl fa fp ne (nI o) from hg) hdd).imp ?_
  rintro o1 h1 ⟨rfl, g1, g2, g3⟩
  have e1 : h1.2.1 = h.2.1 + 1 := by rw [g3]
  have e2 : h1.2.2 = h.2.2 + 6 := by rw [g3]
  exact ⟨rfl, rfl, o, hs.newGR hX (j := 1) ⟨ki, va, pl, x, pl, ne, g1⟩ g2 (by omega) (by omega) (by omega)⟩
theorem s_CU_enter (hX : X.2.2.2.2.2 = false) (ho : o + m = 40) (hs : Sy G X K o N h) (hdd : 8 ≤ d) : jj_Q l G y_CU_enter d [.ref (X.2.2.1 12)] h (sy_En G X K o N m) := by
  refine jj_Q.of (by decide +kernel) (Nat.le_of_ble_eq_true rfl) ?_
  refine jj_aload_n (j := 0) (by decide +kernel) rfl ?_
  obtain ⟨ki, va, pl, fa, fp, ne, hg⟩ := hs.gr hX
  refine jj_getfield 11 ck_GR fl_CU_37 (by decide) (by decide +kernel) hg rfl ?_
  refine jj_bipush (n := 40) (v := 40) (by decide +kernel) (by decide) ?_
  refine jj_icmp_lt (off := 8) (tgt := 14) (by decide +kernel) (by decide) (fun c1 => ?_) (fun c1 => ?_)
  · have h40 : o < 40 := (nI_ltI (a := o) (b := 40) (by omega) (by omega)).mp c1
    refine jj_aload_n (j := 0) (by decide +kernel) rfl ?_
    refine jj_dup (by decide +kernel) rfl ?_
    refine jj_getfield 11 ck_GR fl_CU_37 (by decide) (by decide +kernel) hg rfl ?_
    refine jj_iconst (n := 1) (v := 1) (by decide +kernel) (by decide) ?_
    refine jj_iadd (by decide +kernel) ?_
    refine sy_putO (o' := o + 1) hs hX (nI_1 o) fl_CU_37 (by decide +kernel) (fun h hs => ?_)
    exact jj_vret (by decide +kernel) rfl (Or.inl ⟨rfl, by omega, hs⟩)
  · refine jj_aload_n (j := 0) (by decide +kernel) rfl ?_
    refine jj_iconst (n := 5) (v := 5) (by decide +kernel) (by decide) ?_
    exact sy_cx (s_CU_raise (d := d - 1) hX hs (by omega)) (fun o1 h1 hC => jj_callV ok_CU_raise ml_CU_49 im_CU_raise se_GR_CU_raise (by decide +kernel) (hs.rcGR hX) rfl (by omega) (Nat.le_of_ble_eq_true rfl) hC) rfl (fun _ _ q => Or.inr ⟨rfl, _, q⟩)
theorem s_CU_leave (hX : X.2.2.2.2.2 = false) (hs : Sy G X K (o + 1) N h) : jj_Q l G y_CU_leave d [.ref (X.2.2.1 12)] h (sy_F 0 false G X K o N) := by
  refine jj_Q.of (by decide +kernel) (Nat.le_of_ble_eq_true rfl) ?_
  refine jj_aload_n (j := 0) (by decide +kernel) rfl ?_
  refine jj_dup (by decide +kernel) rfl ?_
  obtain ⟨ki, va, pl, fa, fp, ne, hg⟩ := hs.gr hX
  refine jj_getfield 11 ck_GR fl_CU_37 (by decide) (by decide +kernel) hg rfl ?_
  refine jj_iconst (n := 1) (v := 1) (by decide +kernel) (by decide) ?_
  refine jj_isub (by decide +kernel) ?_
  refine sy_putO (o' := o) hs hX (nI_pred o) fl_CU_37 (by decide +kernel) (fun h hs => ?_)
  exact jj_vret (by decide +kernel) rfl ⟨rfl, hs⟩
end SYU
