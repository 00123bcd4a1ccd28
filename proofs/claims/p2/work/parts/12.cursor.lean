/-! the cursor: its object's twelve fields as a list of ints and references -/
/-- kind, value, place, fault, faultPlace, next, open of the grammar's object g, and where its rows stand -/
def gr_is (h : jj_H) (g tok tre cha dec pen : Nat) (ki va pl fa fp ne op : Int32) : Prop := h.1 g = some (.inr (5, [.ref cha, .ref dec, .ref pen, .int ki, .int va, .int pl, .int fa, .int fp, .ref tok, .ref tre, .int ne, .int op]))
theorem ise_ok : Bundle.fit "java/lang/IllegalStateException" = true ∧ (∀ n ∈ ["java/lang/RuntimeException", "java/lang/Exception"], Bundle.fit n = true) := by decide +kernel
set_option maxRecDepth 100000 in
set_option maxHeartbeats 4000000 in
theorem c_CU_raise {l : Launch} {G : jj_G} {d : Nat} {h : jj_H} {g tok tre cha dec pen : Nat} {ki va pl fa fp ne op : Int32} {w : Int32} (hg : gr_is h g tok tre cha dec pen ki va pl fa fp ne op) (hdd : 7 ≤ d) : jj_Q l G y_CU_raise d [.ref g, .int w] h (fun o h' => o = .inr "java/lang/IllegalStateException" ∧ gr_is h' g tok tre cha dec pen ki va pl w pl ne op ∧ (∀ x, x ≠ g → h'.1 x = h.1 x) ∧ h'.2 = (h.2.1 + 1, h.2.2 + 6)) := by
  unfold gr_is at hg
  refine jj_Q.of (by decide +kernel) (Nat.le_of_ble_eq_true rfl) ?_
  refine jj_aload_n (j := 0) (by decide +kernel) rfl ?_
  refine jj_iload_n (j := 1) (by decide +kernel) rfl ?_
  refine jj_putfield 6 ck_GR fl_CU_28 (by decide) rfl (by decide +kernel) hg rfl rfl (Nat.lt_of_sub_eq_succ rfl) ?_
  refine jj_aload_n (j := 0) (by decide +kernel) rfl ?_
  refine jj_aload_n (j := 0) (by decide +kernel) rfl ?_
  refine jj_getfield 5 ck_GR fl_CU_25 (by decide) (by decide +kernel) jj_up_self rfl ?_
  refine jj_putfield 7 ck_GR fl_CU_31 (by decide) rfl (by decide +kernel) jj_up_self rfl rfl (Nat.lt_of_sub_eq_succ rfl) ?_
  rw [jj_up_up]
  refine jj_throwS (is := 66) (text := _) ise_ok.1 ise_ok.2 (by decide) cl_CU_64 it_JI sr_CU_66 ta_CU_68 (by decide +kernel) (by decide +kernel) (by decide +kernel) (by decide +kernel) (by decide +kernel) rfl (by omega) (by decide) ?_
  exact ⟨rfl, jj_up_self, fun x hx => jj_up_ne hx, rfl⟩
