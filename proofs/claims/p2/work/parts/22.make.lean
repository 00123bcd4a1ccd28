/-! constructors -/
theorem im_JO : Cond.instanceMethod Lib.objectInit ∈ jj_T := jw 163 (by decide +kernel) rfl
theorem cw_JO : Cond.code Lib.objectInit ⟨#[0xb1]⟩ 1 none ∈ jj_T := jw 164 (by decide +kernel) rfl
set_option maxRecDepth 100000 in
set_option maxHeartbeats 4000000 in
theorem c_IR_init {l : Launch} {G : jj_G} {d : Nat} {h : jj_H} {r : Nat} {m : Nat} {u w : Value} (hG : jj_tyG G) (h0 : 1 ≤ m) (hm : m ≤ 1000) (hrr : h.1 r = some (.inr (1, [u, w]))) (hrl : r < h.2.1) (hdd : 1 ≤ d) : jj_Q l G y_IR_init d [.ref r, .int (nI m)] h (fun out h' => out = .inl none ∧ h' = (jj_up (jj_up h.1 h.2.1 (.inl (jj_cI G, m, .inl (fun _ => 0)))) r (.inr (1, [.ref h.2.1, .int (nI 0)])), h.2.1 + 1, h.2.2 + m)) := by
  refine jj_Q.of (by decide +kernel) (Nat.le_of_ble_eq_true rfl) ?_
  refine jj_aload_n (j := 0) (by decide +kernel) rfl ?_
  refine jj_objInit ml_IR_3 im_JO cw_JO (by decide +kernel) (by omega) (by decide) ?_
  refine jj_aload_n (j := 0) (by decide +kernel) rfl ?_
  refine jj_iload_n (j := 1) (by decide +kernel) rfl ?_
  refine jj_iconst (n := 1) (v := 1) (by decide +kernel) (by decide) ?_
  refine jj_icmp_ge (off := 7) (tgt := 14) (by decide +kernel) (by decide) (fun c1 => ?_) (fun c1 => absurd (show nI 1 ≤ nI m from nI_le h0 (by omega)) c1)
  refine jj_iload_n (j := 1) (by decide +kernel) rfl ?_
  refine jj_newarray (atype := .int) (fty := .int) (N' := m) (a0 := (m, .inl (fun _ => 0))) rfl (jj_tI hG) (fun _ q => q) ac_int (fun _ => rfl) (nI_pos (by omega)) (nI_clamp (by omega)) (by show m * 4 ≤ _; omega) (by decide +kernel) ?_
  have hrr2 : (jj_up h.1 h.2.1 (.inl (jj_cI G, m, .inl (fun _ => 0)))) r = some (.inr (1, [u, w])) := (jj_up_ne (by omega)).trans hrr
  refine jj_putfield 0 ck_IR fl_IR_9 (by decide) rfl (by decide +kernel) hrr2 rfl rfl (Nat.lt_of_sub_eq_succ rfl) ?_
  refine jj_aload_n (j := 0) (by decide +kernel) rfl ?_
  refine jj_iconst (n := 0) (v := 0) (by decide +kernel) (by decide) ?_
  refine jj_putfield 1 ck_IR fl_IR_15 (by decide) rfl (by decide +kernel) jj_up_self rfl rfl (Nat.lt_of_sub_eq_succ rfl) ?_
  refine jj_vret (by decide +kernel) rfl ⟨rfl, ?_⟩
  rw [jj_up_up]
  rfl
set_option maxRecDepth 100000 in
set_option maxHeartbeats 4000000 in
theorem c_TB_init {l : Launch} {G : jj_G} {d : Nat} {h : jj_H} {r : Nat} {u w : Value} (hG : jj_tyG G) (hrr : h.1 r = some (.inr (2, [u, w]))) (hrl : r < h.2.1) (hdd : 1 ≤ d) : jj_Q l G y_TB_init d [.ref r] h (fun out h' => out = .inl none ∧ h' = (jj_up (jj_up h.1 h.2.1 (.inl (jj_cI G, 192, .inl (fun _ => 0)))) r (.inr (2, [.ref h.2.1, .int (nI 0)])), h.2.1 + 1, h.2.2 + 192)) := by
  refine jj_Q.of (by decide +kernel) (Nat.le_of_ble_eq_true rfl) ?_
  refine jj_aload_n (j := 0) (by decide +kernel) rfl ?_
  refine jj_objInit ml_TB_3 im_JO cw_JO (by decide +kernel) (by omega) (by decide) ?_
  refine jj_aload_n (j := 0) (by decide +kernel) rfl ?_
  refine jj_sipush (n := 192) (v := nI 192) (by decide +kernel) (by decide) ?_
  refine jj_newarray (atype := .int) (fty := .int) (N' := 192) (a0 := (192, .inl (fun _ => 0))) rfl (jj_tI hG) (fun _ q => q) ac_int (fun _ => rfl) (nI_pos (by omega)) (nI_clamp (by omega)) (by show 192 * 4 ≤ _; omega) (by decide +kernel) ?_
  have hrr2 : (jj_up h.1 h.2.1 (.inl (jj_cI G, 192, .inl (fun _ => 0)))) r = some (.inr (2, [u, w])) := (jj_up_ne (by omega)).trans hrr
  refine jj_putfield 0 ck_TB fl_TB_9 (by decide) rfl (by decide +kernel) hrr2 rfl rfl (Nat.lt_of_sub_eq_succ rfl) ?_
  refine jj_aload_n (j := 0) (by decide +kernel) rfl ?_
  refine jj_iconst (n := 0) (v := 0) (by decide +kernel) (by decide) ?_
  refine jj_putfield 1 ck_TB fl_TB_15 (by decide) rfl (by decide +kernel) jj_up_self rfl rfl (Nat.lt_of_sub_eq_succ rfl) ?_
  refine jj_vret (by decide +kernel) rfl ⟨rfl, ?_⟩
  rw [jj_up_up]
  rfl
set_option maxRecDepth 100000 in
set_option maxHeartbeats 4000000 in
theorem c_SC_init {l : Launch} {G : jj_G} {d : Nat} {h : jj_H} {r : Nat} {a b c : Nat} {u0 u1 u2 u3 : Value} (hrr : h.1 r = some (.inr (4, [u0, u1, u2, u3]))) (hdd : 1 ≤ d) : jj_Q l G y_SC_init d [.ref r, .ref a, .ref b, .ref c] h (fun out h' => out = .inl none ∧ h' = (jj_up h.1 r (.inr (4, [.ref a, .ref b, .ref c, .int (-1)])), h.2)) := by
  refine jj_Q.of (by decide +kernel) (Nat.le_of_ble_eq_true rfl) ?_
  refine jj_aload_n (j := 0) (by decide +kernel) rfl ?_
  refine jj_objInit ml_SC_3 im_JO cw_JO (by decide +kernel) (by omega) (by decide) ?_
  refine jj_aload_n (j := 0) (by decide +kernel) rfl ?_
  refine jj_aload_n (j := 1) (by decide +kernel) rfl ?_
  refine jj_putfinal 0 ck_SC fl_SC_9 (by decide) rfl rfl rfl (by decide +kernel) hrr rfl rfl (Nat.lt_of_sub_eq_succ rfl) ?_
  refine jj_aload_n (j := 0) (by decide +kernel) rfl ?_
  refine jj_aload_n (j := 2) (by decide +kernel) rfl ?_
  refine jj_putfinal 1 ck_SC fl_SC_15 (by decide) rfl rfl rfl (by decide +kernel) jj_up_self rfl rfl (Nat.lt_of_sub_eq_succ rfl) ?_
  refine jj_aload_n (j := 0) (by decide +kernel) rfl ?_
  refine jj_aload_n (j := 3) (by decide +kernel) rfl ?_
  refine jj_putfinal 2 ck_SC fl_SC_19 (by decide) rfl rfl rfl (by decide +kernel) jj_up_self rfl rfl (Nat.lt_of_sub_eq_succ rfl) ?_
  refine jj_aload_n (j := 0) (by decide +kernel) rfl ?_
  refine jj_iconst (n := (-1)) (v := (-1)) (by decide +kernel) (by decide) ?_
  refine jj_putfield 3 ck_SC fl_SC_23 (by decide) rfl (by decide +kernel) jj_up_self rfl rfl (Nat.lt_of_sub_eq_succ rfl) ?_
  refine jj_vret (by decide +kernel) rfl ⟨rfl, ?_⟩
  rw [jj_up_up, jj_up_up, jj_up_up]
  rfl
set_option maxRecDepth 100000 in
set_option maxHeartbeats 4000000 in
theorem c_CU_init {l : Launch} {G : jj_G} {d : Nat} {h : jj_H} {r : Nat} {a b : Nat} {u0 u1 u2 u3 u4 u5 u6 u7 u8 u9 u10 u11 : Value} (hrr : h.1 r = some (.inr (5, [u0, u1, u2, u3, u4, u5, u6, u7, u8, u9, u10, u11]))) (hdd : 1 ≤ d) : jj_Q l G y_CU_init d [.ref r, .ref a, .ref b] h (fun out h' => out = .inl none ∧ h' = (jj_up h.1 r (.inr (5, [u0, u1, u2, .int (-1), .int 0, .int 0, .int 0, .int (-1), .ref a, .ref b, .int 0, .int (nI 0)])), h.2)) := by
  refine jj_Q.of (by decide +kernel) (Nat.le_of_ble_eq_true rfl) ?_
  refine jj_aload_n (j := 0) (by decide +kernel) rfl ?_
  refine jj_objInit ml_CU_3 im_JO cw_JO (by decide +kernel) (by omega) (by decide) ?_
  refine jj_aload_n (j := 0) (by decide +kernel) rfl ?_
  refine jj_aload_n (j := 1) (by decide +kernel) rfl ?_
  refine jj_putfinal 8 ck_GR fl_CU_9 (by decide) rfl rfl rfl (by decide +kernel) hrr rfl rfl (Nat.lt_of_sub_eq_succ rfl) ?_
  refine jj_aload_n (j := 0) (by decide +kernel) rfl ?_
  refine jj_aload_n (j := 2) (by decide +kernel) rfl ?_
  refine jj_putfinal 9 ck_GR fl_CU_15 (by decide) rfl rfl rfl (by decide +kernel) jj_up_self rfl rfl (Nat.lt_of_sub_eq_succ rfl) ?_
  refine jj_aload_n (j := 0) (by decide +kernel) rfl ?_
  refine jj_iconst (n := (-1)) (v := (-1)) (by decide +kernel) (by decide) ?_
  refine jj_putfield 3 ck_GR fl_CU_18 (by decide) rfl (by decide +kernel) jj_up_self rfl rfl (Nat.lt_of_sub_eq_succ rfl) ?_
  refine jj_aload_n (j := 0) (by decide +kernel) rfl ?_
  refine jj_iconst (n := 0) (v := 0) (by decide +kernel) (by decide) ?_
  refine jj_putfield 4 ck_GR fl_CU_22 (by decide) rfl (by decide +kernel) jj_up_self rfl rfl (Nat.lt_of_sub_eq_succ rfl) ?_
  refine jj_aload_n (j := 0) (by decide +kernel) rfl ?_
  refine jj_iconst (n := 0) (v := 0) (by decide +kernel) (by decide) ?_
  refine jj_putfield 5 ck_GR fl_CU_25 (by decide) rfl (by decide +kernel) jj_up_self rfl rfl (Nat.lt_of_sub_eq_succ rfl) ?_
  refine jj_aload_n (j := 0) (by decide +kernel) rfl ?_
  refine jj_iconst (n := 0) (v := 0) (by decide +kernel) (by decide) ?_
  refine jj_putfield 6 ck_GR fl_CU_28 (by decide) rfl (by decide +kernel) jj_up_self rfl rfl (Nat.lt_of_sub_eq_succ rfl) ?_
  refine jj_aload_n (j := 0) (by decide +kernel) rfl ?_
  refine jj_iconst (n := (-1)) (v := (-1)) (by decide +kernel) (by decide) ?_
  refine jj_putfield 7 ck_GR fl_CU_31 (by decide) rfl (by decide +kernel) jj_up_self rfl rfl (Nat.lt_of_sub_eq_succ rfl) ?_
  refine jj_aload_n (j := 0) (by decide +kernel) rfl ?_
  refine jj_iconst (n := 0) (v := 0) (by decide +kernel) (by decide) ?_
  refine jj_putfield 10 ck_GR fl_CU_34 (by decide) rfl (by decide +kernel) jj_up_self rfl rfl (Nat.lt_of_sub_eq_succ rfl) ?_
  refine jj_aload_n (j := 0) (by decide +kernel) rfl ?_
  refine jj_iconst (n := 0) (v := 0) (by decide +kernel) (by decide) ?_
  refine jj_putfield 11 ck_GR fl_CU_37 (by decide) rfl (by decide +kernel) jj_up_self rfl rfl (Nat.lt_of_sub_eq_succ rfl) ?_
  refine jj_vret (by decide +kernel) rfl ⟨rfl, ?_⟩
  rw [jj_up_up, jj_up_up, jj_up_up, jj_up_up, jj_up_up, jj_up_up, jj_up_up, jj_up_up]
  rfl
set_option maxRecDepth 100000 in
set_option maxHeartbeats 4000000 in
theorem c_GR_init {l : Launch} {G : jj_G} {d : Nat} {h : jj_H} {r : Nat} {a b c : Nat} {u0 u1 u2 u3 u4 u5 u6 u7 u8 u9 u10 u11 : Value} (hG : jj_tyG G) (hrr : h.1 r = some (.inr (5, [u0, u1, u2, u3, u4, u5, u6, u7, u8, u9, u10, u11]))) (hrl : r < h.2.1) (hdd : 3 ≤ d) : jj_Q l G y_GR_init d [.ref r, .ref a, .ref b, .ref c] h (fun out h' => out = .inl none ∧ h'.1 r = some (.inr (5, [.ref a, .ref h.2.1, .ref (h.2.1 + 2), .int (-1), .int 0, .int 0, .int 0, .int (-1), .ref b, .ref c, .int 0, .int (nI 0)])) ∧ h'.1 h.2.1 = some (.inr (1, [.ref (h.2.1 + 1), .int (nI 0)])) ∧ h'.1 (h.2.1 + 1) = some (.inl (jj_cI G, 64, .inl (fun _ => 0))) ∧ h'.1 (h.2.1 + 2) = some (.inr (1, [.ref (h.2.1 + 3), .int (nI 0)])) ∧ h'.1 (h.2.1 + 3) = some (.inl (jj_cI G, 64, .inl (fun _ => 0))) ∧ (∀ q, q < h.2.1 → q ≠ r → h'.1 q = h.1 q) ∧ h'.2 = (h.2.1 + 4, h.2.2 + 132)) := by
  refine jj_Q.of (by decide +kernel) (Nat.le_of_ble_eq_true rfl) ?_
  refine jj_aload_n (j := 0) (by decide +kernel) rfl ?_
  refine jj_aload_n (j := 2) (by decide +kernel) rfl ?_
  refine jj_aload_n (j := 3) (by decide +kernel) rfl ?_
  refine jj_callr (c_CU_init (d := d - 1) hrr (by omega)) (fun o1 h1 hC => jj_callI ok_CU_init rfl rfl rfl ml_GR_3 im_CU_init (by decide +kernel) rfl (by omega) (Nat.le_of_ble_eq_true rfl) hC) (by rintro E h1 ⟨q, -⟩; cases q) ?_
  rintro v h1 ⟨hv, rfl⟩
  cases hv
  refine jj_aload_n (j := 0) (by decide +kernel) rfl ?_
  refine jj_aload_n (j := 1) (by decide +kernel) rfl ?_
  refine jj_putfinal 0 ck_GR fl_GR_9 (by decide) rfl rfl rfl (by decide +kernel) jj_up_self rfl rfl (Nat.lt_of_sub_eq_succ rfl) ?_
  rw [jj_up_up]
  refine jj_aload_n (j := 0) (by decide +kernel) rfl ?_
  refine jj_new (fs := [.null, .int 0]) ck_IR cl_GR_15 ni_IR it_IR (by intro j hj; rcases (show j = 0 ∨ j = 1 by omega) with rfl | rfl <;> rfl) (by decide +kernel) ?_
  refine jj_dup (by decide +kernel) rfl ?_
  refine jj_bipush (n := 64) (v := nI 64) (by decide +kernel) (by decide) ?_
  refine jj_callr (c_IR_init (d := d - 1) hG (by decide) (by decide) jj_up_self (Nat.lt_succ_self _) (by omega)) (fun o1 h1 hC => jj_callI ok_IR_init rfl rfl rfl ml_GR_17 im_IR_init (by decide +kernel) rfl (by omega) (Nat.le_of_ble_eq_true rfl) hC) (by rintro E h1 ⟨q, -⟩; cases q) ?_
  rintro v h1 ⟨hv, rfl⟩
  cases hv
  refine jj_putfinal 1 ck_GR fl_GR_20 (by decide) rfl rfl rfl (by decide +kernel) ((jj_up_ne (Nat.ne_of_lt hrl)).trans ((jj_up_ne (by show r ≠ h.2.1 + 1; omega)).trans ((jj_up_ne (Nat.ne_of_lt hrl)).trans jj_up_self))) rfl rfl (Nat.lt_of_sub_eq_succ rfl) ?_
  refine jj_aload_n (j := 0) (by decide +kernel) rfl ?_
  refine jj_new (fs := [.null, .int 0]) ck_IR cl_GR_15 ni_IR it_IR (by intro j hj; rcases (show j = 0 ∨ j = 1 by omega) with rfl | rfl <;> rfl) (by decide +kernel) ?_
  refine jj_dup (by decide +kernel) rfl ?_
  refine jj_bipush (n := 64) (v := nI 64) (by decide +kernel) (by decide) ?_
  refine jj_callr (c_IR_init (d := d - 1) hG (by decide) (by decide) jj_up_self (Nat.lt_succ_self _) (by omega)) (fun o1 h1 hC => jj_callI ok_IR_init rfl rfl rfl ml_GR_17 im_IR_init (by decide +kernel) rfl (by omega) (Nat.le_of_ble_eq_true rfl) hC) (by rintro E h1 ⟨q, -⟩; cases q) ?_
  rintro v h1 ⟨hv, rfl⟩
  cases hv
  refine jj_putfinal 2 ck_GR fl_GR_23 (by decide) rfl rfl rfl (by decide +kernel) ((jj_up_ne (by show r ≠ h.2.1 + 1 + 1; omega)).trans ((jj_up_ne (by show r ≠ h.2.1 + 1 + 1 + 1; omega)).trans ((jj_up_ne (by show r ≠ h.2.1 + 1 + 1; omega)).trans jj_up_self))) rfl rfl (Nat.lt_of_sub_eq_succ rfl) ?_
  have n0 : h.2.1 ≠ r := by omega
  have n1 : h.2.1 + 1 ≠ r := by omega
  have n2 : h.2.1 + 2 ≠ r := by omega
  have n3 : h.2.1 + 3 ≠ r := by omega
  refine jj_vret (by decide +kernel) rfl ⟨rfl, jj_up_self, ?_, ?_, ?_, ?_, fun q hq hne => ?_, rfl⟩
  · simp [jj_up, n0, n1, n2, n3]
    rw [if_neg (by omega), if_neg (by omega), if_neg (by omega)]
  · simp [jj_up, n0, n1, n2, n3]
  · simp [jj_up, n0, n1, n2, n3]
  · simp [jj_up, n0, n1, n2, n3]
  · simp [jj_up]
    repeat' (rw [if_neg (by omega)])
