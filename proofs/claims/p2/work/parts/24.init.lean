theorem Sy.frame {G : jj_G} {X : sy_X} {K o N : Nat} {h : jj_H} (hs : Sy G X K o N h) : X.1.2.1 ≤ h.2.1 ∧ ∀ q, q < X.1.2.1 → ¬ X.2.1 q → h.1 q = X.1.1 q := by
  obtain ⟨w, c, hs⟩ := hs
  exact ⟨hs.2.2.2.2.2.2.1, hs.2.2.2.2.2.1⟩
set_option maxRecDepth 100000 in
set_option maxHeartbeats 4000000 in
theorem b_ST_init_4 {l : Launch} {G : jj_G} {d : Nat} {F : jj_O → jj_H → Prop} {h : jj_H} {r : Nat} {u0 u1 u2 u3 u4 u5 : Value} (hG : jj_tyG G) (hdd : 2 ≤ d) (hrl : r < h.2.1) (hrr : h.1 r = some (.inr (0, [u0, u1, u2, u3, u4, u5]))) (kk : ∀ h' : jj_H, mk_st G h r 0 [.ref h.2.1, u1, u2, u3, u4, u5] 1 64 h' → jj_P l G y_ST_init d F 17 [some (.ref r), none] [] h') : jj_P l G y_ST_init d F 4 [some (.ref r), none] [] h := by
  refine jj_aload_n (j := 0) (by decide +kernel) rfl ?_
  refine jj_new (fs := [.null, .int 0]) ck_IR cl_ST_9 ni_IR it_IR (by intro j hj; rcases (show j = 0 ∨ j = 1 by omega) with rfl | rfl <;> rfl) (by decide +kernel) ?_
  refine jj_dup (by decide +kernel) rfl ?_
  refine jj_bipush (n := 64) (v := nI 64) (by decide +kernel) (by decide) ?_
  refine jj_callr (c_IR_init (d := d - 1) hG (by decide) (by decide) jj_up_self (Nat.lt_succ_self _) (by omega)) (fun o1 h1 hC => jj_callI ok_IR_init rfl rfl rfl ml_ST_11 im_IR_init (by decide +kernel) rfl (by omega) (Nat.le_of_ble_eq_true rfl) hC) (by rintro E h1 ⟨q, -⟩; cases q) ?_
  rintro v h1 ⟨hv, rfl⟩
  cases hv
  refine jj_putfinal 0 ck_ST fl_ST_14 (by decide) rfl rfl rfl (by decide +kernel) ((jj_up_ne (Nat.ne_of_lt hrl)).trans ((jj_up_ne (by show r ≠ h.2.1 + 1; omega)).trans ((jj_up_ne (Nat.ne_of_lt hrl)).trans hrr))) rfl rfl (Nat.lt_of_sub_eq_succ rfl) ?_
  exact kk _ (mk_st.of hrl)
set_option maxRecDepth 100000 in
set_option maxHeartbeats 4000000 in
theorem b_ST_init_17 {l : Launch} {G : jj_G} {d : Nat} {F : jj_O → jj_H → Prop} {h : jj_H} {r : Nat} {u0 u1 u2 u3 u4 u5 : Value} (hG : jj_tyG G) (hdd : 13 ≤ d) (hrl : r < h.2.1) (hrr : h.1 r = some (.inr (0, [u0, u1, u2, u3, u4, u5]))) (kk : ∀ h3 : jj_H, Sy G ((jj_up h.1 h.2.1 (.inr (3, [.null, .null, .null, .null, .int 0])), h.2.1 + 1, h.2.2 + 5), (fun q => q = h.2.1), sp_A h.2.1 (h.2.1 + 1), h.2.1 + 1, h.2.2 + 5, true) 0 0 0 h3 → jj_P l G y_ST_init d F 28 [some (.ref r), none] [] (jj_up h3.1 r (.inr (0, [u0, .ref h.2.1, u2, u3, u4, u5])), h3.2)) : jj_P l G y_ST_init d F 17 [some (.ref r), none] [] h := by
  refine jj_aload_n (j := 0) (by decide +kernel) rfl ?_
  refine jj_new (fs := [.null, .null, .null, .null, .int 0]) ck_SP cl_ST_18 ni_SP it_SP (by intro j hj; rcases (show j = 0 ∨ j = 1 ∨ j = 2 ∨ j = 3 ∨ j = 4 by omega) with rfl | rfl | rfl | rfl | rfl <;> rfl) (by decide +kernel) ?_
  refine jj_dup (by decide +kernel) rfl ?_
  refine jj_callr (c_SP_init (d := d - 1) hG jj_up_self (Nat.lt_succ_self _) (by omega)) (fun o1 h1 hC => jj_callI ok_SP_init rfl rfl rfl ml_ST_20 im_SP_init (by decide +kernel) rfl (by omega) (Nat.le_of_ble_eq_true rfl) hC) (by rintro E h1 ⟨q, -⟩; cases q) ?_
  rintro v h1 ⟨hv, hS⟩
  cases hv
  have hrr2 : h1.1 r = some (.inr (0, [u0, u1, u2, u3, u4, u5])) := (hS.frame.2 r (Nat.lt_succ_of_lt hrl) (Nat.ne_of_lt hrl)).trans ((jj_up_ne (Nat.ne_of_lt hrl)).trans hrr)
  refine jj_putfinal 1 ck_ST fl_ST_21 (by decide) rfl rfl rfl (by decide +kernel) hrr2 rfl rfl (Nat.lt_of_sub_eq_succ rfl) ?_
  exact kk h1 hS
set_option maxRecDepth 100000 in
set_option maxHeartbeats 4000000 in
theorem b_ST_init_28 {l : Launch} {G : jj_G} {d : Nat} {F : jj_O → jj_H → Prop} {h : jj_H} {r : Nat} {u0 u1 u2 u3 u4 u5 : Value} (hG : jj_tyG G) (hdd : 2 ≤ d) (hrl : r < h.2.1) (hrr : h.1 r = some (.inr (0, [u0, u1, u2, u3, u4, u5]))) (kk : ∀ h' : jj_H, mk_st G h r 0 [u0, u1, .ref h.2.1, u3, u4, u5] 2 192 h' → jj_P l G y_ST_init d F 39 [some (.ref r), none] [] h') : jj_P l G y_ST_init d F 28 [some (.ref r), none] [] h := by
  refine jj_aload_n (j := 0) (by decide +kernel) rfl ?_
  refine jj_new (fs := [.null, .int 0]) ck_TB cl_ST_25 ni_TB it_TB (by intro j hj; rcases (show j = 0 ∨ j = 1 by omega) with rfl | rfl <;> rfl) (by decide +kernel) ?_
  refine jj_dup (by decide +kernel) rfl ?_
  refine jj_callr (c_TB_init (d := d - 1) hG jj_up_self (Nat.lt_succ_self _) (by omega)) (fun o1 h1 hC => jj_callI ok_TB_init rfl rfl rfl ml_ST_27 im_TB_init (by decide +kernel) rfl (by omega) (Nat.le_of_ble_eq_true rfl) hC) (by rintro E h1 ⟨q, -⟩; cases q) ?_
  rintro v h1 ⟨hv, rfl⟩
  cases hv
  refine jj_putfinal 2 ck_ST fl_ST_28 (by decide) rfl rfl rfl (by decide +kernel) ((jj_up_ne (Nat.ne_of_lt hrl)).trans ((jj_up_ne (by show r ≠ h.2.1 + 1; omega)).trans ((jj_up_ne (Nat.ne_of_lt hrl)).trans hrr))) rfl rfl (Nat.lt_of_sub_eq_succ rfl) ?_
  exact kk _ (mk_st.of hrl)
set_option maxRecDepth 100000 in
set_option maxHeartbeats 4000000 in
theorem b_ST_init_39 {l : Launch} {G : jj_G} {d : Nat} {F : jj_O → jj_H → Prop} {h : jj_H} {r : Nat} {u0 u1 u2 u3 u4 u5 : Value} (hG : jj_tyG G) (hdd : 2 ≤ d) (hrl : r < h.2.1) (hrr : h.1 r = some (.inr (0, [u0, u1, u2, u3, u4, u5]))) (kk : ∀ h' : jj_H, mk_row G h' 2 h.2.1 192 → (∀ q, q < h.2.1 → h'.1 q = h.1 q) → h'.2 = (h.2.1 + 2, h.2.2 + 194) → jj_P l G y_ST_init d F 47 [some (.ref r), some (.ref h.2.1)] [] h') : jj_P l G y_ST_init d F 39 [some (.ref r), none] [] h := by
  refine jj_new (fs := [.null, .int 0]) ck_TB cl_ST_25 ni_TB it_TB (by intro j hj; rcases (show j = 0 ∨ j = 1 by omega) with rfl | rfl <;> rfl) (by decide +kernel) ?_
  refine jj_dup (by decide +kernel) rfl ?_
  refine jj_callr (c_TB_init (d := d - 1) hG jj_up_self (Nat.lt_succ_self _) (by omega)) (fun o1 h1 hC => jj_callI ok_TB_init rfl rfl rfl ml_ST_27 im_TB_init (by decide +kernel) rfl (by omega) (Nat.le_of_ble_eq_true rfl) hC) (by rintro E h1 ⟨q, -⟩; cases q) ?_
  rintro v h1 ⟨hv, rfl⟩
  cases hv
  refine jj_astore_n (j := 1) (by decide +kernel) (by decide) rfl ?_
  exact kk _ ⟨jj_up_self, (jj_up_ne (Nat.succ_ne_self _)).trans jj_up_self⟩ (fun q hq => (jj_up_ne (Nat.ne_of_lt hq)).trans ((jj_up_ne (Nat.ne_of_lt (Nat.lt_succ_of_lt hq))).trans (jj_up_ne (Nat.ne_of_lt hq)))) rfl
set_option maxRecDepth 100000 in
set_option maxHeartbeats 4000000 in
theorem b_ST_init_47 {l : Launch} {G : jj_G} {d : Nat} {F : jj_O → jj_H → Prop} {h : jj_H} {r a b c t : Nat} {u3 u4 u5 : Value} (hdd : 2 ≤ d) (hrl : r < h.2.1) (hrr : h.1 r = some (.inr (0, [.ref a, .ref b, .ref c, u3, u4, u5]))) (kk : ∀ h' : jj_H, h'.1 r = some (.inr (0, [.ref a, .ref b, .ref c, .ref h.2.1, u4, u5])) → h'.1 h.2.1 = some (.inr (4, [.ref a, .ref b, .ref t, .int (-1)])) → (∀ q, q < h.2.1 → q ≠ r → h'.1 q = h.1 q) → h'.2 = (h.2.1 + 1, h.2.2 + 4) → jj_P l G y_ST_init d F 67 [some (.ref r), some (.ref t)] [] h') : jj_P l G y_ST_init d F 47 [some (.ref r), some (.ref t)] [] h := by
  refine jj_aload_n (j := 0) (by decide +kernel) rfl ?_
  refine jj_new (fs := [.null, .null, .null, .int 0]) ck_SC cl_ST_32 ni_SC it_SC (by intro j hj; rcases (show j = 0 ∨ j = 1 ∨ j = 2 ∨ j = 3 by omega) with rfl | rfl | rfl | rfl <;> rfl) (by decide +kernel) ?_
  refine jj_dup (by decide +kernel) rfl ?_
  have hrr2 := (jj_up_ne (f := h.1) (a := h.2.1) (e := .inr (4, [.null, .null, .null, .int 0])) (Nat.ne_of_lt hrl)).trans hrr
  refine jj_aload_n (j := 0) (by decide +kernel) rfl ?_
  refine jj_getfield 0 ck_ST fl_ST_14 (by decide) (by decide +kernel) hrr2 rfl ?_
  refine jj_aload_n (j := 0) (by decide +kernel) rfl ?_
  refine jj_getfield 1 ck_ST fl_ST_21 (by decide) (by decide +kernel) hrr2 rfl ?_
  refine jj_aload_n (j := 1) (by decide +kernel) rfl ?_
  refine jj_callr (c_SC_init (d := d - 1) jj_up_self (by omega)) (fun o1 h1 hC => jj_callI ok_SC_init rfl rfl rfl ml_ST_34 im_SC_init (by decide +kernel) rfl (by omega) (Nat.le_of_ble_eq_true rfl) hC) (by rintro E h1 ⟨q, -⟩; cases q) ?_
  rintro v h1 ⟨hv, rfl⟩
  cases hv
  rw [jj_up_up]
  have hrr3 := (jj_up_ne (f := h.1) (a := h.2.1) (e := .inr (4, [.ref a, .ref b, .ref t, .int (-1)])) (Nat.ne_of_lt hrl)).trans hrr
  refine jj_putfinal 3 ck_ST fl_ST_37 (by decide) rfl rfl rfl (by decide +kernel) hrr3 rfl rfl (Nat.lt_of_sub_eq_succ rfl) ?_
  exact kk _ jj_up_self ((jj_up_ne (Nat.ne_of_gt hrl)).trans jj_up_self) (fun q hq hne => (jj_up_ne hne).trans (jj_up_ne (Nat.ne_of_lt hq))) rfl
set_option maxRecDepth 100000 in
set_option maxHeartbeats 4000000 in
theorem b_ST_init_67 {l : Launch} {G : jj_G} {d : Nat} {F : jj_O → jj_H → Prop} {h : jj_H} {r a b c t s : Nat} {u4 u5 : Value} (hG : jj_tyG G) (hdd : 5 ≤ d) (hrl : r < h.2.1) (hrr : h.1 r = some (.inr (0, [.ref a, .ref b, .ref c, .ref s, u4, u5]))) (kk : ∀ h' : jj_H, h'.1 r = some (.inr (0, [.ref a, .ref b, .ref c, .ref s, .ref h.2.1, .int (-1)])) → h'.1 h.2.1 = some (.inr (5, [.ref a, .ref (h.2.1 + 1), .ref (h.2.1 + 3), .int (-1), .int 0, .int 0, .int 0, .int (-1), .ref t, .ref c, .int 0, .int (nI 0)])) → mk_row G h' 1 (h.2.1 + 1) 64 → mk_row G h' 1 (h.2.1 + 3) 64 → (∀ q, q < h.2.1 → q ≠ r → h'.1 q = h.1 q) → h'.2 = (h.2.1 + 5, h.2.2 + 144) → F (.inl none) h') : jj_P l G y_ST_init d F 67 [some (.ref r), some (.ref t)] [] h := by
  refine jj_aload_n (j := 0) (by decide +kernel) rfl ?_
  refine jj_new (fs := [.null, .null, .null, .int 0, .int 0, .int 0, .int 0, .int 0, .null, .null, .int 0, .int 0]) ck_GR cl_ST_41 ni_GR it_GR (by intro j hj; rcases (show j = 0 ∨ j = 1 ∨ j = 2 ∨ j = 3 ∨ j = 4 ∨ j = 5 ∨ j = 6 ∨ j = 7 ∨ j = 8 ∨ j = 9 ∨ j = 10 ∨ j = 11 by omega) with rfl | rfl | rfl | rfl | rfl | rfl | rfl | rfl | rfl | rfl | rfl | rfl <;> rfl) (by decide +kernel) ?_
  refine jj_dup (by decide +kernel) rfl ?_
  have hrr2 := (jj_up_ne (f := h.1) (a := h.2.1) (e := .inr (5, [.null, .null, .null, .int 0, .int 0, .int 0, .int 0, .int 0, .null, .null, .int 0, .int 0])) (Nat.ne_of_lt hrl)).trans hrr
  refine jj_aload_n (j := 0) (by decide +kernel) rfl ?_
  refine jj_getfield 0 ck_ST fl_ST_14 (by decide) (by decide +kernel) hrr2 rfl ?_
  refine jj_aload_n (j := 1) (by decide +kernel) rfl ?_
  refine jj_aload_n (j := 0) (by decide +kernel) rfl ?_
  refine jj_getfield 2 ck_ST fl_ST_28 (by decide) (by decide +kernel) hrr2 rfl ?_
  refine jj_callr (c_GR_init (d := d - 1) hG jj_up_self (Nat.lt_succ_self _) (by omega)) (fun o1 h1 hC => jj_callI ok_GR_init rfl rfl rfl ml_ST_43 im_GR_init (by decide +kernel) rfl (by omega) (Nat.le_of_ble_eq_true rfl) hC) (by rintro E h1 ⟨q, -⟩; cases q) ?_
  rintro v h1 ⟨hv, g1, g2, g3, g4, g5, g6, g7⟩
  cases hv
  have hrr3 : h1.1 r = some (.inr (0, [.ref a, .ref b, .ref c, .ref s, u4, u5])) := (g6 r (Nat.lt_succ_of_lt hrl) (Nat.ne_of_lt hrl)).trans hrr2
  refine jj_putfinal 4 ck_ST fl_ST_46 (by decide) rfl rfl rfl (by decide +kernel) hrr3 rfl rfl (Nat.lt_of_sub_eq_succ rfl) ?_
  refine jj_aload_n (j := 0) (by decide +kernel) rfl ?_
  refine jj_iconst (n := (-1)) (v := (-1)) (by decide +kernel) (by decide) ?_
  refine jj_putfield 5 ck_ST fl_ST_50 (by decide) rfl (by decide +kernel) jj_up_self rfl rfl (Nat.lt_of_sub_eq_succ rfl) ?_
  refine jj_vret (by decide +kernel) rfl ?_
  rw [jj_up_up]
  refine kk _ jj_up_self ((jj_up_ne (by omega)).trans g1) ⟨(jj_up_ne (by omega)).trans g2, (jj_up_ne (by omega)).trans g3⟩ ⟨(jj_up_ne (by omega)).trans g4, (jj_up_ne (by omega)).trans g5⟩ (fun q hq hne => (jj_up_ne hne).trans ((g6 q (Nat.lt_succ_of_lt hq) (Nat.ne_of_lt hq)).trans (jj_up_ne (Nat.ne_of_lt hq)))) ?_
  show h1.2 = _
  rw [g7]
/-! the whole system, just made -/
def st_A (r n p : Nat) : Nat → Nat := fun i => if i = 0 then n else if i ≤ 4 then sp_A (n + 2) (n + 3) i else if i = 5 then p + 6 else if i = 6 then p + 8 else if i = 7 then p else if i = 8 then p + 2 else if i = 9 then r else if i = 10 then n + 2 else if i = 11 then p + 4 else p + 5
def st_w (r n p : Nat) (w : Nat → Nat) : Nat → Nat := fun q => if q = r then 9 else if q = n ∨ q = n + 1 then 0 else if q < p then w q else if q = p ∨ q = p + 1 then 7 else if q = p + 2 ∨ q = p + 3 then 8 else if q = p + 4 then 11 else if q = p + 5 then 12 else if q = p + 6 ∨ q = p + 7 then 5 else if q = p + 8 ∨ q = p + 9 then 6 else 13
def st_c (c : Nat → Nat) : Nat → Nat := fun t => if t = 0 then 64 else if t ≤ 4 then c t else if t ≤ 6 then 64 else 192
theorem st_made {G : jj_G} {h h1 h3 h' : jj_H} {r : Nat} {x : Int32} (hrl : r < h.2.1) (q1 : h1.2 = (h.2.1 + 2, h.2.2 + 66)) (hS : Sy G ((jj_up h1.1 h1.2.1 (.inr (3, [.null, .null, .null, .null, .int 0])), h1.2.1 + 1, h1.2.2 + 5), (fun q => q = h1.2.1), sp_A h1.2.1 (h1.2.1 + 1), h1.2.1 + 1, h1.2.2 + 5, true) 0 0 0 h3)
    (f1 : h'.1 r = some (.inr (0, [.ref h.2.1, .ref (h.2.1 + 2), .ref h3.2.1, .ref (h3.2.1 + 4), .ref (h3.2.1 + 5), .int x]))) (f2 : mk_row G h' 1 h.2.1 64) (f3 : ∀ q, h.2.1 + 2 ≤ q → q < h3.2.1 → h'.1 q = h3.1 q) (f4 : mk_row G h' 2 h3.2.1 192) (f5 : mk_row G h' 2 (h3.2.1 + 2) 192)
    (f6 : h'.1 (h3.2.1 + 4) = some (.inr (4, [.ref h.2.1, .ref (h.2.1 + 2), .ref (h3.2.1 + 2), .int (-1)]))) (f7 : h'.1 (h3.2.1 + 5) = some (.inr (5, [.ref h.2.1, .ref (h3.2.1 + 6), .ref (h3.2.1 + 8), .int (-1), .int 0, .int 0, .int 0, .int (-1), .ref (h3.2.1 + 2), .ref h3.2.1, .int 0, .int (nI 0)]))) (f8 : mk_row G h' 1 (h3.2.1 + 6) 64) (f9 : mk_row G h' 1 (h3.2.1 + 8) 64) (f10 : ∀ q, q < h.2.1 → q ≠ r → h'.1 q = h.1 q) (f11 : h'.2 = (h3.2.1 + 10, h3.2.2 + 536)) : Sy G (h, (fun q => q = r), st_A r h.2.1 h3.2.1, h.2.1 + 10, h.2.2, false) 0 0 0 h' := by
  have hn1 : h1.2.1 = h.2.1 + 2 := by rw [q1]
  have hn2 : h1.2.2 = h.2.2 + 66 := by rw [q1]
  rw [hn1, hn2] at hS
  obtain ⟨w, c, s1, s2, ⟨-, ⟨y, s3⟩, -, -⟩, s4, s5, s6, s7, s8, s9, s10⟩ := hS
  have e1 : h'.2.1 = h3.2.1 + 10 := by rw [f11]
  have e2 : h'.2.2 = h3.2.2 + 536 := by rw [f11]
  have s7' : h.2.1 + 3 ≤ h3.2.1 := s7
  have s8' : 64 * h3.2.1 ≤ 64 * (h.2.1 + 3 + 0) + sy_sum c := s8
  have s9' : h3.2.2 ≤ h.2.2 + 66 + 5 + 6 * 0 + 2 * sy_sum c := s9
  have s3' : h3.1 (h.2.1 + 2) = some (.inr (3, [.ref (h.2.1 + 3), .ref (h.2.1 + 5), .ref (h.2.1 + 9), .ref (h.2.1 + 7), .int y])) := s3
  have s5' : ∀ q, w q < 13 → q < h.2.1 + 3 → q = h.2.1 + 2 := s5
  have hw10 : w (h.2.1 + 2) = 10 := (s4 10 (by decide) (sy_p (by decide))).1
  have hA : ∀ t, (t = 1 ∨ t = 2 ∨ t = 3 ∨ t = 4) → sp_A (h.2.1 + 2) (h.2.1 + 3) t = h.2.1 + 3 ∨ sp_A (h.2.1 + 2) (h.2.1 + 3) t = h.2.1 + 5 ∨ sp_A (h.2.1 + 2) (h.2.1 + 3) t = h.2.1 + 9 ∨ sp_A (h.2.1 + 2) (h.2.1 + 3) t = h.2.1 + 7 := by
    rintro t (rfl | rfl | rfl | rfl)
    · exact Or.inl rfl
    · exact Or.inr (Or.inl rfl)
    · exact Or.inr (Or.inr (Or.inl rfl))
    · exact Or.inr (Or.inr (Or.inr rfl))
  have hrow : ∀ t, (t = 1 ∨ t = 2 ∨ t = 3 ∨ t = 4) → sy_row G (st_A r h.2.1 h3.2.1) (st_w r h.2.1 h3.2.1 w) (st_c c) h' 1 1 32768 0 t := by
    intro t ht
    have hon : sy_on ((jj_up h1.1 (h.2.1 + 2) (.inr (3, [.null, .null, .null, .null, .int 0])), h.2.1 + 2 + 1, h.2.2 + 66 + 5), (fun q => q = h.2.1 + 2), sp_A (h.2.1 + 2) (h.2.1 + 2 + 1), h.2.1 + 2 + 1, h.2.2 + 66 + 5, true) t := sy_p (by omega)
    obtain ⟨a, f, n, r1, r2, r3, r4, r5, r6, r7, r8, r9, r10⟩ := s1 t (by omega) hon
    have ht4 := (s4 t (by omega) hon).2
    have hAt : st_A r h.2.1 h3.2.1 t = sp_A (h.2.1 + 2) (h.2.1 + 3) t := by unfold st_A; rw [if_neg (by omega), if_pos (by omega)]
    have hct : st_c c t = c t := by unfold st_c; rw [if_neg (by omega), if_pos (by omega)]
    have hb := hA t ht
    have ha3 : h.2.1 + 3 ≤ a := by
      rcases Nat.lt_or_ge a (h.2.1 + 3) with q | q
      · have h9 := s5' a (by omega) q
        rw [h9, hw10] at r7
        omega
      · exact q
    have r8' : a < h3.2.1 := r8
    have ht4' : sp_A (h.2.1 + 2) (h.2.1 + 3) t < h3.2.1 := ht4
    refine ⟨a, f, n, ?_, ?_, by rw [hct]; exact r3, r4, by rw [hct]; exact r5, by rw [hct]; exact r6, ?_, by omega, by rw [hAt]; exact r9, fun q => by omega⟩
    · rw [hAt]
      exact (f3 _ (by omega) ht4').trans r1
    · rw [hct]
      exact (f3 _ (by omega) r8').trans r2
    · unfold st_w
      rw [if_neg (by omega), if_neg (by omega), if_pos r8']
      exact r7
  have z : ∀ t, t < 9 → ¬ (t = 1 ∨ t = 2 ∨ t = 3 ∨ t = 4) → c t = 0 := by
    intro t ht hno
    exact s10 t ht (fun q => by have := q rfl; omega)
  have hcsum : sy_sum (st_c c) = sy_sum c + 576 := by
    have z0 := z 0 (by decide) (by decide)
    have z5 := z 5 (by decide) (by decide)
    have z6 := z 6 (by decide) (by decide)
    have z7 := z 7 (by decide) (by decide)
    have z8 := z 8 (by decide) (by decide)
    show 64 + c 1 + c 2 + c 3 + c 4 + 64 + 64 + 192 + 192 = c 0 + c 1 + c 2 + c 3 + c 4 + c 5 + c 6 + c 7 + c 8 + 576
    omega
  refine ⟨st_w r h.2.1 h3.2.1 w, st_c c, ?_, ?_, ⟨fun _ => ⟨x, f1⟩, ⟨y, (f3 (h.2.1 + 2) (by omega) (by omega)).trans s3'⟩, fun _ => ⟨_, f6⟩, fun _ => ⟨_, _, _, _, _, _, f7⟩⟩, ?_, ?_, f10, ?_, ?_, ?_, ?_⟩
  · intro t ht _
    rcases (show t = 0 ∨ (t = 1 ∨ t = 2 ∨ t = 3 ∨ t = 4) ∨ t = 5 ∨ t = 6 by omega) with rfl | q | rfl | rfl
    · exact ⟨h.2.1 + 1, fun _ => 0, 0, f2.1, f2.2, by show 1 * 0 ≤ 64; decide, by decide, by show 64 ≤ 64; decide, by show 64 ≤ 200000; decide, by unfold st_w; rw [if_neg (by omega), if_pos (by omega)], by omega, by show h.2.1 ≠ _; omega, fun _ => rfl⟩
    · exact hrow t q
    · exact ⟨h3.2.1 + 6 + 1, fun _ => 0, 0, f8.1, f8.2, by show 1 * 0 ≤ 64; decide, by decide, by show 64 ≤ 64; decide, by show 64 ≤ 200000; decide, by unfold st_w; rw [if_neg (by omega), if_neg (by omega), if_neg (by omega), if_neg (by omega), if_neg (by omega), if_neg (by omega), if_neg (by omega), if_pos (by omega)], by omega, by show h3.2.1 + 6 ≠ _; omega, fun q => by omega⟩
    · exact ⟨h3.2.1 + 8 + 1, fun _ => 0, 0, f9.1, f9.2, by show 1 * 0 ≤ 64; decide, by decide, by show 64 ≤ 64; decide, by show 64 ≤ 200000; decide, by unfold st_w; rw [if_neg (by omega), if_neg (by omega), if_neg (by omega), if_neg (by omega), if_neg (by omega), if_neg (by omega), if_neg (by omega), if_neg (by omega), if_pos (by omega)], by omega, by show h3.2.1 + 8 ≠ _; omega, fun q => by omega⟩
  · intro t h7 ht _
    rcases (show t = 7 ∨ t = 8 by omega) with rfl | rfl
    · exact ⟨h3.2.1 + 1, fun _ => 0, 0, f4.1, f4.2, by show 3 * 0 ≤ 192; decide, by decide, by show 64 ≤ 192; decide, by show 192 ≤ 200000; decide, by unfold st_w; rw [if_neg (by omega), if_neg (by omega), if_neg (by omega), if_pos (by omega)], by omega, by show h3.2.1 ≠ _; omega, fun q => by omega⟩
    · exact ⟨h3.2.1 + 2 + 1, fun _ => 0, 0, f5.1, f5.2, by show 3 * 0 ≤ 192; decide, by decide, by show 64 ≤ 192; decide, by show 192 ≤ 200000; decide, by unfold st_w; rw [if_neg (by omega), if_neg (by omega), if_neg (by omega), if_neg (by omega), if_pos (by omega)], by omega, by show h3.2.1 + 2 ≠ _; omega, fun q => by omega⟩
  · intro i hi _
    rcases (show i = 0 ∨ (i = 1 ∨ i = 2 ∨ i = 3 ∨ i = 4) ∨ i = 5 ∨ i = 6 ∨ i = 7 ∨ i = 8 ∨ i = 9 ∨ i = 10 ∨ i = 11 ∨ i = 12 by omega) with rfl | q | rfl | rfl | rfl | rfl | rfl | rfl | rfl | rfl
    · exact ⟨show st_w r h.2.1 h3.2.1 w h.2.1 = 0 by unfold st_w; rw [if_neg (by omega), if_pos (by omega)], show h.2.1 < _ by omega⟩
    · have hs4 := s4 i hi (sy_p (by omega))
      have hAt : st_A r h.2.1 h3.2.1 i = sp_A (h.2.1 + 2) (h.2.1 + 3) i := by unfold st_A; rw [if_neg (by omega), if_pos (by omega)]
      have hb := hA i q
      have ht4' : sp_A (h.2.1 + 2) (h.2.1 + 3) i < h3.2.1 := hs4.2
      refine ⟨?_, ?_⟩
      · show st_w r h.2.1 h3.2.1 w (st_A r h.2.1 h3.2.1 i) = i
        rw [hAt]
        unfold st_w
        rw [if_neg (by omega), if_neg (by omega), if_pos ht4']
        exact hs4.1
      · show st_A r h.2.1 h3.2.1 i < _
        rw [hAt]
        omega
    · exact ⟨show st_w r h.2.1 h3.2.1 w (h3.2.1 + 6) = 5 by unfold st_w; rw [if_neg (by omega), if_neg (by omega), if_neg (by omega), if_neg (by omega), if_neg (by omega), if_neg (by omega), if_neg (by omega), if_pos (by omega)], show h3.2.1 + 6 < _ by omega⟩
    · exact ⟨show st_w r h.2.1 h3.2.1 w (h3.2.1 + 8) = 6 by unfold st_w; rw [if_neg (by omega), if_neg (by omega), if_neg (by omega), if_neg (by omega), if_neg (by omega), if_neg (by omega), if_neg (by omega), if_neg (by omega), if_pos (by omega)], show h3.2.1 + 8 < _ by omega⟩
    · exact ⟨show st_w r h.2.1 h3.2.1 w h3.2.1 = 7 by unfold st_w; rw [if_neg (by omega), if_neg (by omega), if_neg (by omega), if_pos (by omega)], show h3.2.1 < _ by omega⟩
    · exact ⟨show st_w r h.2.1 h3.2.1 w (h3.2.1 + 2) = 8 by unfold st_w; rw [if_neg (by omega), if_neg (by omega), if_neg (by omega), if_neg (by omega), if_pos (by omega)], show h3.2.1 + 2 < _ by omega⟩
    · exact ⟨show st_w r h.2.1 h3.2.1 w r = 9 by unfold st_w; rw [if_pos rfl], show r < _ by omega⟩
    · exact ⟨show st_w r h.2.1 h3.2.1 w (h.2.1 + 2) = 10 by unfold st_w; rw [if_neg (by omega), if_neg (by omega), if_pos (by omega)]; exact hw10, show h.2.1 + 2 < _ by omega⟩
    · exact ⟨show st_w r h.2.1 h3.2.1 w (h3.2.1 + 4) = 11 by unfold st_w; rw [if_neg (by omega), if_neg (by omega), if_neg (by omega), if_neg (by omega), if_neg (by omega), if_pos (by omega)], show h3.2.1 + 4 < _ by omega⟩
    · exact ⟨show st_w r h.2.1 h3.2.1 w (h3.2.1 + 5) = 12 by unfold st_w; rw [if_neg (by omega), if_neg (by omega), if_neg (by omega), if_neg (by omega), if_neg (by omega), if_neg (by omega), if_pos (by omega)], show h3.2.1 + 5 < _ by omega⟩
  · intro q hq hlt
    have hlt2 : q < h.2.1 := hlt
    by_cases e : q = r
    · exact e
    · exfalso
      unfold st_w at hq
      rw [if_neg e, if_neg (by omega), if_pos (by omega)] at hq
      have h9 := s5' q hq (by omega)
      omega
  · show h.2.1 ≤ h'.2.1
    omega
  · show 64 * h'.2.1 ≤ 64 * (h.2.1 + 10 + 0) + sy_sum (st_c c)
    omega
  · show h'.2.2 ≤ h.2.2 + 6 * 0 + 2 * sy_sum (st_c c)
    omega
  · intro t ht hno
    exact absurd (sy_o rfl) hno

set_option maxRecDepth 100000 in
set_option maxHeartbeats 4000000 in
theorem c_ST_init {l : Launch} {G : jj_G} {d : Nat} {h : jj_H} {r : Nat} {u0 u1 u2 u3 u4 u5 : Value} (hG : jj_tyG G) (hrr : h.1 r = some (.inr (0, [u0, u1, u2, u3, u4, u5]))) (hrl : r < h.2.1) (hdd : 14 ≤ d) : jj_Q l G y_ST_init d [.ref r] h (fun out h' => out = .inl none ∧ ∃ A : Nat → Nat, A 9 = r ∧ Sy G (h, (fun q => q = r), A, h.2.1 + 10, h.2.2, false) 0 0 0 h') := by
  refine jj_Q.of (by decide +kernel) (Nat.le_of_ble_eq_true rfl) ?_
  refine jj_aload_n (j := 0) (by decide +kernel) rfl ?_
  refine jj_objInit ml_ST_3 im_JO cw_JO (by decide +kernel) (by omega) (by decide) ?_
  refine b_ST_init_4 hG (by omega) hrl hrr (fun ha ⟨a1, a2, a3, a4⟩ => ?_)
  have za : ha.2.1 = h.2.1 + 2 := by rw [a4]
  refine b_ST_init_17 hG (by omega) (by omega) a1 (fun h3 hS => ?_)
  have fr := hS.frame
  have fr1 : ha.2.1 + 1 ≤ h3.2.1 := fr.1
  have fr2 : ∀ q, q < ha.2.1 → h3.1 q = ha.1 q := fun q hq => (fr.2 q (Nat.lt_succ_of_lt hq) (Nat.ne_of_lt hq)).trans (jj_up_ne (Nat.ne_of_lt hq))
  refine b_ST_init_28 hG (by omega) (by show r < h3.2.1; omega) jj_up_self (fun hb ⟨b1, b2, b3, b4⟩ => ?_)
  have zb : hb.2.1 = h3.2.1 + 2 := by rw [b4]
  refine b_ST_init_39 hG (by omega) (by omega) b1 (fun hc c2 c3 c4 => ?_)
  have zc : hc.2.1 = h3.2.1 + 4 := by rw [c4]; show hb.2.1 + 2 = _; omega
  refine b_ST_init_47 (by omega) (by omega) ((c3 r (by omega)).trans b1) (fun hd d1 d2 d3 d4 => ?_)
  have zd : hd.2.1 = h3.2.1 + 5 := by rw [d4]; show hc.2.1 + 1 = _; omega
  refine b_ST_init_67 hG (by omega) (by omega) d1 (fun he e1 e2 e3 e4 e5 e6 => ?_)
  have b3' : ∀ q, q < h3.2.1 → q ≠ r → hb.1 q = h3.1 q := fun q hq hne => (b3 q hq hne).trans (jj_up_ne hne)
  refine ⟨rfl, st_A r h.2.1 h3.2.1, rfl, ?_⟩
  have b2' : mk_row G hb 2 h3.2.1 192 := b2
  rw [zb] at c2 d2 e2
  rw [zc] at d1 d2 e1
  rw [zd] at e1 e2 e3 e4
  rw [za] at e1 d2 e2
  have hk : ∀ q, q < h3.2.1 → q ≠ r → he.1 q = h3.1 q := fun q hq hne => (e5 q (by omega) hne).trans ((d3 q (by omega) hne).trans ((c3 q (by omega)).trans (b3' q hq hne)))
  have hk2 : ∀ q, q < ha.2.1 → q ≠ r → he.1 q = ha.1 q := fun q hq hne => (hk q (by omega) hne).trans (fr2 q hq)
  refine st_made hrl a4 hS e1 ?_ ?_ ?_ ?_ ?_ e2 e3 e4 ?_ ?_
  · exact a2.keep (hk2 _ (by omega) (by omega)) (hk2 _ (by omega) (by omega))
  · intro q h9 hq
    exact hk q hq (by omega)
  · exact (b2'.keep (c3 _ (by omega)) (c3 _ (by omega))).keep ((e5 _ (by omega) (by omega)).trans (d3 _ (by omega) (by omega))) ((e5 _ (by omega) (by omega)).trans (d3 _ (by omega) (by omega)))
  · exact c2.keep ((e5 _ (by omega) (by omega)).trans (d3 _ (by omega) (by omega))) ((e5 _ (by omega) (by omega)).trans (d3 _ (by omega) (by omega)))
  · exact (e5 _ (by omega) (by omega)).trans d2
  · intro q hq hne
    exact (hk2 q (by omega) hne).trans (a3 q hq hne)
  · rw [e6, d4, c4, b4]
