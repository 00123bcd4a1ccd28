/-! a new row, its object and its array side by side -/
def mk_row (G : jj_G) (h : jj_H) (ci x m : Nat) : Prop := h.1 x = some (.inr (ci, [.ref (x + 1), .int (nI 0)])) ∧ h.1 (x + 1) = some (.inl (jj_cI G, m, .inl (fun _ => 0)))
theorem mk_row.keep {G : jj_G} {h h' : jj_H} {ci x m : Nat} (hr : mk_row G h ci x m) (h1 : h'.1 x = h.1 x) (h2 : h'.1 (x + 1) = h.1 (x + 1)) : mk_row G h' ci x m := ⟨h1.trans hr.1, h2.trans hr.2⟩
/-- what a new row leaves behind: object r has it in field k -/
def mk_st (G : jj_G) (h : jj_H) (r ci : Nat) (fs : List Value) (cj m : Nat) (h' : jj_H) : Prop := h'.1 r = some (.inr (ci, fs)) ∧ mk_row G h' cj h.2.1 m ∧ (∀ q, q < h.2.1 → q ≠ r → h'.1 q = h.1 q) ∧ h'.2 = (h.2.1 + 2, h.2.2 + 2 + m)
theorem mk_st.of {G : jj_G} {h : jj_H} {r ci cj m : Nat} {fs : List Value} {e0 : va_E} (hrl : r < h.2.1) : mk_st G h r ci fs cj m (jj_up (jj_up (jj_up (jj_up h.1 h.2.1 e0) (h.2.1 + 1) (.inl (jj_cI G, m, .inl (fun _ => 0)))) h.2.1 (.inr (cj, [.ref (h.2.1 + 1), .int (nI 0)]))) r (.inr (ci, fs)), h.2.1 + 1 + 1, h.2.2 + 2 + m) := by
  refine ⟨jj_up_self, ⟨(jj_up_ne (by omega)).trans jj_up_self, (jj_up_ne (by omega)).trans ((jj_up_ne (by omega)).trans jj_up_self)⟩, fun q hq hne => ?_, rfl⟩
  exact (jj_up_ne hne).trans ((jj_up_ne (by omega)).trans ((jj_up_ne (by omega)).trans (jj_up_ne (by omega))))
set_option maxRecDepth 100000 in
set_option maxHeartbeats 4000000 in
theorem b_SP_init_4 {l : Launch} {G : jj_G} {d : Nat} {F : jj_O → jj_H → Prop} {h : jj_H} {r : Nat} {u0 u1 u2 u3 u4 : Value} (hG : jj_tyG G) (hdd : 2 ≤ d) (hrl : r < h.2.1) (hrr : h.1 r = some (.inr (3, [u0, u1, u2, u3, u4]))) (kk : ∀ h' : jj_H, mk_st G h r 3 [.ref h.2.1, u1, u2, u3, u4] 1 512 h' → jj_P l G y_SP_init d F 18 [some (.ref r), none] [] h') : jj_P l G y_SP_init d F 4 [some (.ref r), none] [] h := by
  refine jj_aload_n (j := 0) (by decide +kernel) rfl ?_
  refine jj_new (fs := [.null, .int 0]) ck_IR cl_SP_9 ni_IR it_IR (by intro j hj; rcases (show j = 0 ∨ j = 1 by omega) with rfl | rfl <;> rfl) (by decide +kernel) ?_
  refine jj_dup (by decide +kernel) rfl ?_
  refine jj_sipush (n := 512) (v := nI 512) (by decide +kernel) (by decide) ?_
  refine jj_callr (c_IR_init (d := d - 1) hG (by decide) (by decide) jj_up_self (Nat.lt_succ_self _) (by omega)) (fun o1 h1 hC => jj_callI ok_IR_init rfl rfl rfl ml_SP_11 im_IR_init (by decide +kernel) rfl (by omega) (Nat.le_of_ble_eq_true rfl) hC) (by rintro E h1 ⟨q, -⟩; cases q) ?_
  rintro v h1 ⟨hv, rfl⟩
  cases hv
  refine jj_putfinal 0 ck_SP fl_SP_14 (by decide) rfl rfl rfl (by decide +kernel) ((jj_up_ne (Nat.ne_of_lt hrl)).trans ((jj_up_ne (by show r ≠ h.2.1 + 1; omega)).trans ((jj_up_ne (Nat.ne_of_lt hrl)).trans hrr))) rfl rfl (Nat.lt_of_sub_eq_succ rfl) ?_
  exact kk _ (mk_st.of hrl)
set_option maxRecDepth 100000 in
set_option maxHeartbeats 4000000 in
theorem b_SP_init_18 {l : Launch} {G : jj_G} {d : Nat} {F : jj_O → jj_H → Prop} {h : jj_H} {r : Nat} {u0 u1 u2 u3 u4 : Value} (hG : jj_tyG G) (hdd : 2 ≤ d) (hrl : r < h.2.1) (hrr : h.1 r = some (.inr (3, [u0, u1, u2, u3, u4]))) (kk : ∀ h' : jj_H, mk_st G h r 3 [u0, .ref h.2.1, u2, u3, u4] 1 64 h' → jj_P l G y_SP_init d F 31 [some (.ref r), none] [] h') : jj_P l G y_SP_init d F 18 [some (.ref r), none] [] h := by
  refine jj_aload_n (j := 0) (by decide +kernel) rfl ?_
  refine jj_new (fs := [.null, .int 0]) ck_IR cl_SP_9 ni_IR it_IR (by intro j hj; rcases (show j = 0 ∨ j = 1 by omega) with rfl | rfl <;> rfl) (by decide +kernel) ?_
  refine jj_dup (by decide +kernel) rfl ?_
  refine jj_bipush (n := 64) (v := nI 64) (by decide +kernel) (by decide) ?_
  refine jj_callr (c_IR_init (d := d - 1) hG (by decide) (by decide) jj_up_self (Nat.lt_succ_self _) (by omega)) (fun o1 h1 hC => jj_callI ok_IR_init rfl rfl rfl ml_SP_11 im_IR_init (by decide +kernel) rfl (by omega) (Nat.le_of_ble_eq_true rfl) hC) (by rintro E h1 ⟨q, -⟩; cases q) ?_
  rintro v h1 ⟨hv, rfl⟩
  cases hv
  refine jj_putfinal 1 ck_SP fl_SP_20 (by decide) rfl rfl rfl (by decide +kernel) ((jj_up_ne (Nat.ne_of_lt hrl)).trans ((jj_up_ne (by show r ≠ h.2.1 + 1; omega)).trans ((jj_up_ne (Nat.ne_of_lt hrl)).trans hrr))) rfl rfl (Nat.lt_of_sub_eq_succ rfl) ?_
  exact kk _ (mk_st.of hrl)
set_option maxRecDepth 100000 in
set_option maxHeartbeats 4000000 in
theorem b_SP_init_31 {l : Launch} {G : jj_G} {d : Nat} {F : jj_O → jj_H → Prop} {h : jj_H} {r : Nat} {u0 u1 u2 u3 u4 : Value} (hG : jj_tyG G) (hdd : 2 ≤ d) (hrl : r < h.2.1) (hrr : h.1 r = some (.inr (3, [u0, u1, u2, u3, u4]))) (kk : ∀ h' : jj_H, mk_st G h r 3 [u0, u1, u2, .ref h.2.1, u4] 1 64 h' → jj_P l G y_SP_init d F 44 [some (.ref r), none] [] h') : jj_P l G y_SP_init d F 31 [some (.ref r), none] [] h := by
  refine jj_aload_n (j := 0) (by decide +kernel) rfl ?_
  refine jj_new (fs := [.null, .int 0]) ck_IR cl_SP_9 ni_IR it_IR (by intro j hj; rcases (show j = 0 ∨ j = 1 by omega) with rfl | rfl <;> rfl) (by decide +kernel) ?_
  refine jj_dup (by decide +kernel) rfl ?_
  refine jj_bipush (n := 64) (v := nI 64) (by decide +kernel) (by decide) ?_
  refine jj_callr (c_IR_init (d := d - 1) hG (by decide) (by decide) jj_up_self (Nat.lt_succ_self _) (by omega)) (fun o1 h1 hC => jj_callI ok_IR_init rfl rfl rfl ml_SP_11 im_IR_init (by decide +kernel) rfl (by omega) (Nat.le_of_ble_eq_true rfl) hC) (by rintro E h1 ⟨q, -⟩; cases q) ?_
  rintro v h1 ⟨hv, rfl⟩
  cases hv
  refine jj_putfinal 3 ck_SP fl_SP_23 (by decide) rfl rfl rfl (by decide +kernel) ((jj_up_ne (Nat.ne_of_lt hrl)).trans ((jj_up_ne (by show r ≠ h.2.1 + 1; omega)).trans ((jj_up_ne (Nat.ne_of_lt hrl)).trans hrr))) rfl rfl (Nat.lt_of_sub_eq_succ rfl) ?_
  exact kk _ (mk_st.of hrl)
set_option maxRecDepth 100000 in
set_option maxHeartbeats 4000000 in
theorem b_SP_init_44 {l : Launch} {G : jj_G} {d : Nat} {F : jj_O → jj_H → Prop} {h : jj_H} {r : Nat} {u0 u1 u2 u3 u4 : Value} (hG : jj_tyG G) (hdd : 2 ≤ d) (hrl : r < h.2.1) (hrr : h.1 r = some (.inr (3, [u0, u1, u2, u3, u4]))) (kk : ∀ h' : jj_H, mk_st G h r 3 [u0, u1, .ref h.2.1, u3, u4] 1 512 h' → jj_P l G y_SP_init d F 58 [some (.ref r), none] [] h') : jj_P l G y_SP_init d F 44 [some (.ref r), none] [] h := by
  refine jj_aload_n (j := 0) (by decide +kernel) rfl ?_
  refine jj_new (fs := [.null, .int 0]) ck_IR cl_SP_9 ni_IR it_IR (by intro j hj; rcases (show j = 0 ∨ j = 1 by omega) with rfl | rfl <;> rfl) (by decide +kernel) ?_
  refine jj_dup (by decide +kernel) rfl ?_
  refine jj_sipush (n := 512) (v := nI 512) (by decide +kernel) (by decide) ?_
  refine jj_callr (c_IR_init (d := d - 1) hG (by decide) (by decide) jj_up_self (Nat.lt_succ_self _) (by omega)) (fun o1 h1 hC => jj_callI ok_IR_init rfl rfl rfl ml_SP_11 im_IR_init (by decide +kernel) rfl (by omega) (Nat.le_of_ble_eq_true rfl) hC) (by rintro E h1 ⟨q, -⟩; cases q) ?_
  rintro v h1 ⟨hv, rfl⟩
  cases hv
  refine jj_putfinal 2 ck_SP fl_SP_26 (by decide) rfl rfl rfl (by decide +kernel) ((jj_up_ne (Nat.ne_of_lt hrl)).trans ((jj_up_ne (by show r ≠ h.2.1 + 1; omega)).trans ((jj_up_ne (Nat.ne_of_lt hrl)).trans hrr))) rfl rfl (Nat.lt_of_sub_eq_succ rfl) ?_
  exact kk _ (mk_st.of hrl)
/-- the spellings alone as a system, just made: object r, rows at n, n + 2, n + 4, n + 6 -/
def sp_A (r n : Nat) : Nat → Nat := fun i => if i = 1 then n else if i = 2 then n + 2 else if i = 3 then n + 6 else if i = 4 then n + 4 else r
def sp_w (r n : Nat) : Nat → Nat := fun q => if q = r then 10 else if q = n ∨ q = n + 1 then 1 else if q = n + 2 ∨ q = n + 3 then 2 else if q = n + 4 ∨ q = n + 5 then 4 else if q = n + 6 ∨ q = n + 7 then 3 else 13
def sp_c : Nat → Nat := fun t => if t = 1 ∨ t = 3 then 512 else if t = 2 ∨ t = 4 then 64 else 0
theorem sp_made {G : jj_G} {h h' : jj_H} {r : Nat} {x : Int32} (hrl : r < h.2.1) (h0 : h'.1 r = some (.inr (3, [.ref h.2.1, .ref (h.2.1 + 2), .ref (h.2.1 + 6), .ref (h.2.1 + 4), .int x]))) (h1 : mk_row G h' 1 h.2.1 512) (h2 : mk_row G h' 1 (h.2.1 + 2) 64) (h3 : mk_row G h' 1 (h.2.1 + 4) 64) (h4 : mk_row G h' 1 (h.2.1 + 6) 512) (h5 : ∀ q, q < h.2.1 → q ≠ r → h'.1 q = h.1 q) (h6 : h'.2 = (h.2.1 + 8, h.2.2 + 1160)) : Sy G (h, (fun q => q = r), sp_A r h.2.1, h.2.1, h.2.2, true) 0 0 0 h' := by
  have e1 : h'.2.1 = h.2.1 + 8 := by rw [h6]
  have e2 : h'.2.2 = h.2.2 + 1160 := by rw [h6]
  refine ⟨sp_w r h.2.1, sp_c, ?_, ?_, ⟨fun q => ?_, ⟨x, h0⟩, fun q => ?_, fun q => ?_⟩, ?_, ?_, h5, ?_, ?_, ?_, ?_⟩
  · intro t ht hon
    rcases (show t = 1 ∨ t = 2 ∨ t = 3 ∨ t = 4 by have := hon rfl; omega) with rfl | rfl | rfl | rfl
    · exact ⟨h.2.1 + 1, fun _ => 0, 0, h1.1, h1.2, by decide, by decide, by decide, by decide, by unfold sp_w; rw [if_neg (by omega), if_pos (by omega)], by omega, by show h.2.1 ≠ _; omega, fun q => absurd q (by decide)⟩
    · exact ⟨h.2.1 + 2 + 1, fun _ => 0, 0, h2.1, h2.2, by decide, by decide, by decide, by decide, by unfold sp_w; rw [if_neg (by omega), if_neg (by omega), if_pos (by omega)], by omega, by show h.2.1 + 2 ≠ _; omega, fun q => absurd q (by decide)⟩
    · exact ⟨h.2.1 + 6 + 1, fun _ => 0, 0, h4.1, h4.2, by decide, by decide, by decide, by decide, by unfold sp_w; rw [if_neg (by omega), if_neg (by omega), if_neg (by omega), if_neg (by omega), if_pos (by omega)], by omega, by show h.2.1 + 6 ≠ _; omega, fun q => absurd q (by decide)⟩
    · exact ⟨h.2.1 + 4 + 1, fun _ => 0, 0, h3.1, h3.2, by decide, by decide, by decide, by decide, by unfold sp_w; rw [if_neg (by omega), if_neg (by omega), if_neg (by omega), if_pos (by omega)], by omega, by show h.2.1 + 4 ≠ _; omega, fun q => absurd q (by decide)⟩
  · intro t h7 ht hon
    have := hon rfl
    omega
  · exact absurd (q rfl) (by decide)
  · exact absurd (q rfl) (by decide)
  · exact absurd (q rfl) (by decide)
  · intro i hi hon
    rcases hon rfl with rfl | rfl | rfl | rfl | rfl
    · exact ⟨show sp_w r h.2.1 h.2.1 = 1 by unfold sp_w; rw [if_neg (by omega), if_pos (by omega)], show h.2.1 < _ by omega⟩
    · exact ⟨show sp_w r h.2.1 (h.2.1 + 2) = 2 by unfold sp_w; rw [if_neg (by omega), if_neg (by omega), if_pos (by omega)], show h.2.1 + 2 < _ by omega⟩
    · exact ⟨show sp_w r h.2.1 (h.2.1 + 6) = 3 by unfold sp_w; rw [if_neg (by omega), if_neg (by omega), if_neg (by omega), if_neg (by omega), if_pos (by omega)], show h.2.1 + 6 < _ by omega⟩
    · exact ⟨show sp_w r h.2.1 (h.2.1 + 4) = 4 by unfold sp_w; rw [if_neg (by omega), if_neg (by omega), if_neg (by omega), if_pos (by omega)], show h.2.1 + 4 < _ by omega⟩
    · exact ⟨show sp_w r h.2.1 r = 10 by unfold sp_w; rw [if_pos rfl], show r < _ by omega⟩
  · intro q hq hlt
    have hlt2 : q < h.2.1 := hlt
    by_cases e : q = r
    · exact e
    · exfalso
      unfold sp_w at hq
      rw [if_neg e, if_neg (by omega), if_neg (by omega), if_neg (by omega), if_neg (by omega)] at hq
      omega
  · show h.2.1 ≤ h'.2.1
    omega
  · show 64 * h'.2.1 ≤ 64 * (h.2.1 + 0) + sy_sum sp_c
    have : sy_sum sp_c = 1152 := by decide
    omega
  · show h'.2.2 ≤ h.2.2 + 6 * 0 + 2 * sy_sum sp_c
    have : sy_sum sp_c = 1152 := by decide
    omega
  · intro t ht hno
    unfold sp_c
    rw [if_neg (fun q => hno (sy_p (by omega))), if_neg (fun q => hno (sy_p (by omega)))]
set_option maxRecDepth 100000 in
set_option maxHeartbeats 4000000 in
theorem b_SP_init_60 {l : Launch} {G : jj_G} {X : sy_X} {K o N d : Nat} (hG : jj_tyG G) (hdd : 11 ≤ d) : ∀ (n : Nat) (x1 : Int32) (h : jj_H), (2147483647 - x1.toInt).toNat < n → Sy G X K o N h → jj_P l G y_SP_init d (sy_F 0 false G X K o N) 60 [some (.ref (X.2.2.1 10)), some (.int x1)] [] h := by
  intro n
  induction n with
  | zero => intro x1 h hn; exact absurd hn (Nat.not_lt_zero _)
  | succ n ih =>
    intro x1 h hn hs
    refine jj_iload_n (j := 1) (by decide +kernel) rfl ?_
    refine jj_sipush (n := 512) (v := 512) (by decide +kernel) (by decide) ?_
    refine jj_icmp_ge (off := 17) (tgt := 81) (by decide +kernel) (by decide) (fun c1 => ?_) (fun c1 => ?_)
    · refine jj_aload_n (j := 0) (by decide +kernel) rfl ?_
      refine sy_cv (s_SP_reset (d := d - 1) hG (by omega) hs) (fun o1 h1 hC => jj_callV ok_SP_reset ml_SP_32 im_SP_reset se_SP_SP_reset (by decide +kernel) hs.rcSP rfl (by omega) (Nat.le_of_ble_eq_true rfl) hC) rfl (fun q => by cases q) (fun h hs => ?_)
      exact jj_vret (by decide +kernel) rfl ⟨rfl, hs⟩
    · have hdec := up_lt (Int32.not_le.mp c1) hn
      refine jj_aload_n (j := 0) (by decide +kernel) rfl ?_
      obtain ⟨mi, hg⟩ := hs.sp
      refine jj_getfield 2 ck_SP fl_SP_26 (by decide) (by decide +kernel) hg rfl ?_
      refine jj_iconst (n := (-1)) (v := (-1)) (by decide +kernel) (by decide) ?_
      refine sy_cv (s_row_add (d := d - 1) (t := 3) hG hs (by decide) (sy_p (by decide)) (by decide) (by omega)) (fun o1 h1 hC => jj_callV ok_IR_add ml_SP_29 im_IR_add se_IR_IR_add (by decide +kernel) (hs.rcR (t := 3) (by decide) (sy_p (by decide))) rfl (by omega) (Nat.le_of_ble_eq_true rfl) hC) rfl (fun q => by cases q) (fun h hs => ?_)
      refine jj_iinc (i := 1) (n := 1) (by decide +kernel) rfl rfl (by decide) rfl ?_
      refine jj_goto (off := (-18)) (tgt := 60) (by decide +kernel) (by decide) ?_
      exact jj_wk (js_s (js_s js_0)) (ih _ _ hdec hs)
set_option maxRecDepth 100000 in
set_option maxHeartbeats 4000000 in
theorem c_SP_init {l : Launch} {G : jj_G} {d : Nat} {h : jj_H} {r : Nat} {u0 u1 u2 u3 : Value} {x : Int32} (hG : jj_tyG G) (hrr : h.1 r = some (.inr (3, [u0, u1, u2, u3, .int x]))) (hrl : r < h.2.1) (hdd : 11 ≤ d) : jj_Q l G y_SP_init d [.ref r] h (fun out h' => out = .inl none ∧ Sy G (h, (fun q => q = r), sp_A r h.2.1, h.2.1, h.2.2, true) 0 0 0 h') := by
  refine jj_Q.of (by decide +kernel) (Nat.le_of_ble_eq_true rfl) ?_
  refine jj_aload_n (j := 0) (by decide +kernel) rfl ?_
  refine jj_objInit ml_SP_3 im_JO cw_JO (by decide +kernel) (by omega) (by decide) ?_
  refine b_SP_init_4 hG (by omega) hrl hrr (fun ha ⟨a1, a2, a3, a4⟩ => ?_)
  have za : ha.2.1 = h.2.1 + 2 := by rw [a4]
  refine b_SP_init_18 hG (by omega) (by omega) a1 (fun hb ⟨b1, b2, b3, b4⟩ => ?_)
  have zb : hb.2.1 = h.2.1 + 4 := by rw [b4]; show ha.2.1 + 2 = _; omega
  refine b_SP_init_31 hG (by omega) (by omega) b1 (fun hc ⟨c1, c2, c3, c4⟩ => ?_)
  have zc : hc.2.1 = h.2.1 + 6 := by rw [c4]; show hb.2.1 + 2 = _; omega
  refine b_SP_init_44 hG (by omega) (by omega) c1 (fun hd ⟨d1, d2, d3, d4⟩ => ?_)
  have zd : hd.2.1 = h.2.1 + 8 := by rw [d4]; show hc.2.1 + 2 = _; omega
  have sd : hd.2.2 = h.2.2 + 1160 := by
    rw [d4]
    show hc.2.2 + 2 + 512 = _
    rw [c4]
    show hb.2.2 + 2 + 64 + 2 + 512 = _
    rw [b4]
    show ha.2.2 + 2 + 64 + 2 + 64 + 2 + 512 = _
    rw [a4]
  rw [za] at b2 b1 c1 d1
  rw [zb] at c2 c1 d1
  rw [zc] at d2 d1
  have hS : Sy G (h, (fun q => q = r), sp_A r h.2.1, h.2.1, h.2.2, true) 0 0 0 hd := by
    refine sp_made hrl d1 ?_ ?_ ?_ d2 ?_ (Prod.ext zd sd)
    · exact ((a2.keep (b3 _ (by omega) (by omega)) (b3 _ (by omega) (by omega))).keep (c3 _ (by omega) (by omega)) (c3 _ (by omega) (by omega))).keep (d3 _ (by omega) (by omega)) (d3 _ (by omega) (by omega))
    · exact (b2.keep (c3 _ (by omega) (by omega)) (c3 _ (by omega) (by omega))).keep (d3 _ (by omega) (by omega)) (d3 _ (by omega) (by omega))
    · exact c2.keep (d3 _ (by omega) (by omega)) (d3 _ (by omega) (by omega))
    · intro q hq hne
      exact (d3 q (by omega) hne).trans ((c3 q (by omega) hne).trans ((b3 q (by omega) hne).trans (a3 q hq hne)))
  refine jj_iconst (n := 0) (v := 0) (by decide +kernel) (by decide) ?_
  refine jj_istore_n (j := 1) (by decide +kernel) (by decide) rfl ?_
  refine jj_P.imp (F := sy_F 0 false G (h, (fun q => q = r), sp_A r h.2.1, h.2.1, h.2.2, true) 0 0 0) ?_ ?_
  · exact jj_wk (js_s (js_s js_0)) (b_SP_init_60 (X := (h, (fun q => q = r), sp_A r h.2.1, h.2.1, h.2.2, true)) hG hdd _ _ _ (Nat.lt_succ_self _) hS)
  · intro out h9 hP
    cases out with
    | inl v =>
      cases v with
      | none => exact ⟨rfl, hP.2⟩
      | some v =>
        cases v with
        | int v =>
          obtain ⟨q | ⟨q, -⟩ | ⟨q, -⟩, -⟩ := hP <;> exact absurd q (by decide)
        | _ => exact hP.elim
    | inr E => exact absurd hP.1 (by decide)
