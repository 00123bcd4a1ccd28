/-! rows and tables: leaves of the class -/
def jj_cI (G : jj_G) : ClassId := (G.2.2.1.getD 0 (0, .int)).1
def jj_cB (G : jj_G) : ClassId := (G.2.2.1.getD 1 (0, .int)).1
def jj_cL (G : jj_G) : ClassId := (G.2.2.1.getD 2 (0, .int)).1
/-- the array classes of the run -/
def jj_tyG (G : jj_G) : Prop := G.2.2.1 = [(jj_cI G, .int), (jj_cB G, .byte), (jj_cL G, .long)]
theorem jj_tI {G : jj_G} (hG : jj_tyG G) : G.2.2.1[0]? = some (jj_cI G, .int) := by rw [hG]; rfl
theorem jj_tB {G : jj_G} (hG : jj_tyG G) : G.2.2.1[1]? = some (jj_cB G, .byte) := by rw [hG]; rfl
theorem jj_tL {G : jj_G} (hG : jj_tyG G) : G.2.2.1[2]? = some (jj_cL G, .long) := by rw [hG]; rfl
/-- an object of class number ci, of an array's address and a count, over its array -/
def rw_is (ci : Nat) (G : jj_G) (h : jj_H) (r a cap : Nat) (f : Nat → Int32) (n : Nat) : Prop := h.1 r = some (.inr (ci, [.ref a, .int (nI n)])) ∧ h.1 a = some (.inl (jj_cI G, cap, .inl f)) ∧ n ≤ cap ∧ 0 < cap ∧ cap ≤ 200000 ∧ r ≠ a
set_option maxRecDepth 100000 in
set_option maxHeartbeats 4000000 in
theorem c_IR_size {l : Launch} {G : jj_G} {d : Nat} {h : jj_H} {r a cap n : Nat} {f : Nat → Int32} (hr : rw_is 1 G h r a cap f n) : jj_Q l G y_IR_size d [.ref r] h (fun o h' => o = .inl (some (.int (nI n))) ∧ h' = h) := by
  obtain ⟨hrr, hra, hn, hc0, hc1, hne⟩ := hr
  refine jj_Q.of (by decide +kernel) (Nat.le_of_ble_eq_true rfl) ?_
  refine jj_aload_n (j := 0) (by decide +kernel) rfl ?_
  refine jj_getfield 1 ck_IR fl_IR_15 (by decide) (by decide +kernel) (by assumption) rfl ?_
  refine jj_iret .int (by decide +kernel) rfl rfl ?_
  exact ⟨rfl, rfl⟩
/-- what a row answers at a place -/
def rw_get (f : Nat → Int32) (n : Nat) (i : Int32) : Int32 := if i < 0 ∨ nI n ≤ i then -1 else f i.toNatClampNeg
set_option maxRecDepth 100000 in
set_option maxHeartbeats 4000000 in
theorem c_IR_at {l : Launch} {G : jj_G} {d : Nat} {h : jj_H} {r a cap n : Nat} {f : Nat → Int32} {i : Int32} (hG : jj_tyG G) (hr : rw_is 1 G h r a cap f n) : jj_Q l G y_IR_at d [.ref r, .int i] h (fun o h' => o = .inl (some (.int (rw_get f n i))) ∧ h' = h) := by
  obtain ⟨hrr, hra, hn, hc0, hc1, hne⟩ := hr
  refine jj_Q.of (by decide +kernel) (Nat.le_of_ble_eq_true rfl) ?_
  refine jj_iload_n (j := 1) (by decide +kernel) rfl ?_
  refine jj_if_lt (off := 20) (tgt := 21) (by decide +kernel) (by decide) (fun c1 => ?_) (fun c1 => ?_)
  · skip
    refine jj_iconst (n := (-1)) (v := (-1)) (by decide +kernel) (by decide) ?_
    refine jj_goto (off := 9) (tgt := 31) (by decide +kernel) (by decide) ?_
    refine jj_iret .int (by decide +kernel) rfl rfl ?_
    exact ⟨by rw [rw_get, if_pos (Or.inl c1)], rfl⟩
  · skip
    refine jj_iload_n (j := 1) (by decide +kernel) rfl ?_
    refine jj_aload_n (j := 0) (by decide +kernel) rfl ?_
    refine jj_getfield 1 ck_IR fl_IR_15 (by decide) (by decide +kernel) (by assumption) rfl ?_
    refine jj_icmp_ge (off := 12) (tgt := 21) (by decide +kernel) (by decide) (fun c2 => ?_) (fun c2 => ?_)
    · skip
      refine jj_iconst (n := (-1)) (v := (-1)) (by decide +kernel) (by decide) ?_
      refine jj_goto (off := 9) (tgt := 31) (by decide +kernel) (by decide) ?_
      refine jj_iret .int (by decide +kernel) rfl rfl ?_
      exact ⟨by rw [rw_get, if_pos (Or.inr c2)], rfl⟩
    · skip
      refine jj_iload_n (j := 1) (by decide +kernel) rfl ?_
      refine jj_aload_n (j := 0) (by decide +kernel) rfl ?_
      refine jj_getfield 0 ck_IR fl_IR_9 (by decide) (by decide +kernel) (by assumption) rfl ?_
      refine jj_arraylength (jj_tI hG) (by decide +kernel) hra rfl ?_
      refine jj_icmp_lt (off := 7) (tgt := 25) (by decide +kernel) (by decide) (fun c3 => ?_) (fun c3 => ?_)
      · skip
        refine jj_aload_n (j := 0) (by decide +kernel) rfl ?_
        refine jj_getfield 0 ck_IR fl_IR_9 (by decide) (by decide +kernel) (by assumption) rfl ?_
        refine jj_iload_n (j := 1) (by decide +kernel) rfl ?_
        obtain ⟨j, hj, rfl⟩ : ∃ j : Nat, j < n ∧ i = nI j := by
          rcases pk_ix i (n := n) (by omega) with q | q | q
          · exact absurd q c1
          · exact absurd q c2
          · exact q
        refine jj_iaload (jj_tI hG) (by decide +kernel) hra (vp_in_nI (by omega) (by omega)) ?_
        refine jj_iret .int (by decide +kernel) rfl rfl ?_
        exact ⟨by rw [rw_get, if_neg (by rintro (q | q); exact c1 q; exact c2 q)], rfl⟩
      · skip
        refine jj_iconst (n := (-1)) (v := (-1)) (by decide +kernel) (by decide) ?_
        refine jj_goto (off := 9) (tgt := 31) (by decide +kernel) (by decide) ?_
        refine jj_iret .int (by decide +kernel) rfl rfl ?_
        exact absurd (Int32.lt_of_lt_of_le (Int32.not_le.mp c2) (nI_le hn (by omega))) c3
theorem jj_up_up {f : Nat → Option va_E} {a : Nat} {e e' : va_E} : jj_up (jj_up f a e) a e' = jj_up f a e' := by
  funext x
  by_cases hx : x = a
  · subst hx; rw [jj_up_self, jj_up_self]
  · rw [jj_up_ne hx, jj_up_ne hx, jj_up_ne hx]
theorem ml_copy : Cond.methodLink "java/util/Arrays" 150 arraycopyName ∈ jj_T := ml_JA_150
set_option maxRecDepth 100000 in
set_option maxHeartbeats 4000000 in
theorem c_JM_min {l : Launch} {G : jj_G} {d : Nat} {h : jj_H} {x y : Int32} : jj_Q l G y_JM_min d [.int x, .int y] h (fun o h' => o = .inl (some (.int (if y < x then y else x))) ∧ h' = h) := by
  refine jj_Q.of (by decide +kernel) (Nat.le_of_ble_eq_true rfl) ?_
  refine jj_iload_n (j := 0) (by decide +kernel) rfl ?_
  refine jj_iload_n (j := 1) (by decide +kernel) rfl ?_
  refine jj_icmp_gt (off := 7) (tgt := 9) (by decide +kernel) (by decide) (fun c1 => ?_) (fun c1 => ?_)
  · skip
    refine jj_iload_n (j := 1) (by decide +kernel) rfl ?_
    refine jj_iret .int (by decide +kernel) rfl rfl ?_
    exact ⟨by rw [if_pos c1], rfl⟩
  · skip
    refine jj_iload_n (j := 0) (by decide +kernel) rfl ?_
    refine jj_goto (off := 4) (tgt := 10) (by decide +kernel) (by decide) ?_
    refine jj_iret .int (by decide +kernel) rfl rfl ?_
    exact ⟨by rw [if_neg c1], rfl⟩
set_option maxRecDepth 100000 in
set_option maxHeartbeats 4000000 in
theorem c_JA_copyOf {l : Launch} {G : jj_G} {d : Nat} {h : jj_H} {a cap m : Nat} {f : Nat → Int32} (hG : jj_tyG G) (hra : h.1 a = some (.inl (jj_cI G, cap, .inl f))) (hal : a < h.2.1) (h0 : cap < m) (h1 : m ≤ 400000) (hdd : 3 ≤ d) : jj_Q l G y_JA_copyOf d [.ref a, .int (nI m)] h (fun o h' => o = .inl (some (.ref h.2.1)) ∧ h' = (jj_up h.1 h.2.1 (.inl (jj_cI G, m, .inl (va_cpy f (fun _ => 0) 0 0 cap))), h.2.1 + 1, h.2.2 + m)) := by
  refine jj_Q.of (by decide +kernel) (Nat.le_of_ble_eq_true rfl) ?_
  refine jj_iload_n (j := 1) (by decide +kernel) rfl ?_
  refine jj_aload_n (j := 0) (by decide +kernel) rfl ?_
  refine jj_arraylength (jj_tI hG) (by decide +kernel) hra rfl ?_
  refine jj_icmp_ne (off := 11) (tgt := 14) (by decide +kernel) (by decide) (fun c1 => ?_) (fun c1 => ?_)
  · skip
    refine jj_iload_n (j := 1) (by decide +kernel) rfl ?_
    refine jj_newarray (atype := .int) (fty := .int) (N' := m) (a0 := (m, .inl (fun _ => 0))) rfl (jj_tI hG) (fun _ q => q) ac_int (fun _ => rfl) (nI_pos (by omega)) (nI_clamp (by omega)) (by show m * 4 ≤ _; omega) (by decide +kernel) ?_
    have hra2 : (jj_up h.1 h.2.1 (.inl (jj_cI G, m, .inl (fun _ => 0)))) a = some (.inl (jj_cI G, cap, .inl f)) := (jj_up_ne (by omega)).trans hra
    refine jj_astore_n (j := 2) (by decide +kernel) (by decide) rfl ?_
    refine jj_aload_n (j := 0) (by decide +kernel) rfl ?_
    refine jj_iconst (n := 0) (v := 0) (by decide +kernel) (by decide) ?_
    refine jj_aload_n (j := 2) (by decide +kernel) rfl ?_
    refine jj_iconst (n := 0) (v := 0) (by decide +kernel) (by decide) ?_
    refine jj_aload_n (j := 0) (by decide +kernel) rfl ?_
    refine jj_arraylength (jj_tI hG) (by decide +kernel) hra2 rfl ?_
    refine jj_iload_n (j := 1) (by decide +kernel) rfl ?_
    refine jj_callr (c_JM_min (d := 0)) (fun o1 h1 hC => jj_callS ok_JM_min ml_JA_304 st_JM_min (by decide +kernel) rfl (by omega) (Nat.le_of_ble_eq_true rfl) hC) (by intro E h1 hp; cases hp.1) ?_
    rintro v h1 ⟨hv, rfl⟩
    cases hv
    rw [if_neg (show ¬ nI m < Int32.ofNat cap from nI_nlt (by omega) (by omega))]
    refine jj_arraycopy (jj_tI hG) ml_copy (jw 207 (by decide +kernel) rfl) (jw 206 (by decide +kernel) rfl) it_JY (by decide +kernel) hra2 jj_up_self (by omega) (by decide) (by decide) (nI_pos (by omega)) ?_ ?_ (by omega) (by have := na_ok; show 0 + _ ≤ 80; omega) ?_
    · show 0 + (nI cap).toNatClampNeg ≤ cap
      rw [nI_clamp (by omega)]; omega
    · show 0 + (nI cap).toNatClampNeg ≤ m
      rw [nI_clamp (by omega)]; omega
    refine jj_aload_n (j := 2) (by decide +kernel) rfl ?_
    refine jj_aret (by decide +kernel) rfl (Or.inr ⟨_, rfl⟩) ⟨rfl, ?_⟩
    rw [jj_up_up, show (Int32.ofNat cap).toNatClampNeg = cap from nI_clamp (by omega)]
    rfl
  · skip
    exact absurd ((nI_eq (by omega) (by omega)).mp c1) (by omega)
set_option maxRecDepth 100000 in
set_option maxHeartbeats 4000000 in
theorem p_IR_add_47 {l : Launch} {G : jj_G} {d : Nat} {F : jj_O → jj_H → Prop} {h : jj_H} {r a cap n : Nat} {f : Nat → Int32} {v : Int32} (hG : jj_tyG G) (hrr : h.1 r = some (.inr (1, [.ref a, .int (nI n)]))) (hra : h.1 a = some (.inl (jj_cI G, cap, .inl f))) (hne : r ≠ a) (hn : n < cap) (hc : cap ≤ 200000) (hF : F (.inl none) (jj_up (jj_up h.1 a (.inl (jj_cI G, cap, .inl (upd f n v)))) r (.inr (1, [.ref a, .int (nI (n + 1))])), h.2)) : jj_P l G y_IR_add d F 47 [some (.ref r), some (.int v)] [] h := by
  refine jj_aload_n (j := 0) (by decide +kernel) rfl ?_
  refine jj_getfield 1 ck_IR fl_IR_15 (by decide) (by decide +kernel) (by assumption) rfl ?_
  refine jj_aload_n (j := 0) (by decide +kernel) rfl ?_
  refine jj_getfield 0 ck_IR fl_IR_9 (by decide) (by decide +kernel) (by assumption) rfl ?_
  refine jj_arraylength (jj_tI hG) (by decide +kernel) hra rfl ?_
  refine jj_icmp_ge (off := 23) (tgt := 79) (by decide +kernel) (by decide) (fun c1 => ?_) (fun c1 => ?_)
  · skip
    refine jj_vret (by decide +kernel) rfl ?_
    exact absurd c1 (nI_ge hn (by omega))
  · skip
    refine jj_aload_n (j := 0) (by decide +kernel) rfl ?_
    refine jj_getfield 0 ck_IR fl_IR_9 (by decide) (by decide +kernel) (by assumption) rfl ?_
    refine jj_aload_n (j := 0) (by decide +kernel) rfl ?_
    refine jj_getfield 1 ck_IR fl_IR_15 (by decide) (by decide +kernel) (by assumption) rfl ?_
    refine jj_iload_n (j := 1) (by decide +kernel) rfl ?_
    refine jj_iastore (jj_tI hG) (by decide +kernel) hra (vp_in_nI hn (by omega)) ?_
    rw [nI_clamp (show n < 2 ^ 31 by omega)]
    have hrr2 : (jj_up h.1 a (.inl (jj_cI G, cap, .inl (upd f n v)))) r = some (.inr (1, [.ref a, .int (nI n)])) := (jj_up_ne hne).trans hrr
    refine jj_aload_n (j := 0) (by decide +kernel) rfl ?_
    refine jj_dup (by decide +kernel) rfl ?_
    refine jj_getfield 1 ck_IR fl_IR_15 (by decide) (by decide +kernel) (by assumption) rfl ?_
    refine jj_iconst (n := 1) (v := 1) (by decide +kernel) (by decide) ?_
    refine jj_iadd (by decide +kernel) ?_
    refine jj_putfield 1 ck_IR fl_IR_15 (by decide) rfl (by decide +kernel) hrr2 rfl rfl (Nat.lt_of_sub_eq_succ rfl) ?_
    refine jj_vret (by decide +kernel) rfl ?_
    exact (nI_succ n) ▸ hF
set_option maxRecDepth 100000 in
set_option maxHeartbeats 4000000 in
theorem c_IR_add {l : Launch} {G : jj_G} {d : Nat} {h : jj_H} {r a cap n : Nat} {f : Nat → Int32} {v : Int32} (hG : jj_tyG G) (hr : rw_is 1 G h r a cap f n) (hrl : r < h.2.1) (hal : a < h.2.1) (hn32 : n < 32768) (hdd : 5 ≤ d) : jj_Q l G y_IR_add d [.ref r, .int v] h (fun o h' => o = .inl none ∧ (n < cap → h' = (jj_up (jj_up h.1 a (.inl (jj_cI G, cap, .inl (upd f n v)))) r (.inr (1, [.ref a, .int (nI (n + 1))])), h.2)) ∧ (cap ≤ n → h' = (jj_up (jj_up (jj_up (jj_up h.1 h.2.1 (.inl (jj_cI G, 2 * cap, .inl (va_cpy f (fun _ => 0) 0 0 cap)))) r (.inr (1, [.ref h.2.1, .int (nI n)]))) h.2.1 (.inl (jj_cI G, 2 * cap, .inl (upd (va_cpy f (fun _ => 0) 0 0 cap) n v)))) r (.inr (1, [.ref h.2.1, .int (nI (n + 1))])), h.2.1 + 1, h.2.2 + 2 * cap))) := by
  obtain ⟨hrr, hra, hn, hc0, hc1, hne⟩ := hr
  refine jj_Q.of (by decide +kernel) (Nat.le_of_ble_eq_true rfl) ?_
  refine jj_aload_n (j := 0) (by decide +kernel) rfl ?_
  refine jj_getfield 1 ck_IR fl_IR_15 (by decide) (by decide +kernel) (by assumption) rfl ?_
  refine jj_if_lt (off := 12) (tgt := 16) (by decide +kernel) (by decide) (fun c1 => ?_) (fun c1 => ?_)
  · skip
    refine jj_vret (by decide +kernel) rfl ?_
    exact absurd c1 (nI_pos (by omega))
  · skip
    refine jj_aload_n (j := 0) (by decide +kernel) rfl ?_
    refine jj_getfield 1 ck_IR fl_IR_15 (by decide) (by decide +kernel) (by assumption) rfl ?_
    refine jj_ldc (by decide +kernel) kc_IR_19 ?_
    refine jj_icmp_lt (off := 4) (tgt := 17) (by decide +kernel) (by decide) (fun c2 => ?_) (fun c2 => ?_)
    · skip
      refine jj_aload_n (j := 0) (by decide +kernel) rfl ?_
      refine jj_getfield 1 ck_IR fl_IR_15 (by decide) (by decide +kernel) (by assumption) rfl ?_
      refine jj_aload_n (j := 0) (by decide +kernel) rfl ?_
      refine jj_getfield 0 ck_IR fl_IR_9 (by decide) (by decide +kernel) (by assumption) rfl ?_
      refine jj_arraylength (jj_tI hG) (by decide +kernel) hra rfl ?_
      refine jj_icmp_lt (off := 21) (tgt := 47) (by decide +kernel) (by decide) (fun c3 => ?_) (fun c3 => ?_)
      · skip
        exact p_IR_add_47 hG hrr hra hne ((nI_ltI (by omega) (by omega)).mp c3) hc1 ⟨rfl, fun _ => rfl, fun q => absurd q (by have := (nI_ltI (by omega) (by omega)).mp c3; omega)⟩
      · skip
        refine jj_aload_n (j := 0) (by decide +kernel) rfl ?_
        refine jj_aload_n (j := 0) (by decide +kernel) rfl ?_
        refine jj_getfield 0 ck_IR fl_IR_9 (by decide) (by decide +kernel) (by assumption) rfl ?_
        refine jj_aload_n (j := 0) (by decide +kernel) rfl ?_
        refine jj_getfield 0 ck_IR fl_IR_9 (by decide) (by decide +kernel) (by assumption) rfl ?_
        refine jj_arraylength (jj_tI hG) (by decide +kernel) hra rfl ?_
        refine jj_iconst (n := 2) (v := 2) (by decide +kernel) (by decide) ?_
        refine jj_imul (by decide +kernel) ?_
        have hcap : cap ≤ n := Nat.not_lt.mp (fun q => c3 (nI_lt q (by omega)))
        rw [show Int32.ofNat cap * 2 = nI (2 * cap) from (pk_mul cap 2).trans (by rw [Nat.mul_comm])]
        refine jj_callr (c_JA_copyOf (d := 3) hG hra hal (m := 2 * cap) (by omega) (by omega) (Nat.le_refl _)) (fun o1 h1 hC => jj_callS ok_JA_copyOf ml_IR_20 st_JA_copyOf (by decide +kernel) rfl (by omega) (Nat.le_of_ble_eq_true rfl) hC) (by intro E h1 hp; cases hp.1) ?_
        rintro v1 h1 ⟨hv, rfl⟩
        cases hv
        have hrr2 : (jj_up h.1 h.2.1 (.inl (jj_cI G, 2 * cap, .inl (va_cpy f (fun _ => 0) 0 0 cap)))) r = some (.inr (1, [.ref a, .int (nI n)])) := (jj_up_ne (by omega)).trans hrr
        refine jj_putfield 0 ck_IR fl_IR_9 (by decide) rfl (by decide +kernel) hrr2 rfl rfl (Nat.lt_of_sub_eq_succ rfl) ?_
        exact p_IR_add_47 hG jj_up_self ((jj_up_ne (by omega)).trans jj_up_self) (by omega) (by omega) (by omega) ⟨rfl, fun q => absurd q (by omega), fun _ => rfl⟩
    · skip
      refine jj_vret (by decide +kernel) rfl ?_
      exact absurd (show nI n < 32768 from nI_lt (b := 32768) hn32 (by omega)) c2
set_option maxRecDepth 100000 in
set_option maxHeartbeats 4000000 in
theorem c_IR_cutTo {l : Launch} {G : jj_G} {d : Nat} {h : jj_H} {r a cap n : Nat} {f : Nat → Int32} {j : Nat} (hr : rw_is 1 G h r a cap f n) (hj : j ≤ n) : jj_Q l G y_IR_cutTo d [.ref r, .int (nI j)] h (fun o h' => o = .inl none ∧ h' = (jj_up h.1 r (.inr (1, [.ref a, .int (nI j)])), h.2)) := by
  obtain ⟨hrr, hra, hn, hc0, hc1, hne⟩ := hr
  refine jj_Q.of (by decide +kernel) (Nat.le_of_ble_eq_true rfl) ?_
  refine jj_iload_n (j := 1) (by decide +kernel) rfl ?_
  refine jj_if_lt (off := 16) (tgt := 17) (by decide +kernel) (by decide) (fun c1 => ?_) (fun c1 => ?_)
  · skip
    refine jj_vret (by decide +kernel) rfl ?_
    exact absurd c1 (nI_pos (by omega))
  · skip
    refine jj_iload_n (j := 1) (by decide +kernel) rfl ?_
    refine jj_aload_n (j := 0) (by decide +kernel) rfl ?_
    refine jj_getfield 1 ck_IR fl_IR_15 (by decide) (by decide +kernel) (by assumption) rfl ?_
    refine jj_icmp_gt (off := 8) (tgt := 17) (by decide +kernel) (by decide) (fun c2 => ?_) (fun c2 => ?_)
    · skip
      refine jj_vret (by decide +kernel) rfl ?_
      exact absurd c2 (nI_nlt hj (by omega))
    · skip
      refine jj_aload_n (j := 0) (by decide +kernel) rfl ?_
      refine jj_iload_n (j := 1) (by decide +kernel) rfl ?_
      refine jj_putfield 1 ck_IR fl_IR_15 (by decide) rfl (by decide +kernel) hrr rfl rfl (Nat.lt_of_sub_eq_succ rfl) ?_
      refine jj_vret (by decide +kernel) rfl ?_
      exact ⟨rfl, rfl⟩
set_option maxRecDepth 100000 in
set_option maxHeartbeats 4000000 in
theorem c_IR_put {l : Launch} {G : jj_G} {d : Nat} {h : jj_H} {r a cap n : Nat} {f : Nat → Int32} {j : Nat} {v : Int32} (hG : jj_tyG G) (hr : rw_is 1 G h r a cap f n) (hj : j < n) : jj_Q l G y_IR_put d [.ref r, .int (nI j), .int v] h (fun o h' => o = .inl none ∧ h' = (jj_up h.1 a (.inl (jj_cI G, cap, .inl (upd f j v))), h.2)) := by
  obtain ⟨hrr, hra, hn, hc0, hc1, hne⟩ := hr
  refine jj_Q.of (by decide +kernel) (Nat.le_of_ble_eq_true rfl) ?_
  refine jj_iload_n (j := 1) (by decide +kernel) rfl ?_
  refine jj_if_lt (off := 27) (tgt := 28) (by decide +kernel) (by decide) (fun c1 => ?_) (fun c1 => ?_)
  · skip
    refine jj_vret (by decide +kernel) rfl ?_
    exact absurd c1 (nI_pos (by omega))
  · skip
    refine jj_iload_n (j := 1) (by decide +kernel) rfl ?_
    refine jj_aload_n (j := 0) (by decide +kernel) rfl ?_
    refine jj_getfield 1 ck_IR fl_IR_15 (by decide) (by decide +kernel) (by assumption) rfl ?_
    refine jj_icmp_ge (off := 19) (tgt := 28) (by decide +kernel) (by decide) (fun c2 => ?_) (fun c2 => ?_)
    · skip
      refine jj_vret (by decide +kernel) rfl ?_
      exact absurd c2 (nI_ge hj (by omega))
    · skip
      refine jj_iload_n (j := 1) (by decide +kernel) rfl ?_
      refine jj_aload_n (j := 0) (by decide +kernel) rfl ?_
      refine jj_getfield 0 ck_IR fl_IR_9 (by decide) (by decide +kernel) (by assumption) rfl ?_
      refine jj_arraylength (jj_tI hG) (by decide +kernel) hra rfl ?_
      refine jj_icmp_ge (off := 10) (tgt := 28) (by decide +kernel) (by decide) (fun c3 => ?_) (fun c3 => ?_)
      · skip
        refine jj_vret (by decide +kernel) rfl ?_
        exact absurd c3 (nI_ge (show j < cap by omega) (by omega))
      · skip
        refine jj_aload_n (j := 0) (by decide +kernel) rfl ?_
        refine jj_getfield 0 ck_IR fl_IR_9 (by decide) (by decide +kernel) (by assumption) rfl ?_
        refine jj_iload_n (j := 1) (by decide +kernel) rfl ?_
        refine jj_iload_n (j := 2) (by decide +kernel) rfl ?_
        refine jj_iastore (jj_tI hG) (by decide +kernel) hra (vp_in_nI (by omega) (by omega)) ?_
        rw [nI_clamp (show j < 2 ^ 31 by omega)]
        refine jj_vret (by decide +kernel) rfl ?_
        exact ⟨rfl, rfl⟩
