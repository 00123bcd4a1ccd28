/-! rows and tables: leaves of the class -/
def jj_cI (G : jj_G) : ClassId := (G.2.2.1.getD 0 (0, .int)).1
def jj_cB (G : jj_G) : ClassId := (G.2.2.1.getD 1 (0, .int)).1
def jj_cL (G : jj_G) : ClassId := (G.2.2.1.getD 2 (0, .int)).1
/-- the array classes of the run -/
def jj_tyG (G : jj_G) : Prop := G.2.2.1 = [(jj_cI G, .int), (jj_cB G, .byte), (jj_cL G, .long)]
theorem jj_tI {G : jj_G} (hG : jj_tyG G) : G.2.2.1[0]? = some (jj_cI G, .int) := by rw [hG]; rfl
theorem jj_tB {G : jj_G} (hG : jj_tyG G) : G.2.2.1[1]? = some (jj_cB G, .byte) := by rw [hG]; rfl
theorem jj_tL {G : jj_G} (hG : jj_tyG G) : G.2.2.1[2]? = some (jj_cL G, .long) := by rw [hG]; rfl
/-- an object of class number ci, of an array's address and a count, over its array -/
def rw_is (ci : Nat) (G : jj_G) (h : jj_H) (r a cap : Nat) (f : Nat → Int32) (n : Nat) : Prop := h.1 r = some (.inr (ci, [.ref a, .int (nI n)])) ∧ h.1 a = some (.inl (jj_cI G, cap, .inl f)) ∧ n ≤ cap ∧ 0 < cap ∧ cap ≤ 200000 ∧ r ≠ a
set_option maxRecDepth 100000 in
set_option maxHeartbeats 4000000 in
theorem c_IR_size {l : Launch} {G : jj_G} {d : Nat} {h : jj_H} {r a cap n : Nat} {f : Nat → Int32} (hr : rw_is 1 G h r a cap f n) : jj_Q l G y_IR_size d [.ref r] h (fun o h' => o = .inl (some (.int (nI n))) ∧ h' = h) := by
  obtain ⟨hrr, hra, hn, hc0, hc1, hne⟩ := hr
  refine jj_Q.of (by decide) (Nat.le_of_ble_eq_true rfl) ?_
  refine jj_aload_n (j := 0) (by decide +kernel) rfl ?_
  refine jj_getfield 1 ck_IR fl_IR_15 (by decide) (by decide +kernel) (by assumption) rfl ?_
  refine jj_iret .int (by decide +kernel) rfl rfl ?_
  exact ⟨rfl, rfl⟩
/-- what a row answers at a place -/
def rw_get (f : Nat → Int32) (n : Nat) (i : Int32) : Int32 := if i < 0 ∨ nI n ≤ i then -1 else f i.toNatClampNeg
set_option maxRecDepth 100000 in
set_option maxHeartbeats 4000000 in
theorem c_IR_at {l : Launch} {G : jj_G} {d : Nat} {h : jj_H} {r a cap n : Nat} {f : Nat → Int32} {i : Int32} (hG : jj_tyG G) (hr : rw_is 1 G h r a cap f n) : jj_Q l G y_IR_at d [.ref r, .int i] h (fun o h' => o = .inl (some (.int (rw_get f n i))) ∧ h' = h) := by
  obtain ⟨hrr, hra, hn, hc0, hc1, hne⟩ := hr
  refine jj_Q.of (by decide) (Nat.le_of_ble_eq_true rfl) ?_
  refine jj_iload_n (j := 1) (by decide +kernel) rfl ?_
  refine jj_if_lt (off := 20) (tgt := 21) (by decide +kernel) (by decide) (fun c1 => ?_) (fun c1 => ?_)
  · skip
    refine jj_iconst (n := (-1)) (v := (-1)) (by decide +kernel) (by decide) ?_
    refine jj_goto (off := 9) (tgt := 31) (by decide +kernel) (by decide) ?_
    refine jj_iret .int (by decide +kernel) rfl rfl ?_
    exact ⟨by rw [rw_get, if_pos (Or.inl c1)], rfl⟩
  · skip
    refine jj_iload_n (j := 1) (by decide +kernel) rfl ?_
    refine jj_aload_n (j := 0) (by decide +kernel) rfl ?_
    refine jj_getfield 1 ck_IR fl_IR_15 (by decide) (by decide +kernel) (by assumption) rfl ?_
    refine jj_icmp_ge (off := 12) (tgt := 21) (by decide +kernel) (by decide) (fun c2 => ?_) (fun c2 => ?_)
    · skip
      refine jj_iconst (n := (-1)) (v := (-1)) (by decide +kernel) (by decide) ?_
      refine jj_goto (off := 9) (tgt := 31) (by decide +kernel) (by decide) ?_
      refine jj_iret .int (by decide +kernel) rfl rfl ?_
      exact ⟨by rw [rw_get, if_pos (Or.inr c2)], rfl⟩
    · skip
      refine jj_iload_n (j := 1) (by decide +kernel) rfl ?_
      refine jj_aload_n (j := 0) (by decide +kernel) rfl ?_
      refine jj_getfield 0 ck_IR fl_IR_9 (by decide) (by decide +kernel) (by assumption) rfl ?_
      refine jj_arraylength (jj_tI hG) (by decide +kernel) hra rfl ?_
      refine jj_icmp_lt (off := 7) (tgt := 25) (by decide +kernel) (by decide) (fun c3 => ?_) (fun c3 => ?_)
      · skip
        refine jj_aload_n (j := 0) (by decide +kernel) rfl ?_
        refine jj_getfield 0 ck_IR fl_IR_9 (by decide) (by decide +kernel) (by assumption) rfl ?_
        refine jj_iload_n (j := 1) (by decide +kernel) rfl ?_
        obtain ⟨j, hj, rfl⟩ : ∃ j : Nat, j < n ∧ i = nI j := by
          rcases pk_ix i (n := n) (by omega) with q | q | q
          · exact absurd q c1
          · exact absurd q c2
          · exact q
        refine jj_iaload (jj_tI hG) (by decide +kernel) hra (vp_in_nI (by omega) (by omega)) ?_
        refine jj_iret .int (by decide +kernel) rfl rfl ?_
        exact ⟨by rw [rw_get, if_neg (by rintro (q | q); exact c1 q; exact c2 q)], rfl⟩
      · skip
        refine jj_iconst (n := (-1)) (v := (-1)) (by decide +kernel) (by decide) ?_
        refine jj_goto (off := 9) (tgt := 31) (by decide +kernel) (by decide) ?_
        refine jj_iret .int (by decide +kernel) rfl rfl ?_
        exact absurd (Int32.lt_of_lt_of_le (Int32.not_le.mp c2) (nI_le hn (by omega))) c3
