/-! tables, and the class's own questions of a character -/
def tb_is (G : jj_G) (h : jj_H) (r a cap : Nat) (f : Nat → Int32) (n : Nat) : Prop := h.1 r = some (.inr (2, [.ref a, .int (nI n)])) ∧ h.1 a = some (.inl (jj_cI G, cap, .inl f)) ∧ 3 * n ≤ cap ∧ 0 < cap ∧ cap ≤ 200000 ∧ r ≠ a
def tb_get (f : Nat → Int32) (n : Nat) (i k : Int32) : Int32 := if i < 0 ∨ nI n ≤ i ∨ k < 0 ∨ ¬ k < 3 then -1 else f (3 * i.toNatClampNeg + k.toNatClampNeg)
abbrev tk_L (x : Int32) : Prop := (97 ≤ x.toInt ∧ x.toInt ≤ 122) ∨ (65 ≤ x.toInt ∧ x.toInt ≤ 90)
abbrev tk_D (x : Int32) : Prop := 48 ≤ x.toInt ∧ x.toInt ≤ 57
abbrev tk_U (x : Int32) : Prop := 65 ≤ x.toInt ∧ x.toInt ≤ 90
set_option maxRecDepth 100000 in
set_option maxHeartbeats 4000000 in
theorem c_TB_size {l : Launch} {G : jj_G} {d : Nat} {h : jj_H} {r a cap n : Nat} {f : Nat → Int32} (hr : tb_is G h r a cap f n) : jj_Q l G y_TB_size d [.ref r] h (fun o h' => o = .inl (some (.int (nI n))) ∧ h' = h) := by
  obtain ⟨hrr, hra, hn, hc0, hc1, hne⟩ := hr
  refine jj_Q.of (by decide +kernel) (Nat.le_of_ble_eq_true rfl) ?_
  refine jj_aload_n (j := 0) (by decide +kernel) rfl ?_
  refine jj_getfield 1 ck_TB fl_TB_15 (by decide) (by decide +kernel) (by assumption) rfl ?_
  refine jj_iret .int (by decide +kernel) rfl rfl ?_
  exact ⟨rfl, rfl⟩
set_option maxRecDepth 100000 in
set_option maxHeartbeats 4000000 in
theorem c_TB_clear {l : Launch} {G : jj_G} {d : Nat} {h : jj_H} {r a cap n : Nat} {f : Nat → Int32} (hr : tb_is G h r a cap f n) : jj_Q l G y_TB_clear d [.ref r] h (fun o h' => o = .inl none ∧ h' = (jj_up h.1 r (.inr (2, [.ref a, .int (nI 0)])), h.2)) := by
  obtain ⟨hrr, hra, hn, hc0, hc1, hne⟩ := hr
  refine jj_Q.of (by decide +kernel) (Nat.le_of_ble_eq_true rfl) ?_
  refine jj_aload_n (j := 0) (by decide +kernel) rfl ?_
  refine jj_iconst (n := 0) (v := 0) (by decide +kernel) (by decide) ?_
  refine jj_putfield 1 ck_TB fl_TB_15 (by decide) rfl (by decide +kernel) hrr rfl rfl (Nat.lt_of_sub_eq_succ rfl) ?_
  refine jj_vret (by decide +kernel) rfl ?_
  exact ⟨rfl, rfl⟩
set_option maxRecDepth 100000 in
set_option maxHeartbeats 4000000 in
theorem c_TB_at {l : Launch} {G : jj_G} {d : Nat} {h : jj_H} {r a cap n : Nat} {f : Nat → Int32} {i k : Int32} (hG : jj_tyG G) (hr : tb_is G h r a cap f n) : jj_Q l G y_TB_at d [.ref r, .int i, .int k] h (fun o h' => o = .inl (some (.int (tb_get f n i k))) ∧ h' = h) := by
  obtain ⟨hrr, hra, hn, hc0, hc1, hne⟩ := hr
  refine jj_Q.of (by decide +kernel) (Nat.le_of_ble_eq_true rfl) ?_
  refine jj_iload_n (j := 1) (by decide +kernel) rfl ?_
  refine jj_if_lt (off := 20) (tgt := 21) (by decide +kernel) (by decide) (fun c1 => ?_) (fun c1 => ?_)
  · skip
    refine jj_iconst (n := (-1)) (v := (-1)) (by decide +kernel) (by decide) ?_
    refine jj_iret .int (by decide +kernel) rfl rfl ?_
    exact ⟨by rw [tb_get, if_pos (by first | exact Or.inl c1 | exact Or.inr (Or.inl c2) | exact Or.inr (Or.inr (Or.inl c3)) | exact Or.inr (Or.inr (Or.inr c4)))], rfl⟩
  · skip
    refine jj_iload_n (j := 1) (by decide +kernel) rfl ?_
    refine jj_aload_n (j := 0) (by decide +kernel) rfl ?_
    refine jj_getfield 1 ck_TB fl_TB_15 (by decide) (by decide +kernel) (by assumption) rfl ?_
    refine jj_icmp_ge (off := 12) (tgt := 21) (by decide +kernel) (by decide) (fun c2 => ?_) (fun c2 => ?_)
    · skip
      refine jj_iconst (n := (-1)) (v := (-1)) (by decide +kernel) (by decide) ?_
      refine jj_iret .int (by decide +kernel) rfl rfl ?_
      exact ⟨by rw [tb_get, if_pos (by first | exact Or.inl c1 | exact Or.inr (Or.inl c2) | exact Or.inr (Or.inr (Or.inl c3)) | exact Or.inr (Or.inr (Or.inr c4)))], rfl⟩
    · skip
      refine jj_iload_n (j := 2) (by decide +kernel) rfl ?_
      refine jj_if_lt (off := 8) (tgt := 21) (by decide +kernel) (by decide) (fun c3 => ?_) (fun c3 => ?_)
      · skip
        refine jj_iconst (n := (-1)) (v := (-1)) (by decide +kernel) (by decide) ?_
        refine jj_iret .int (by decide +kernel) rfl rfl ?_
        exact ⟨by rw [tb_get, if_pos (by first | exact Or.inl c1 | exact Or.inr (Or.inl c2) | exact Or.inr (Or.inr (Or.inl c3)) | exact Or.inr (Or.inr (Or.inr c4)))], rfl⟩
      · skip
        refine jj_iload_n (j := 2) (by decide +kernel) rfl ?_
        refine jj_iconst (n := 3) (v := 3) (by decide +kernel) (by decide) ?_
        refine jj_icmp_lt (off := 5) (tgt := 23) (by decide +kernel) (by decide) (fun c4 => ?_) (fun c4 => ?_)
        · skip
          obtain ⟨i0, hi0, rfl⟩ : ∃ i0 : Nat, i0 < n ∧ i = nI i0 := by
            rcases pk_ix i (n := n) (by omega) with q | q | q
            · exact absurd q c1
            · exact absurd q c2
            · exact q
          obtain ⟨k0, hk0, rfl⟩ : ∃ k0 : Nat, k0 < 3 ∧ k = nI k0 := by
            rcases pk_ix k (n := 3) (by omega) with q | q | q
            · exact absurd q c3
            · exact absurd c4 (Int32.not_lt.mpr q)
            · exact q
          have e0 : nI i0 * 3 + nI k0 = nI (3 * i0 + k0) := by rw [show (3 : Int32) = nI 3 from rfl, pk_mul, nI_add, Nat.mul_comm]
          refine jj_iload_n (j := 1) (by decide +kernel) rfl ?_
          refine jj_iconst (n := 3) (v := 3) (by decide +kernel) (by decide) ?_
          refine jj_imul (by decide +kernel) ?_
          refine jj_iload_n (j := 2) (by decide +kernel) rfl ?_
          refine jj_iadd (by decide +kernel) ?_
          rw [e0]
          refine jj_istore_n (j := 3) (by decide +kernel) (by decide) rfl ?_
          refine jj_iload_n (j := 3) (by decide +kernel) rfl ?_
          refine jj_if_lt (off := 12) (tgt := 42) (by decide +kernel) (by decide) (fun c5 => ?_) (fun c5 => ?_)
          · skip
            refine jj_iconst (n := (-1)) (v := (-1)) (by decide +kernel) (by decide) ?_
            refine jj_goto (off := 9) (tgt := 52) (by decide +kernel) (by decide) ?_
            refine jj_iret .int (by decide +kernel) rfl rfl ?_
            exact absurd c5 (nI_pos (by omega))
          · skip
            refine jj_iload_n (j := 3) (by decide +kernel) rfl ?_
            refine jj_aload_n (j := 0) (by decide +kernel) rfl ?_
            refine jj_getfield 0 ck_TB fl_TB_9 (by decide) (by decide +kernel) (by assumption) rfl ?_
            refine jj_arraylength (jj_tI hG) (by decide +kernel) hra rfl ?_
            refine jj_icmp_lt (off := 7) (tgt := 46) (by decide +kernel) (by decide) (fun c6 => ?_) (fun c6 => ?_)
            · skip
              refine jj_aload_n (j := 0) (by decide +kernel) rfl ?_
              refine jj_getfield 0 ck_TB fl_TB_9 (by decide) (by decide +kernel) (by assumption) rfl ?_
              refine jj_iload_n (j := 3) (by decide +kernel) rfl ?_
              refine jj_iaload (jj_tI hG) (by decide +kernel) hra (vp_in_nI (by omega) (by omega)) ?_
              rw [nI_clamp (show 3 * i0 + k0 < 2 ^ 31 by omega)]
              refine jj_iret .int (by decide +kernel) rfl rfl ?_
              exact ⟨by rw [tb_get, if_neg (by rintro (q | q | q | q); exact c1 q; exact c2 q; exact c3 q; exact q c4), nI_clamp (show i0 < 2 ^ 31 by omega), nI_clamp (show k0 < 2 ^ 31 by omega)], rfl⟩
            · skip
              refine jj_iconst (n := (-1)) (v := (-1)) (by decide +kernel) (by decide) ?_
              refine jj_goto (off := 9) (tgt := 52) (by decide +kernel) (by decide) ?_
              refine jj_iret .int (by decide +kernel) rfl rfl ?_
              exact absurd (nI_lt (show 3 * i0 + k0 < cap by omega) (by omega)) c6
        · skip
          refine jj_iconst (n := (-1)) (v := (-1)) (by decide +kernel) (by decide) ?_
          refine jj_iret .int (by decide +kernel) rfl rfl ?_
          exact ⟨by rw [tb_get, if_pos (by first | exact Or.inl c1 | exact Or.inr (Or.inl c2) | exact Or.inr (Or.inr (Or.inl c3)) | exact Or.inr (Or.inr (Or.inr c4)))], rfl⟩
set_option maxRecDepth 100000 in
set_option maxHeartbeats 4000000 in
theorem c_ST_isLetter {l : Launch} {G : jj_G} {d : Nat} {h : jj_H} {x : Int32} : jj_Q l G y_ST_isLetter d [.int x] h (fun o h' => o = .inl (some (.int (if tk_L x then 1 else 0))) ∧ h' = h) := by
  refine jj_Q.of (by decide +kernel) (Nat.le_of_ble_eq_true rfl) ?_
  refine jj_iload_n (j := 0) (by decide +kernel) rfl ?_
  refine jj_bipush (n := 97) (v := 97) (by decide +kernel) (by decide) ?_
  refine jj_icmp_lt (off := 9) (tgt := 12) (by decide +kernel) (by decide) (fun c1 => ?_) (fun c1 => ?_)
  · skip
    refine jj_iload_n (j := 0) (by decide +kernel) rfl ?_
    refine jj_bipush (n := 65) (v := 65) (by decide +kernel) (by decide) ?_
    refine jj_icmp_lt (off := 13) (tgt := 28) (by decide +kernel) (by decide) (fun c2 => ?_) (fun c2 => ?_)
    · skip
      refine jj_iconst (n := 0) (v := 0) (by decide +kernel) (by decide) ?_
      refine jj_iret .boolean (by decide +kernel) rfl rfl ?_
      refine ⟨?_, rfl⟩
      simp only [Int32.lt_iff_toInt_lt, Int32.le_iff_toInt_le, Int32.reduceToInt] at *
      first
      | (exfalso; omega)
      | rw [if_pos (by omega)]
      | rw [if_neg (by omega)]
    · skip
      refine jj_iload_n (j := 0) (by decide +kernel) rfl ?_
      refine jj_bipush (n := 90) (v := 90) (by decide +kernel) (by decide) ?_
      refine jj_icmp_gt (off := 7) (tgt := 28) (by decide +kernel) (by decide) (fun c3 => ?_) (fun c3 => ?_)
      · skip
        refine jj_iconst (n := 0) (v := 0) (by decide +kernel) (by decide) ?_
        refine jj_iret .boolean (by decide +kernel) rfl rfl ?_
        refine ⟨?_, rfl⟩
        simp only [Int32.lt_iff_toInt_lt, Int32.le_iff_toInt_le, Int32.reduceToInt] at *
        first
        | (exfalso; omega)
        | rw [if_pos (by omega)]
        | rw [if_neg (by omega)]
      · skip
        refine jj_iconst (n := 1) (v := 1) (by decide +kernel) (by decide) ?_
        refine jj_goto (off := 4) (tgt := 29) (by decide +kernel) (by decide) ?_
        refine jj_iret .boolean (by decide +kernel) rfl rfl ?_
        refine ⟨?_, rfl⟩
        simp only [Int32.lt_iff_toInt_lt, Int32.le_iff_toInt_le, Int32.reduceToInt] at *
        first
        | (exfalso; omega)
        | rw [if_pos (by omega)]
        | rw [if_neg (by omega)]
  · skip
    refine jj_iload_n (j := 0) (by decide +kernel) rfl ?_
    refine jj_bipush (n := 122) (v := 122) (by decide +kernel) (by decide) ?_
    refine jj_icmp_le (off := 15) (tgt := 24) (by decide +kernel) (by decide) (fun c4 => ?_) (fun c4 => ?_)
    · skip
      refine jj_iconst (n := 1) (v := 1) (by decide +kernel) (by decide) ?_
      refine jj_goto (off := 4) (tgt := 29) (by decide +kernel) (by decide) ?_
      refine jj_iret .boolean (by decide +kernel) rfl rfl ?_
      refine ⟨?_, rfl⟩
      simp only [Int32.lt_iff_toInt_lt, Int32.le_iff_toInt_le, Int32.reduceToInt] at *
      first
      | (exfalso; omega)
      | rw [if_pos (by omega)]
      | rw [if_neg (by omega)]
    · skip
      refine jj_iload_n (j := 0) (by decide +kernel) rfl ?_
      refine jj_bipush (n := 65) (v := 65) (by decide +kernel) (by decide) ?_
      refine jj_icmp_lt (off := 13) (tgt := 28) (by decide +kernel) (by decide) (fun c5 => ?_) (fun c5 => ?_)
      · skip
        refine jj_iconst (n := 0) (v := 0) (by decide +kernel) (by decide) ?_
        refine jj_iret .boolean (by decide +kernel) rfl rfl ?_
        refine ⟨?_, rfl⟩
        simp only [Int32.lt_iff_toInt_lt, Int32.le_iff_toInt_le, Int32.reduceToInt] at *
        first
        | (exfalso; omega)
        | rw [if_pos (by omega)]
        | rw [if_neg (by omega)]
      · skip
        refine jj_iload_n (j := 0) (by decide +kernel) rfl ?_
        refine jj_bipush (n := 90) (v := 90) (by decide +kernel) (by decide) ?_
        refine jj_icmp_gt (off := 7) (tgt := 28) (by decide +kernel) (by decide) (fun c6 => ?_) (fun c6 => ?_)
        · skip
          refine jj_iconst (n := 0) (v := 0) (by decide +kernel) (by decide) ?_
          refine jj_iret .boolean (by decide +kernel) rfl rfl ?_
          refine ⟨?_, rfl⟩
          simp only [Int32.lt_iff_toInt_lt, Int32.le_iff_toInt_le, Int32.reduceToInt] at *
          first
          | (exfalso; omega)
          | rw [if_pos (by omega)]
          | rw [if_neg (by omega)]
        · skip
          refine jj_iconst (n := 1) (v := 1) (by decide +kernel) (by decide) ?_
          refine jj_goto (off := 4) (tgt := 29) (by decide +kernel) (by decide) ?_
          refine jj_iret .boolean (by decide +kernel) rfl rfl ?_
          refine ⟨?_, rfl⟩
          simp only [Int32.lt_iff_toInt_lt, Int32.le_iff_toInt_le, Int32.reduceToInt] at *
          first
          | (exfalso; omega)
          | rw [if_pos (by omega)]
          | rw [if_neg (by omega)]
set_option maxRecDepth 100000 in
set_option maxHeartbeats 4000000 in
theorem c_ST_isDigit {l : Launch} {G : jj_G} {d : Nat} {h : jj_H} {x : Int32} : jj_Q l G y_ST_isDigit d [.int x] h (fun o h' => o = .inl (some (.int (if tk_D x then 1 else 0))) ∧ h' = h) := by
  refine jj_Q.of (by decide +kernel) (Nat.le_of_ble_eq_true rfl) ?_
  refine jj_iload_n (j := 0) (by decide +kernel) rfl ?_
  refine jj_bipush (n := 48) (v := 48) (by decide +kernel) (by decide) ?_
  refine jj_icmp_lt (off := 13) (tgt := 16) (by decide +kernel) (by decide) (fun c1 => ?_) (fun c1 => ?_)
  · skip
    refine jj_iconst (n := 0) (v := 0) (by decide +kernel) (by decide) ?_
    refine jj_iret .boolean (by decide +kernel) rfl rfl ?_
    refine ⟨?_, rfl⟩
    simp only [Int32.lt_iff_toInt_lt, Int32.le_iff_toInt_le, Int32.reduceToInt] at *
    first
    | (exfalso; omega)
    | rw [if_pos (by omega)]
    | rw [if_neg (by omega)]
  · skip
    refine jj_iload_n (j := 0) (by decide +kernel) rfl ?_
    refine jj_bipush (n := 57) (v := 57) (by decide +kernel) (by decide) ?_
    refine jj_icmp_gt (off := 7) (tgt := 16) (by decide +kernel) (by decide) (fun c2 => ?_) (fun c2 => ?_)
    · skip
      refine jj_iconst (n := 0) (v := 0) (by decide +kernel) (by decide) ?_
      refine jj_iret .boolean (by decide +kernel) rfl rfl ?_
      refine ⟨?_, rfl⟩
      simp only [Int32.lt_iff_toInt_lt, Int32.le_iff_toInt_le, Int32.reduceToInt] at *
      first
      | (exfalso; omega)
      | rw [if_pos (by omega)]
      | rw [if_neg (by omega)]
    · skip
      refine jj_iconst (n := 1) (v := 1) (by decide +kernel) (by decide) ?_
      refine jj_goto (off := 4) (tgt := 17) (by decide +kernel) (by decide) ?_
      refine jj_iret .boolean (by decide +kernel) rfl rfl ?_
      refine ⟨?_, rfl⟩
      simp only [Int32.lt_iff_toInt_lt, Int32.le_iff_toInt_le, Int32.reduceToInt] at *
      first
      | (exfalso; omega)
      | rw [if_pos (by omega)]
      | rw [if_neg (by omega)]
set_option maxRecDepth 100000 in
set_option maxHeartbeats 4000000 in
theorem c_ST_small {l : Launch} {G : jj_G} {d : Nat} {h : jj_H} {x : Int32} : jj_Q l G y_ST_small d [.int x] h (fun o h' => o = .inl (some (.int (if tk_U x then x + 32 else x))) ∧ h' = h) := by
  refine jj_Q.of (by decide +kernel) (Nat.le_of_ble_eq_true rfl) ?_
  refine jj_iload_n (j := 0) (by decide +kernel) rfl ?_
  refine jj_bipush (n := 65) (v := 65) (by decide +kernel) (by decide) ?_
  refine jj_icmp_lt (off := 16) (tgt := 19) (by decide +kernel) (by decide) (fun c1 => ?_) (fun c1 => ?_)
  · skip
    refine jj_iload_n (j := 0) (by decide +kernel) rfl ?_
    refine jj_iret .int (by decide +kernel) rfl rfl ?_
    refine ⟨?_, rfl⟩
    simp only [Int32.lt_iff_toInt_lt, Int32.le_iff_toInt_le, Int32.reduceToInt] at *
    first
    | (exfalso; omega)
    | rw [if_pos (by omega)]
    | rw [if_neg (by omega)]
  · skip
    refine jj_iload_n (j := 0) (by decide +kernel) rfl ?_
    refine jj_bipush (n := 90) (v := 90) (by decide +kernel) (by decide) ?_
    refine jj_icmp_gt (off := 10) (tgt := 19) (by decide +kernel) (by decide) (fun c2 => ?_) (fun c2 => ?_)
    · skip
      refine jj_iload_n (j := 0) (by decide +kernel) rfl ?_
      refine jj_iret .int (by decide +kernel) rfl rfl ?_
      refine ⟨?_, rfl⟩
      simp only [Int32.lt_iff_toInt_lt, Int32.le_iff_toInt_le, Int32.reduceToInt] at *
      first
      | (exfalso; omega)
      | rw [if_pos (by omega)]
      | rw [if_neg (by omega)]
    · skip
      refine jj_iload_n (j := 0) (by decide +kernel) rfl ?_
      refine jj_bipush (n := 32) (v := 32) (by decide +kernel) (by decide) ?_
      refine jj_iadd (by decide +kernel) ?_
      refine jj_goto (off := 4) (tgt := 20) (by decide +kernel) (by decide) ?_
      refine jj_iret .int (by decide +kernel) rfl rfl ?_
      refine ⟨?_, rfl⟩
      simp only [Int32.lt_iff_toInt_lt, Int32.le_iff_toInt_le, Int32.reduceToInt] at *
      first
      | (exfalso; omega)
      | rw [if_pos (by omega)]
      | rw [if_neg (by omega)]
