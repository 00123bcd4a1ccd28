/-! the JDK's strings: what the class reads of its constants -/
theorem wl_JS_38 : Cond.fieldLink "java/lang/String" 38 "java/lang/String" "COMPACT_STRINGS" "Z" ∈ jj_T := jw 233 (by decide +kernel) rfl
theorem wl_JS_1053 : Cond.fieldLink "java/lang/String" 1053 "jdk/internal/util/Preconditions" "SIOOBE_FORMATTER" "Ljava/util/function/BiFunction;" ∈ jj_T := jw 249 (by decide +kernel) rfl
theorem wl_JS_9 : Cond.fieldLink "java/lang/String" 9 "java/lang/String" "value" "[B" ∈ jj_T := jw 1513 (by decide +kernel) rfl
theorem wl_JS_15 : Cond.fieldLink "java/lang/String" 15 "java/lang/String" "coder" "B" ∈ jj_T := jw 1514 (by decide +kernel) rfl
theorem lS_small : ∀ i, i < jj_nS → jj_lS.getD i 0 ≤ 2000 := by decide +kernel
set_option maxRecDepth 100000 in
set_option maxHeartbeats 4000000 in
theorem c_JS_coder {l : Launch} {G : jj_G} {d : Nat} {h : jj_H} {i : Nat} (hi : i < jj_nS) : jj_Q l G y_JS_coder d [.ref (G.2.2.2.1 i)] h (fun out h' => out = .inl (some (.int 0)) ∧ h' = h) := by
  refine jj_Q.of (by decide +kernel) (Nat.le_of_ble_eq_true rfl) ?_
  refine jj_getstatic (C := "java/lang/String") (n := "COMPACT_STRINGS") (dd := "Z") (v := .int 1) (List.mem_cons_self) wl_JS_38 (by decide +kernel) ?_
  refine jj_if_eq (off := 10) (tgt := 13) (by decide +kernel) (by decide) (fun c1 => absurd c1 (by decide)) (fun _ => ?_)
  refine jj_aload_n (j := 0) (by decide +kernel) rfl ?_
  refine jj_coder hi wl_JS_15 (by decide +kernel) ?_
  refine jj_goto (off := 4) (tgt := 14) (by decide +kernel) (by decide) ?_
  exact jj_iret .byte (by decide +kernel) rfl rfl ⟨rfl, rfl⟩
set_option maxRecDepth 100000 in
set_option maxHeartbeats 4000000 in
theorem c_JS_length {l : Launch} {G : jj_G} {d : Nat} {h : jj_H} {i : Nat} (hi : i < jj_nS) (hdd : 1 ≤ d) : jj_Q l G y_JS_length d [.ref (G.2.2.2.1 i)] h (fun out h' => out = .inl (some (.int (nI (jj_lS.getD i 0)))) ∧ h' = h) := by
  have hlen := lS_small i hi
  refine jj_Q.of (by decide +kernel) (Nat.le_of_ble_eq_true rfl) ?_
  refine jj_aload_n (j := 0) (by decide +kernel) rfl ?_
  refine jj_value hi wl_JS_9 (by decide +kernel) ?_
  refine jj_strlen hi (by decide +kernel) ?_
  refine jj_aload_n (j := 0) (by decide +kernel) rfl ?_
  refine jj_callr (c_JS_coder (d := d - 1) hi) (fun o1 h1 hC => jj_callV ok_JS_coder ml_JS_335 im_JS_coder se_JS_JS_coder (by decide +kernel) (jj_rcv.str hi) rfl (by omega) (Nat.le_of_ble_eq_true rfl) hC) (by rintro E h1 ⟨q, -⟩; cases q) ?_
  rintro v h1 ⟨hv, rfl⟩
  cases hv
  refine jj_ishr (by decide +kernel) ?_
  refine jj_iret .int (by decide +kernel) rfl rfl ⟨?_, rfl⟩
  rw [pk_shrN (show jj_lS.getD i 0 < 2 ^ 31 by omega) (0 &&& 31) 0 (by decide)]
  simp
set_option maxRecDepth 100000 in
set_option maxHeartbeats 4000000 in
theorem c_JS_isLatin1 {l : Launch} {G : jj_G} {d : Nat} {h : jj_H} {i : Nat} (hi : i < jj_nS) : jj_Q l G y_JS_isLatin1 d [.ref (G.2.2.2.1 i)] h (fun out h' => out = .inl (some (.int 1)) ∧ h' = h) := by
  refine jj_Q.of (by decide +kernel) (Nat.le_of_ble_eq_true rfl) ?_
  refine jj_getstatic (C := "java/lang/String") (n := "COMPACT_STRINGS") (dd := "Z") (v := .int 1) (List.mem_cons_self) wl_JS_38 (by decide +kernel) ?_
  refine jj_if_eq (off := 14) (tgt := 17) (by decide +kernel) (by decide) (fun c1 => absurd c1 (by decide)) (fun _ => ?_)
  refine jj_aload_n (j := 0) (by decide +kernel) rfl ?_
  refine jj_coder hi wl_JS_15 (by decide +kernel) ?_
  refine jj_if_ne (off := 7) (tgt := 17) (by decide +kernel) (by decide) (fun c1 => absurd rfl c1) (fun _ => ?_)
  refine jj_iconst (n := 1) (v := 1) (by decide +kernel) (by decide) ?_
  refine jj_goto (off := 4) (tgt := 18) (by decide +kernel) (by decide) ?_
  exact jj_iret .boolean (by decide +kernel) rfl rfl ⟨rfl, rfl⟩
theorem jj_svK (G : jj_G) : jj_sv G = .null ∨ ∃ t, jj_sv G = .ref t := by
  unfold jj_sv
  split
  · exact Or.inl rfl
  · exact Or.inr ⟨_, rfl⟩
set_option maxRecDepth 100000 in
set_option maxHeartbeats 4000000 in
theorem c_JP_checkIndex {l : Launch} {G : jj_G} {d : Nat} {h : jj_H} {x n : Int32} {v : Value} (hv : v = .null ∨ ∃ t, v = .ref t) (h0 : ¬ x < 0) (h1 : x < n) : jj_Q l G y_JP_checkIndex d [.int x, .int n, v] h (fun out h' => out = .inl (some (.int x)) ∧ h' = h) := by
  rcases hv with rfl | ⟨t, rfl⟩
  · refine jj_Q.of (by decide +kernel) (Nat.le_of_ble_eq_true rfl) ?_
    refine jj_iload_n (j := 0) (by decide +kernel) rfl ?_
    refine jj_if_lt (off := 8) (tgt := 9) (by decide +kernel) (by decide) (fun c1 => absurd c1 h0) (fun _ => ?_)
    refine jj_iload_n (j := 0) (by decide +kernel) rfl ?_
    refine jj_iload_n (j := 1) (by decide +kernel) rfl ?_
    refine jj_icmp_lt (off := 10) (tgt := 16) (by decide +kernel) (by decide) (fun _ => ?_) (fun c1 => absurd h1 c1)
    refine jj_iload_n (j := 0) (by decide +kernel) rfl ?_
    exact jj_iret .int (by decide +kernel) rfl rfl ⟨rfl, rfl⟩
  · refine jj_Q.of (by decide +kernel) (Nat.le_of_ble_eq_true rfl) ?_
    refine jj_iload_n (j := 0) (by decide +kernel) rfl ?_
    refine jj_if_lt (off := 8) (tgt := 9) (by decide +kernel) (by decide) (fun c1 => absurd c1 h0) (fun _ => ?_)
    refine jj_iload_n (j := 0) (by decide +kernel) rfl ?_
    refine jj_iload_n (j := 1) (by decide +kernel) rfl ?_
    refine jj_icmp_lt (off := 10) (tgt := 16) (by decide +kernel) (by decide) (fun _ => ?_) (fun c1 => absurd h1 c1)
    refine jj_iload_n (j := 0) (by decide +kernel) rfl ?_
    exact jj_iret .int (by decide +kernel) rfl rfl ⟨rfl, rfl⟩
set_option maxRecDepth 100000 in
set_option maxHeartbeats 4000000 in
theorem c_JS_checkIndex {l : Launch} {G : jj_G} {d : Nat} {h : jj_H} {x n : Int32} (h0 : ¬ x < 0) (h1 : x < n) (hdd : 1 ≤ d) : jj_Q l G y_JS_checkIndex d [.int x, .int n] h (fun out h' => out = .inl none ∧ h' = h) := by
  refine jj_Q.of (by decide +kernel) (Nat.le_of_ble_eq_true rfl) ?_
  refine jj_iload_n (j := 0) (by decide +kernel) rfl ?_
  refine jj_iload_n (j := 1) (by decide +kernel) rfl ?_
  refine jj_getSIO wl_JS_1053 (by decide +kernel) ?_
  refine jj_callr (c_JP_checkIndex (d := d - 1) (jj_svK G) h0 h1) (fun o1 h1 hC => jj_callS ok_JP_checkIndex ml_JS_1059 st_JP_checkIndex (by decide +kernel) rfl (by omega) (Nat.le_of_ble_eq_true rfl) hC) (by rintro E h1 ⟨q, -⟩; cases q) ?_
  rintro v h1 ⟨hv, rfl⟩
  cases hv
  refine jj_pop (by decide +kernel) rfl ?_
  exact jj_vret (by decide +kernel) rfl ⟨rfl, rfl⟩
set_option maxRecDepth 100000 in
set_option maxHeartbeats 4000000 in
theorem c_JL_charAt {l : Launch} {G : jj_G} {d : Nat} {h : jj_H} {i j : Nat} (hi : i < jj_nS) (hj : j < jj_lS.getD i 0) (hdd : 2 ≤ d) : jj_Q l G y_JL_charAt d [.ref (G.2.2.2.2.1 i), .int (nI j)] h (fun out h' => ∃ v : Int32, out = .inl (some (.int v)) ∧ h' = h ∧ narrow .char (.int v) = .int v) := by
  have hlen := lS_small i hi
  refine jj_Q.of (by decide +kernel) (Nat.le_of_ble_eq_true rfl) ?_
  refine jj_iload_n (j := 1) (by decide +kernel) rfl ?_
  refine jj_aload_n (j := 0) (by decide +kernel) rfl ?_
  refine jj_strlen hi (by decide +kernel) ?_
  refine jj_callr (c_JS_checkIndex (d := d - 1) (nI_pos (by omega)) (nI_lt hj (by omega)) (by omega)) (fun o1 h1 hC => jj_callS ok_JS_checkIndex ml_JL_9 st_JS_checkIndex (by decide +kernel) rfl (by omega) (Nat.le_of_ble_eq_true rfl) hC) (by rintro E h1 ⟨q, -⟩; cases q) ?_
  rintro v h1 ⟨hv, rfl⟩
  cases hv
  refine jj_aload_n (j := 0) (by decide +kernel) rfl ?_
  refine jj_iload_n (j := 1) (by decide +kernel) rfl ?_
  refine jj_strbyte hi (vp_in_nI hj (by omega)) (by decide +kernel) ?_
  refine jj_sipush (n := 255) (v := 255) (by decide +kernel) (by decide) ?_
  refine jj_iand (by decide +kernel) ?_
  refine jj_i2c (by decide +kernel) ?_
  exact jj_iret .char (by decide +kernel) rfl (pk_nc _) ⟨_, rfl, rfl, pk_nc _⟩
set_option maxRecDepth 100000 in
set_option maxHeartbeats 4000000 in
theorem c_JS_charAt {l : Launch} {G : jj_G} {d : Nat} {h : jj_H} {i j : Nat} (hi : i < jj_nS) (hj : j < jj_lS.getD i 0) (hdd : 3 ≤ d) : jj_Q l G y_JS_charAt d [.ref (G.2.2.2.1 i), .int (nI j)] h (fun out h' => ∃ v : Int32, out = .inl (some (.int v)) ∧ h' = h) := by
  refine jj_Q.of (by decide +kernel) (Nat.le_of_ble_eq_true rfl) ?_
  refine jj_aload_n (j := 0) (by decide +kernel) rfl ?_
  refine jj_callr (c_JS_isLatin1 (d := d - 1) hi) (fun o1 h1 hC => jj_callV ok_JS_isLatin1 ml_JS_492 im_JS_isLatin1 se_JS_JS_isLatin1 (by decide +kernel) (jj_rcv.str hi) rfl (by omega) (Nat.le_of_ble_eq_true rfl) hC) (by rintro E h1 ⟨q, -⟩; cases q) ?_
  rintro v h1 ⟨hv, rfl⟩
  cases hv
  refine jj_if_eq (off := 12) (tgt := 16) (by decide +kernel) (by decide) (fun c1 => absurd c1 (by decide)) (fun _ => ?_)
  refine jj_aload_n (j := 0) (by decide +kernel) rfl ?_
  refine jj_value hi wl_JS_9 (by decide +kernel) ?_
  refine jj_iload_n (j := 1) (by decide +kernel) rfl ?_
  refine jj_callr (c_JL_charAt (d := d - 1) hi hj (by omega)) (fun o1 h1 hC => jj_callS ok_JL_charAt ml_JS_495 st_JL_charAt (by decide +kernel) rfl (by omega) (Nat.le_of_ble_eq_true rfl) hC) (by rintro E h1 ⟨v9, q, -⟩; cases q) ?_
  rintro v h1 ⟨v9, hv, rfl, hnc⟩
  cases hv
  exact jj_iret .char (by decide +kernel) rfl hnc ⟨_, rfl, rfl⟩
set_option maxRecDepth 100000 in
set_option maxHeartbeats 4000000 in
theorem c_JL_canEncode {l : Launch} {G : jj_G} {d : Nat} {h : jj_H} {x : Int32} : jj_Q l G y_JL_canEncode d [.int x] h (fun out h' => ∃ v : Int32, out = .inl (some (.int v)) ∧ h' = h) := by
  refine jj_Q.of (by decide +kernel) (Nat.le_of_ble_eq_true rfl) ?_
  refine jj_iload_n (j := 0) (by decide +kernel) rfl ?_
  refine jj_if_lt (off := 14) (tgt := 15) (by decide +kernel) (by decide) (fun _ => ?_) (fun _ => ?_)
  · refine jj_iconst (n := 0) (v := 0) (by decide +kernel) (by decide) ?_
    exact jj_iret .boolean (by decide +kernel) rfl rfl ⟨_, rfl, rfl⟩
  · refine jj_iload_n (j := 0) (by decide +kernel) rfl ?_
    refine jj_sipush (n := 255) (v := 255) (by decide +kernel) (by decide) ?_
    refine jj_icmp_gt (off := 7) (tgt := 15) (by decide +kernel) (by decide) (fun _ => ?_) (fun _ => ?_)
    · refine jj_iconst (n := 0) (v := 0) (by decide +kernel) (by decide) ?_
      exact jj_iret .boolean (by decide +kernel) rfl rfl ⟨_, rfl, rfl⟩
    · refine jj_iconst (n := 1) (v := 1) (by decide +kernel) (by decide) ?_
      refine jj_goto (off := 4) (tgt := 16) (by decide +kernel) (by decide) ?_
      exact jj_iret .boolean (by decide +kernel) rfl rfl ⟨_, rfl, rfl⟩
set_option maxRecDepth 100000 in
set_option maxHeartbeats 4000000 in
theorem c_JM_max {l : Launch} {G : jj_G} {d : Nat} {h : jj_H} {x y : Int32} : jj_Q l G y_JM_max d [.int x, .int y] h (fun out h' => out = .inl (some (.int (if x < y then y else x))) ∧ h' = h) := by
  refine jj_Q.of (by decide +kernel) (Nat.le_of_ble_eq_true rfl) ?_
  refine jj_iload_n (j := 0) (by decide +kernel) rfl ?_
  refine jj_iload_n (j := 1) (by decide +kernel) rfl ?_
  refine jj_icmp_lt (off := 7) (tgt := 9) (by decide +kernel) (by decide) (fun c1 => ?_) (fun c1 => ?_)
  · refine jj_iload_n (j := 1) (by decide +kernel) rfl ?_
    exact jj_iret .int (by decide +kernel) rfl rfl ⟨by rw [if_pos c1], rfl⟩
  · refine jj_iload_n (j := 0) (by decide +kernel) rfl ?_
    refine jj_goto (off := 4) (tgt := 10) (by decide +kernel) (by decide) ?_
    exact jj_iret .int (by decide +kernel) rfl rfl ⟨by rw [if_neg c1], rfl⟩
set_option maxRecDepth 100000 in
set_option maxHeartbeats 4000000 in
theorem c_JM_min2 {l : Launch} {G : jj_G} {d : Nat} {h : jj_H} {x y : Int64} : jj_Q l G y_JM_min2 d [.long x, .long y] h (fun out h' => ∃ z : Int64, out = .inl (some (.long z)) ∧ h' = h) := by
  refine jj_Q.of (by decide +kernel) (Nat.le_of_ble_eq_true rfl) ?_
  refine jj_lload_n (j := 0) (by decide +kernel) rfl ?_
  refine jj_lload_n (j := 2) (by decide +kernel) rfl ?_
  refine jj_lcmp (by decide +kernel) ?_
  refine jj_if_gt (off := 7) (tgt := 10) (by decide +kernel) (by decide) (fun c1 => ?_) (fun c1 => ?_)
  · refine jj_lload_n (j := 2) (by decide +kernel) rfl ?_
    exact jj_lret (by decide +kernel) rfl ⟨_, rfl, rfl⟩
  · refine jj_lload_n (j := 0) (by decide +kernel) rfl ?_
    refine jj_goto (off := 4) (tgt := 11) (by decide +kernel) (by decide) ?_
    exact jj_lret (by decide +kernel) rfl ⟨_, rfl, rfl⟩
set_option maxRecDepth 100000 in
set_option maxHeartbeats 4000000 in
theorem b_JL_indexOfChar_7 {l : Launch} {G : jj_G} {d i : Nat} {h : jj_H} {c b : Int32} (hi : i < jj_nS) : ∀ (n j : Nat), jj_lS.getD i 0 - j < n → j ≤ jj_lS.getD i 0 → jj_P l G y_JL_indexOfChar d (fun out h' => ∃ v : Int32, out = .inl (some (.int v)) ∧ h' = h) 7 [some (.ref (G.2.2.2.2.1 i)), some (.int c), some (.int 0), some (.int (nI (jj_lS.getD i 0))), some (.int b), some (.int (nI j))] [] h := by
  have hlen := lS_small i hi
  intro n
  induction n with
  | zero => intro j hn; exact absurd hn (Nat.not_lt_zero _)
  | succ n ih =>
    intro j hn hj
    refine jj_iload (i := 5) (by decide +kernel) rfl ?_
    refine jj_iload_n (j := 3) (by decide +kernel) rfl ?_
    refine jj_icmp_ge (off := 21) (tgt := 31) (by decide +kernel) (by decide) (fun c1 => ?_) (fun c1 => ?_)
    · refine jj_iconst (n := (-1)) (v := (-1)) (by decide +kernel) (by decide) ?_
      exact jj_iret .int (by decide +kernel) rfl rfl ⟨_, rfl, rfl⟩
    · have hlt : j < jj_lS.getD i 0 := Nat.not_le.mp (fun q => c1 (nI_le q (by omega)))
      refine jj_aload_n (j := 0) (by decide +kernel) rfl ?_
      refine jj_iload (i := 5) (by decide +kernel) rfl ?_
      refine jj_strbyte hi (vp_in_nI hlt (by omega)) (by decide +kernel) ?_
      refine jj_iload (i := 4) (by decide +kernel) rfl ?_
      refine jj_icmp_ne (off := 6) (tgt := 25) (by decide +kernel) (by decide) (fun _ => ?_) (fun _ => ?_)
      · refine jj_iinc (i := 5) (n := 1) (v := nI (j + 1)) (by decide +kernel) rfl (by rw [show Int32.ofInt 1 = 1 from rfl]; exact nI_1 j) (by decide) rfl ?_
        refine jj_goto (off := (-21)) (tgt := 7) (by decide +kernel) (by decide) ?_
        exact ih (j + 1) (by omega) (by omega)
      · refine jj_iload (i := 5) (by decide +kernel) rfl ?_
        exact jj_iret .int (by decide +kernel) rfl rfl ⟨_, rfl, rfl⟩
set_option maxRecDepth 100000 in
set_option maxHeartbeats 4000000 in
theorem c_JL_indexOfChar {l : Launch} {G : jj_G} {d : Nat} {h : jj_H} {i : Nat} {c : Int32} (hi : i < jj_nS) : jj_Q l G y_JL_indexOfChar d [.ref (G.2.2.2.2.1 i), .int c, .int 0, .int (nI (jj_lS.getD i 0))] h (fun out h' => ∃ v : Int32, out = .inl (some (.int v)) ∧ h' = h) := by
  refine jj_Q.of (by decide +kernel) (Nat.le_of_ble_eq_true rfl) ?_
  refine jj_iload_n (j := 1) (by decide +kernel) rfl ?_
  refine jj_i2b (by decide +kernel) ?_
  refine jj_istore (i := 4) (by decide +kernel) (by decide) rfl ?_
  refine jj_iload_n (j := 2) (by decide +kernel) rfl ?_
  refine jj_istore (i := 5) (by decide +kernel) (by decide) rfl ?_
  exact b_JL_indexOfChar_7 hi _ 0 (Nat.lt_succ_self _) (Nat.zero_le _)
set_option maxRecDepth 100000 in
set_option maxHeartbeats 4000000 in
theorem c_JL_indexOf {l : Launch} {G : jj_G} {d : Nat} {h : jj_H} {i : Nat} {c : Int32} (hi : i < jj_nS) (hdd : 1 ≤ d) : jj_Q l G y_JL_indexOf d [.ref (G.2.2.2.2.1 i), .int c, .int 0, .int (nI (jj_lS.getD i 0))] h (fun out h' => ∃ v : Int32, out = .inl (some (.int v)) ∧ h' = h) := by
  have hlen := lS_small i hi
  refine jj_Q.of (by decide +kernel) (Nat.le_of_ble_eq_true rfl) ?_
  refine jj_iload_n (j := 1) (by decide +kernel) rfl ?_
  refine jj_callr (c_JL_canEncode (d := d - 1)) (fun o1 h1 hC => jj_callS ok_JL_canEncode ml_JL_88 st_JL_canEncode (by decide +kernel) rfl (by omega) (Nat.le_of_ble_eq_true rfl) hC) (by rintro E h1 ⟨v9, q, -⟩; cases q) ?_
  rintro v h1 ⟨v9, hv, rfl⟩
  cases hv
  refine jj_if_ne (off := 5) (tgt := 9) (by decide +kernel) (by decide) (fun _ => ?_) (fun _ => ?_)
  · refine jj_iload_n (j := 2) (by decide +kernel) rfl ?_
    refine jj_iconst (n := 0) (v := 0) (by decide +kernel) (by decide) ?_
    refine jj_callr (c_JM_max (d := d - 1)) (fun o1 h1 hC => jj_callS ok_JM_max ml_JL_92 st_JM_max (by decide +kernel) rfl (by omega) (Nat.le_of_ble_eq_true rfl) hC) (by rintro E h1 ⟨q, -⟩; cases q) ?_
    rintro v h1 ⟨hv, rfl⟩
    cases hv
    rw [if_neg (show ¬ (0 : Int32) < 0 by decide)]
    refine jj_istore_n (j := 2) (by decide +kernel) (by decide) rfl ?_
    refine jj_iload_n (j := 3) (by decide +kernel) rfl ?_
    refine jj_aload_n (j := 0) (by decide +kernel) rfl ?_
    refine jj_strlen hi (by decide +kernel) ?_
    refine jj_callr (c_JM_min (d := d - 1)) (fun o1 h1 hC => jj_callS ok_JM_min ml_JL_38 st_JM_min (by decide +kernel) rfl (by omega) (Nat.le_of_ble_eq_true rfl) hC) (by rintro E h1 ⟨q, -⟩; cases q) ?_
    rintro v h1 ⟨hv, rfl⟩
    cases hv
    rw [ite_self]
    refine jj_istore_n (j := 3) (by decide +kernel) (by decide) rfl ?_
    refine jj_iload_n (j := 2) (by decide +kernel) rfl ?_
    refine jj_iload_n (j := 3) (by decide +kernel) rfl ?_
    refine jj_icmp_lt (off := 5) (tgt := 29) (by decide +kernel) (by decide) (fun _ => ?_) (fun _ => ?_)
    · refine jj_aload_n (j := 0) (by decide +kernel) rfl ?_
      refine jj_iload_n (j := 1) (by decide +kernel) rfl ?_
      refine jj_iload_n (j := 2) (by decide +kernel) rfl ?_
      refine jj_iload_n (j := 3) (by decide +kernel) rfl ?_
      refine jj_callr (c_JL_indexOfChar (d := d - 1) hi) (fun o1 h1 hC => jj_callS ok_JL_indexOfChar ml_JL_95 st_JL_indexOfChar (by decide +kernel) rfl (by omega) (Nat.le_of_ble_eq_true rfl) hC) (by rintro E h1 ⟨v9, q, -⟩; cases q) ?_
      rintro v h1 ⟨v9, hv, rfl⟩
      cases hv
      exact jj_iret .int (by decide +kernel) rfl rfl ⟨_, rfl, rfl⟩
    · refine jj_iconst (n := (-1)) (v := (-1)) (by decide +kernel) (by decide) ?_
      exact jj_iret .int (by decide +kernel) rfl rfl ⟨_, rfl, rfl⟩
  · refine jj_iconst (n := (-1)) (v := (-1)) (by decide +kernel) (by decide) ?_
    exact jj_iret .int (by decide +kernel) rfl rfl ⟨_, rfl, rfl⟩
set_option maxRecDepth 100000 in
set_option maxHeartbeats 4000000 in
theorem c_JS_indexOf2 {l : Launch} {G : jj_G} {d : Nat} {h : jj_H} {i : Nat} {c : Int32} (hi : i < jj_nS) (hdd : 2 ≤ d) : jj_Q l G y_JS_indexOf2 d [.ref (G.2.2.2.1 i), .int c, .int 0] h (fun out h' => ∃ v : Int32, out = .inl (some (.int v)) ∧ h' = h) := by
  refine jj_Q.of (by decide +kernel) (Nat.le_of_ble_eq_true rfl) ?_
  refine jj_aload_n (j := 0) (by decide +kernel) rfl ?_
  refine jj_callr (c_JS_isLatin1 (d := d - 1) hi) (fun o1 h1 hC => jj_callV ok_JS_isLatin1 ml_JS_492 im_JS_isLatin1 se_JS_JS_isLatin1 (by decide +kernel) (jj_rcv.str hi) rfl (by omega) (Nat.le_of_ble_eq_true rfl) hC) (by rintro E h1 ⟨q, -⟩; cases q) ?_
  rintro v h1 ⟨hv, rfl⟩
  cases hv
  refine jj_if_eq (off := 19) (tgt := 23) (by decide +kernel) (by decide) (fun c1 => absurd c1 (by decide)) (fun _ => ?_)
  refine jj_aload_n (j := 0) (by decide +kernel) rfl ?_
  refine jj_value hi wl_JS_9 (by decide +kernel) ?_
  refine jj_iload_n (j := 1) (by decide +kernel) rfl ?_
  refine jj_iload_n (j := 2) (by decide +kernel) rfl ?_
  refine jj_aload_n (j := 0) (by decide +kernel) rfl ?_
  refine jj_callr (c_JS_length (d := d - 1) hi (by omega)) (fun o1 h1 hC => jj_callV ok_JS_length ml_JS_505 im_JS_length se_JS_JS_length (by decide +kernel) (jj_rcv.str hi) rfl (by omega) (Nat.le_of_ble_eq_true rfl) hC) (by rintro E h1 ⟨q, -⟩; cases q) ?_
  rintro v h1 ⟨hv, rfl⟩
  cases hv
  refine jj_callr (c_JL_indexOf (d := d - 1) hi (by omega)) (fun o1 h1 hC => jj_callS ok_JL_indexOf ml_JS_637 st_JL_indexOf (by decide +kernel) rfl (by omega) (Nat.le_of_ble_eq_true rfl) hC) (by rintro E h1 ⟨v9, q, -⟩; cases q) ?_
  rintro v h1 ⟨v9, hv, rfl⟩
  cases hv
  refine jj_goto (off := 16) (tgt := 36) (by decide +kernel) (by decide) ?_
  exact jj_iret .int (by decide +kernel) rfl rfl ⟨_, rfl, rfl⟩
set_option maxRecDepth 100000 in
set_option maxHeartbeats 4000000 in
theorem c_JS_indexOf {l : Launch} {G : jj_G} {d : Nat} {h : jj_H} {i : Nat} {c : Int32} (hi : i < jj_nS) (hdd : 3 ≤ d) : jj_Q l G y_JS_indexOf d [.ref (G.2.2.2.1 i), .int c] h (fun out h' => ∃ v : Int32, out = .inl (some (.int v)) ∧ h' = h) := by
  refine jj_Q.of (by decide +kernel) (Nat.le_of_ble_eq_true rfl) ?_
  refine jj_aload_n (j := 0) (by decide +kernel) rfl ?_
  refine jj_iload_n (j := 1) (by decide +kernel) rfl ?_
  refine jj_iconst (n := 0) (v := 0) (by decide +kernel) (by decide) ?_
  refine jj_callr (c_JS_indexOf2 (d := d - 1) hi (by omega)) (fun o1 h1 hC => jj_callV ok_JS_indexOf2 ml_JS_633 im_JS_indexOf2 se_JS_JS_indexOf2 (by decide +kernel) (jj_rcv.str hi) rfl (by omega) (Nat.le_of_ble_eq_true rfl) hC) (by rintro E h1 ⟨v9, q, -⟩; cases q) ?_
  rintro v h1 ⟨v9, hv, rfl⟩
  cases hv
  exact jj_iret .int (by decide +kernel) rfl rfl ⟨_, rfl, rfl⟩
theorem s_JS_indexOf {l : Launch} {G : jj_G} {X : sy_X} {K o N d i : Nat} {h : jj_H} {c : Int32} (hG : jj_tyG G) (hi : i < jj_nS) (hdd : 3 ≤ d) (hs : Sy G X K o N h) : jj_Q l G y_JS_indexOf d [.ref (G.2.2.2.1 i), .int c] h (sy_F 1 false G X K o N) := by
  refine (c_JS_indexOf hi hdd).imp ?_
  rintro o1 h1 ⟨v, rfl, rfl⟩
  exact ⟨Or.inl rfl, hs⟩
