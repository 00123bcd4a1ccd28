theorem wd_len : jj_lS.getD 12 0 = 307 := by decide
theorem wd_end : jj_ch 12 306 = 32 := by decide +kernel
set_option maxRecDepth 100000 in
theorem wd_chr : ∀ j, j < 307 → jj_ch 12 j = 32 ∨ ∃ w, w < 27 ∧ jj_ch 12 j = nI (w + 96) := by
  have h : ∀ j, j < 307 → (jj_ch 12 j = 32 ∨ (jj_ch 12 j = nI ((jj_ch 12 j).toNatClampNeg - 96 + 96) ∧ (jj_ch 12 j).toNatClampNeg - 96 < 27)) := by decide +kernel
  intro j hj
  rcases h j hj with e | ⟨e, e2⟩
  · exact Or.inl e
  · exact Or.inr ⟨_, e2, e⟩
set_option maxRecDepth 100000 in
set_option maxHeartbeats 4000000 in
theorem b_MO_wordOf_111 {l : Launch} {G : jj_G} {A : Nat → Nat} {d : Nat} {h : jj_H} {p q : Nat} {x4 x5 : Int32} (hdd : 4 ≤ d) : ∀ (n k : Nat), 307 - k < n → k < 307 → (∀ k', k < k' → k' ≤ 307 → jj_P l G y_MO_wordOf d (fun out h' => ∃ v : Int32, out = .inl (some (.int v)) ∧ h' = h ∧ (v = -1 ∨ 4096 ≤ v)) 2 [some (.ref (A 0)), some (.int (nI p)), some (.int (nI q)), some (.int (nI k')), none, none] [] h) → jj_P l G y_MO_wordOf d (fun out h' => ∃ v : Int32, out = .inl (some (.int v)) ∧ h' = h ∧ (v = -1 ∨ 4096 ≤ v)) 111 [some (.ref (A 0)), some (.int (nI p)), some (.int (nI q)), some (.int (nI k)), some (.int x4), some (.int x5)] [] h := by
  intro n
  induction n with
  | zero => intro k hn; exact absurd hn (Nat.not_lt_zero _)
  | succ n ih =>
    intro k hn hk kk
    refine jj_ldcS (index := 68) (i := 12) (tx := "abs after and assert begin body case constant downto else elsif end exit for generate generic if in inertial inout is loop map mod nand next nor not null of on open or others out port process range reject rem report signal sll srl subtype then to transport type unit until variable wait when while xnor xor ") (by decide +kernel) (List.mem_of_getElem? (i := 13) rfl) ?_
    refine jj_iload_n (j := 3) (by decide +kernel) rfl ?_
    refine jj_callr (e_JS_charAt (d := d - 1) (i := 12) (by decide) (by rw [wd_len]; exact hk) (by omega)) (fun o1 h1 hC => jj_callV ok_JS_charAt ml_MO_64 im_JS_charAt se_JS_JS_charAt (by decide +kernel) (jj_rcv.str (by decide)) rfl (by omega) (Nat.le_of_ble_eq_true rfl) hC) (by rintro E h1 ⟨q, -⟩; cases q) ?_
    rintro v h9 ⟨hv, e9⟩
    cases hv
    have e9 := e9.symm
    subst e9
    refine jj_bipush (n := 32) (v := 32) (by decide +kernel) (by decide) ?_
    refine jj_icmp_eq (off := 9) (tgt := 128) (by decide +kernel) (by decide) (fun c1 => ?_) (fun c1 => ?_)
    · refine jj_iinc (i := 3) (n := 1) (v := nI (k + 1)) (by decide +kernel) rfl (by rw [show Int32.ofInt 1 = 1 from rfl]; exact nI_1 k) (by decide) rfl ?_
      refine jj_goto (off := (-129)) (tgt := 2) (by decide +kernel) (by decide) ?_
      exact jj_wk (js_s (js_s (js_s (js_s (js_n (js_n js_0)))))) (kk (k + 1) (by omega) (by omega))
    · refine jj_iinc (i := 3) (n := 1) (v := nI (k + 1)) (by decide +kernel) rfl (by rw [show Int32.ofInt 1 = 1 from rfl]; exact nI_1 k) (by decide) rfl ?_
      refine jj_goto (off := (-14)) (tgt := 111) (by decide +kernel) (by decide) ?_
      have hne : k ≠ 306 := fun e => c1 (by rw [e]; exact wd_end)
      exact ih (k + 1) (by omega) (by omega) (fun k' g1 g2 => kk k' (by omega) g2)
set_option maxRecDepth 100000 in
set_option maxHeartbeats 4000000 in
theorem b_MO_wordOf_17 {l : Launch} {G : jj_G} {h0 : jj_H} {A : Nat → Nat} {N T M : Nat} {c : Nat → Nat → Int32} {wr nw ow : Int32} {g d : Nat} {h : jj_H} {p q : Nat} (hG : jj_tyG G) (hN : N ≤ 16384) (hb : Pb G (h0, A, N, T, M, c) wr nw ow g h) (hpq : p ≤ q) (hqN : q ≤ N) (hdd : 4 ≤ d) (hch : ∀ j, p ≤ j → j < q → c 1 j &&& 255 ≠ 32) {k : Nat} (hk : k < 307) (kk : ∀ x4 x5 : Int32, jj_P l G y_MO_wordOf d (fun out h' => ∃ v : Int32, out = .inl (some (.int v)) ∧ h' = h ∧ (v = -1 ∨ 4096 ≤ v)) 111 [some (.ref (A 0)), some (.int (nI p)), some (.int (nI q)), some (.int (nI k)), some (.int x4), some (.int x5)] [] h) : ∀ (n i a : Nat), (q - p) - i < n → i ≤ q - p → (∀ j, k ≤ j → j < k + i → jj_ch 12 j ≠ 32) → a + 1 ≤ 27 ^ min i 6 → jj_P l G y_MO_wordOf d (fun out h' => ∃ v : Int32, out = .inl (some (.int v)) ∧ h' = h ∧ (v = -1 ∨ 4096 ≤ v)) 17 [some (.ref (A 0)), some (.int (nI p)), some (.int (nI q)), some (.int (nI k)), some (.int (nI i)), some (.int (nI a))] [] h := by
  intro n
  induction n with
  | zero => intro i a hn; exact absurd hn (Nat.not_lt_zero _)
  | succ n ih =>
    intro i a hn hi hw ha
    have h306 : k + i ≤ 306 := Nat.not_lt.mp (fun q9 => hw 306 (by omega) (by omega) wd_end)
    have hpw : 27 ^ min i 6 ≤ 387420489 := Nat.pow_le_pow_right (by decide) (Nat.min_le_right i 6)
    have K82 : jj_P l G y_MO_wordOf d (fun out h' => ∃ v : Int32, out = .inl (some (.int v)) ∧ h' = h ∧ (v = -1 ∨ 4096 ≤ v)) 82 [some (.ref (A 0)), some (.int (nI p)), some (.int (nI q)), some (.int (nI k)), some (.int (nI i)), some (.int (nI a))] [] h := by
      refine jj_iload (i := 4) (by decide +kernel) rfl ?_
      refine jj_iload_n (j := 2) (by decide +kernel) rfl ?_
      refine jj_iload_n (j := 1) (by decide +kernel) rfl ?_
      refine jj_isub (by decide +kernel) ?_
      rw [nI_sub hpq]
      refine jj_icmp_ne (off := 24) (tgt := 111) (by decide +kernel) (by decide) (fun c1 => kk _ _) (fun c1 => ?_)
      refine jj_ldcS (index := 68) (i := 12) (tx := "abs after and assert begin body case constant downto else elsif end exit for generate generic if in inertial inout is loop map mod nand next nor not null of on open or others out port process range reject rem report signal sll srl subtype then to transport type unit until variable wait when while xnor xor ") (by decide +kernel) (List.mem_of_getElem? (i := 13) rfl) ?_
      refine jj_iload_n (j := 3) (by decide +kernel) rfl ?_
      refine jj_iload (i := 4) (by decide +kernel) rfl ?_
      refine jj_iadd (by decide +kernel) ?_
      rw [nI_add k i]
      refine jj_callr (e_JS_charAt (d := d - 1) (i := 12) (by decide) (by rw [wd_len]; omega) (by omega)) (fun o1 h1 hC => jj_callV ok_JS_charAt ml_MO_64 im_JS_charAt se_JS_JS_charAt (by decide +kernel) (jj_rcv.str (by decide)) rfl (by omega) (Nat.le_of_ble_eq_true rfl) hC) (by rintro E h1 ⟨q, -⟩; cases q) ?_
      rintro v h9 ⟨hv, e9⟩
      cases hv
      have e9 := e9.symm
      subst e9
      refine jj_bipush (n := 32) (v := 32) (by decide +kernel) (by decide) ?_
      refine jj_icmp_ne (off := 10) (tgt := 111) (by decide +kernel) (by decide) (fun c2 => kk _ _) (fun c2 => ?_)
      refine jj_sipush (n := 4096) (v := nI 4096) (by decide +kernel) (by decide) ?_
      refine jj_iload (i := 5) (by decide +kernel) rfl ?_
      refine jj_iadd (by decide +kernel) ?_
      rw [nI_add]
      exact jj_iret .int (by decide +kernel) rfl rfl ⟨_, rfl, rfl, Or.inr (nI_le (a := 4096) (by omega) (by omega))⟩
    refine jj_iload (i := 4) (by decide +kernel) rfl ?_
    refine jj_iload_n (j := 2) (by decide +kernel) rfl ?_
    refine jj_iload_n (j := 1) (by decide +kernel) rfl ?_
    refine jj_isub (by decide +kernel) ?_
    rw [nI_sub hpq]
    refine jj_icmp_ge (off := 60) (tgt := 82) (by decide +kernel) (by decide) (fun c1 => K82) (fun c1 => ?_)
    have hlt : i < q - p := Nat.not_le.mp (fun q9 => c1 (nI_le q9 (by omega)))
    refine jj_ldcS (index := 68) (i := 12) (tx := "abs after and assert begin body case constant downto else elsif end exit for generate generic if in inertial inout is loop map mod nand next nor not null of on open or others out port process range reject rem report signal sll srl subtype then to transport type unit until variable wait when while xnor xor ") (by decide +kernel) (List.mem_of_getElem? (i := 13) rfl) ?_
    refine jj_iload_n (j := 3) (by decide +kernel) rfl ?_
    refine jj_iload (i := 4) (by decide +kernel) rfl ?_
    refine jj_iadd (by decide +kernel) ?_
    rw [nI_add k i]
    refine jj_callr (e_JS_charAt (d := d - 1) (i := 12) (by decide) (by rw [wd_len]; omega) (by omega)) (fun o1 h1 hC => jj_callV ok_JS_charAt ml_MO_64 im_JS_charAt se_JS_JS_charAt (by decide +kernel) (jj_rcv.str (by decide)) rfl (by omega) (Nat.le_of_ble_eq_true rfl) hC) (by rintro E h1 ⟨q, -⟩; cases q) ?_
    rintro v h9 ⟨hv, e9⟩
    cases hv
    have e9 := e9.symm
    subst e9
    refine jj_aload_n (j := 0) (by decide +kernel) rfl ?_
    refine jj_iload_n (j := 1) (by decide +kernel) rfl ?_
    refine jj_iload (i := 4) (by decide +kernel) rfl ?_
    refine jj_iadd (by decide +kernel) ?_
    rw [nI_add p i]
    refine jj_callr (m_letterAt (d := d - 1) hG hb (by omega)) (fun o1 h1 hC => jj_callV ok_MO_letterAt ml_MO_70 im_MO_letterAt se_MO_MO_letterAt (by decide +kernel) hb.rcv rfl (by omega) (Nat.le_of_ble_eq_true rfl) hC) (by rintro E h1 ⟨q, -⟩; cases q) ?_
    rintro v h9 ⟨hv, e9⟩
    cases hv
    have e9 := e9.symm
    subst e9
    refine jj_icmp_ne (off := 40) (tgt := 82) (by decide +kernel) (by decide) (fun c2 => K82) (fun c2 => ?_)
    have hne : jj_ch 12 (k + i) ≠ 32 := by
      rw [c2]
      exact mo_lt.ne (hch (p + i) (by omega) (by omega))
    obtain ⟨w, hw27, hwe⟩ := (wd_chr (k + i) (by omega)).resolve_left hne
    have K74 : ∀ a', a' + 1 ≤ 27 ^ min (i + 1) 6 → jj_P l G y_MO_wordOf d (fun out h' => ∃ v : Int32, out = .inl (some (.int v)) ∧ h' = h ∧ (v = -1 ∨ 4096 ≤ v)) 74 [some (.ref (A 0)), some (.int (nI p)), some (.int (nI q)), some (.int (nI k)), some (.int (nI i)), some (.int (nI a))] [.int (nI a')] h := by
      intro a' ha'
      refine jj_istore (i := 5) (by decide +kernel) (by decide) rfl ?_
      refine jj_iinc (i := 4) (n := 1) (v := nI (i + 1)) (by decide +kernel) rfl (by rw [show Int32.ofInt 1 = 1 from rfl]; exact nI_1 i) (by decide) rfl ?_
      refine jj_goto (off := (-62)) (tgt := 17) (by decide +kernel) (by decide) ?_
      refine ih (i + 1) a' (by omega) (by omega) (fun j g1 g2 => ?_) ha'
      by_cases e : j = k + i
      · rw [e]
        exact hne
      · exact hw j g1 (by omega)
    refine jj_iload (i := 4) (by decide +kernel) rfl ?_
    refine jj_bipush (n := 6) (v := nI 6) (by decide +kernel) (by decide) ?_
    refine jj_icmp_ge (off := 23) (tgt := 72) (by decide +kernel) (by decide) (fun c3 => ?_) (fun c3 => ?_)
    · have h6 : 6 ≤ i := (nI_leI (by omega) (by omega)).mp c3
      refine jj_iload (i := 5) (by decide +kernel) rfl ?_
      exact K74 a (by rw [Nat.min_eq_right h6] at ha; rw [Nat.min_eq_right (by omega)]; exact ha)
    · have h6 : i < 6 := Nat.not_le.mp (fun q9 => c3 (nI_le q9 (by omega)))
      refine jj_bipush (n := 27) (v := nI 27) (by decide +kernel) (by decide) ?_
      refine jj_iload (i := 5) (by decide +kernel) rfl ?_
      refine jj_imul (by decide +kernel) ?_
      refine jj_aload_n (j := 0) (by decide +kernel) rfl ?_
      refine jj_iload_n (j := 1) (by decide +kernel) rfl ?_
      refine jj_iload (i := 4) (by decide +kernel) rfl ?_
      refine jj_iadd (by decide +kernel) ?_
      rw [nI_add p i, nI_mul]
      refine jj_callr (m_letterAt (d := d - 1) hG hb (by omega)) (fun o1 h1 hC => jj_callV ok_MO_letterAt ml_MO_70 im_MO_letterAt se_MO_MO_letterAt (by decide +kernel) hb.rcv rfl (by omega) (Nat.le_of_ble_eq_true rfl) hC) (by rintro E h1 ⟨q, -⟩; cases q) ?_
      rintro v h9 ⟨hv, e9⟩
      cases hv
      have e9 := e9.symm
      subst e9
      rw [← c2, hwe]
      refine jj_iadd (by decide +kernel) ?_
      rw [nI_add]
      refine jj_bipush (n := 96) (v := nI 96) (by decide +kernel) (by decide) ?_
      refine jj_isub (by decide +kernel) ?_
      rw [nI_sub (by omega)]
      refine jj_goto (off := 5) (tgt := 74) (by decide +kernel) (by decide) ?_
      refine K74 _ ?_
      rw [Nat.min_eq_left (by omega)] at ha
      rw [Nat.min_eq_left (by omega), Nat.pow_succ]
      omega
set_option maxRecDepth 100000 in
set_option maxHeartbeats 4000000 in
theorem b_MO_wordOf_2 {l : Launch} {G : jj_G} {h0 : jj_H} {A : Nat → Nat} {N T M : Nat} {c : Nat → Nat → Int32} {wr nw ow : Int32} {g d : Nat} {h : jj_H} {p q : Nat} (hG : jj_tyG G) (hN : N ≤ 16384) (hb : Pb G (h0, A, N, T, M, c) wr nw ow g h) (hpq : p ≤ q) (hqN : q ≤ N) (hdd : 4 ≤ d) (hch : ∀ j, p ≤ j → j < q → c 1 j &&& 255 ≠ 32) : ∀ (n k : Nat), 307 - k < n → k ≤ 307 → jj_P l G y_MO_wordOf d (fun out h' => ∃ v : Int32, out = .inl (some (.int v)) ∧ h' = h ∧ (v = -1 ∨ 4096 ≤ v)) 2 [some (.ref (A 0)), some (.int (nI p)), some (.int (nI q)), some (.int (nI k)), none, none] [] h := by
  intro n
  induction n with
  | zero => intro k hn; exact absurd hn (Nat.not_lt_zero _)
  | succ n ih =>
    intro k hn hk
    refine jj_iload_n (j := 3) (by decide +kernel) rfl ?_
    refine jj_ldcS (index := 68) (i := 12) (tx := "abs after and assert begin body case constant downto else elsif end exit for generate generic if in inertial inout is loop map mod nand next nor not null of on open or others out port process range reject rem report signal sll srl subtype then to transport type unit until variable wait when while xnor xor ") (by decide +kernel) (List.mem_of_getElem? (i := 13) rfl) ?_
    refine jj_callr (c_JS_length (d := d - 1) (i := 12) (by decide) (by omega)) (fun o1 h1 hC => jj_callV ok_JS_length ml_MO_59 im_JS_length se_JS_JS_length (by decide +kernel) (jj_rcv.str (by decide)) rfl (by omega) (Nat.le_of_ble_eq_true rfl) hC) (by rintro E h1 ⟨q, -⟩; cases q) ?_
    rintro v h9 ⟨hv, e9⟩
    cases hv
    have e9 := e9.symm
    subst e9
    rw [wd_len]
    refine jj_icmp_ge (off := 126) (tgt := 134) (by decide +kernel) (by decide) (fun c1 => ?_) (fun c1 => ?_)
    · refine jj_iconst (n := (-1)) (v := (-1)) (by decide +kernel) (by decide) ?_
      exact jj_iret .int (by decide +kernel) rfl rfl ⟨_, rfl, rfl, Or.inl rfl⟩
    · have hlt : k < 307 := Nat.not_le.mp (fun q9 => c1 (nI_le q9 (by omega)))
      refine jj_iconst (n := 0) (v := nI 0) (by decide +kernel) (by decide) ?_
      refine jj_istore (i := 4) (by decide +kernel) (by decide) rfl ?_
      refine jj_iconst (n := 0) (v := nI 0) (by decide +kernel) (by decide) ?_
      refine jj_istore (i := 5) (by decide +kernel) (by decide) rfl ?_
      exact b_MO_wordOf_17 hG hN hb hpq hqN hdd hch hlt (fun x4 x5 => b_MO_wordOf_111 (x4 := x4) (x5 := x5) hdd _ k (Nat.lt_succ_self _) hlt (fun k' g1 g2 => ih k' (by omega) g2)) _ 0 0 (Nat.lt_succ_self _) (Nat.zero_le _) (fun j g1 g2 => by omega) (by decide)
set_option maxRecDepth 100000 in
set_option maxHeartbeats 4000000 in
theorem m_wordOf {l : Launch} {G : jj_G} {h0 : jj_H} {A : Nat → Nat} {N T M : Nat} {c : Nat → Nat → Int32} {wr nw ow : Int32} {g d : Nat} {h : jj_H} {p q : Nat} (hG : jj_tyG G) (hN : N ≤ 16384) (hb : Pb G (h0, A, N, T, M, c) wr nw ow g h) (hpq : p ≤ q) (hqN : q ≤ N) (hdd : 4 ≤ d) (hch : ∀ j, p ≤ j → j < q → c 1 j &&& 255 ≠ 32) : jj_Q l G y_MO_wordOf d [.ref (A 0), .int (nI p), .int (nI q)] h (fun out h' => ∃ v : Int32, out = .inl (some (.int v)) ∧ h' = h ∧ (v = -1 ∨ 4096 ≤ v)) := by
  refine jj_Q.of (by decide +kernel) (Nat.le_of_ble_eq_true rfl) ?_
  refine jj_iconst (n := 0) (v := nI 0) (by decide +kernel) (by decide) ?_
  refine jj_istore_n (j := 3) (by decide +kernel) (by decide) rfl ?_
  exact b_MO_wordOf_2 hG hN hb hpq hqN hdd hch _ 0 (Nat.lt_succ_self _) (Nat.zero_le _)
