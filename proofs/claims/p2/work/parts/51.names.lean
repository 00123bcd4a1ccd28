theorem nI_sub {a b : Nat} (h : b ≤ a) : nI a - nI b = nI (a - b) := by
  have e : nI a = nI (a - b) + nI b := by rw [nI_add, Nat.sub_add_cancel h]
  rw [e]
  exact Int32.add_sub_cancel _ _
theorem nI_mul (a b : Nat) : nI a * nI b = nI (a * b) := (Int32.ofNat_mul a b).symm
/-- where the names begin -/
def mo_nb (f : Nat → Int32) (b : Nat → Nat) (M : Nat) : Prop := b 0 = 0 ∧ (∀ i, i ≤ M → f i = nI (b i)) ∧ ∀ i j, i ≤ j → j ≤ M → b i ≤ b j
def mo_nm (f : Nat → Int32) (M B : Nat) : Prop := ∃ b, mo_nb f b M ∧ b M ≤ B
theorem mo_nb.ext {f f' : Nat → Int32} {b : Nat → Nat} {M w : Nat} (h : mo_nb f b M) (e : ∀ i, i ≤ M → f' i = f i) (e1 : f' (M + 1) = nI w) (hw : b M ≤ w) : mo_nm f' (M + 1) w := by
  obtain ⟨h1, h2, h3⟩ := h
  refine ⟨fun i => if i = M + 1 then w else b i, ⟨?_, fun i hi => ?_, fun i j hij hj => ?_⟩, ?_⟩
  · show (if 0 = M + 1 then w else b 0) = 0
    rw [if_neg (by omega)]
    exact h1
  · show f' i = nI (if i = M + 1 then w else b i)
    by_cases q : i = M + 1
    · rw [if_pos q, q, e1]
    · rw [if_neg q, e i (by omega)]
      exact h2 i (by omega)
  · show (if i = M + 1 then w else b i) ≤ (if j = M + 1 then w else b j)
    by_cases q : j = M + 1
    · rw [if_pos q]
      by_cases q2 : i = M + 1
      · rw [if_pos q2]
        exact Nat.le_refl _
      · rw [if_neg q2]
        exact Nat.le_trans (h3 i M (by omega) (Nat.le_refl _)) hw
    · rw [if_neg q, if_neg (by omega)]
      exact h3 i j hij (by omega)
  · show (if M + 1 = M + 1 then w else b (M + 1)) ≤ w
    rw [if_pos rfl]
    exact Nat.le_refl _
theorem mo_nm.zero {f : Nat → Int32} (h : f 0 = 0) : mo_nb f (fun _ => 0) 0 := ⟨rfl, fun i hi => by rw [Nat.le_zero.mp hi, h]; rfl, fun _ _ _ _ => Nat.le_refl _⟩
theorem mo_nm.at0 {f : Nat → Int32} {M B : Nat} (h : mo_nm f M B) : f 0 = 0 := by
  obtain ⟨b, ⟨h1, h2, -⟩, -⟩ := h
  rw [h2 0 (Nat.zero_le _), h1]
  rfl
theorem mo_nm.le {f : Nat → Int32} {M B B' : Nat} (h : mo_nm f M B) (hB : B ≤ B') : mo_nm f M B' := by
  obtain ⟨b, h1, h2⟩ := h
  exact ⟨b, h1, Nat.le_trans h2 hB⟩
set_option maxRecDepth 100000 in
set_option maxHeartbeats 4000000 in
theorem b_MO_firstNames_9 {l : Launch} {G : jj_G} {h0 : jj_H} {A : Nat → Nat} {N T : Nat} {c : Nat → Nat → Int32} {wr nw ow : Int32} {g d : Nat} (hi : mo_inj A) (hG : jj_tyG G) (hdd : 4 ≤ d) : ∀ (n k w M : Nat) (c' : Nat → Nat → Int32) (b : Nat → Nat) (h : jj_H), 135 - k < n → k ≤ 135 → w ≤ k → M ≤ k → (∀ i, i ≠ 9 → i ≠ 10 → c' i = c i) → mo_nb (c' 10) b M → b M ≤ w → Pb G (h0, A, N, T, M, c') wr nw ow g h → jj_P l G y_MO_firstNames d (fun out h' => out = .inl none ∧ ∃ (M' : Nat) (c' : Nat → Nat → Int32), M' ≤ 1000 ∧ (∀ i, i ≠ 9 → i ≠ 10 → c' i = c i) ∧ mo_nm (c' 10) M' 135 ∧ Pb G (h0, A, N, T, M', c') wr nw ow g h') 9 [some (.ref (A 0)), some (.int (nI w)), some (.int (nI k))] [] h := by
  have hl : jj_lS.getD 3 0 = 135 := by decide
  intro n
  induction n with
  | zero => intro k w M c' b h hn; exact absurd hn (Nat.not_lt_zero _)
  | succ n ih =>
    intro k w M c' b h hn hk hw hM hc hnb hbw hb
    obtain ⟨th, wh, S, b0, hS, hg, a1, a5, a6, a7, a9, a10, nd, fr, hz⟩ := hb.un
    refine jj_iload_n (j := 2) (by decide +kernel) rfl ?_
    refine jj_ldcS (index := 57) (i := 3) (tx := "integer natural positive boolean logic row true false rising falling number bits ps ns us event active last length left right high low ") (by decide +kernel) (List.mem_of_getElem? (i := 12) rfl) ?_
    refine jj_callr (c_JS_length (d := d - 1) (i := 3) (by decide) (by omega)) (fun o1 h1 hC => jj_callV ok_JS_length ml_MO_59 im_JS_length se_JS_JS_length (by decide +kernel) (jj_rcv.str (by decide)) rfl (by omega) (Nat.le_of_ble_eq_true rfl) hC) (by rintro E h1 ⟨q, -⟩; cases q) ?_
    rintro v h9 ⟨hv, e9⟩
    cases hv
    have e9 := e9.symm
    subst e9
    rw [hl]
    refine jj_icmp_ge (off := 59) (tgt := 74) (by decide +kernel) (by decide) (fun c1 => ?_) (fun c1 => ?_)
    · exact jj_vret (by decide +kernel) rfl ⟨rfl, M, c', by omega, hc, ⟨b, hnb, by omega⟩, hb⟩
    · have hlt : k < 135 := Nat.not_le.mp (fun q9 => c1 (nI_le q9 (by omega)))
      refine jj_ldcS (index := 57) (i := 3) (tx := "integer natural positive boolean logic row true false rising falling number bits ps ns us event active last length left right high low ") (by decide +kernel) (List.mem_of_getElem? (i := 12) rfl) ?_
      refine jj_iload_n (j := 2) (by decide +kernel) rfl ?_
      refine jj_callr (e_JS_charAt (d := d - 1) (i := 3) (by decide) (by rw [hl]; exact hlt) (by omega)) (fun o1 h1 hC => jj_callV ok_JS_charAt ml_MO_64 im_JS_charAt se_JS_JS_charAt (by decide +kernel) (jj_rcv.str (by decide)) rfl (by omega) (Nat.le_of_ble_eq_true rfl) hC) (by rintro E h1 ⟨q, -⟩; cases q) ?_
      rintro v h9 ⟨hv, e9⟩
      cases hv
      have e9 := e9.symm
      subst e9
      refine jj_bipush (n := 32) (v := 32) (by decide +kernel) (by decide) ?_
      refine jj_icmp_eq (off := 22) (tgt := 48) (by decide +kernel) (by decide) (fun c2 => ?_) (fun c2 => ?_)
      · refine jj_aload_n (j := 0) (by decide +kernel) rfl ?_
        refine jj_dup (by decide +kernel) rfl ?_
        refine jj_getfield 11 ck_MO fl_MO_54 (by decide) (by decide +kernel) b0 rfl ?_
        refine jj_iconst (n := 1) (v := 1) (by decide +kernel) (by decide) ?_
        refine jj_iadd (by decide +kernel) ?_
        rw [nI_1 M]
        refine jj_putfield 11 ck_MO fl_MO_54 (by decide) rfl (by decide +kernel) b0 rfl rfl (Nat.lt_of_sub_eq_succ rfl) ?_
        have hb := hb.obj hi th wr wh nw ow N T (M + 1) hS hg
        obtain ⟨th, wh, S, b0, hS, hg, a1, a5, a6, a7, a9, a10, nd, fr, hz⟩ := hb.un
        refine jj_aload_n (j := 0) (by decide +kernel) rfl ?_
        refine jj_getfield 10 ck_MO fl_MO_30 (by decide) (by decide +kernel) b0 rfl ?_
        refine jj_aload_n (j := 0) (by decide +kernel) rfl ?_
        refine jj_getfield 11 ck_MO fl_MO_54 (by decide) (by decide +kernel) b0 rfl ?_
        refine jj_iload_n (j := 1) (by decide +kernel) rfl ?_
        refine jj_iastore (jj_tI hG) (by decide +kernel) a10 (vp_in_nI (show M + 1 < 1002 by omega) (by decide)) ?_
        rw [nI_clamp (show M + 1 < 2 ^ 31 by omega)]
        have hb := hb.ar10 hi (upd (c' 10) (M + 1) (nI w))
        refine jj_iinc (i := 2) (n := 1) (v := nI (k + 1)) (by decide +kernel) rfl (by rw [show Int32.ofInt 1 = 1 from rfl]; exact nI_1 k) (by decide) rfl ?_
        refine jj_goto (off := (-62)) (tgt := 9) (by decide +kernel) (by decide) ?_
        obtain ⟨b', hn1, hn2⟩ := hnb.ext (f' := upd (c' 10) (M + 1) (nI w)) (w := w) (fun i hi9 => pk_un (by omega)) pk_us hbw
        exact ih (k + 1) w (M + 1) _ b' _ (by omega) (by omega) (by omega) (by omega) (fun i g1 g2 => by rw [mo_u, if_neg g2]; exact hc i g1 g2) hn1 hn2 hb
      · refine jj_aload_n (j := 0) (by decide +kernel) rfl ?_
        refine jj_getfield 9 ck_MO fl_MO_27 (by decide) (by decide +kernel) b0 rfl ?_
        refine jj_iload_n (j := 1) (by decide +kernel) rfl ?_
        refine jj_ldcS (index := 57) (i := 3) (tx := "integer natural positive boolean logic row true false rising falling number bits ps ns us event active last length left right high low ") (by decide +kernel) (List.mem_of_getElem? (i := 12) rfl) ?_
        refine jj_iload_n (j := 2) (by decide +kernel) rfl ?_
        refine jj_callr (e_JS_charAt (d := d - 1) (i := 3) (by decide) (by rw [hl]; exact hlt) (by omega)) (fun o1 h1 hC => jj_callV ok_JS_charAt ml_MO_64 im_JS_charAt se_JS_JS_charAt (by decide +kernel) (jj_rcv.str (by decide)) rfl (by omega) (Nat.le_of_ble_eq_true rfl) hC) (by rintro E h1 ⟨q, -⟩; cases q) ?_
        rintro v h9 ⟨hv, e9⟩
        cases hv
        have e9 := e9.symm
        subst e9
        refine jj_i2b (by decide +kernel) ?_
        refine jj_bastore (jj_tB hG) (by decide +kernel) a9 (vp_in_nI (show w < 20000 by omega) (by decide)) ?_
        rw [nI_clamp (show w < 2 ^ 31 by omega)]
        have hb := hb.ar9 hi (upd (c' 9) w (vp_nar .byte (jj_ch 3 k).toInt8.toInt32))
        refine jj_iinc (i := 1) (n := 1) (v := nI (w + 1)) (by decide +kernel) rfl (by rw [show Int32.ofInt 1 = 1 from rfl]; exact nI_1 w) (by decide) rfl ?_
        refine jj_goto (off := 23) (tgt := 68) (by decide +kernel) (by decide) ?_
        refine jj_iinc (i := 2) (n := 1) (v := nI (k + 1)) (by decide +kernel) rfl (by rw [show Int32.ofInt 1 = 1 from rfl]; exact nI_1 k) (by decide) rfl ?_
        refine jj_goto (off := (-62)) (tgt := 9) (by decide +kernel) (by decide) ?_
        exact ih (k + 1) (w + 1) M (mo_u c' 9 (upd (c' 9) w (vp_nar .byte (jj_ch 3 k).toInt8.toInt32))) b _ (by omega) (by omega) (by omega) (by omega) (fun i g1 g2 => by rw [mo_u, if_neg g1]; exact hc i g1 g2) hnb (by omega) hb
set_option maxRecDepth 100000 in
set_option maxHeartbeats 4000000 in
theorem m_firstNames {l : Launch} {G : jj_G} {h0 : jj_H} {A : Nat → Nat} {N T M : Nat} {c : Nat → Nat → Int32} {wr nw ow : Int32} {g d : Nat} {h : jj_H} (hi : mo_inj A) (hG : jj_tyG G) (hb : Pb G (h0, A, N, T, M, c) wr nw ow g h) (h10 : c 10 0 = 0) (hdd : 4 ≤ d) : jj_Q l G y_MO_firstNames d [.ref (A 0)] h (fun out h' => out = .inl none ∧ ∃ (M' : Nat) (c' : Nat → Nat → Int32), M' ≤ 1000 ∧ (∀ i, i ≠ 9 → i ≠ 10 → c' i = c i) ∧ mo_nm (c' 10) M' 135 ∧ Pb G (h0, A, N, T, M', c') wr nw ow g h') := by
  refine jj_Q.of (by decide +kernel) (Nat.le_of_ble_eq_true rfl) ?_
  obtain ⟨th, wh, S, b0, hS, hg, a1, a5, a6, a7, a9, a10, nd, fr, hz⟩ := hb.un
  refine jj_aload_n (j := 0) (by decide +kernel) rfl ?_
  refine jj_iconst (n := 0) (v := nI 0) (by decide +kernel) (by decide) ?_
  refine jj_putfield 11 ck_MO fl_MO_54 (by decide) rfl (by decide +kernel) b0 rfl rfl (Nat.lt_of_sub_eq_succ rfl) ?_
  have hb := hb.obj hi th wr wh nw ow N T 0 hS hg
  refine jj_iconst (n := 0) (v := nI 0) (by decide +kernel) (by decide) ?_
  refine jj_istore_n (j := 1) (by decide +kernel) (by decide) rfl ?_
  refine jj_iconst (n := 0) (v := nI 0) (by decide +kernel) (by decide) ?_
  refine jj_istore_n (j := 2) (by decide +kernel) (by decide) rfl ?_
  exact b_MO_firstNames_9 hi hG hdd _ 0 0 0 c _ _ (Nat.lt_succ_self _) (by omega) (by omega) (by omega) (fun _ _ _ => rfl) (mo_nm.zero h10) (Nat.le_refl _) hb
set_option maxRecDepth 100000 in
set_option maxHeartbeats 4000000 in
theorem b_MO_nameOf_139 {l : Launch} {G : jj_G} {h0 : jj_H} {A : Nat → Nat} {N T M p q : Nat} {c : Nat → Nat → Int32} {b : Nat → Nat} {wr nw ow : Int32} {g d : Nat} (hi : mo_inj A) (hG : jj_tyG G) (hN : N ≤ 16384) (hnb : mo_nb (c 10) b M) (hB : b M ≤ 135 + p) (hpq : p ≤ q) (hqN : q ≤ N) (hdd : 1 ≤ d) (hM : M < 1000) : ∀ (n k : Nat) (c' : Nat → Nat → Int32) (h : jj_H), q - k < n → p ≤ k → k ≤ q → (∀ i, i ≠ 9 → i ≠ 10 → c' i = c i) → (∀ i, i ≤ M → c' 10 i = c 10 i) → c' 10 (M + 1) = nI (b M + (k - p)) → Pb G (h0, A, N, T, M, c') wr nw ow g h → jj_P l G y_MO_nameOf d (fun out h' => ∃ (v : Int32) (M' : Nat) (c' : Nat → Nat → Int32), out = .inl (some (.int v)) ∧ M' ≤ 1000 ∧ (∀ i, i ≠ 9 → i ≠ 10 → c' i = c i) ∧ mo_nm (c' 10) M' (135 + q) ∧ Pb G (h0, A, N, T, M', c') wr nw ow g h') 139 [some (.ref (A 0)), some (.int (nI p)), some (.int (nI q)), some (.int (nI k)), none, none] [] h := by
  intro n
  induction n with
  | zero => intro k c' h hn; exact absurd hn (Nat.not_lt_zero _)
  | succ n ih =>
    intro k c' h hn hpk hkq hc h10 h11 hb
    obtain ⟨th, wh, S, b0, hS, hg, a1, a5, a6, a7, a9, a10, nd, fr, hz⟩ := hb.un
    refine jj_iload_n (j := 3) (by decide +kernel) rfl ?_
    refine jj_iload_n (j := 2) (by decide +kernel) rfl ?_
    refine jj_icmp_ge (off := 46) (tgt := 187) (by decide +kernel) (by decide) (fun c1 => ?_) (fun c1 => ?_)
    · have e : k = q := Nat.le_antisymm hkq ((nI_leI (by omega) (by omega)).mp c1)
      refine jj_aload_n (j := 0) (by decide +kernel) rfl ?_
      refine jj_dup (by decide +kernel) rfl ?_
      refine jj_getfield 11 ck_MO fl_MO_54 (by decide) (by decide +kernel) b0 rfl ?_
      refine jj_iconst (n := 1) (v := 1) (by decide +kernel) (by decide) ?_
      refine jj_iadd (by decide +kernel) ?_
      rw [nI_1 M]
      refine jj_putfield 11 ck_MO fl_MO_54 (by decide) rfl (by decide +kernel) b0 rfl rfl (Nat.lt_of_sub_eq_succ rfl) ?_
      have hb := hb.obj hi th wr wh nw ow N T (M + 1) hS hg
      obtain ⟨th, wh, S, b0, hS, hg, a1, a5, a6, a7, a9, a10, nd, fr, hz⟩ := hb.un
      refine jj_aload_n (j := 0) (by decide +kernel) rfl ?_
      refine jj_getfield 11 ck_MO fl_MO_54 (by decide) (by decide +kernel) b0 rfl ?_
      refine jj_iconst (n := 1) (v := 1) (by decide +kernel) (by decide) ?_
      refine jj_isub (by decide +kernel) ?_
      exact jj_iret .int (by decide +kernel) rfl rfl ⟨_, M + 1, c', rfl, by omega, hc, (hnb.ext h10 h11 (by omega)).le (by omega), hb⟩
    · have hlt : k < q := Nat.not_le.mp (fun q9 => c1 (nI_le q9 (by omega)))
      refine jj_aload_n (j := 0) (by decide +kernel) rfl ?_
      refine jj_getfield 9 ck_MO fl_MO_27 (by decide) (by decide +kernel) b0 rfl ?_
      refine jj_aload_n (j := 0) (by decide +kernel) rfl ?_
      refine jj_getfield 10 ck_MO fl_MO_30 (by decide) (by decide +kernel) b0 rfl ?_
      refine jj_aload_n (j := 0) (by decide +kernel) rfl ?_
      refine jj_getfield 11 ck_MO fl_MO_54 (by decide) (by decide +kernel) b0 rfl ?_
      refine jj_iconst (n := 1) (v := 1) (by decide +kernel) (by decide) ?_
      refine jj_iadd (by decide +kernel) ?_
      rw [nI_1 M]
      refine jj_iaload (jj_tI hG) (by decide +kernel) a10 (vp_in_nI (show M + 1 < 1002 by omega) (by decide)) ?_
      rw [nI_clamp (show M + 1 < 2 ^ 31 by omega), h11]
      refine jj_aload_n (j := 0) (by decide +kernel) rfl ?_
      refine jj_iload_n (j := 3) (by decide +kernel) rfl ?_
      refine jj_callr (m_letterAt (d := d - 1) hG hb (by omega)) (fun o1 h1 hC => jj_callV ok_MO_letterAt ml_MO_70 im_MO_letterAt se_MO_MO_letterAt (by decide +kernel) hb.rcv rfl (by omega) (Nat.le_of_ble_eq_true rfl) hC) (by rintro E h1 ⟨q, -⟩; cases q) ?_
      rintro v h9 ⟨hv, e9⟩
      cases hv
      have e9 := e9.symm
      subst e9
      refine jj_i2b (by decide +kernel) ?_
      refine jj_bastore (jj_tB hG) (by decide +kernel) a9 (vp_in_nI (show b M + (k - p) < 20000 by omega) (by decide)) ?_
      rw [nI_clamp (show b M + (k - p) < 2 ^ 31 by omega)]
      have hb := hb.ar9 hi (upd (c' 9) (b M + (k - p)) (vp_nar .byte (mo_lt (c' 1 k)).toInt8.toInt32))
      obtain ⟨th, wh, S, b0, hS, hg, a1, a5, a6, a7, a9, a10, nd, fr, hz⟩ := hb.un
      refine jj_aload_n (j := 0) (by decide +kernel) rfl ?_
      refine jj_getfield 10 ck_MO fl_MO_30 (by decide) (by decide +kernel) b0 rfl ?_
      refine jj_aload_n (j := 0) (by decide +kernel) rfl ?_
      refine jj_getfield 11 ck_MO fl_MO_54 (by decide) (by decide +kernel) b0 rfl ?_
      refine jj_iconst (n := 1) (v := 1) (by decide +kernel) (by decide) ?_
      refine jj_iadd (by decide +kernel) ?_
      rw [nI_1 M]
      refine jj_dup2 (by decide +kernel) rfl rfl ?_
      refine jj_iaload (jj_tI hG) (by decide +kernel) a10 (vp_in_nI (show M + 1 < 1002 by omega) (by decide)) ?_
      rw [nI_clamp (show M + 1 < 2 ^ 31 by omega)]
      rw [show mo_u c' 9 (upd (c' 9) (b M + (k - p)) (vp_nar .byte (mo_lt (c' 1 k)).toInt8.toInt32)) 10 (M + 1) = nI (b M + (k - p)) from h11]
      refine jj_iconst (n := 1) (v := 1) (by decide +kernel) (by decide) ?_
      refine jj_iadd (by decide +kernel) ?_
      rw [nI_1 (b M + (k - p))]
      refine jj_iastore (jj_tI hG) (by decide +kernel) a10 (vp_in_nI (show M + 1 < 1002 by omega) (by decide)) ?_
      rw [nI_clamp (show M + 1 < 2 ^ 31 by omega)]
      have hb := hb.ar10 hi (upd (c' 10) (M + 1) (nI (b M + (k - p) + 1)))
      refine jj_iinc (i := 3) (n := 1) (v := nI (k + 1)) (by decide +kernel) rfl (by rw [show Int32.ofInt 1 = 1 from rfl]; exact nI_1 k) (by decide) rfl ?_
      refine jj_goto (off := (-45)) (tgt := 139) (by decide +kernel) (by decide) ?_
      exact ih (k + 1) _ _ (by omega) (by omega) (by omega) (fun i g1 g2 => by rw [mo_u, if_neg g2, mo_u, if_neg g1]; exact hc i g1 g2) (fun i g1 => (pk_un (by omega)).trans (h10 i g1)) (pk_us.trans (congrArg nI (by omega))) hb
set_option maxRecDepth 100000 in
set_option maxHeartbeats 4000000 in
theorem b_MO_nameOf_105 {l : Launch} {G : jj_G} {h0 : jj_H} {A : Nat → Nat} {N T M p q : Nat} {c : Nat → Nat → Int32} {b : Nat → Nat} {wr nw ow : Int32} {g d : Nat} {h : jj_H} (hi : mo_inj A) (hG : jj_tyG G) (hN : N ≤ 16384) (hnb : mo_nb (c 10) b M) (hB : b M ≤ 135 + p) (hpq : p ≤ q) (hqN : q ≤ N) (hdd : 1 ≤ d) (hM : M ≤ 1000) (hb : Pb G (h0, A, N, T, M, c) wr nw ow g h) {x3 : Int32} : jj_P l G y_MO_nameOf d (fun out h' => ∃ (v : Int32) (M' : Nat) (c' : Nat → Nat → Int32), out = .inl (some (.int v)) ∧ M' ≤ 1000 ∧ (∀ i, i ≠ 9 → i ≠ 10 → c' i = c i) ∧ mo_nm (c' 10) M' (135 + q) ∧ Pb G (h0, A, N, T, M', c') wr nw ow g h') 105 [some (.ref (A 0)), some (.int (nI p)), some (.int (nI q)), some (.int x3), none, none] [] h := by
  obtain ⟨th, wh, S, b0, hS, hg, a1, a5, a6, a7, a9, a10, nd, fr, hz⟩ := hb.un
  refine jj_aload_n (j := 0) (by decide +kernel) rfl ?_
  refine jj_getfield 11 ck_MO fl_MO_54 (by decide) (by decide +kernel) b0 rfl ?_
  refine jj_sipush (n := 1000) (v := 1000) (by decide +kernel) (by decide) ?_
  refine jj_icmp_ne (off := 5) (tgt := 117) (by decide +kernel) (by decide) (fun c1 => ?_) (fun c1 => ?_)
  · have hlt : M < 1000 := Nat.lt_of_le_of_ne hM (fun e => c1 (by rw [e]; rfl))
    refine jj_aload_n (j := 0) (by decide +kernel) rfl ?_
    refine jj_getfield 10 ck_MO fl_MO_30 (by decide) (by decide +kernel) b0 rfl ?_
    refine jj_aload_n (j := 0) (by decide +kernel) rfl ?_
    refine jj_getfield 11 ck_MO fl_MO_54 (by decide) (by decide +kernel) b0 rfl ?_
    refine jj_iconst (n := 1) (v := 1) (by decide +kernel) (by decide) ?_
    refine jj_iadd (by decide +kernel) ?_
    rw [nI_1 M]
    refine jj_aload_n (j := 0) (by decide +kernel) rfl ?_
    refine jj_getfield 10 ck_MO fl_MO_30 (by decide) (by decide +kernel) b0 rfl ?_
    refine jj_aload_n (j := 0) (by decide +kernel) rfl ?_
    refine jj_getfield 11 ck_MO fl_MO_54 (by decide) (by decide +kernel) b0 rfl ?_
    refine jj_iaload (jj_tI hG) (by decide +kernel) a10 (vp_in_nI (show M < 1002 by omega) (by decide)) ?_
    rw [nI_clamp (show M < 2 ^ 31 by omega)]
    refine jj_iastore (jj_tI hG) (by decide +kernel) a10 (vp_in_nI (show M + 1 < 1002 by omega) (by decide)) ?_
    rw [nI_clamp (show M + 1 < 2 ^ 31 by omega)]
    have hb := hb.ar10 hi (upd (c 10) (M + 1) (c 10 M))
    refine jj_iload_n (j := 1) (by decide +kernel) rfl ?_
    refine jj_istore_n (j := 3) (by decide +kernel) (by decide) rfl ?_
    exact b_MO_nameOf_139 hi hG hN hnb hB hpq hqN hdd hlt _ p _ _ (Nat.lt_succ_self _) (Nat.le_refl _) hpq (fun i g1 g2 => by rw [mo_u, if_neg g2]) (fun i g1 => pk_un (by omega)) (pk_us.trans (by rw [hnb.2.1 M (Nat.le_refl _), Nat.sub_self, Nat.add_zero])) hb
  · refine jj_iconst (n := (-1)) (v := (-1)) (by decide +kernel) (by decide) ?_
    exact jj_iret .int (by decide +kernel) rfl rfl ⟨_, M, c, rfl, hM, fun _ _ _ => rfl, ⟨b, hnb, by omega⟩, hb⟩
set_option maxRecDepth 100000 in
set_option maxHeartbeats 4000000 in
theorem b_MO_nameOf_41 {l : Launch} {G : jj_G} {h0 : jj_H} {A : Nat → Nat} {N T M p q : Nat} {c : Nat → Nat → Int32} {b : Nat → Nat} {wr nw ow : Int32} {g d : Nat} {h : jj_H} (hi : mo_inj A) (hG : jj_tyG G) (hN : N ≤ 16384) (hnb : mo_nb (c 10) b M) (hB : b M ≤ 135 + p) (hpq : p ≤ q) (hqN : q ≤ N) (hdd : 1 ≤ d) (hM : M ≤ 1000) (hb : Pb G (h0, A, N, T, M, c) wr nw ow g h) {i : Nat} (hiM : i < M) (kk : ∀ x4 x5 : Int32, jj_P l G y_MO_nameOf d (fun out h' => ∃ (v : Int32) (M' : Nat) (c' : Nat → Nat → Int32), out = .inl (some (.int v)) ∧ M' ≤ 1000 ∧ (∀ i, i ≠ 9 → i ≠ 10 → c' i = c i) ∧ mo_nm (c' 10) M' (135 + q) ∧ Pb G (h0, A, N, T, M', c') wr nw ow g h') 92 [some (.ref (A 0)), some (.int (nI p)), some (.int (nI q)), some (.int (nI i)), some (.int x4), some (.int x5)] [] h) : ∀ (n k : Nat) (x4 : Int32), (q - p) - k < n → k ≤ q - p → (x4 ≠ 0 → b (i + 1) = b i + (q - p)) → jj_P l G y_MO_nameOf d (fun out h' => ∃ (v : Int32) (M' : Nat) (c' : Nat → Nat → Int32), out = .inl (some (.int v)) ∧ M' ≤ 1000 ∧ (∀ i, i ≠ 9 → i ≠ 10 → c' i = c i) ∧ mo_nm (c' 10) M' (135 + q) ∧ Pb G (h0, A, N, T, M', c') wr nw ow g h') 41 [some (.ref (A 0)), some (.int (nI p)), some (.int (nI q)), some (.int (nI i)), some (.int x4), some (.int (nI k))] [] h := by
  have hm1 := hnb.2.2 (i + 1) M (by omega) (Nat.le_refl _)
  obtain ⟨th, wh, S, b0, hS, hg, a1, a5, a6, a7, a9, a10, nd, fr, hz⟩ := hb.un
  intro n
  induction n with
  | zero => intro k x4 hn; exact absurd hn (Nat.not_lt_zero _)
  | succ n ih =>
    intro k x4 hn hk hx
    refine jj_iload (i := 5) (by decide +kernel) rfl ?_
    refine jj_iload_n (j := 2) (by decide +kernel) rfl ?_
    refine jj_iload_n (j := 1) (by decide +kernel) rfl ?_
    refine jj_isub (by decide +kernel) ?_
    rw [nI_sub hpq]
    refine jj_icmp_ge (off := 46) (tgt := 92) (by decide +kernel) (by decide) (fun c1 => kk _ _) (fun c1 => ?_)
    have hlt : k < q - p := Nat.not_le.mp (fun q9 => c1 (nI_le q9 (by omega)))
    refine jj_iload (i := 4) (by decide +kernel) rfl ?_
    refine jj_if_eq (off := 41) (tgt := 92) (by decide +kernel) (by decide) (fun c2 => kk _ _) (fun c2 => ?_)
    have hx1 := hx c2
    refine jj_aload_n (j := 0) (by decide +kernel) rfl ?_
    refine jj_getfield 9 ck_MO fl_MO_27 (by decide) (by decide +kernel) b0 rfl ?_
    refine jj_aload_n (j := 0) (by decide +kernel) rfl ?_
    refine jj_getfield 10 ck_MO fl_MO_30 (by decide) (by decide +kernel) b0 rfl ?_
    refine jj_iload_n (j := 3) (by decide +kernel) rfl ?_
    refine jj_iaload (jj_tI hG) (by decide +kernel) a10 (vp_in_nI (show i < 1002 by omega) (by decide)) ?_
    rw [nI_clamp (show i < 2 ^ 31 by omega), hnb.2.1 i (by omega)]
    refine jj_iload (i := 5) (by decide +kernel) rfl ?_
    refine jj_iadd (by decide +kernel) ?_
    rw [nI_add]
    refine jj_baload (jj_tB hG) (by decide +kernel) a9 (vp_in_nI (show b i + k < 20000 by omega) (by decide)) ?_
    refine jj_aload_n (j := 0) (by decide +kernel) rfl ?_
    refine jj_iload_n (j := 1) (by decide +kernel) rfl ?_
    refine jj_iload (i := 5) (by decide +kernel) rfl ?_
    refine jj_iadd (by decide +kernel) ?_
    rw [nI_add p k]
    refine jj_callr (m_letterAt (d := d - 1) hG hb (by omega)) (fun o1 h1 hC => jj_callV ok_MO_letterAt ml_MO_70 im_MO_letterAt se_MO_MO_letterAt (by decide +kernel) hb.rcv rfl (by omega) (Nat.le_of_ble_eq_true rfl) hC) (by rintro E h1 ⟨q, -⟩; cases q) ?_
    rintro v h9 ⟨hv, e9⟩
    cases hv
    have e9 := e9.symm
    subst e9
    refine jj_icmp_ne (off := 7) (tgt := 83) (by decide +kernel) (by decide) (fun c3 => ?_) (fun c3 => ?_)
    · refine jj_iconst (n := 0) (v := 0) (by decide +kernel) (by decide) ?_
      refine jj_istore (i := 4) (by decide +kernel) (by decide) rfl ?_
      refine jj_iinc (i := 5) (n := 1) (v := nI (k + 1)) (by decide +kernel) rfl (by rw [show Int32.ofInt 1 = 1 from rfl]; exact nI_1 k) (by decide) rfl ?_
      refine jj_goto (off := (-48)) (tgt := 41) (by decide +kernel) (by decide) ?_
      exact ih (k + 1) 0 (by omega) (by omega) (fun q9 => absurd rfl q9)
    · refine jj_iconst (n := 1) (v := 1) (by decide +kernel) (by decide) ?_
      refine jj_goto (off := 4) (tgt := 84) (by decide +kernel) (by decide) ?_
      refine jj_istore (i := 4) (by decide +kernel) (by decide) rfl ?_
      refine jj_iinc (i := 5) (n := 1) (v := nI (k + 1)) (by decide +kernel) rfl (by rw [show Int32.ofInt 1 = 1 from rfl]; exact nI_1 k) (by decide) rfl ?_
      refine jj_goto (off := (-48)) (tgt := 41) (by decide +kernel) (by decide) ?_
      exact ih (k + 1) 1 (by omega) (by omega) (fun _ => hx1)
set_option maxRecDepth 100000 in
set_option maxHeartbeats 4000000 in
theorem b_MO_nameOf_2 {l : Launch} {G : jj_G} {h0 : jj_H} {A : Nat → Nat} {N T M p q : Nat} {c : Nat → Nat → Int32} {b : Nat → Nat} {wr nw ow : Int32} {g d : Nat} {h : jj_H} (hi : mo_inj A) (hG : jj_tyG G) (hN : N ≤ 16384) (hnb : mo_nb (c 10) b M) (hB : b M ≤ 135 + p) (hpq : p ≤ q) (hqN : q ≤ N) (hdd : 1 ≤ d) (hM : M ≤ 1000) (hb : Pb G (h0, A, N, T, M, c) wr nw ow g h) : ∀ (n i : Nat), M - i < n → i ≤ M → jj_P l G y_MO_nameOf d (fun out h' => ∃ (v : Int32) (M' : Nat) (c' : Nat → Nat → Int32), out = .inl (some (.int v)) ∧ M' ≤ 1000 ∧ (∀ i, i ≠ 9 → i ≠ 10 → c' i = c i) ∧ mo_nm (c' 10) M' (135 + q) ∧ Pb G (h0, A, N, T, M', c') wr nw ow g h') 2 [some (.ref (A 0)), some (.int (nI p)), some (.int (nI q)), some (.int (nI i)), none, none] [] h := by
  obtain ⟨th, wh, S, b0, hS, hg, a1, a5, a6, a7, a9, a10, nd, fr, hz⟩ := hb.un
  intro n
  induction n with
  | zero => intro i hn; exact absurd hn (Nat.not_lt_zero _)
  | succ n ih =>
    intro i hn hiM
    refine jj_iload_n (j := 3) (by decide +kernel) rfl ?_
    refine jj_aload_n (j := 0) (by decide +kernel) rfl ?_
    refine jj_getfield 11 ck_MO fl_MO_54 (by decide) (by decide +kernel) b0 rfl ?_
    refine jj_icmp_ge (off := 98) (tgt := 105) (by decide +kernel) (by decide) (fun c1 => b_MO_nameOf_105 hi hG hN hnb hB hpq hqN hdd hM hb) (fun c1 => ?_)
    have hlt : i < M := Nat.not_le.mp (fun q9 => c1 (nI_le q9 (by omega)))
    have hm1 := hnb.2.2 (i + 1) M (by omega) (Nat.le_refl _)
    have hm2 := hnb.2.2 i (i + 1) (by omega) (by omega)
    have kk : ∀ x4 x5 : Int32, jj_P l G y_MO_nameOf d (fun out h' => ∃ (v : Int32) (M' : Nat) (c' : Nat → Nat → Int32), out = .inl (some (.int v)) ∧ M' ≤ 1000 ∧ (∀ i, i ≠ 9 → i ≠ 10 → c' i = c i) ∧ mo_nm (c' 10) M' (135 + q) ∧ Pb G (h0, A, N, T, M', c') wr nw ow g h') 92 [some (.ref (A 0)), some (.int (nI p)), some (.int (nI q)), some (.int (nI i)), some (.int x4), some (.int x5)] [] h := by
      intro x4 x5
      refine jj_iload (i := 4) (by decide +kernel) rfl ?_
      refine jj_if_eq (off := 5) (tgt := 99) (by decide +kernel) (by decide) (fun c2 => ?_) (fun c2 => ?_)
      · refine jj_iinc (i := 3) (n := 1) (v := nI (i + 1)) (by decide +kernel) rfl (by rw [show Int32.ofInt 1 = 1 from rfl]; exact nI_1 i) (by decide) rfl ?_
        refine jj_goto (off := (-100)) (tgt := 2) (by decide +kernel) (by decide) ?_
        exact jj_wk (js_s (js_s (js_s (js_s (js_n (js_n js_0)))))) (ih (i + 1) (by omega) (by omega))
      · refine jj_iload_n (j := 3) (by decide +kernel) rfl ?_
        exact jj_iret .int (by decide +kernel) rfl rfl ⟨_, M, c, rfl, hM, fun _ _ _ => rfl, ⟨b, hnb, by omega⟩, hb⟩
    refine jj_aload_n (j := 0) (by decide +kernel) rfl ?_
    refine jj_getfield 10 ck_MO fl_MO_30 (by decide) (by decide +kernel) b0 rfl ?_
    refine jj_iload_n (j := 3) (by decide +kernel) rfl ?_
    refine jj_iconst (n := 1) (v := 1) (by decide +kernel) (by decide) ?_
    refine jj_iadd (by decide +kernel) ?_
    rw [nI_1 i]
    refine jj_iaload (jj_tI hG) (by decide +kernel) a10 (vp_in_nI (show i + 1 < 1002 by omega) (by decide)) ?_
    rw [nI_clamp (show i + 1 < 2 ^ 31 by omega), hnb.2.1 (i + 1) (by omega)]
    refine jj_aload_n (j := 0) (by decide +kernel) rfl ?_
    refine jj_getfield 10 ck_MO fl_MO_30 (by decide) (by decide +kernel) b0 rfl ?_
    refine jj_iload_n (j := 3) (by decide +kernel) rfl ?_
    refine jj_iaload (jj_tI hG) (by decide +kernel) a10 (vp_in_nI (show i < 1002 by omega) (by decide)) ?_
    rw [nI_clamp (show i < 2 ^ 31 by omega), hnb.2.1 i (by omega)]
    refine jj_isub (by decide +kernel) ?_
    refine jj_iload_n (j := 2) (by decide +kernel) rfl ?_
    refine jj_iload_n (j := 1) (by decide +kernel) rfl ?_
    refine jj_isub (by decide +kernel) ?_
    rw [nI_sub hm2, nI_sub hpq]
    refine jj_icmp_ne (off := 7) (tgt := 35) (by decide +kernel) (by decide) (fun c3 => ?_) (fun c3 => ?_)
    · refine jj_iconst (n := 0) (v := 0) (by decide +kernel) (by decide) ?_
      refine jj_istore (i := 4) (by decide +kernel) (by decide) rfl ?_
      refine jj_iconst (n := 0) (v := nI 0) (by decide +kernel) (by decide) ?_
      refine jj_istore (i := 5) (by decide +kernel) (by decide) rfl ?_
      exact b_MO_nameOf_41 hi hG hN hnb hB hpq hqN hdd hM hb hlt kk _ 0 0 (Nat.lt_succ_self _) (Nat.zero_le _) (fun q9 => absurd rfl q9)
    · refine jj_iconst (n := 1) (v := 1) (by decide +kernel) (by decide) ?_
      refine jj_goto (off := 4) (tgt := 36) (by decide +kernel) (by decide) ?_
      refine jj_istore (i := 4) (by decide +kernel) (by decide) rfl ?_
      refine jj_iconst (n := 0) (v := nI 0) (by decide +kernel) (by decide) ?_
      refine jj_istore (i := 5) (by decide +kernel) (by decide) rfl ?_
      have e := (nI_eq (by omega) (by omega)).mp c3
      exact b_MO_nameOf_41 hi hG hN hnb hB hpq hqN hdd hM hb hlt kk _ 0 1 (Nat.lt_succ_self _) (Nat.zero_le _) (fun _ => by omega)
set_option maxRecDepth 100000 in
set_option maxHeartbeats 4000000 in
theorem m_nameOf {l : Launch} {G : jj_G} {h0 : jj_H} {A : Nat → Nat} {N T M p q : Nat} {c : Nat → Nat → Int32} {wr nw ow : Int32} {g d : Nat} {h : jj_H} (hi : mo_inj A) (hG : jj_tyG G) (hN : N ≤ 16384) (hnm : mo_nm (c 10) M (135 + p)) (hpq : p ≤ q) (hqN : q ≤ N) (hdd : 1 ≤ d) (hM : M ≤ 1000) (hb : Pb G (h0, A, N, T, M, c) wr nw ow g h) : jj_Q l G y_MO_nameOf d [.ref (A 0), .int (nI p), .int (nI q)] h (fun out h' => ∃ (v : Int32) (M' : Nat) (c' : Nat → Nat → Int32), out = .inl (some (.int v)) ∧ M' ≤ 1000 ∧ (∀ i, i ≠ 9 → i ≠ 10 → c' i = c i) ∧ mo_nm (c' 10) M' (135 + q) ∧ Pb G (h0, A, N, T, M', c') wr nw ow g h') := by
  refine jj_Q.of (by decide +kernel) (Nat.le_of_ble_eq_true rfl) ?_
  obtain ⟨b, hnb, hB⟩ := hnm
  refine jj_iconst (n := 0) (v := nI 0) (by decide +kernel) (by decide) ?_
  refine jj_istore_n (j := 3) (by decide +kernel) (by decide) rfl ?_
  exact b_MO_nameOf_2 hi hG hN hnb hB hpq hqN hdd hM hb _ 0 (Nat.lt_succ_self _) (Nat.zero_le _)
