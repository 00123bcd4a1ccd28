set_option maxRecDepth 100000 in
set_option maxHeartbeats 4000000 in
theorem b_MO_cutUp_120 {l : Launch} {G : jj_G} {h0 : jj_H} {A : Nat → Nat} {N : Nat} {f1 : Nat → Int32} {wr nw ow : Int32} {g d : Nat} {n p T M : Nat} {x2 x3 : Int32} {c : Nat → Nat → Int32} {h : jj_H} (hi : mo_inj A) (hG : jj_tyG G) (hN : N ≤ 16384) (hdd : 6 ≤ d) (ih : cu_I l G h0 A N f1 wr nw ow g d n) (hn : N - p < n + 1) (hpN : p < N) (hT : T ≤ p) (hf : c 1 = f1) (hM : M ≤ 1000) (htk : mo_tk c T) (hnm : mo_nm (c 10) M (135 + p)) (hb : Pb G (h0, A, N, T, M, c) wr nw ow g h) {r : Nat} (hpr : p < r) (hrN : r ≤ N) (hch : ∀ j, p ≤ j → j < r → c 1 j &&& 255 ≠ 32) : jj_P l G y_MO_cutUp d (cu_F G h0 A N f1 wr nw ow g) 120 [some (.ref (A 0)), some (.int (nI p)), some (.int x2), some (.int x3), some (.int (mo_at N (c 1) p)), some (.int (nI r)), some (.int (nI T)), none, none] [] h := by
  refine jj_aload_n (j := 0) (by decide +kernel) rfl ?_
  refine jj_iload_n (j := 1) (by decide +kernel) rfl ?_
  refine jj_iload (i := 5) (by decide +kernel) rfl ?_
  refine jj_callr (m_wordOf (d := d - 1) hG hN hb (Nat.le_of_lt hpr) hrN (by omega) hch) (fun o1 h1 hC => jj_callV ok_MO_wordOf ml_MO_96 im_MO_wordOf se_MO_MO_wordOf (by decide +kernel) hb.rcv rfl (by omega) (Nat.le_of_ble_eq_true rfl) hC) (by rintro E h1 ⟨v, q, -⟩; cases q) ?_
  rintro v h9 ⟨w, hv, e9, hw⟩
  cases hv
  have e9 := e9.symm
  subst e9
  refine jj_istore (i := 7) (by decide +kernel) (by decide) rfl ?_
  refine jj_iload (i := 7) (by decide +kernel) rfl ?_
  refine jj_iconst (n := (-1)) (v := (-1)) (by decide +kernel) (by decide) ?_
  refine jj_icmp_ne (off := 13) (tgt := 145) (by decide +kernel) (by decide) (fun c1 => ?_) (fun c1 => ?_)
  · refine jj_iconst (n := 0) (v := 0) (by decide +kernel) (by decide) ?_
    refine jj_istore (i := 8) (by decide +kernel) (by decide) rfl ?_
    refine jj_iload (i := 7) (by decide +kernel) rfl ?_
    refine jj_iconst (n := (-1)) (v := (-1)) (by decide +kernel) (by decide) ?_
    refine jj_icmp_eq (off := 14) (tgt := 165) (by decide +kernel) (by decide) (fun c2 => absurd c2 c1) (fun c2 => ?_)
    refine jj_aload_n (j := 0) (by decide +kernel) rfl ?_
    refine jj_iload (i := 7) (by decide +kernel) rfl ?_
    refine jj_iconst (n := 0) (v := 0) (by decide +kernel) (by decide) ?_
    refine jj_iload_n (j := 1) (by decide +kernel) rfl ?_
    refine jj_callr (m_token (d := d - 1) hi hG hN hb (by omega)) (fun o1 h1 hC => jj_callV ok_MO_token ml_MO_103 im_MO_token se_MO_MO_token (by decide +kernel) hb.rcv rfl (by omega) (Nat.le_of_ble_eq_true rfl) hC) (by rintro E h1 ⟨q, -⟩; cases q) ?_
    rintro v h2 ⟨hv, hb2⟩
    cases hv
    refine jj_goto (off := 31) (tgt := 193) (by decide +kernel) (by decide) ?_
    refine jj_goto (off := 458) (tgt := 651) (by decide +kernel) (by decide) ?_
    have hw := hw.resolve_left c1
    exact jj_wk (js_s (js_s (js_s (js_s (js_s (js_s (js_s (js_n (js_n (js_0)))))))))) (b_MO_cutUp_651 (T := T) hi hG hN hdd ih hn hpN hT hf hM htk hb2 (Or.inr ⟨fun e => by subst e; exact absurd hw (by decide), fun e => by subst e; exact absurd hw (by decide), r, rfl, hpr, hrN, hnm.le (by omega)⟩))
  · refine jj_aload_n (j := 0) (by decide +kernel) rfl ?_
    refine jj_iload_n (j := 1) (by decide +kernel) rfl ?_
    refine jj_iload (i := 5) (by decide +kernel) rfl ?_
    refine jj_callr (m_nameOf (d := d - 1) hi hG hN hnm (Nat.le_of_lt hpr) hrN (by omega) hM hb) (fun o1 h1 hC => jj_callV ok_MO_nameOf ml_MO_100 im_MO_nameOf se_MO_MO_nameOf (by decide +kernel) hb.rcv rfl (by omega) (Nat.le_of_ble_eq_true rfl) hC) (by rintro E h1 ⟨v, M', c', q, -⟩; cases q) ?_
    rintro v h ⟨w8, M', c', hv, hM', hc', hnm', hb⟩
    cases hv
    have htk' : mo_tk c' T := by
      unfold mo_tk
      rw [hc' 5 (by decide) (by decide), hc' 6 (by decide) (by decide), hc' 7 (by decide) (by decide)]
      exact htk
    have hf' : c' 1 = f1 := (hc' 1 (by decide) (by decide)).trans hf
    refine jj_goto (off := 4) (tgt := 146) (by decide +kernel) (by decide) ?_
    refine jj_istore (i := 8) (by decide +kernel) (by decide) rfl ?_
    refine jj_iload (i := 7) (by decide +kernel) rfl ?_
    refine jj_iconst (n := (-1)) (v := (-1)) (by decide +kernel) (by decide) ?_
    refine jj_icmp_eq (off := 14) (tgt := 165) (by decide +kernel) (by decide) (fun c2 => ?_) (fun c2 => absurd c1 c2)
    refine jj_iload (i := 8) (by decide +kernel) rfl ?_
    refine jj_iconst (n := (-1)) (v := (-1)) (by decide +kernel) (by decide) ?_
    refine jj_icmp_eq (off := 16) (tgt := 184) (by decide +kernel) (by decide) (fun c3 => ?_) (fun c3 => ?_)
    · refine jj_aload_n (j := 0) (by decide +kernel) rfl ?_
      refine jj_sipush (n := 2005) (v := 2005) (by decide +kernel) (by decide) ?_
      refine jj_iconst (n := 4) (v := 4) (by decide +kernel) (by decide) ?_
      refine jj_iload_n (j := 1) (by decide +kernel) rfl ?_
      refine jj_callr (m_token (d := d - 1) hi hG hN hb (by omega)) (fun o1 h1 hC => jj_callV ok_MO_token ml_MO_103 im_MO_token se_MO_MO_token (by decide +kernel) hb.rcv rfl (by omega) (Nat.le_of_ble_eq_true rfl) hC) (by rintro E h1 ⟨q, -⟩; cases q) ?_
      rintro v h2 ⟨hv, hb2⟩
      cases hv
      refine jj_goto (off := 458) (tgt := 651) (by decide +kernel) (by decide) ?_
      exact jj_wk (js_s (js_s (js_s (js_s (js_s (js_s (js_s (js_n (js_n (js_0)))))))))) (b_MO_cutUp_651 (T := T) hi hG hN hdd ih hn hpN hT hf' hM' htk' hb2 (Or.inl ⟨rfl, by decide, hnm'.le (by omega)⟩))
    · refine jj_aload_n (j := 0) (by decide +kernel) rfl ?_
      refine jj_sipush (n := 2000) (v := 2000) (by decide +kernel) (by decide) ?_
      refine jj_iload (i := 8) (by decide +kernel) rfl ?_
      refine jj_iload_n (j := 1) (by decide +kernel) rfl ?_
      refine jj_callr (m_token (d := d - 1) hi hG hN hb (by omega)) (fun o1 h1 hC => jj_callV ok_MO_token ml_MO_103 im_MO_token se_MO_MO_token (by decide +kernel) hb.rcv rfl (by omega) (Nat.le_of_ble_eq_true rfl) hC) (by rintro E h1 ⟨q, -⟩; cases q) ?_
      rintro v h2 ⟨hv, hb2⟩
      cases hv
      refine jj_goto (off := 12) (tgt := 193) (by decide +kernel) (by decide) ?_
      refine jj_goto (off := 458) (tgt := 651) (by decide +kernel) (by decide) ?_
      exact jj_wk (js_s (js_s (js_s (js_s (js_s (js_s (js_s (js_n (js_n (js_0)))))))))) (b_MO_cutUp_651 (T := T) hi hG hN hdd ih hn hpN hT hf' hM' htk' hb2 (Or.inr ⟨by decide, fun e => absurd e (by decide), r, rfl, hpr, hrN, hnm'⟩))
set_option maxRecDepth 100000 in
set_option maxHeartbeats 4000000 in
theorem b_MO_cutUp_51 {l : Launch} {G : jj_G} {h0 : jj_H} {A : Nat → Nat} {N : Nat} {f1 : Nat → Int32} {wr nw ow : Int32} {g d : Nat} {n p T M : Nat} {x2 x3 : Int32} {c : Nat → Nat → Int32} {h : jj_H} (hi : mo_inj A) (hG : jj_tyG G) (hN : N ≤ 16384) (hdd : 6 ≤ d) (ih : cu_I l G h0 A N f1 wr nw ow g d n) (hn : N - p < n + 1) (hpN : p < N) (hT : T ≤ p) (hf : c 1 = f1) (hM : M ≤ 1000) (htk : mo_tk c T) (hnm : mo_nm (c 10) M (135 + p)) (hb : Pb G (h0, A, N, T, M, c) wr nw ow g h) (hl : mo_isl (mo_at N (c 1) p)) : ∀ (k r : Nat), N - r < k → p ≤ r → r ≤ N → (∀ j, p ≤ j → j < r → c 1 j &&& 255 ≠ 32) → jj_P l G y_MO_cutUp d (cu_F G h0 A N f1 wr nw ow g) 51 [some (.ref (A 0)), some (.int (nI p)), some (.int x2), some (.int x3), some (.int (mo_at N (c 1) p)), some (.int (nI r)), some (.int (nI T)), none, none] [] h := by
  intro k
  induction k with
  | zero => intro r hk; exact absurd hk (Nat.not_lt_zero _)
  | succ k ihk =>
    intro r hk hpr hrN hch
    have K114 : mo_at N (c 1) r ≠ -1 ∧ mo_at N (c 1) r ≠ 32 → jj_P l G y_MO_cutUp d (cu_F G h0 A N f1 wr nw ow g) 114 [some (.ref (A 0)), some (.int (nI p)), some (.int x2), some (.int x3), some (.int (mo_at N (c 1) p)), some (.int (nI r)), some (.int (nI T)), none, none] [] h := by
      intro hq
      have hlt := mo_at.lt hq.1
      refine jj_iinc (i := 5) (n := 1) (v := nI (r + 1)) (by decide +kernel) rfl (by rw [show Int32.ofInt 1 = 1 from rfl]; exact nI_1 r) (by decide) rfl ?_
      refine jj_goto (off := (-66)) (tgt := 51) (by decide +kernel) (by decide) ?_
      refine ihk (r + 1) (by omega) (by omega) (by omega) (fun j g1 g2 => ?_)
      by_cases e : j = r
      · subst e
        have h2 := hq.2
        rw [mo_at, if_pos hlt] at h2
        exact h2
      · exact hch j g1 (by omega)
    refine jj_aload_n (j := 0) (by decide +kernel) rfl ?_
    refine jj_iload (i := 5) (by decide +kernel) rfl ?_
    refine jj_callr (m_at (d := d - 1) hG hN hb (by omega)) (fun o1 h1 hC => jj_callV ok_MO_at ml_MO_83 im_MO_at se_MO_MO_at (by decide +kernel) hb.rcv rfl (by omega) (Nat.le_of_ble_eq_true rfl) hC) (by rintro E h1 ⟨q, -⟩; cases q) ?_
    rintro v h9 ⟨hv, e9⟩
    cases hv
    have e9 := e9.symm
    subst e9
    refine jj_callr (m_letter (d := d - 1)) (fun o1 h1 hC => jj_callS ok_MO_letter ml_MO_89 st_MO_letter (by decide +kernel) rfl (by omega) (Nat.le_of_ble_eq_true rfl) hC) (by rintro E h1 ⟨v, q, -⟩; cases q) ?_
    rintro v h9 ⟨v9, hv, e9, hp9⟩
    cases hv
    have e9 := e9.symm
    subst e9
    refine jj_if_ne (off := 54) (tgt := 114) (by decide +kernel) (by decide) (fun c1 => K114 (hp9.mp c1).ne) (fun c1 => ?_)
    have hpr2 : p < r := Nat.lt_of_le_of_ne hpr (fun e => by subst e; exact hp9.mpr hl c1)
    have K120 := b_MO_cutUp_120 (x2 := x2) (x3 := x3) hi hG hN hdd ih hn hpN hT hf hM htk hnm hb hpr2 hrN hch
    refine jj_aload_n (j := 0) (by decide +kernel) rfl ?_
    refine jj_iload (i := 5) (by decide +kernel) rfl ?_
    refine jj_callr (m_at (d := d - 1) hG hN hb (by omega)) (fun o1 h1 hC => jj_callV ok_MO_at ml_MO_83 im_MO_at se_MO_MO_at (by decide +kernel) hb.rcv rfl (by omega) (Nat.le_of_ble_eq_true rfl) hC) (by rintro E h1 ⟨q, -⟩; cases q) ?_
    rintro v h9 ⟨hv, e9⟩
    cases hv
    have e9 := e9.symm
    subst e9
    refine jj_callr (m_digit (d := d - 1)) (fun o1 h1 hC => jj_callS ok_MO_digit ml_MO_93 st_MO_digit (by decide +kernel) rfl (by omega) (Nat.le_of_ble_eq_true rfl) hC) (by rintro E h1 ⟨v, q, -⟩; cases q) ?_
    rintro v h9 ⟨v9, hv, e9, hp9⟩
    cases hv
    have e9 := e9.symm
    subst e9
    refine jj_if_ne (off := 42) (tgt := 114) (by decide +kernel) (by decide) (fun c2 => K114 (hp9.mp c2).ne) (fun c2 => ?_)
    refine jj_aload_n (j := 0) (by decide +kernel) rfl ?_
    refine jj_iload (i := 5) (by decide +kernel) rfl ?_
    refine jj_callr (m_at (d := d - 1) hG hN hb (by omega)) (fun o1 h1 hC => jj_callV ok_MO_at ml_MO_83 im_MO_at se_MO_MO_at (by decide +kernel) hb.rcv rfl (by omega) (Nat.le_of_ble_eq_true rfl) hC) (by rintro E h1 ⟨q, -⟩; cases q) ?_
    rintro v h9 ⟨hv, e9⟩
    cases hv
    have e9 := e9.symm
    subst e9
    refine jj_bipush (n := 95) (v := 95) (by decide +kernel) (by decide) ?_
    refine jj_icmp_ne (off := 37) (tgt := 120) (by decide +kernel) (by decide) (fun c3 => K120) (fun c3 => ?_)
    have hq9 : mo_at N (c 1) r ≠ -1 ∧ mo_at N (c 1) r ≠ 32 := by rw [c3]; decide
    refine jj_aload_n (j := 0) (by decide +kernel) rfl ?_
    refine jj_iload (i := 5) (by decide +kernel) rfl ?_
    refine jj_iconst (n := 1) (v := 1) (by decide +kernel) (by decide) ?_
    refine jj_iadd (by decide +kernel) ?_
    rw [nI_1 r]
    refine jj_callr (m_at (d := d - 1) hG hN hb (by omega)) (fun o1 h1 hC => jj_callV ok_MO_at ml_MO_83 im_MO_at se_MO_MO_at (by decide +kernel) hb.rcv rfl (by omega) (Nat.le_of_ble_eq_true rfl) hC) (by rintro E h1 ⟨q, -⟩; cases q) ?_
    rintro v h9 ⟨hv, e9⟩
    cases hv
    have e9 := e9.symm
    subst e9
    refine jj_callr (m_letter (d := d - 1)) (fun o1 h1 hC => jj_callS ok_MO_letter ml_MO_89 st_MO_letter (by decide +kernel) rfl (by omega) (Nat.le_of_ble_eq_true rfl) hC) (by rintro E h1 ⟨v, q, -⟩; cases q) ?_
    rintro v h9 ⟨v9, hv, e9, hp9⟩
    cases hv
    have e9 := e9.symm
    subst e9
    refine jj_if_ne (off := 17) (tgt := 114) (by decide +kernel) (by decide) (fun c4 => K114 hq9) (fun c4 => ?_)
    refine jj_aload_n (j := 0) (by decide +kernel) rfl ?_
    refine jj_iload (i := 5) (by decide +kernel) rfl ?_
    refine jj_iconst (n := 1) (v := 1) (by decide +kernel) (by decide) ?_
    refine jj_iadd (by decide +kernel) ?_
    rw [nI_1 r]
    refine jj_callr (m_at (d := d - 1) hG hN hb (by omega)) (fun o1 h1 hC => jj_callV ok_MO_at ml_MO_83 im_MO_at se_MO_MO_at (by decide +kernel) hb.rcv rfl (by omega) (Nat.le_of_ble_eq_true rfl) hC) (by rintro E h1 ⟨q, -⟩; cases q) ?_
    rintro v h9 ⟨hv, e9⟩
    cases hv
    have e9 := e9.symm
    subst e9
    refine jj_callr (m_digit (d := d - 1)) (fun o1 h1 hC => jj_callS ok_MO_digit ml_MO_93 st_MO_digit (by decide +kernel) rfl (by omega) (Nat.le_of_ble_eq_true rfl) hC) (by rintro E h1 ⟨v, q, -⟩; cases q) ?_
    rintro v h9 ⟨v9, hv, e9, hp9⟩
    cases hv
    have e9 := e9.symm
    subst e9
    refine jj_if_eq (off := 9) (tgt := 120) (by decide +kernel) (by decide) (fun c5 => K120) (fun c5 => K114 hq9)
set_option maxRecDepth 100000 in
set_option maxHeartbeats 4000000 in
theorem b_MO_cutUp_207 {l : Launch} {G : jj_G} {h0 : jj_H} {A : Nat → Nat} {N : Nat} {f1 : Nat → Int32} {wr nw ow : Int32} {g d : Nat} {n p T M : Nat} {x2 x3 : Int32} {c : Nat → Nat → Int32} {h : jj_H} (hi : mo_inj A) (hG : jj_tyG G) (hN : N ≤ 16384) (hdd : 6 ≤ d) (ih : cu_I l G h0 A N f1 wr nw ow g d n) (hn : N - p < n + 1) (hpN : p < N) (hT : T ≤ p) (hf : c 1 = f1) (hM : M ≤ 1000) (htk : mo_tk c T) (hnm : mo_nm (c 10) M (135 + p)) (hb : Pb G (h0, A, N, T, M, c) wr nw ow g h) (hl : mo_isd (mo_at N (c 1) p)) : ∀ (k r : Nat) (x7 : Int64), N - r < k → p ≤ r → r ≤ N → jj_P l G y_MO_cutUp d (cu_F G h0 A N f1 wr nw ow g) 207 [some (.ref (A 0)), some (.int (nI p)), some (.int x2), some (.int x3), some (.int (mo_at N (c 1) p)), some (.int (nI r)), some (.int (nI T)), some (.long x7), none] [] h := by
  intro k
  induction k with
  | zero => intro r x7 hk; exact absurd hk (Nat.not_lt_zero _)
  | succ k ihk =>
    intro r x7 hk hpr hrN
    refine jj_aload_n (j := 0) (by decide +kernel) rfl ?_
    refine jj_iload (i := 5) (by decide +kernel) rfl ?_
    refine jj_callr (m_at (d := d - 1) hG hN hb (by omega)) (fun o1 h1 hC => jj_callV ok_MO_at ml_MO_83 im_MO_at se_MO_MO_at (by decide +kernel) hb.rcv rfl (by omega) (Nat.le_of_ble_eq_true rfl) hC) (by rintro E h1 ⟨q, -⟩; cases q) ?_
    rintro v h9 ⟨hv, e9⟩
    cases hv
    have e9 := e9.symm
    subst e9
    refine jj_callr (m_digit (d := d - 1)) (fun o1 h1 hC => jj_callS ok_MO_digit ml_MO_93 st_MO_digit (by decide +kernel) rfl (by omega) (Nat.le_of_ble_eq_true rfl) hC) (by rintro E h1 ⟨v, q, -⟩; cases q) ?_
    rintro v h9 ⟨v9, hv, e9, hp9⟩
    cases hv
    have e9 := e9.symm
    subst e9
    refine jj_if_eq (off := 43) (tgt := 259) (by decide +kernel) (by decide) (fun c1 => ?_) (fun c1 => ?_)
    · have hpr2 : p < r := Nat.lt_of_le_of_ne hpr (fun e => by subst e; exact hp9.mpr hl c1)
      refine jj_lload (i := 7) (by decide +kernel) rfl ?_
      refine jj_ldc2 (index := 113) (v := 2147483647) (by decide +kernel) kl_MO_113 ?_
      refine jj_lcmp (by decide +kernel) ?_
      refine jj_if_le (off := 15) (tgt := 280) (by decide +kernel) (by decide) (fun c2 => ?_) (fun c2 => ?_)
      · refine jj_aload_n (j := 0) (by decide +kernel) rfl ?_
        refine jj_sipush (n := 2001) (v := 2001) (by decide +kernel) (by decide) ?_
        refine jj_lload (i := 7) (by decide +kernel) rfl ?_
        refine jj_l2i (by decide +kernel) ?_
        refine jj_iload_n (j := 1) (by decide +kernel) rfl ?_
        refine jj_callr (m_token (d := d - 1) hi hG hN hb (by omega)) (fun o1 h1 hC => jj_callV ok_MO_token ml_MO_103 im_MO_token se_MO_MO_token (by decide +kernel) hb.rcv rfl (by omega) (Nat.le_of_ble_eq_true rfl) hC) (by rintro E h1 ⟨q, -⟩; cases q) ?_
        rintro v h2 ⟨hv, hb2⟩
        cases hv
        refine jj_goto (off := 360) (tgt := 651) (by decide +kernel) (by decide) ?_
        exact jj_wk (js_s (js_s (js_s (js_s (js_s (js_s (js_s (js_n (js_n (js_0)))))))))) (b_MO_cutUp_651 (T := T) hi hG hN hdd ih hn hpN hT hf hM htk hb2 (Or.inr ⟨by decide, fun e => absurd e (by decide), r, rfl, hpr2, hrN, hnm.le (by omega)⟩))
      · refine jj_aload_n (j := 0) (by decide +kernel) rfl ?_
        refine jj_sipush (n := 2005) (v := 2005) (by decide +kernel) (by decide) ?_
        refine jj_iconst (n := 2) (v := 2) (by decide +kernel) (by decide) ?_
        refine jj_iload_n (j := 1) (by decide +kernel) rfl ?_
        refine jj_callr (m_token (d := d - 1) hi hG hN hb (by omega)) (fun o1 h1 hC => jj_callV ok_MO_token ml_MO_103 im_MO_token se_MO_MO_token (by decide +kernel) hb.rcv rfl (by omega) (Nat.le_of_ble_eq_true rfl) hC) (by rintro E h1 ⟨q, -⟩; cases q) ?_
        rintro v h2 ⟨hv, hb2⟩
        cases hv
        refine jj_goto (off := 14) (tgt := 291) (by decide +kernel) (by decide) ?_
        refine jj_goto (off := 360) (tgt := 651) (by decide +kernel) (by decide) ?_
        exact jj_wk (js_s (js_s (js_s (js_s (js_s (js_s (js_s (js_n (js_n (js_0)))))))))) (b_MO_cutUp_651 (T := T) hi hG hN hdd ih hn hpN hT hf hM htk hb2 (Or.inl ⟨rfl, by decide, hnm.le (by omega)⟩))
    · have hlt := mo_at.lt (hp9.mp c1).ne.1
      have K251 : ∀ y : Int64, jj_P l G y_MO_cutUp d (cu_F G h0 A N f1 wr nw ow g) 251 [some (.ref (A 0)), some (.int (nI p)), some (.int x2), some (.int x3), some (.int (mo_at N (c 1) p)), some (.int (nI r)), some (.int (nI T)), some (.long x7), none] [.long y] h := by
        intro y
        refine jj_lstore (i := 7) (by decide +kernel) (by decide) rfl ?_
        refine jj_iinc (i := 5) (n := 1) (v := nI (r + 1)) (by decide +kernel) rfl (by rw [show Int32.ofInt 1 = 1 from rfl]; exact nI_1 r) (by decide) rfl ?_
        refine jj_goto (off := (-49)) (tgt := 207) (by decide +kernel) (by decide) ?_
        exact ihk (r + 1) y (by omega) (by omega) (by omega)
      refine jj_lload (i := 7) (by decide +kernel) rfl ?_
      refine jj_ldc2 (index := 107) (v := 3000000000) (by decide +kernel) kl_MO_107 ?_
      refine jj_lcmp (by decide +kernel) ?_
      refine jj_if_le (off := 8) (tgt := 233) (by decide +kernel) (by decide) (fun c2 => ?_) (fun c2 => ?_)
      · refine jj_ldc2 (index := 109) (v := 10) (by decide +kernel) kl_MO_109 ?_
        refine jj_lload (i := 7) (by decide +kernel) rfl ?_
        refine jj_lmul (by decide +kernel) ?_
        refine jj_aload_n (j := 0) (by decide +kernel) rfl ?_
        refine jj_iload (i := 5) (by decide +kernel) rfl ?_
        refine jj_callr (m_at (d := d - 1) hG hN hb (by omega)) (fun o1 h1 hC => jj_callV ok_MO_at ml_MO_83 im_MO_at se_MO_MO_at (by decide +kernel) hb.rcv rfl (by omega) (Nat.le_of_ble_eq_true rfl) hC) (by rintro E h1 ⟨q, -⟩; cases q) ?_
        rintro v h9 ⟨hv, e9⟩
        cases hv
        have e9 := e9.symm
        subst e9
        refine jj_i2l (by decide +kernel) ?_
        refine jj_ladd (by decide +kernel) ?_
        refine jj_ldc2 (index := 111) (v := 48) (by decide +kernel) kl_MO_111 ?_
        refine jj_lsub (by decide +kernel) ?_
        exact K251 _
      · refine jj_lload (i := 7) (by decide +kernel) rfl ?_
        refine jj_goto (off := 21) (tgt := 251) (by decide +kernel) (by decide) ?_
        exact K251 _
