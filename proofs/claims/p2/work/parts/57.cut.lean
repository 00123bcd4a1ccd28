set_option maxRecDepth 100000 in
set_option maxHeartbeats 4000000 in
theorem b_MO_cutUp_343 {l : Launch} {G : jj_G} {h0 : jj_H} {A : Nat → Nat} {N : Nat} {f1 : Nat → Int32} {wr nw ow : Int32} {g d : Nat} {n p T M : Nat} {x2 x3 : Int32} {c : Nat → Nat → Int32} {h : jj_H} (hi : mo_inj A) (hG : jj_tyG G) (hN : N ≤ 16384) (hdd : 6 ≤ d) (ih : cu_I l G h0 A N f1 wr nw ow g d n) (hn : N - p < n + 1) (hpN : p < N) (hT : T ≤ p) (hf : c 1 = f1) (hM : M ≤ 1000) (htk : mo_tk c T) (hnm : mo_nm (c 10) M (135 + p)) (hb : Pb G (h0, A, N, T, M, c) wr nw ow g h) {x7 : Int32} (h7 : x7 ≠ 0 → p + 3 ≤ N) : jj_P l G y_MO_cutUp d (cu_F G h0 A N f1 wr nw ow g) 343 [some (.ref (A 0)), some (.int (nI p)), some (.int x2), some (.int x3), some (.int (mo_at N (c 1) p)), some (.int (nI (p + 3))), some (.int (nI T)), some (.int x7), none] [] h := by
  refine jj_aload_n (j := 0) (by decide +kernel) rfl ?_
  refine jj_iload (i := 7) (by decide +kernel) rfl ?_
  refine jj_if_eq (off := 9) (tgt := 355) (by decide +kernel) (by decide) (fun c1 => ?_) (fun c1 => ?_)
  · refine jj_sipush (n := 2005) (v := 2005) (by decide +kernel) (by decide) ?_
    refine jj_iload (i := 7) (by decide +kernel) rfl ?_
    refine jj_if_eq (off := 16) (tgt := 376) (by decide +kernel) (by decide) (fun _ => ?_) (fun c2 => absurd c1 c2)
    refine jj_iconst (n := 1) (v := 1) (by decide +kernel) (by decide) ?_
    refine jj_iload_n (j := 1) (by decide +kernel) rfl ?_
    refine jj_callr (m_token (d := d - 1) hi hG hN hb (by omega)) (fun o1 h1 hC => jj_callV ok_MO_token ml_MO_103 im_MO_token se_MO_MO_token (by decide +kernel) hb.rcv rfl (by omega) (Nat.le_of_ble_eq_true rfl) hC) (by rintro E h1 ⟨q, -⟩; cases q) ?_
    rintro v h2 ⟨hv, hb2⟩
    cases hv
    refine jj_goto (off := 270) (tgt := 651) (by decide +kernel) (by decide) ?_
    exact jj_wk (js_s (js_s (js_s (js_s (js_s (js_s (js_s (js_n (js_n (js_0)))))))))) (b_MO_cutUp_651 (T := T) hi hG hN hdd ih hn hpN hT hf hM htk hb2 (Or.inl ⟨rfl, by decide, hnm.le (by omega)⟩))
  · refine jj_sipush (n := 2002) (v := 2002) (by decide +kernel) (by decide) ?_
    refine jj_goto (off := 6) (tgt := 358) (by decide +kernel) (by decide) ?_
    refine jj_iload (i := 7) (by decide +kernel) rfl ?_
    refine jj_if_eq (off := 16) (tgt := 376) (by decide +kernel) (by decide) (fun c2 => absurd c2 c1) (fun _ => ?_)
    have h8 := h7 c1
    refine jj_aload_n (j := 0) (by decide +kernel) rfl ?_
    refine jj_iload_n (j := 1) (by decide +kernel) rfl ?_
    refine jj_iconst (n := 1) (v := 1) (by decide +kernel) (by decide) ?_
    refine jj_iadd (by decide +kernel) ?_
    rw [nI_1 p]
    refine jj_callr (m_at (d := d - 1) hG hN hb (by omega)) (fun o1 h1 hC => jj_callV ok_MO_at ml_MO_83 im_MO_at se_MO_MO_at (by decide +kernel) hb.rcv rfl (by omega) (Nat.le_of_ble_eq_true rfl) hC) (by rintro E h1 ⟨q, -⟩; cases q) ?_
    rintro v h9 ⟨hv, e9⟩
    cases hv
    have e9 := e9.symm
    subst e9
    refine jj_callr (m_nine2 (d := d - 1) (by omega)) (fun o1 h1 hC => jj_callS ok_MO_nine ml_MO_115 st_MO_nine (by decide +kernel) rfl (by omega) (Nat.le_of_ble_eq_true rfl) hC) (by rintro E h1 ⟨v, q, -⟩; cases q) ?_
    rintro v h9 ⟨v9, hv, e9, hp9⟩
    cases hv
    have e9 := e9.symm
    subst e9
    refine jj_goto (off := 4) (tgt := 377) (by decide +kernel) (by decide) ?_
    refine jj_iload_n (j := 1) (by decide +kernel) rfl ?_
    refine jj_callr (m_token (d := d - 1) hi hG hN hb (by omega)) (fun o1 h1 hC => jj_callV ok_MO_token ml_MO_103 im_MO_token se_MO_MO_token (by decide +kernel) hb.rcv rfl (by omega) (Nat.le_of_ble_eq_true rfl) hC) (by rintro E h1 ⟨q, -⟩; cases q) ?_
    rintro v h2 ⟨hv, hb2⟩
    cases hv
    refine jj_goto (off := 270) (tgt := 651) (by decide +kernel) (by decide) ?_
    exact jj_wk (js_s (js_s (js_s (js_s (js_s (js_s (js_s (js_n (js_n (js_0)))))))))) (b_MO_cutUp_651 (T := T) hi hG hN hdd ih hn hpN hT hf hM htk hb2 (Or.inr ⟨by decide, fun e => absurd e (by decide), p + 3, rfl, by omega, by omega, hnm.le (by omega)⟩))
set_option maxRecDepth 100000 in
set_option maxHeartbeats 4000000 in
theorem b_MO_cutUp_306 {l : Launch} {G : jj_G} {h0 : jj_H} {A : Nat → Nat} {N : Nat} {f1 : Nat → Int32} {wr nw ow : Int32} {g d : Nat} {n p T M : Nat} {x2 x3 : Int32} {c : Nat → Nat → Int32} {h : jj_H} (hi : mo_inj A) (hG : jj_tyG G) (hN : N ≤ 16384) (hdd : 6 ≤ d) (ih : cu_I l G h0 A N f1 wr nw ow g d n) (hn : N - p < n + 1) (hpN : p < N) (hT : T ≤ p) (hf : c 1 = f1) (hM : M ≤ 1000) (htk : mo_tk c T) (hnm : mo_nm (c 10) M (135 + p)) (hb : Pb G (h0, A, N, T, M, c) wr nw ow g h) {x5 : Int32} : jj_P l G y_MO_cutUp d (cu_F G h0 A N f1 wr nw ow g) 306 [some (.ref (A 0)), some (.int (nI p)), some (.int x2), some (.int x3), some (.int (mo_at N (c 1) p)), some (.int x5), some (.int (nI T)), none, none] [] h := by
  refine jj_iload_n (j := 1) (by decide +kernel) rfl ?_
  refine jj_iconst (n := 3) (v := nI 3) (by decide +kernel) (by decide) ?_
  refine jj_iadd (by decide +kernel) ?_
  rw [nI_add p 3]
  refine jj_istore (i := 5) (by decide +kernel) (by decide) rfl ?_
  refine jj_aload_n (j := 0) (by decide +kernel) rfl ?_
  refine jj_iload_n (j := 1) (by decide +kernel) rfl ?_
  refine jj_iconst (n := 1) (v := 1) (by decide +kernel) (by decide) ?_
  refine jj_iadd (by decide +kernel) ?_
  rw [nI_1 p]
  refine jj_callr (m_at (d := d - 1) hG hN hb (by omega)) (fun o1 h1 hC => jj_callV ok_MO_at ml_MO_83 im_MO_at se_MO_MO_at (by decide +kernel) hb.rcv rfl (by omega) (Nat.le_of_ble_eq_true rfl) hC) (by rintro E h1 ⟨q, -⟩; cases q) ?_
  rintro v h9 ⟨hv, e9⟩
  cases hv
  have e9 := e9.symm
  subst e9
  refine jj_callr (m_nine2 (d := d - 1) (by omega)) (fun o1 h1 hC => jj_callS ok_MO_nine ml_MO_115 st_MO_nine (by decide +kernel) rfl (by omega) (Nat.le_of_ble_eq_true rfl) hC) (by rintro E h1 ⟨v, q, -⟩; cases q) ?_
  rintro v h9 ⟨v9, hv, e9, hp9⟩
  cases hv
  have e9 := e9.symm
  subst e9
  have K340 : jj_P l G y_MO_cutUp d (cu_F G h0 A N f1 wr nw ow g) 340 [some (.ref (A 0)), some (.int (nI p)), some (.int x2), some (.int x3), some (.int (mo_at N (c 1) p)), some (.int (nI (p + 3))), some (.int (nI T)), none, none] [] h := by
    refine jj_iconst (n := 0) (v := 0) (by decide +kernel) (by decide) ?_
    refine jj_istore (i := 7) (by decide +kernel) (by decide) rfl ?_
    exact b_MO_cutUp_343 hi hG hN hdd ih hn hpN hT hf hM htk hnm hb (fun q => absurd rfl q)
  refine jj_if_lt (off := 19) (tgt := 340) (by decide +kernel) (by decide) (fun c1 => K340) (fun c1 => ?_)
  refine jj_aload_n (j := 0) (by decide +kernel) rfl ?_
  refine jj_iload_n (j := 1) (by decide +kernel) rfl ?_
  refine jj_iconst (n := 2) (v := nI 2) (by decide +kernel) (by decide) ?_
  refine jj_iadd (by decide +kernel) ?_
  rw [nI_add p 2]
  refine jj_callr (m_at (d := d - 1) hG hN hb (by omega)) (fun o1 h1 hC => jj_callV ok_MO_at ml_MO_83 im_MO_at se_MO_MO_at (by decide +kernel) hb.rcv rfl (by omega) (Nat.le_of_ble_eq_true rfl) hC) (by rintro E h1 ⟨q, -⟩; cases q) ?_
  rintro v h9 ⟨hv, e9⟩
  cases hv
  have e9 := e9.symm
  subst e9
  refine jj_bipush (n := 39) (v := 39) (by decide +kernel) (by decide) ?_
  refine jj_icmp_ne (off := 7) (tgt := 340) (by decide +kernel) (by decide) (fun c2 => K340) (fun c2 => ?_)
  have h8 := mo_at.lt (N := N) (f := c 1) (p := p + 2) (by rw [c2]; decide)
  refine jj_iconst (n := 1) (v := 1) (by decide +kernel) (by decide) ?_
  refine jj_goto (off := 4) (tgt := 341) (by decide +kernel) (by decide) ?_
  refine jj_istore (i := 7) (by decide +kernel) (by decide) rfl ?_
  exact b_MO_cutUp_343 hi hG hN hdd ih hn hpN hT hf hM htk hnm hb (fun _ => by omega)
set_option maxRecDepth 100000 in
set_option maxHeartbeats 4000000 in
theorem b_MO_cutUp_449 {l : Launch} {G : jj_G} {h0 : jj_H} {A : Nat → Nat} {N : Nat} {f1 : Nat → Int32} {wr nw ow : Int32} {g d : Nat} {n p T M : Nat} {x2 x3 : Int32} {c : Nat → Nat → Int32} {h : jj_H} (hi : mo_inj A) (hG : jj_tyG G) (hN : N ≤ 16384) (hdd : 6 ≤ d) (ih : cu_I l G h0 A N f1 wr nw ow g d n) (hn : N - p < n + 1) (hpN : p < N) (hT : T ≤ p) (hf : c 1 = f1) (hM : M ≤ 1000) (htk : mo_tk c T) (hnm : mo_nm (c 10) M (135 + p)) (hb : Pb G (h0, A, N, T, M, c) wr nw ow g h) {r : Nat} {x7 : Int32} (hpr : p < r) (h7 : x7 ≠ 0 → r < N) : jj_P l G y_MO_cutUp d (cu_F G h0 A N f1 wr nw ow g) 449 [some (.ref (A 0)), some (.int (nI p)), some (.int x2), some (.int x3), some (.int (mo_at N (c 1) p)), some (.int (nI r)), some (.int (nI T)), some (.int x7), none] [] h := by
  refine jj_aload_n (j := 0) (by decide +kernel) rfl ?_
  refine jj_iload (i := 7) (by decide +kernel) rfl ?_
  refine jj_if_eq (off := 9) (tgt := 461) (by decide +kernel) (by decide) (fun c1 => ?_) (fun c1 => ?_)
  · refine jj_sipush (n := 2005) (v := 2005) (by decide +kernel) (by decide) ?_
    refine jj_iload (i := 7) (by decide +kernel) rfl ?_
    refine jj_if_eq (off := 12) (tgt := 478) (by decide +kernel) (by decide) (fun _ => ?_) (fun c2 => absurd c1 c2)
    refine jj_iconst (n := 1) (v := 1) (by decide +kernel) (by decide) ?_
    refine jj_iload_n (j := 1) (by decide +kernel) rfl ?_
    refine jj_callr (m_token (d := d - 1) hi hG hN hb (by omega)) (fun o1 h1 hC => jj_callV ok_MO_token ml_MO_103 im_MO_token se_MO_MO_token (by decide +kernel) hb.rcv rfl (by omega) (Nat.le_of_ble_eq_true rfl) hC) (by rintro E h1 ⟨q, -⟩; cases q) ?_
    rintro v h2 ⟨hv, hb2⟩
    cases hv
    refine jj_iinc (i := 5) (n := 1) (v := nI (r + 1)) (by decide +kernel) rfl (by rw [show Int32.ofInt 1 = 1 from rfl]; exact nI_1 r) (by decide) rfl ?_
    refine jj_goto (off := 165) (tgt := 651) (by decide +kernel) (by decide) ?_
    exact jj_wk (js_s (js_s (js_s (js_s (js_s (js_s (js_s (js_n (js_n (js_0)))))))))) (b_MO_cutUp_651 (T := T) hi hG hN hdd ih hn hpN hT hf hM htk hb2 (Or.inl ⟨rfl, by decide, hnm.le (by omega)⟩))
  · refine jj_sipush (n := 2003) (v := 2003) (by decide +kernel) (by decide) ?_
    refine jj_goto (off := 6) (tgt := 464) (by decide +kernel) (by decide) ?_
    refine jj_iload (i := 7) (by decide +kernel) rfl ?_
    refine jj_if_eq (off := 12) (tgt := 478) (by decide +kernel) (by decide) (fun c2 => absurd c2 c1) (fun _ => ?_)
    have h8 := h7 c1
    refine jj_iload (i := 5) (by decide +kernel) rfl ?_
    refine jj_iload_n (j := 1) (by decide +kernel) rfl ?_
    refine jj_isub (by decide +kernel) ?_
    rw [nI_sub (Nat.le_of_lt hpr)]
    refine jj_iconst (n := 1) (v := nI 1) (by decide +kernel) (by decide) ?_
    refine jj_isub (by decide +kernel) ?_
    rw [nI_sub (show 1 ≤ r - p by omega)]
    refine jj_goto (off := 4) (tgt := 479) (by decide +kernel) (by decide) ?_
    refine jj_iload_n (j := 1) (by decide +kernel) rfl ?_
    refine jj_callr (m_token (d := d - 1) hi hG hN hb (by omega)) (fun o1 h1 hC => jj_callV ok_MO_token ml_MO_103 im_MO_token se_MO_MO_token (by decide +kernel) hb.rcv rfl (by omega) (Nat.le_of_ble_eq_true rfl) hC) (by rintro E h1 ⟨q, -⟩; cases q) ?_
    rintro v h2 ⟨hv, hb2⟩
    cases hv
    refine jj_iinc (i := 5) (n := 1) (v := nI (r + 1)) (by decide +kernel) rfl (by rw [show Int32.ofInt 1 = 1 from rfl]; exact nI_1 r) (by decide) rfl ?_
    refine jj_goto (off := 165) (tgt := 651) (by decide +kernel) (by decide) ?_
    exact jj_wk (js_s (js_s (js_s (js_s (js_s (js_s (js_s (js_n (js_n (js_0)))))))))) (b_MO_cutUp_651 (T := T) hi hG hN hdd ih hn hpN hT hf hM htk hb2 (Or.inr ⟨by decide, fun _ => ⟨p, r - p - 1, rfl, rfl, by omega⟩, r + 1, rfl, by omega, by omega, hnm.le (by omega)⟩))
set_option maxRecDepth 100000 in
set_option maxHeartbeats 4000000 in
theorem b_MO_cutUp_396 {l : Launch} {G : jj_G} {h0 : jj_H} {A : Nat → Nat} {N : Nat} {f1 : Nat → Int32} {wr nw ow : Int32} {g d : Nat} {n p T M : Nat} {x2 x3 : Int32} {c : Nat → Nat → Int32} {h : jj_H} (hi : mo_inj A) (hG : jj_tyG G) (hN : N ≤ 16384) (hdd : 6 ≤ d) (ih : cu_I l G h0 A N f1 wr nw ow g d n) (hn : N - p < n + 1) (hpN : p < N) (hT : T ≤ p) (hf : c 1 = f1) (hM : M ≤ 1000) (htk : mo_tk c T) (hnm : mo_nm (c 10) M (135 + p)) (hb : Pb G (h0, A, N, T, M, c) wr nw ow g h) : ∀ (k r : Nat), N - r < k → p < r → r ≤ N → jj_P l G y_MO_cutUp d (cu_F G h0 A N f1 wr nw ow g) 396 [some (.ref (A 0)), some (.int (nI p)), some (.int x2), some (.int x3), some (.int (mo_at N (c 1) p)), some (.int (nI r)), some (.int (nI T)), none, none] [] h := by
  intro k
  induction k with
  | zero => intro r hk; exact absurd hk (Nat.not_lt_zero _)
  | succ k ihk =>
    intro r hk hpr hrN
    refine jj_aload_n (j := 0) (by decide +kernel) rfl ?_
    refine jj_iload (i := 5) (by decide +kernel) rfl ?_
    refine jj_callr (m_at (d := d - 1) hG hN hb (by omega)) (fun o1 h1 hC => jj_callV ok_MO_at ml_MO_83 im_MO_at se_MO_MO_at (by decide +kernel) hb.rcv rfl (by omega) (Nat.le_of_ble_eq_true rfl) hC) (by rintro E h1 ⟨q, -⟩; cases q) ?_
    rintro v h9 ⟨hv, e9⟩
    cases hv
    have e9 := e9.symm
    subst e9
    refine jj_callr (m_nine2 (d := d - 1) (by omega)) (fun o1 h1 hC => jj_callS ok_MO_nine ml_MO_115 st_MO_nine (by decide +kernel) rfl (by omega) (Nat.le_of_ble_eq_true rfl) hC) (by rintro E h1 ⟨v, q, -⟩; cases q) ?_
    rintro v h9 ⟨v9, hv, e9, hp9⟩
    cases hv
    have e9 := e9.symm
    subst e9
    refine jj_if_lt (off := 9) (tgt := 414) (by decide +kernel) (by decide) (fun c1 => ?_) (fun c1 => ?_)
    · have K446 : jj_P l G y_MO_cutUp d (cu_F G h0 A N f1 wr nw ow g) 446 [some (.ref (A 0)), some (.int (nI p)), some (.int x2), some (.int x3), some (.int (mo_at N (c 1) p)), some (.int (nI r)), some (.int (nI T)), none, none] [] h := by
        refine jj_iconst (n := 0) (v := 0) (by decide +kernel) (by decide) ?_
        refine jj_istore (i := 7) (by decide +kernel) (by decide) rfl ?_
        exact b_MO_cutUp_449 hi hG hN hdd ih hn hpN hT hf hM htk hnm hb hpr (fun q => absurd rfl q)
      refine jj_aload_n (j := 0) (by decide +kernel) rfl ?_
      refine jj_iload (i := 5) (by decide +kernel) rfl ?_
      refine jj_callr (m_at (d := d - 1) hG hN hb (by omega)) (fun o1 h1 hC => jj_callV ok_MO_at ml_MO_83 im_MO_at se_MO_MO_at (by decide +kernel) hb.rcv rfl (by omega) (Nat.le_of_ble_eq_true rfl) hC) (by rintro E h1 ⟨q, -⟩; cases q) ?_
      rintro v h9 ⟨hv, e9⟩
      cases hv
      have e9 := e9.symm
      subst e9
      refine jj_bipush (n := 34) (v := 34) (by decide +kernel) (by decide) ?_
      refine jj_icmp_ne (off := 24) (tgt := 446) (by decide +kernel) (by decide) (fun c2 => K446) (fun c2 => ?_)
      have h8 := mo_at.lt (N := N) (f := c 1) (p := r) (by rw [c2]; decide)
      refine jj_iload (i := 5) (by decide +kernel) rfl ?_
      refine jj_iload_n (j := 1) (by decide +kernel) rfl ?_
      refine jj_isub (by decide +kernel) ?_
      refine jj_iconst (n := 1) (v := 1) (by decide +kernel) (by decide) ?_
      refine jj_icmp_le (off := 16) (tgt := 446) (by decide +kernel) (by decide) (fun c3 => K446) (fun c3 => ?_)
      refine jj_iload (i := 5) (by decide +kernel) rfl ?_
      refine jj_iload_n (j := 1) (by decide +kernel) rfl ?_
      refine jj_isub (by decide +kernel) ?_
      refine jj_bipush (n := 66) (v := 66) (by decide +kernel) (by decide) ?_
      refine jj_icmp_ge (off := 7) (tgt := 446) (by decide +kernel) (by decide) (fun c4 => K446) (fun c4 => ?_)
      refine jj_iconst (n := 1) (v := 1) (by decide +kernel) (by decide) ?_
      refine jj_goto (off := 4) (tgt := 447) (by decide +kernel) (by decide) ?_
      refine jj_istore (i := 7) (by decide +kernel) (by decide) rfl ?_
      exact b_MO_cutUp_449 hi hG hN hdd ih hn hpN hT hf hM htk hnm hb hpr (fun _ => h8)
    · have hlt : r < N := mo_at.lt (fun e => c1 (hp9 e))
      refine jj_iinc (i := 5) (n := 1) (v := nI (r + 1)) (by decide +kernel) rfl (by rw [show Int32.ofInt 1 = 1 from rfl]; exact nI_1 r) (by decide) rfl ?_
      refine jj_goto (off := (-15)) (tgt := 396) (by decide +kernel) (by decide) ?_
      exact ihk (r + 1) (by omega) (by omega) (by omega)
set_option maxRecDepth 100000 in
set_option maxHeartbeats 4000000 in
theorem b_MO_cutUp_555 {l : Launch} {G : jj_G} {h0 : jj_H} {A : Nat → Nat} {N : Nat} {f1 : Nat → Int32} {wr nw ow : Int32} {g d : Nat} {n p T M : Nat} {x2 x3 : Int32} {c : Nat → Nat → Int32} {h : jj_H} (hi : mo_inj A) (hG : jj_tyG G) (hN : N ≤ 16384) (hdd : 6 ≤ d) (ih : cu_I l G h0 A N f1 wr nw ow g d n) (hn : N - p < n + 1) (hpN : p < N) (hT : T ≤ p) (hf : c 1 = f1) (hM : M ≤ 1000) (htk : mo_tk c T) (hnm : mo_nm (c 10) M (135 + p)) (hb : Pb G (h0, A, N, T, M, c) wr nw ow g h) {x5 x7 : Int32} (h7 : x7 ≠ 0 → p + 2 ≤ N) (hm : mo_at N (c 1) p + 1000 ≠ 2005 ∧ mo_at N (c 1) p + 1000 ≠ 2003) : jj_P l G y_MO_cutUp d (cu_F G h0 A N f1 wr nw ow g) 555 [some (.ref (A 0)), some (.int (nI p)), some (.int x2), some (.int x3), some (.int (mo_at N (c 1) p)), some (.int x5), some (.int (nI T)), some (.int x7), none] [] h := by
  have hmk := mo_at.mark (f := c 1) hpN
  refine jj_iload (i := 7) (by decide +kernel) rfl ?_
  refine jj_if_eq (off := 9) (tgt := 566) (by decide +kernel) (by decide) (fun c1 => ?_) (fun c1 => ?_)
  · refine jj_iload_n (j := 1) (by decide +kernel) rfl ?_
    refine jj_iconst (n := 1) (v := 1) (by decide +kernel) (by decide) ?_
    refine jj_iadd (by decide +kernel) ?_
    rw [nI_1 p]
    refine jj_istore (i := 5) (by decide +kernel) (by decide) rfl ?_
    refine jj_aload_n (j := 0) (by decide +kernel) rfl ?_
    refine jj_iload (i := 7) (by decide +kernel) rfl ?_
    refine jj_if_eq (off := 12) (tgt := 586) (by decide +kernel) (by decide) (fun _ => ?_) (fun c2 => absurd c1 c2)
    refine jj_iload (i := 4) (by decide +kernel) rfl ?_
    refine jj_sipush (n := 500) (v := 500) (by decide +kernel) (by decide) ?_
    refine jj_iadd (by decide +kernel) ?_
    refine jj_iconst (n := 0) (v := 0) (by decide +kernel) (by decide) ?_
    refine jj_iload_n (j := 1) (by decide +kernel) rfl ?_
    refine jj_callr (m_token (d := d - 1) hi hG hN hb (by omega)) (fun o1 h1 hC => jj_callV ok_MO_token ml_MO_103 im_MO_token se_MO_MO_token (by decide +kernel) hb.rcv rfl (by omega) (Nat.le_of_ble_eq_true rfl) hC) (by rintro E h1 ⟨q, -⟩; cases q) ?_
    rintro v h2 ⟨hv, hb2⟩
    cases hv
    refine jj_goto (off := 54) (tgt := 651) (by decide +kernel) (by decide) ?_
    exact jj_wk (js_s (js_s (js_s (js_s (js_s (js_s (js_s (js_n (js_n (js_0)))))))))) (b_MO_cutUp_651 (T := T) hi hG hN hdd ih hn hpN hT hf hM htk hb2 (Or.inr ⟨hmk.1, fun e => absurd e hmk.2, p + 1, rfl, by omega, by omega, hnm.le (by omega)⟩))
  · refine jj_iload_n (j := 1) (by decide +kernel) rfl ?_
    refine jj_iconst (n := 2) (v := nI 2) (by decide +kernel) (by decide) ?_
    refine jj_iadd (by decide +kernel) ?_
    rw [nI_add p 2]
    refine jj_goto (off := 6) (tgt := 569) (by decide +kernel) (by decide) ?_
    refine jj_istore (i := 5) (by decide +kernel) (by decide) rfl ?_
    refine jj_aload_n (j := 0) (by decide +kernel) rfl ?_
    refine jj_iload (i := 7) (by decide +kernel) rfl ?_
    refine jj_if_eq (off := 12) (tgt := 586) (by decide +kernel) (by decide) (fun c2 => absurd c2 c1) (fun _ => ?_)
    have h8 := h7 c1
    refine jj_iload (i := 4) (by decide +kernel) rfl ?_
    refine jj_sipush (n := 1000) (v := 1000) (by decide +kernel) (by decide) ?_
    refine jj_iadd (by decide +kernel) ?_
    refine jj_goto (off := 9) (tgt := 592) (by decide +kernel) (by decide) ?_
    refine jj_iconst (n := 0) (v := 0) (by decide +kernel) (by decide) ?_
    refine jj_iload_n (j := 1) (by decide +kernel) rfl ?_
    refine jj_callr (m_token (d := d - 1) hi hG hN hb (by omega)) (fun o1 h1 hC => jj_callV ok_MO_token ml_MO_103 im_MO_token se_MO_MO_token (by decide +kernel) hb.rcv rfl (by omega) (Nat.le_of_ble_eq_true rfl) hC) (by rintro E h1 ⟨q, -⟩; cases q) ?_
    rintro v h2 ⟨hv, hb2⟩
    cases hv
    refine jj_goto (off := 54) (tgt := 651) (by decide +kernel) (by decide) ?_
    exact jj_wk (js_s (js_s (js_s (js_s (js_s (js_s (js_s (js_n (js_n (js_0)))))))))) (b_MO_cutUp_651 (T := T) hi hG hN hdd ih hn hpN hT hf hM htk hb2 (Or.inr ⟨hm.1, fun e => absurd e hm.2, p + 2, rfl, by omega, by omega, hnm.le (by omega)⟩))
set_option maxRecDepth 100000 in
set_option maxHeartbeats 4000000 in
theorem b_MO_cutUp_524 {l : Launch} {G : jj_G} {h0 : jj_H} {A : Nat → Nat} {N : Nat} {f1 : Nat → Int32} {wr nw ow : Int32} {g d : Nat} {n p T M : Nat} {x2 x3 : Int32} {c : Nat → Nat → Int32} {h : jj_H} (hi : mo_inj A) (hG : jj_tyG G) (hN : N ≤ 16384) (hdd : 6 ≤ d) (ih : cu_I l G h0 A N f1 wr nw ow g d n) (hn : N - p < n + 1) (hpN : p < N) (hT : T ≤ p) (hf : c 1 = f1) (hM : M ≤ 1000) (htk : mo_tk c T) (hnm : mo_nm (c 10) M (135 + p)) (hb : Pb G (h0, A, N, T, M, c) wr nw ow g h) {x5 : Int32} (hm : mo_at N (c 1) p + 1000 ≠ 2005 ∧ mo_at N (c 1) p + 1000 ≠ 2003) : jj_P l G y_MO_cutUp d (cu_F G h0 A N f1 wr nw ow g) 524 [some (.ref (A 0)), some (.int (nI p)), some (.int x2), some (.int x3), some (.int (mo_at N (c 1) p)), some (.int x5), some (.int (nI T)), none, none] [] h := by
  refine jj_aload_n (j := 0) (by decide +kernel) rfl ?_
  refine jj_iload_n (j := 1) (by decide +kernel) rfl ?_
  refine jj_iconst (n := 1) (v := 1) (by decide +kernel) (by decide) ?_
  refine jj_iadd (by decide +kernel) ?_
  rw [nI_1 p]
  refine jj_callr (m_at (d := d - 1) hG hN hb (by omega)) (fun o1 h1 hC => jj_callV ok_MO_at ml_MO_83 im_MO_at se_MO_MO_at (by decide +kernel) hb.rcv rfl (by omega) (Nat.le_of_ble_eq_true rfl) hC) (by rintro E h1 ⟨q, -⟩; cases q) ?_
  rintro v h9 ⟨hv, e9⟩
  cases hv
  have e9 := e9.symm
  subst e9
  have K545 : ∀ y : Int32, y ≠ -1 → jj_P l G y_MO_cutUp d (cu_F G h0 A N f1 wr nw ow g) 545 [some (.ref (A 0)), some (.int (nI p)), some (.int x2), some (.int x3), some (.int (mo_at N (c 1) p)), some (.int x5), some (.int (nI T)), none, none] [.int y, .int (mo_at N (c 1) (p + 1))] h := by
    intro y hy
    refine jj_icmp_ne (off := 7) (tgt := 552) (by decide +kernel) (by decide) (fun c1 => ?_) (fun c1 => ?_)
    · refine jj_iconst (n := 0) (v := 0) (by decide +kernel) (by decide) ?_
      refine jj_istore (i := 7) (by decide +kernel) (by decide) rfl ?_
      exact b_MO_cutUp_555 hi hG hN hdd ih hn hpN hT hf hM htk hnm hb (fun q => absurd rfl q) hm
    · refine jj_iconst (n := 1) (v := 1) (by decide +kernel) (by decide) ?_
      refine jj_goto (off := 4) (tgt := 553) (by decide +kernel) (by decide) ?_
      refine jj_istore (i := 7) (by decide +kernel) (by decide) rfl ?_
      have h8 := mo_at.lt (N := N) (f := c 1) (p := p + 1) (by rw [c1]; exact hy)
      exact b_MO_cutUp_555 hi hG hN hdd ih hn hpN hT hf hM htk hnm hb (fun _ => by omega) hm
  refine jj_iload (i := 4) (by decide +kernel) rfl ?_
  refine jj_bipush (n := 61) (v := 61) (by decide +kernel) (by decide) ?_
  refine jj_icmp_ne (off := 8) (tgt := 543) (by decide +kernel) (by decide) (fun c1 => ?_) (fun c1 => ?_)
  · refine jj_bipush (n := 61) (v := 61) (by decide +kernel) (by decide) ?_
    exact K545 61 (by decide)
  · refine jj_bipush (n := 62) (v := 62) (by decide +kernel) (by decide) ?_
    refine jj_goto (off := 5) (tgt := 545) (by decide +kernel) (by decide) ?_
    exact K545 62 (by decide)
set_option maxRecDepth 100000 in
set_option maxHeartbeats 4000000 in
theorem b_MO_cutUp_600 {l : Launch} {G : jj_G} {h0 : jj_H} {A : Nat → Nat} {N : Nat} {f1 : Nat → Int32} {wr nw ow : Int32} {g d : Nat} {n p T M : Nat} {x2 x3 : Int32} {c : Nat → Nat → Int32} {h : jj_H} (hi : mo_inj A) (hG : jj_tyG G) (hN : N ≤ 16384) (hdd : 6 ≤ d) (ih : cu_I l G h0 A N f1 wr nw ow g d n) (hn : N - p < n + 1) (hpN : p < N) (hT : T ≤ p) (hf : c 1 = f1) (hM : M ≤ 1000) (htk : mo_tk c T) (hnm : mo_nm (c 10) M (135 + p)) (hb : Pb G (h0, A, N, T, M, c) wr nw ow g h) {x5 : Int32} : jj_P l G y_MO_cutUp d (cu_F G h0 A N f1 wr nw ow g) 600 [some (.ref (A 0)), some (.int (nI p)), some (.int x2), some (.int x3), some (.int (mo_at N (c 1) p)), some (.int x5), some (.int (nI T)), none, none] [] h := by
  have hmk := mo_at.mark (f := c 1) hpN
  refine jj_ldcS (index := 118) (i := 14) (tx := "(),;+-*&'|") (by decide +kernel) (List.mem_of_getElem? (i := 15) rfl) ?_
  refine jj_iload (i := 4) (by decide +kernel) rfl ?_
  refine jj_callr (m_placeIn (d := d - 1) (i := 14) (by decide) (by omega)) (fun o1 h1 hC => jj_callS ok_MO_placeIn ml_MO_76 st_MO_placeIn (by decide +kernel) rfl (by omega) (Nat.le_of_ble_eq_true rfl) hC) (by rintro E h1 ⟨v, q, -⟩; cases q) ?_
  rintro v h9 ⟨v9, hv, e9⟩
  cases hv
  have e9 := e9.symm
  subst e9
  have K615 : ∀ y : Int32, jj_P l G y_MO_cutUp d (cu_F G h0 A N f1 wr nw ow g) 615 [some (.ref (A 0)), some (.int (nI p)), some (.int x2), some (.int x3), some (.int (mo_at N (c 1) p)), some (.int x5), some (.int (nI T)), none, none] [.int y] h := by
    intro y
    refine jj_istore (i := 7) (by decide +kernel) (by decide) rfl ?_
    refine jj_iload_n (j := 1) (by decide +kernel) rfl ?_
    refine jj_iconst (n := 1) (v := 1) (by decide +kernel) (by decide) ?_
    refine jj_iadd (by decide +kernel) ?_
    rw [nI_1 p]
    refine jj_istore (i := 5) (by decide +kernel) (by decide) rfl ?_
    refine jj_iload (i := 7) (by decide +kernel) rfl ?_
    refine jj_if_eq (off := 18) (tgt := 642) (by decide +kernel) (by decide) (fun c1 => ?_) (fun c1 => ?_)
    · refine jj_aload_n (j := 0) (by decide +kernel) rfl ?_
      refine jj_sipush (n := 2005) (v := 2005) (by decide +kernel) (by decide) ?_
      refine jj_iconst (n := 1) (v := 1) (by decide +kernel) (by decide) ?_
      refine jj_iload_n (j := 1) (by decide +kernel) rfl ?_
      refine jj_callr (m_token (d := d - 1) hi hG hN hb (by omega)) (fun o1 h1 hC => jj_callV ok_MO_token ml_MO_103 im_MO_token se_MO_MO_token (by decide +kernel) hb.rcv rfl (by omega) (Nat.le_of_ble_eq_true rfl) hC) (by rintro E h1 ⟨q, -⟩; cases q) ?_
      rintro v h2 ⟨hv, hb2⟩
      cases hv
      exact jj_wk (js_s (js_s (js_s (js_s (js_s (js_s (js_s (js_n (js_n (js_0)))))))))) (b_MO_cutUp_651 (T := T) hi hG hN hdd ih hn hpN hT hf hM htk hb2 (Or.inl ⟨rfl, by decide, hnm.le (by omega)⟩))
    · refine jj_aload_n (j := 0) (by decide +kernel) rfl ?_
      refine jj_iload (i := 4) (by decide +kernel) rfl ?_
      refine jj_sipush (n := 500) (v := 500) (by decide +kernel) (by decide) ?_
      refine jj_iadd (by decide +kernel) ?_
      refine jj_iconst (n := 0) (v := 0) (by decide +kernel) (by decide) ?_
      refine jj_iload_n (j := 1) (by decide +kernel) rfl ?_
      refine jj_callr (m_token (d := d - 1) hi hG hN hb (by omega)) (fun o1 h1 hC => jj_callV ok_MO_token ml_MO_103 im_MO_token se_MO_MO_token (by decide +kernel) hb.rcv rfl (by omega) (Nat.le_of_ble_eq_true rfl) hC) (by rintro E h1 ⟨q, -⟩; cases q) ?_
      rintro v h2 ⟨hv, hb2⟩
      cases hv
      refine jj_goto (off := 12) (tgt := 651) (by decide +kernel) (by decide) ?_
      exact jj_wk (js_s (js_s (js_s (js_s (js_s (js_s (js_s (js_n (js_n (js_0)))))))))) (b_MO_cutUp_651 (T := T) hi hG hN hdd ih hn hpN hT hf hM htk hb2 (Or.inr ⟨hmk.1, fun e => absurd e hmk.2, p + 1, rfl, by omega, by omega, hnm.le (by omega)⟩))
  refine jj_if_lt (off := 7) (tgt := 614) (by decide +kernel) (by decide) (fun c1 => ?_) (fun c1 => ?_)
  · refine jj_iconst (n := 0) (v := 0) (by decide +kernel) (by decide) ?_
    exact K615 0
  · refine jj_iconst (n := 1) (v := 1) (by decide +kernel) (by decide) ?_
    refine jj_goto (off := 4) (tgt := 615) (by decide +kernel) (by decide) ?_
    exact K615 1
set_option maxRecDepth 100000 in
set_option maxHeartbeats 4000000 in
theorem b_MO_cutUp_27 {l : Launch} {G : jj_G} {h0 : jj_H} {A : Nat → Nat} {N : Nat} {f1 : Nat → Int32} {wr nw ow : Int32} {g d : Nat} {n p T M : Nat} {x2 x3 : Int32} {c : Nat → Nat → Int32} {h : jj_H} (hi : mo_inj A) (hG : jj_tyG G) (hN : N ≤ 16384) (hdd : 6 ≤ d) (ih : cu_I l G h0 A N f1 wr nw ow g d n) (hn : N - p < n + 1) (hpN : p < N) (hT : T ≤ p) (hf : c 1 = f1) (hM : M ≤ 1000) (htk : mo_tk c T) (hnm : mo_nm (c 10) M (135 + p)) (hb : Pb G (h0, A, N, T, M, c) wr nw ow g h) : jj_P l G y_MO_cutUp d (cu_F G h0 A N f1 wr nw ow g) 27 [some (.ref (A 0)), some (.int (nI p)), some (.int x2), some (.int x3), none, none, none, none, none] [] h := by
  refine jj_aload_n (j := 0) (by decide +kernel) rfl ?_
  refine jj_iload_n (j := 1) (by decide +kernel) rfl ?_
  refine jj_callr (m_at (d := d - 1) hG hN hb (by omega)) (fun o1 h1 hC => jj_callV ok_MO_at ml_MO_83 im_MO_at se_MO_MO_at (by decide +kernel) hb.rcv rfl (by omega) (Nat.le_of_ble_eq_true rfl) hC) (by rintro E h1 ⟨q, -⟩; cases q) ?_
  rintro v h9 ⟨hv, e9⟩
  cases hv
  have e9 := e9.symm
  subst e9
  obtain ⟨th, wh, S, b0, hS, hg, a1, a5, a6, a7, a9, a10, nd, fr, hz⟩ := hb.un
  refine jj_istore (i := 4) (by decide +kernel) (by decide) rfl ?_
  refine jj_iload_n (j := 1) (by decide +kernel) rfl ?_
  refine jj_istore (i := 5) (by decide +kernel) (by decide) rfl ?_
  refine jj_aload_n (j := 0) (by decide +kernel) rfl ?_
  refine jj_getfield 8 ck_MO fl_MO_80 (by decide) (by decide +kernel) b0 rfl ?_
  refine jj_istore (i := 6) (by decide +kernel) (by decide) rfl ?_
  refine jj_iload (i := 4) (by decide +kernel) rfl ?_
  refine jj_callr (m_letter (d := d - 1)) (fun o1 h1 hC => jj_callS ok_MO_letter ml_MO_89 st_MO_letter (by decide +kernel) rfl (by omega) (Nat.le_of_ble_eq_true rfl) hC) (by rintro E h1 ⟨v, q, -⟩; cases q) ?_
  rintro v h9 ⟨v9, hv, e9, hp9⟩
  cases hv
  have e9 := e9.symm
  subst e9
  refine jj_if_eq (off := 148) (tgt := 196) (by decide +kernel) (by decide) (fun c1 => ?_) (fun c1 => ?_)
  · refine jj_iload (i := 4) (by decide +kernel) rfl ?_
    refine jj_callr (m_digit (d := d - 1)) (fun o1 h1 hC => jj_callS ok_MO_digit ml_MO_93 st_MO_digit (by decide +kernel) rfl (by omega) (Nat.le_of_ble_eq_true rfl) hC) (by rintro E h1 ⟨v, q, -⟩; cases q) ?_
    rintro v h9 ⟨v9, hv, e9, hp9⟩
    cases hv
    have e9 := e9.symm
    subst e9
    refine jj_if_eq (off := 93) (tgt := 294) (by decide +kernel) (by decide) (fun c2 => ?_) (fun c2 => ?_)
    · have K384 : jj_P l G y_MO_cutUp d (cu_F G h0 A N f1 wr nw ow g) 384 [some (.ref (A 0)), some (.int (nI p)), some (.int x2), some (.int x3), some (.int (mo_at N (c 1) p)), some (.int (nI p)), some (.int (nI T)), none, none] [] h := by
        refine jj_iload (i := 4) (by decide +kernel) rfl ?_
        refine jj_bipush (n := 34) (v := 34) (by decide +kernel) (by decide) ?_
        refine jj_icmp_ne (off := 101) (tgt := 489) (by decide +kernel) (by decide) (fun c3 => ?_) (fun c3 => ?_)
        · skip
          refine jj_iload (i := 4) (by decide +kernel) rfl ?_
          refine jj_bipush (n := 58) (v := 58) (by decide +kernel) (by decide) ?_
          refine jj_icmp_eq (off := 31) (tgt := 524) (by decide +kernel) (by decide) (fun c9 => b_MO_cutUp_524 hi hG hN hdd ih hn hpN hT hf hM htk hnm hb (by rw [c9]; decide)) (fun c9 => ?_)
          refine jj_iload (i := 4) (by decide +kernel) rfl ?_
          refine jj_bipush (n := 60) (v := 60) (by decide +kernel) (by decide) ?_
          refine jj_icmp_eq (off := 24) (tgt := 524) (by decide +kernel) (by decide) (fun c9 => b_MO_cutUp_524 hi hG hN hdd ih hn hpN hT hf hM htk hnm hb (by rw [c9]; decide)) (fun c9 => ?_)
          refine jj_iload (i := 4) (by decide +kernel) rfl ?_
          refine jj_bipush (n := 61) (v := 61) (by decide +kernel) (by decide) ?_
          refine jj_icmp_eq (off := 17) (tgt := 524) (by decide +kernel) (by decide) (fun c9 => b_MO_cutUp_524 hi hG hN hdd ih hn hpN hT hf hM htk hnm hb (by rw [c9]; decide)) (fun c9 => ?_)
          refine jj_iload (i := 4) (by decide +kernel) rfl ?_
          refine jj_bipush (n := 47) (v := 47) (by decide +kernel) (by decide) ?_
          refine jj_icmp_eq (off := 10) (tgt := 524) (by decide +kernel) (by decide) (fun c9 => b_MO_cutUp_524 hi hG hN hdd ih hn hpN hT hf hM htk hnm hb (by rw [c9]; decide)) (fun c9 => ?_)
          refine jj_iload (i := 4) (by decide +kernel) rfl ?_
          refine jj_bipush (n := 62) (v := 62) (by decide +kernel) (by decide) ?_
          refine jj_icmp_ne (off := 79) (tgt := 600) (by decide +kernel) (by decide) (fun c9 => b_MO_cutUp_600 hi hG hN hdd ih hn hpN hT hf hM htk hnm hb) (fun c9 => b_MO_cutUp_524 hi hG hN hdd ih hn hpN hT hf hM htk hnm hb (by rw [c9]; decide))
        · refine jj_iload_n (j := 1) (by decide +kernel) rfl ?_
          refine jj_iconst (n := 1) (v := 1) (by decide +kernel) (by decide) ?_
          refine jj_iadd (by decide +kernel) ?_
          rw [nI_1 p]
          refine jj_istore (i := 5) (by decide +kernel) (by decide) rfl ?_
          exact b_MO_cutUp_396 hi hG hN hdd ih hn hpN hT hf hM htk hnm hb _ (p + 1) (Nat.lt_succ_self _) (by omega) (by omega)
      refine jj_iload (i := 4) (by decide +kernel) rfl ?_
      refine jj_bipush (n := 39) (v := 39) (by decide +kernel) (by decide) ?_
      refine jj_icmp_ne (off := 86) (tgt := 384) (by decide +kernel) (by decide) (fun c3 => K384) (fun c3 => ?_)
      refine jj_iload_n (j := 3) (by decide +kernel) rfl ?_
      refine jj_iload_n (j := 1) (by decide +kernel) rfl ?_
      refine jj_icmp_eq (off := 81) (tgt := 384) (by decide +kernel) (by decide) (fun c4 => K384) (fun c4 => ?_)
      exact b_MO_cutUp_306 hi hG hN hdd ih hn hpN hT hf hM htk hnm hb
    · refine jj_lconst (n := 0) (v := 0) (by decide +kernel) (by decide) ?_
      refine jj_lstore (i := 7) (by decide +kernel) (by decide) rfl ?_
      exact b_MO_cutUp_207 hi hG hN hdd ih hn hpN hT hf hM htk hnm hb (hp9.mp c2) _ p 0 (Nat.lt_succ_self _) (Nat.le_refl _) (Nat.le_of_lt hpN)
  · exact b_MO_cutUp_51 hi hG hN hdd ih hn hpN hT hf hM htk hnm hb (hp9.mp c1) _ p (Nat.lt_succ_self _) (Nat.le_refl _) (Nat.le_of_lt hpN) (fun j g1 g2 => by omega)
set_option maxRecDepth 100000 in
set_option maxHeartbeats 4000000 in
theorem b_MO_cutUp_15 {l : Launch} {G : jj_G} {h0 : jj_H} {A : Nat → Nat} {N : Nat} {f1 : Nat → Int32} {wr nw ow : Int32} {g d : Nat} (hi : mo_inj A) (hG : jj_tyG G) (hN : N ≤ 16384) (hdd : 6 ≤ d) : ∀ n, cu_I l G h0 A N f1 wr nw ow g d n := by
  intro n
  induction n with
  | zero =>
    intro p x2 x3 T M c h hn hs
    have e : x2 = 0 := Classical.not_not.mp (fun q => absurd (hn q) (Nat.not_lt_zero _))
    refine jj_iload_n (j := 2) (by decide +kernel) rfl ?_
    refine jj_if_eq (off := 692) (tgt := 708) (by decide +kernel) (by decide) (fun _ => b_MO_cutUp_708 hi hG hN hdd hs) (fun q => absurd e q)
  | succ n ih =>
    intro p x2 x3 T M c h hn hs
    refine jj_iload_n (j := 2) (by decide +kernel) rfl ?_
    refine jj_if_eq (off := 692) (tgt := 708) (by decide +kernel) (by decide) (fun _ => b_MO_cutUp_708 hi hG hN hdd hs) (fun c1 => ?_)
    obtain ⟨hf, hM, htk, hb, hpN, hx⟩ := id hs
    obtain ⟨-, g1, g2⟩ := hx.resolve_right (fun q => c1 q.1)
    obtain ⟨th, wh, S, b0, hS, hg, a1, a5, a6, a7, a9, a10, nd, fr, hz⟩ := hb.un
    refine jj_iload_n (j := 1) (by decide +kernel) rfl ?_
    refine jj_aload_n (j := 0) (by decide +kernel) rfl ?_
    refine jj_getfield 2 ck_MO fl_MO_51 (by decide) (by decide +kernel) b0 rfl ?_
    refine jj_icmp_ge (off := 684) (tgt := 708) (by decide +kernel) (by decide) (fun _ => b_MO_cutUp_708 hi hG hN hdd hs) (fun c2 => ?_)
    have hlt : p < N := Nat.not_le.mp (fun q9 => c2 (nI_le q9 (by omega)))
    exact b_MO_cutUp_27 hi hG hN hdd ih (hn c1) hlt g1 hf hM htk g2 hb
set_option maxRecDepth 100000 in
set_option maxHeartbeats 4000000 in
theorem m_cutUp {l : Launch} {G : jj_G} {h0 : jj_H} {A : Nat → Nat} {N T M : Nat} {c : Nat → Nat → Int32} {wr nw ow : Int32} {g d : Nat} {h : jj_H} (hi : mo_inj A) (hG : jj_tyG G) (hN : N ≤ 16384) (hdd : 6 ≤ d) (hM : M ≤ 1000) (hnm : mo_nm (c 10) M 135) (hb : Pb G (h0, A, N, T, M, c) wr nw ow g h) : jj_Q l G y_MO_cutUp d [.ref (A 0)] h (cu_F G h0 A N (c 1) wr nw ow g) := by
  refine jj_Q.of (by decide +kernel) (Nat.le_of_ble_eq_true rfl) ?_
  obtain ⟨th, wh, S, b0, hS, hg, a1, a5, a6, a7, a9, a10, nd, fr, hz⟩ := hb.un
  refine jj_aload_n (j := 0) (by decide +kernel) rfl ?_
  refine jj_iconst (n := 0) (v := nI 0) (by decide +kernel) (by decide) ?_
  refine jj_putfield 8 ck_MO fl_MO_80 (by decide) rfl (by decide +kernel) b0 rfl rfl (Nat.lt_of_sub_eq_succ rfl) ?_
  have hb := hb.obj hi th wr wh nw ow N 0 M hS hg
  refine jj_aload_n (j := 0) (by decide +kernel) rfl ?_
  refine jj_iconst (n := 0) (v := nI 0) (by decide +kernel) (by decide) ?_
  refine jj_callr (m_skip (d := d - 1) hG hN hb (by omega) (Nat.zero_le _)) (fun o1 h1 hC => jj_callV ok_MO_skip ml_MO_86 im_MO_skip se_MO_MO_skip (by decide +kernel) hb.rcv rfl (by omega) (Nat.le_of_ble_eq_true rfl) hC) (by rintro E h1 ⟨q, q1, -⟩; cases q1) ?_
  rintro v h9 ⟨r, hv, e9, s1, s2⟩
  cases hv
  subst e9
  refine jj_istore_n (j := 1) (by decide +kernel) (by decide) rfl ?_
  refine jj_iconst (n := 1) (v := 1) (by decide +kernel) (by decide) ?_
  refine jj_istore_n (j := 2) (by decide +kernel) (by decide) rfl ?_
  refine jj_iconst (n := (-1)) (v := (-1)) (by decide +kernel) (by decide) ?_
  refine jj_istore_n (j := 3) (by decide +kernel) (by decide) rfl ?_
  exact b_MO_cutUp_15 hi hG hN hdd (N + 1) r 1 (-1) 0 M c _ (fun _ => by omega) ⟨rfl, hM, ⟨fun i q => absurd q (Nat.not_lt_zero _), fun i q => absurd q (Nat.not_lt_zero _)⟩, hb, s2, Or.inl ⟨by decide, Nat.zero_le _, hnm.le (by omega)⟩⟩
