/-! the reference cuts its text up -/
def mo_tk (c : Nat → Nat → Int32) (T : Nat) : Prop := (∀ i, i < T → c 5 i = 2005 → 0 < c 6 i) ∧ (∀ i, i < T → c 5 i = 2003 → ∃ a b : Nat, c 7 i = nI a ∧ c 6 i = nI b ∧ a + 1 + b ≤ 16384)
def mo_tok (c : Nat → Nat → Int32) (T : Nat) (x y z : Int32) : Nat → Nat → Int32 := mo_u (mo_u (mo_u c 5 (upd (c 5) T x)) 6 (upd (c 6) T y)) 7 (upd (c 7) T z)
theorem mo_tk.tok {c : Nat → Nat → Int32} {T : Nat} {x y z : Int32} (h : mo_tk c T) (h1 : x = 2005 → 0 < y) (h2 : x = 2003 → ∃ a b : Nat, z = nI a ∧ y = nI b ∧ a + 1 + b ≤ 16384) : mo_tk (mo_tok c T x y z) (T + 1) := by
  have e5 : ∀ i, mo_tok c T x y z 5 i = upd (c 5) T x i := fun i => rfl
  have e6 : ∀ i, mo_tok c T x y z 6 i = upd (c 6) T y i := fun i => rfl
  have e7 : ∀ i, mo_tok c T x y z 7 i = upd (c 7) T z i := fun i => rfl
  refine ⟨fun i hi => ?_, fun i hi => ?_⟩
  · rw [e5, e6]
    by_cases e : i = T
    · subst e
      rw [pk_us, pk_us]
      exact h1
    · rw [pk_un e, pk_un e]
      exact h.1 i (by omega)
  · rw [e5, e6, e7]
    by_cases e : i = T
    · subst e
      rw [pk_us, pk_us, pk_us]
      exact h2
    · rw [pk_un e, pk_un e, pk_un e]
      exact h.2 i (by omega)
def cu_F (G : jj_G) (h0 : jj_H) (A : Nat → Nat) (N : Nat) (f1 : Nat → Int32) (wr nw ow : Int32) (g : Nat) : jj_O → jj_H → Prop := fun out h' => out = .inl none ∧ ∃ (T' M' : Nat) (c' : Nat → Nat → Int32), c' 1 = f1 ∧ M' ≤ 1000 ∧ mo_nm (c' 10) M' 16519 ∧ 1 ≤ T' ∧ T' ≤ 16385 ∧ (c' 5 (T' - 1) = 2004 ∨ c' 5 (T' - 1) = 2005) ∧ mo_tk c' T' ∧ Pb G (h0, A, N, T', M', c') wr nw ow g h'
def cu_S (G : jj_G) (h0 : jj_H) (A : Nat → Nat) (N : Nat) (f1 : Nat → Int32) (wr nw ow : Int32) (g p : Nat) (x2 : Int32) (T M : Nat) (c : Nat → Nat → Int32) (h : jj_H) : Prop := c 1 = f1 ∧ M ≤ 1000 ∧ mo_tk c T ∧ Pb G (h0, A, N, T, M, c) wr nw ow g h ∧ p ≤ N ∧ ((x2 ≠ 0 ∧ T ≤ p ∧ mo_nm (c 10) M (135 + p)) ∨ (x2 = 0 ∧ 1 ≤ T ∧ T ≤ N ∧ c 5 (T - 1) = 2005 ∧ mo_nm (c 10) M (135 + N)))
def cu_I (l : Launch) (G : jj_G) (h0 : jj_H) (A : Nat → Nat) (N : Nat) (f1 : Nat → Int32) (wr nw ow : Int32) (g d n : Nat) : Prop := ∀ (p : Nat) (x2 x3 : Int32) (T M : Nat) (c : Nat → Nat → Int32) (h : jj_H), (x2 ≠ 0 → N - p < n) → cu_S G h0 A N f1 wr nw ow g p x2 T M c h → jj_P l G y_MO_cutUp d (cu_F G h0 A N f1 wr nw ow g) 15 [some (.ref (A 0)), some (.int (nI p)), some (.int x2), some (.int x3), none, none, none, none, none] [] h
theorem and255 (b : Int32) : (b &&& 255) &&& 255 = b &&& 255 := by rw [Int32.and_assoc]; rfl
theorem mo_at.mark {N : Nat} {f : Nat → Int32} {p : Nat} (hp : p < N) : mo_at N f p + 500 ≠ 2005 ∧ mo_at N f p + 500 ≠ 2003 := by
  rw [mo_at, if_pos hp]
  refine ⟨fun e => ?_, fun e => ?_⟩
  · have e1 : f p &&& 255 = 1505 := by
      have e2 : (f p &&& 255) + 500 - 500 = 2005 - 500 := by rw [e]
      rw [Int32.add_sub_cancel] at e2
      rw [e2]
      rfl
    have e3 := and255 (f p)
    rw [e1] at e3
    exact absurd e3 (by decide)
  · have e1 : f p &&& 255 = 1503 := by
      have e2 : (f p &&& 255) + 500 - 500 = 2003 - 500 := by rw [e]
      rw [Int32.add_sub_cancel] at e2
      rw [e2]
      rfl
    have e3 := and255 (f p)
    rw [e1] at e3
    exact absurd e3 (by decide)
set_option maxRecDepth 100000 in
set_option maxHeartbeats 4000000 in
theorem b_MO_cutUp_708 {l : Launch} {G : jj_G} {h0 : jj_H} {A : Nat → Nat} {N : Nat} {f1 : Nat → Int32} {wr nw ow : Int32} {g d : Nat} {p T M : Nat} {x2 x3 : Int32} {c : Nat → Nat → Int32} {h : jj_H} (hi : mo_inj A) (hG : jj_tyG G) (hN : N ≤ 16384) (hdd : 6 ≤ d) (hs : cu_S G h0 A N f1 wr nw ow g p x2 T M c h) : jj_P l G y_MO_cutUp d (cu_F G h0 A N f1 wr nw ow g) 708 [some (.ref (A 0)), some (.int (nI p)), some (.int x2), some (.int x3), none, none, none, none, none] [] h := by
  obtain ⟨hf, hM, htk, hb, hpN, hx⟩ := hs
  obtain ⟨th, wh, S, b0, hS, hg, a1, a5, a6, a7, a9, a10, nd, fr, hz⟩ := hb.un
  refine jj_iload_n (j := 2) (by decide +kernel) rfl ?_
  refine jj_if_eq (off := 15) (tgt := 724) (by decide +kernel) (by decide) (fun c1 => ?_) (fun c1 => ?_)
  · obtain ⟨-, g1, g2, g3, g4⟩ := hx.resolve_left (fun q => q.1 c1)
    exact jj_vret (by decide +kernel) rfl ⟨rfl, T, M, c, hf, hM, g4.le (by omega), g1, by omega, Or.inr g3, htk, hb⟩
  · obtain ⟨-, g1, g2⟩ := hx.resolve_right (fun q => c1 q.1)
    refine jj_aload_n (j := 0) (by decide +kernel) rfl ?_
    refine jj_sipush (n := 2004) (v := 2004) (by decide +kernel) (by decide) ?_
    refine jj_iconst (n := 0) (v := 0) (by decide +kernel) (by decide) ?_
    refine jj_aload_n (j := 0) (by decide +kernel) rfl ?_
    refine jj_getfield 2 ck_MO fl_MO_51 (by decide) (by decide +kernel) b0 rfl ?_
    refine jj_callr (m_token (d := d - 1) hi hG hN hb (by omega)) (fun o1 h1 hC => jj_callV ok_MO_token ml_MO_103 im_MO_token se_MO_MO_token (by decide +kernel) hb.rcv rfl (by omega) (Nat.le_of_ble_eq_true rfl) hC) (by rintro E h1 ⟨q, -⟩; cases q) ?_
    rintro v h2 ⟨hv, hb2⟩
    cases hv
    exact jj_vret (by decide +kernel) rfl ⟨rfl, T + 1, M, mo_tok c T 2004 0 (nI N), hf, hM, g2.le (by omega), by omega, by omega, Or.inl pk_us, htk.tok (fun q => absurd q (by decide)) (fun q => absurd q (by decide)), hb2⟩
set_option maxRecDepth 100000 in
set_option maxHeartbeats 4000000 in
theorem b_MO_cutUp_651 {l : Launch} {G : jj_G} {h0 : jj_H} {A : Nat → Nat} {N : Nat} {f1 : Nat → Int32} {wr nw ow : Int32} {g d : Nat} {n p T M : Nat} {x2 x3 x4 x5 x y z : Int32} {c : Nat → Nat → Int32} {h : jj_H} (hi : mo_inj A) (hG : jj_tyG G) (hN : N ≤ 16384) (hdd : 6 ≤ d) (ih : cu_I l G h0 A N f1 wr nw ow g d n) (hn : N - p < n + 1) (hpN : p < N) (hT : T ≤ p) (hf : c 1 = f1) (hM : M ≤ 1000) (htk : mo_tk c T) (hb : Pb G (h0, A, N, T + 1, M, mo_tok c T x y z) wr nw ow g h) (hx : (x = 2005 ∧ 0 < y ∧ mo_nm (c 10) M (135 + N)) ∨ (x ≠ 2005 ∧ (x = 2003 → ∃ a b : Nat, z = nI a ∧ y = nI b ∧ a + 1 + b ≤ 16384) ∧ ∃ r, x5 = nI r ∧ p < r ∧ r ≤ N ∧ mo_nm (c 10) M (135 + r))) : jj_P l G y_MO_cutUp d (cu_F G h0 A N f1 wr nw ow g) 651 [some (.ref (A 0)), some (.int (nI p)), some (.int x2), some (.int x3), some (.int x4), some (.int x5), some (.int (nI T)), none, none] [] h := by
  obtain ⟨th, wh, S, b0, hS, hg, a1, a5, a6, a7, a9, a10, nd, fr, hz⟩ := hb.un
  have e5 : mo_tok c T x y z 5 T = x := pk_us
  have K689 : ∀ (y2 y3 : Int32), (y2 = 0 ↔ x = 2005) → jj_P l G y_MO_cutUp d (cu_F G h0 A N f1 wr nw ow g) 689 [some (.ref (A 0)), some (.int (nI p)), some (.int y2), some (.int x3), some (.int x4), some (.int x5), some (.int (nI T)), none, none] [.int y3] h := by
    intro y2 y3 hy
    refine jj_istore_n (j := 3) (by decide +kernel) (by decide) rfl ?_
    refine jj_iload_n (j := 2) (by decide +kernel) rfl ?_
    refine jj_if_eq (off := 12) (tgt := 703) (by decide +kernel) (by decide) (fun c1 => ?_) (fun c1 => ?_)
    · obtain ⟨e, g1, g2⟩ := hx.resolve_right (fun q => q.1 (hy.mp c1))
      refine jj_iload_n (j := 1) (by decide +kernel) rfl ?_
      refine jj_istore_n (j := 1) (by decide +kernel) (by decide) rfl ?_
      refine jj_goto (off := (-690)) (tgt := 15) (by decide +kernel) (by decide) ?_
      exact jj_wk (js_s (js_s (js_s (js_s (js_n (js_n (js_n (js_n (js_n (js_0)))))))))) (ih p y2 y3 (T + 1) M (mo_tok c T x y z) h (fun q => absurd c1 q) ⟨hf, hM, htk.tok (fun _ => g1) (fun q => by rw [e] at q; exact absurd q (by decide)), hb, by omega, Or.inr ⟨c1, by omega, by omega, e5.trans e, g2⟩⟩)
    · obtain ⟨e, g1, r, rfl, g2, g3, g4⟩ := hx.resolve_left (fun q => c1 (hy.mpr q.1))
      refine jj_aload_n (j := 0) (by decide +kernel) rfl ?_
      refine jj_iload (i := 5) (by decide +kernel) rfl ?_
      refine jj_callr (m_skip (d := d - 1) hG hN hb (by omega) g3) (fun o1 h1 hC => jj_callV ok_MO_skip ml_MO_86 im_MO_skip se_MO_MO_skip (by decide +kernel) hb.rcv rfl (by omega) (Nat.le_of_ble_eq_true rfl) hC) (by rintro E h1 ⟨q, q1, -⟩; cases q1) ?_
      rintro v h9 ⟨r2, hv, e9, s1, s2⟩
      cases hv
      have e9 := e9.symm
      subst e9
      refine jj_goto (off := 4) (tgt := 704) (by decide +kernel) (by decide) ?_
      refine jj_istore_n (j := 1) (by decide +kernel) (by decide) rfl ?_
      refine jj_goto (off := (-690)) (tgt := 15) (by decide +kernel) (by decide) ?_
      exact jj_wk (js_s (js_s (js_s (js_s (js_n (js_n (js_n (js_n (js_n (js_0)))))))))) (ih r2 y2 y3 (T + 1) M (mo_tok c T x y z) h (fun _ => by omega) ⟨hf, hM, htk.tok (fun q => absurd q e) g1, hb, s2, Or.inl ⟨c1, by omega, g4.le (by omega)⟩⟩)
  have K669 : ∀ (y2 : Int32), (y2 = 0 ↔ x = 2005) → jj_P l G y_MO_cutUp d (cu_F G h0 A N f1 wr nw ow g) 669 [some (.ref (A 0)), some (.int (nI p)), some (.int x2), some (.int x3), some (.int x4), some (.int x5), some (.int (nI T)), none, none] [.int y2] h := by
    intro y2 hy
    refine jj_istore_n (j := 2) (by decide +kernel) (by decide) rfl ?_
    refine jj_aload_n (j := 0) (by decide +kernel) rfl ?_
    refine jj_getfield 5 ck_MO fl_MO_17 (by decide) (by decide +kernel) b0 rfl ?_
    refine jj_iload (i := 6) (by decide +kernel) rfl ?_
    refine jj_iaload (jj_tI hG) (by decide +kernel) a5 (vp_in_nI (show T < 16386 by omega) (by decide)) ?_
    rw [nI_clamp (show T < 2 ^ 31 by omega), e5]
    refine jj_sipush (n := 2000) (v := 2000) (by decide +kernel) (by decide) ?_
    refine jj_icmp_ne (off := 8) (tgt := 688) (by decide +kernel) (by decide) (fun c1 => ?_) (fun c1 => ?_)
    · refine jj_iconst (n := (-1)) (v := (-1)) (by decide +kernel) (by decide) ?_
      exact K689 y2 (-1) hy
    · refine jj_iload (i := 5) (by decide +kernel) rfl ?_
      refine jj_goto (off := 4) (tgt := 689) (by decide +kernel) (by decide) ?_
      exact K689 y2 _ hy
  refine jj_aload_n (j := 0) (by decide +kernel) rfl ?_
  refine jj_getfield 5 ck_MO fl_MO_17 (by decide) (by decide +kernel) b0 rfl ?_
  refine jj_iload (i := 6) (by decide +kernel) rfl ?_
  refine jj_iaload (jj_tI hG) (by decide +kernel) a5 (vp_in_nI (show T < 16386 by omega) (by decide)) ?_
  rw [nI_clamp (show T < 2 ^ 31 by omega), e5]
  refine jj_sipush (n := 2005) (v := 2005) (by decide +kernel) (by decide) ?_
  refine jj_icmp_eq (off := 7) (tgt := 668) (by decide +kernel) (by decide) (fun c1 => ?_) (fun c1 => ?_)
  · refine jj_iconst (n := 0) (v := 0) (by decide +kernel) (by decide) ?_
    exact K669 0 ⟨fun _ => c1, fun _ => rfl⟩
  · refine jj_iconst (n := 1) (v := 1) (by decide +kernel) (by decide) ?_
    refine jj_goto (off := 4) (tgt := 669) (by decide +kernel) (by decide) ?_
    exact K669 1 ⟨fun q => absurd q (by decide), fun q => absurd q c1⟩
