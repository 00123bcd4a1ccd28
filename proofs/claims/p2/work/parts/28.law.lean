/-! the law's loop, over what it must know of the reference: own are its cells, R N t h: it holds a text of N characters and has t as its last refusal -/
abbrev y_law : jj_Y := (x, code, 7, ret, [])
def rf_W (own : Nat → Prop) (R : Nat → Int32 → jj_H → Prop) (N' : Nat) (t' : Int32) (h : jj_H) : jj_O → jj_H → Prop := fun o h' => o = .inl none ∧ R N' t' h' ∧ (∀ q, ¬ own q → h'.1 q = h.1 q) ∧ h'.2 = h.2
def rf_I (own : Nat → Prop) (R : Nat → Int32 → jj_H → Prop) (N' : Nat) (V : Int32 → Prop) (h : jj_H) : jj_O → jj_H → Prop := fun o h' => ∃ v, o = .inl (some (.int v)) ∧ V v ∧ (∃ t, R N' t h') ∧ (∀ q, ¬ own q → h'.1 q = h.1 q) ∧ h'.2 = h.2
def rf_ok (l : Launch) (G : jj_G) (m : Nat) (own : Nat → Prop) (R : Nat → Int32 → jj_H → Prop) (d : Nat) : Prop :=
  (∀ N t h h', (∀ q, own q → h'.1 q = h.1 q) → R N t h → R N t h') ∧ (∀ N t h, R N t h → jj_rcv G h m "SourceTreeModel") ∧
  (∀ N t h x y z w, N ≤ 16384 → R N t h → jj_Q l G y_MO_text d [.ref m, .int x, .int y, .int z, .int w] h (rf_W own R (if N ≤ 16368 then N + 16 else N) (if N ≤ 16368 then 0 else 1) h)) ∧
  (∀ N t h x, N ≤ 16384 → R N t h → jj_Q l G y_MO_cut d [.ref m, .int x] h (rf_W own R (if x < 0 ∨ nI N < x then N else x.toNatClampNeg) (if x < 0 ∨ nI N < x then 1 else 0) h)) ∧
  (∀ N t h, N ≤ 16384 → R N t h → jj_Q l G y_MO_length d [.ref m] h (rf_I own R N (fun v => v = nI N) h)) ∧
  (∀ N t h, N ≤ 16384 → R N t h → jj_Q l G y_MO_read d [.ref m] h (rf_I own R N (fun _ => True) h)) ∧
  (∀ N t h, N ≤ 16384 → R N t h → jj_Q l G y_MO_place d [.ref m] h (rf_I own R N (fun _ => True) h)) ∧
  (∀ N t h, N ≤ 16384 → R N t h → jj_Q l G y_MO_nodes d [.ref m] h (rf_I own R N (fun _ => True) h)) ∧
  (∀ N t h x y, N ≤ 16384 → R N t h → jj_Q l G y_MO_node d [.ref m, .int x, .int y] h (rf_I own R N (fun _ => True) h)) ∧
  (∀ N t h, N ≤ 16384 → R N t h → jj_Q l G y_MO_names d [.ref m] h (rf_I own R N (fun _ => True) h)) ∧
  (∀ N t h x y, N ≤ 16384 → R N t h → jj_Q l G y_MO_name d [.ref m, .int x, .int y] h (rf_I own R N (fun _ => True) h)) ∧
  (∀ N t h, N ≤ 16384 → R N t h → jj_Q l G y_MO_thrown d [.ref m] h (rf_I own R N (fun v => v = t) h))
theorem Sy.rebase {G : jj_G} {X : sy_X} {K o N : Nat} {h h' : jj_H} {k1 k2 : Nat} (hs : Sy G X K o N h) (hk : ∀ q, q < h.2.1 → (X.2.1 q ∨ X.1.2.1 ≤ q) → h'.1 q = h.1 q) (hz : h.2.1 ≤ h'.2.1) (h1 : h'.2.1 + X.2.2.2.1 ≤ h.2.1 + k1) (h2 : h'.2.2 + X.2.2.2.2.1 ≤ h.2.2 + k2) :
    ∃ own' : Nat → Prop, Sy G (h', own', X.2.2.1, k1, k2, X.2.2.2.2.2) K o N h' ∧ (∀ q, q < X.1.2.1 → ¬ X.2.1 q → ¬ own' q) ∧ ∀ q, h.2.1 ≤ q → ¬ own' q := by
  obtain ⟨w, c, a1, a2, a3, a4, a5, a6, a7, a8, a9, a10⟩ := hs
  have hkeep : ∀ q, q < h.2.1 → w q < 13 → h'.1 q = h.1 q := by
    intro q hq hw
    rcases Nat.lt_or_ge q X.1.2.1 with h9 | h9
    · exact hk q hq (Or.inl (a5 q hw h9))
    · exact hk q hq (Or.inr h9)
  have hw' : ∀ q, q < h.2.1 → (fun q => if q < h.2.1 then w q else 13) q = w q := fun q hq => if_pos hq
  refine ⟨fun q => w q < 13 ∧ q < h.2.1, ⟨fun q => if q < h.2.1 then w q else 13, c, fun t ht hon => ?_, fun t h7 ht hon => ?_, a3.keep (fun i g1 g2 g3 => ?_), fun i hi hon => ?_, fun q hq hlt => ?_, fun q hq hno => rfl, Nat.le_refl _, ?_, ?_, a10⟩, fun q hq hno hw => hno (a5 q hw.1 hq), fun q hq hw => absurd hw.2 (Nat.not_lt.mpr hq)⟩
  · exact (a1 t ht hon).keep (a4 t (by omega) hon) (fun q hq hw9 => hkeep q hq (by omega)) hz hw' rfl (fun _ => rfl)
  · exact (a2 t h7 ht hon).keep (a4 t (by omega) hon) (fun q hq hw9 => hkeep q hq (by omega)) hz hw' rfl (fun _ => rfl)
  · exact hkeep _ (a4 i g2 g3).2 (by rw [(a4 i g2 g3).1]; exact g2)
  · exact ⟨(hw' _ (a4 i hi hon).2).trans (a4 i hi hon).1, Nat.lt_of_lt_of_le (a4 i hi hon).2 hz⟩
  · have hq9 : (if q < h.2.1 then w q else 13) < 13 := hq
    by_cases h9 : q < h.2.1
    · rw [if_pos h9] at hq9
      exact ⟨hq9, h9⟩
    · rw [if_neg h9] at hq9
      omega
  · show 64 * h'.2.1 ≤ 64 * (k1 + K) + sy_sum c
    omega
  · show h'.2.2 ≤ k2 + 6 * K + 2 * sy_sum c
    omega
theorem Sy.bound {G : jj_G} {X : sy_X} {K o N : Nat} {h : jj_H} (hs : Sy G X K o N h) (hX : X.2.2.2.2.2 = false) (hK : K ≤ 512) : h.2.1 ≤ X.2.2.2.1 + 28637 ∧ h.2.2 ≤ X.2.2.2.2.1 + 3603072 := by
  obtain ⟨w, c, a1, a2, a3, a4, a5, a6, a7, a8, a9, a10⟩ := hs
  have b : ∀ t, t < 9 → c t ≤ 200000 := by
    intro t ht
    rcases Nat.lt_or_ge t 7 with h7 | h7
    · obtain ⟨a, f, n, r1, r2, r3, r4, r5, r6, -⟩ := a1 t h7 (sy_o hX)
      exact r6
    · obtain ⟨a, f, n, r1, r2, r3, r4, r5, r6, -⟩ := a2 t h7 ht (sy_o hX)
      exact r6
  have hsum : sy_sum c ≤ 1800000 := by
    have b0 := b 0 (by decide)
    have b1 := b 1 (by decide)
    have b2 := b 2 (by decide)
    have b3 := b 3 (by decide)
    have b4 := b 4 (by decide)
    have b5 := b 5 (by decide)
    have b6 := b 6 (by decide)
    have b7 := b 7 (by decide)
    have b8 := b 8 (by decide)
    unfold sy_sum
    omega
  omega
/-- what stands at the loop's head with i ints read -/
def li (G : jj_G) (own : Nat → Prop) (R : Nat → Int32 → jj_H → Prop) (x q k1 k2 i : Nat) (h : jj_H) : Prop :=
  ∃ (X : sy_X) (K o N : Nat) (t : Int32) (f : Nat → Int64), X.2.2.2.2.2 = false ∧ X.2.2.1 9 = x ∧ X.1 = h ∧ X.2.2.2.1 = k1 ∧ X.2.2.2.2.1 = k2 ∧ Sy G X K o N h ∧ N ≤ 16384 ∧ R N t h ∧ (∀ z, own z → z < h.2.1 ∧ ¬ X.2.1 z) ∧ h.1 q = some (.inl (jj_cL G, 1, .inr (.inl f))) ∧ q < h.2.1 ∧ ¬ X.2.1 q ∧ ¬ own q ∧ 5 * K ≤ i
def lx_F (k1 k2 : Nat) : jj_O → jj_H → Prop := fun out h' => out = .inl (some (.int 1)) ∧ h'.2.1 ≤ k1 + 28637 ∧ h'.2.2 ≤ k2 + 3603072
abbrev lx_L (G : jj_G) (x m q i : Nat) : List (Option Value) := [some (.ref G.2.2.2.2.2.1), some (.ref x), some (.ref m), some (.ref q), some (.int (nI i)), none, none]
def lx_ih (l : Launch) (G : jj_G) (own : Nat → Prop) (R : Nat → Int32 → jj_H → Prop) (x m q k1 k2 n : Nat) : Prop := ∀ (i : Nat) (h : jj_H), G.2.2.2.2.2.2.1 + 5 - i < n → i ≤ 2560 → li G own R x q k1 k2 i h → jj_P l G y_law 2000 (lx_F k1 k2) 23 (lx_L G x m q i) [] h
theorem li.step {G : jj_G} {own : Nat → Prop} {R : Nat → Int32 → jj_H → Prop} {q i K K1 o1 N1 : Nat} {X : sy_X} {h1 h2 : jj_H} {t : Int32} {f : Nat → Int64} (hX : X.2.2.2.2.2 = false) (hS : Sy G X K1 o1 N1 h1) (hN1 : N1 ≤ 16384) (hK1 : K1 ≤ K + 1) (hKi : 5 * K ≤ i) (hown : ∀ z, own z → z < X.1.2.1 ∧ ¬ X.2.1 z) (hq1 : q < X.1.2.1) (hq2 : ¬ X.2.1 q) (hq3 : ¬ own q) (hR : R N1 t h2) (he : ∀ z, ¬ own z → z ≠ q → h2.1 z = h1.1 z) (hq : h2.1 q = some (.inl (jj_cL G, 1, .inr (.inl f)))) (hz : h2.2 = h1.2) : li G own R (X.2.2.1 9) q X.2.2.2.1 X.2.2.2.2.1 (i + 5) h2 := by
  have z1 : h2.2.1 = h1.2.1 := by rw [hz]
  have z2 : h2.2.2 = h1.2.2 := by rw [hz]
  have hle := hS.frame.1
  obtain ⟨own', hS2, ha, hb⟩ := hS.rebase (h' := h2) (k1 := X.2.2.2.1) (k2 := X.2.2.2.2.1) (fun z hz9 hc => he z (fun ho => by
      have h9 := hown z ho
      rcases hc with hc | hc
      · exact h9.2 hc
      · omega) (fun e => by
      subst e
      rcases hc with hc | hc
      · exact hq2 hc
      · omega)) (by omega) (by omega) (by omega)
  exact ⟨(h2, own', X.2.2.1, X.2.2.2.1, X.2.2.2.2.1, X.2.2.2.2.2), K1, o1, N1, t, f, hX, rfl, rfl, rfl, rfl, hS2, hN1, hR, fun z hz9 => ⟨by have := (hown z hz9).1; omega, ha z (hown z hz9).1 (hown z hz9).2⟩, hq, by omega, ha q hq1 hq2, hq3, by omega⟩
section LWL
variable {l : Launch} {G : jj_G} {own : Nat → Prop} {R : Nat → Int32 → jj_H → Prop} {x m q k1 k2 n i : Nat} {h : jj_H}
theorem b_law_330 (ih : lx_ih l G own R x m q k1 k2 n) (hm : G.2.2.2.2.2.2.1 + 5 - i < n + 1) (hi : i + 5 ≤ G.2.2.2.2.2.2.1) (hL : G.2.2.2.2.2.2.1 ≤ 2560) (hli : li G own R x q k1 k2 (i + 5) h) : jj_P l G y_law 2000 (lx_F k1 k2) 330 (lx_L G x m q i) [] h := by
  refine jj_iinc (i := 4) (n := 5) (v := nI (i + 5)) (by decide +kernel) rfl (by rw [show Int32.ofInt 5 = nI 5 from rfl]; exact nI_add i 5) (by decide) rfl ?_
  refine jj_goto (off := (-310)) (tgt := 23) (by decide +kernel) (by decide) ?_
  exact ih (i + 5) h (by omega) (by omega) hli
set_option maxRecDepth 100000 in
set_option maxHeartbeats 4000000 in
theorem b_law_88 (hG : jj_tyG G) (hrf : rf_ok l G m own R 1900) (ih : lx_ih l G own R x m q k1 k2 n) (hm : G.2.2.2.2.2.2.1 + 5 - i < n + 1) (hi : i + 5 ≤ G.2.2.2.2.2.2.1) (hL : G.2.2.2.2.2.2.1 ≤ 2560) (hli : li G own R x q k1 k2 i h) : jj_P l G y_law 2000 (lx_F k1 k2) 88 (lx_L G x m q i) [] h := by
  obtain ⟨X, K, o, N, t, f, hX, rfl, hb, rfl, rfl, hs, hN, hR, hown, hq, hq1, hq2, hq3, hKi⟩ := hli
  subst hb
  have hGX : sy_G G X := ⟨hG, hX⟩
  obtain ⟨rloc, rrcv, rtext, rcut, rlen, rread, rplace, rnodes, rnode, rnames, rname, rthr⟩ := hrf
  refine jj_aload_n (j := 1) (by decide +kernel) rfl ?_
  refine jj_aload_n (j := 0) (by decide +kernel) rfl ?_
  refine jj_iload (i := 4) (by decide +kernel) rfl ?_
  refine jj_iconst (n := 1) (v := 1) (by decide +kernel) (by decide) ?_
  refine jj_iadd (by decide +kernel) ?_
  rw [show nI i + 1 = nI (i + 1) from nI_add i 1]
  refine jj_scrload (vp_in_nI (by omega) (by omega)) (by decide +kernel) ?_
  refine jj_aload_n (j := 0) (by decide +kernel) rfl ?_
  refine jj_iload (i := 4) (by decide +kernel) rfl ?_
  refine jj_iconst (n := 2) (v := 2) (by decide +kernel) (by decide) ?_
  refine jj_iadd (by decide +kernel) ?_
  rw [show nI i + 2 = nI (i + 2) from nI_add i 2]
  refine jj_scrload (vp_in_nI (by omega) (by omega)) (by decide +kernel) ?_
  refine jj_aload_n (j := 0) (by decide +kernel) rfl ?_
  refine jj_iload (i := 4) (by decide +kernel) rfl ?_
  refine jj_iconst (n := 3) (v := 3) (by decide +kernel) (by decide) ?_
  refine jj_iadd (by decide +kernel) ?_
  rw [show nI i + 3 = nI (i + 3) from nI_add i 3]
  refine jj_scrload (vp_in_nI (by omega) (by omega)) (by decide +kernel) ?_
  refine jj_aload_n (j := 0) (by decide +kernel) rfl ?_
  refine jj_iload (i := 4) (by decide +kernel) rfl ?_
  refine jj_iconst (n := 4) (v := 4) (by decide +kernel) (by decide) ?_
  refine jj_iadd (by decide +kernel) ?_
  rw [show nI i + 4 = nI (i + 4) from nI_add i 4]
  refine jj_scrload (vp_in_nI (by omega) (by omega)) (by decide +kernel) ?_
  refine jj_callr (c_LW_text (d := 1900) hGX hN (by omega) hs) (fun o1 h1 hC => jj_callS ok_LW_text ml_LW_34 st_LW_text (by decide +kernel) rfl (by omega) (Nat.le_of_ble_eq_true rfl) hC) (by rintro E h9 (⟨-, q9, -⟩ | ⟨-, q9, -⟩) <;> cases q9) ?_
  rintro v h1 (⟨hN2, hv, hS⟩ | ⟨hN2, hv, hS⟩)
  · cases hv
    have hfr := hS.frame.2
    have hR1 : R N t h1 := rloc N t _ _ (fun z hz => hfr z (hown z hz).1 (hown z hz).2) hR
    have hq4 : h1.1 q = some (.inl (jj_cL G, 1, .inr (.inl f))) := (hfr q hq1 hq2).trans hq
    refine jj_istore (i := 5) (by decide +kernel) (by decide) rfl ?_
    refine jj_aload_n (j := 2) (by decide +kernel) rfl ?_
    refine jj_aload_n (j := 0) (by decide +kernel) rfl ?_
    refine jj_iload (i := 4) (by decide +kernel) rfl ?_
    refine jj_iconst (n := 1) (v := 1) (by decide +kernel) (by decide) ?_
    refine jj_iadd (by decide +kernel) ?_
    rw [show nI i + 1 = nI (i + 1) from nI_add i 1]
    refine jj_scrload (vp_in_nI (by omega) (by omega)) (by decide +kernel) ?_
    refine jj_aload_n (j := 0) (by decide +kernel) rfl ?_
    refine jj_iload (i := 4) (by decide +kernel) rfl ?_
    refine jj_iconst (n := 2) (v := 2) (by decide +kernel) (by decide) ?_
    refine jj_iadd (by decide +kernel) ?_
    rw [show nI i + 2 = nI (i + 2) from nI_add i 2]
    refine jj_scrload (vp_in_nI (by omega) (by omega)) (by decide +kernel) ?_
    refine jj_aload_n (j := 0) (by decide +kernel) rfl ?_
    refine jj_iload (i := 4) (by decide +kernel) rfl ?_
    refine jj_iconst (n := 3) (v := 3) (by decide +kernel) (by decide) ?_
    refine jj_iadd (by decide +kernel) ?_
    rw [show nI i + 3 = nI (i + 3) from nI_add i 3]
    refine jj_scrload (vp_in_nI (by omega) (by omega)) (by decide +kernel) ?_
    refine jj_aload_n (j := 0) (by decide +kernel) rfl ?_
    refine jj_iload (i := 4) (by decide +kernel) rfl ?_
    refine jj_iconst (n := 4) (v := 4) (by decide +kernel) (by decide) ?_
    refine jj_iadd (by decide +kernel) ?_
    rw [show nI i + 4 = nI (i + 4) from nI_add i 4]
    refine jj_scrload (vp_in_nI (by omega) (by omega)) (by decide +kernel) ?_
    refine jj_callr (rtext _ _ _ _ _ _ _ hN hR1) (fun o1 h1 hC => jj_callV ok_MO_text ml_LW_39 im_MO_text se_MO_MO_text (by decide +kernel) (rrcv _ _ _ hR1) rfl (by omega) (Nat.le_of_ble_eq_true rfl) hC) (by rintro E h9 ⟨q9, -⟩; cases q9) ?_
    rintro v h2 ⟨hv, hR2, e2, z2⟩
    cases hv
    rw [if_pos hN2, if_pos hN2] at hR2
    refine jj_aload_n (j := 2) (by decide +kernel) rfl ?_
    refine jj_callr (rthr (N + 16) _ _ (by omega) hR2) (fun o1 h1 hC => jj_callV ok_MO_thrown ml_LW_40 im_MO_thrown se_MO_MO_thrown (by decide +kernel) (rrcv _ _ _ hR2) rfl (by omega) (Nat.le_of_ble_eq_true rfl) hC) (by rintro E h9 ⟨v9, q9, -⟩; cases q9) ?_
    rintro v h3 ⟨v9, hv, hV, ⟨t3, hR3⟩, e3, z3⟩
    cases hv
    refine jj_iload (i := 5) (by decide +kernel) rfl ?_
    refine jj_icmp_eq (off := 5) (tgt := 157) (by decide +kernel) (by decide) (fun _ => ?_) (fun c9 => absurd hV c9)
    refine jj_goto (off := 173) (tgt := 330) (by decide +kernel) (by decide) ?_
    exact jj_wk (js_s (js_s (js_s (js_s (js_s (js_n (js_n js_0))))))) (b_law_330 ih hm hi hL (li.step (K := K) (N1 := N + 16) hX hS (by omega) (by omega) hKi hown hq1 hq2 hq3 hR3 (fun z h9 _ => (e3 z h9).trans (e2 z h9)) ((e3 q hq3).trans ((e2 q hq3).trans hq4)) (z3.trans z2)))
  · cases hv
    have hfr := hS.frame.2
    have hR1 : R N t h1 := rloc N t _ _ (fun z hz => hfr z (hown z hz).1 (hown z hz).2) hR
    have hq4 : h1.1 q = some (.inl (jj_cL G, 1, .inr (.inl f))) := (hfr q hq1 hq2).trans hq
    refine jj_istore (i := 5) (by decide +kernel) (by decide) rfl ?_
    refine jj_aload_n (j := 2) (by decide +kernel) rfl ?_
    refine jj_aload_n (j := 0) (by decide +kernel) rfl ?_
    refine jj_iload (i := 4) (by decide +kernel) rfl ?_
    refine jj_iconst (n := 1) (v := 1) (by decide +kernel) (by decide) ?_
    refine jj_iadd (by decide +kernel) ?_
    rw [show nI i + 1 = nI (i + 1) from nI_add i 1]
    refine jj_scrload (vp_in_nI (by omega) (by omega)) (by decide +kernel) ?_
    refine jj_aload_n (j := 0) (by decide +kernel) rfl ?_
    refine jj_iload (i := 4) (by decide +kernel) rfl ?_
    refine jj_iconst (n := 2) (v := 2) (by decide +kernel) (by decide) ?_
    refine jj_iadd (by decide +kernel) ?_
    rw [show nI i + 2 = nI (i + 2) from nI_add i 2]
    refine jj_scrload (vp_in_nI (by omega) (by omega)) (by decide +kernel) ?_
    refine jj_aload_n (j := 0) (by decide +kernel) rfl ?_
    refine jj_iload (i := 4) (by decide +kernel) rfl ?_
    refine jj_iconst (n := 3) (v := 3) (by decide +kernel) (by decide) ?_
    refine jj_iadd (by decide +kernel) ?_
    rw [show nI i + 3 = nI (i + 3) from nI_add i 3]
    refine jj_scrload (vp_in_nI (by omega) (by omega)) (by decide +kernel) ?_
    refine jj_aload_n (j := 0) (by decide +kernel) rfl ?_
    refine jj_iload (i := 4) (by decide +kernel) rfl ?_
    refine jj_iconst (n := 4) (v := 4) (by decide +kernel) (by decide) ?_
    refine jj_iadd (by decide +kernel) ?_
    rw [show nI i + 4 = nI (i + 4) from nI_add i 4]
    refine jj_scrload (vp_in_nI (by omega) (by omega)) (by decide +kernel) ?_
    refine jj_callr (rtext _ _ _ _ _ _ _ hN hR1) (fun o1 h1 hC => jj_callV ok_MO_text ml_LW_39 im_MO_text se_MO_MO_text (by decide +kernel) (rrcv _ _ _ hR1) rfl (by omega) (Nat.le_of_ble_eq_true rfl) hC) (by rintro E h9 ⟨q9, -⟩; cases q9) ?_
    rintro v h2 ⟨hv, hR2, e2, z2⟩
    cases hv
    rw [if_neg (Nat.not_le.mpr hN2), if_neg (Nat.not_le.mpr hN2)] at hR2
    refine jj_aload_n (j := 2) (by decide +kernel) rfl ?_
    refine jj_callr (rthr (N) _ _ (by omega) hR2) (fun o1 h1 hC => jj_callV ok_MO_thrown ml_LW_40 im_MO_thrown se_MO_MO_thrown (by decide +kernel) (rrcv _ _ _ hR2) rfl (by omega) (Nat.le_of_ble_eq_true rfl) hC) (by rintro E h9 ⟨v9, q9, -⟩; cases q9) ?_
    rintro v h3 ⟨v9, hv, hV, ⟨t3, hR3⟩, e3, z3⟩
    cases hv
    refine jj_iload (i := 5) (by decide +kernel) rfl ?_
    refine jj_icmp_eq (off := 5) (tgt := 157) (by decide +kernel) (by decide) (fun _ => ?_) (fun c9 => absurd hV c9)
    refine jj_goto (off := 173) (tgt := 330) (by decide +kernel) (by decide) ?_
    exact jj_wk (js_s (js_s (js_s (js_s (js_s (js_n (js_n js_0))))))) (b_law_330 ih hm hi hL (li.step (K := K) (N1 := N) hX hS (by omega) (by omega) hKi hown hq1 hq2 hq3 hR3 (fun z h9 _ => (e3 z h9).trans (e2 z h9)) ((e3 q hq3).trans ((e2 q hq3).trans hq4)) (z3.trans z2)))
set_option maxRecDepth 100000 in
set_option maxHeartbeats 4000000 in
theorem b_law_160 (hG : jj_tyG G) (hrf : rf_ok l G m own R 1900) (ih : lx_ih l G own R x m q k1 k2 n) (hm : G.2.2.2.2.2.2.1 + 5 - i < n + 1) (hi : i + 5 ≤ G.2.2.2.2.2.2.1) (hL : G.2.2.2.2.2.2.1 ≤ 2560) (hli : li G own R x q k1 k2 i h) : jj_P l G y_law 2000 (lx_F k1 k2) 160 (lx_L G x m q i) [] h := by
  obtain ⟨X, K, o, N, t, f, hX, rfl, hb, rfl, rfl, hs, hN, hR, hown, hq, hq1, hq2, hq3, hKi⟩ := hli
  subst hb
  have hGX : sy_G G X := ⟨hG, hX⟩
  obtain ⟨rloc, rrcv, rtext, rcut, rlen, rread, rplace, rnodes, rnode, rnames, rname, rthr⟩ := hrf
  refine jj_aload_n (j := 1) (by decide +kernel) rfl ?_
  refine jj_aload_n (j := 0) (by decide +kernel) rfl ?_
  refine jj_iload (i := 4) (by decide +kernel) rfl ?_
  refine jj_iconst (n := 1) (v := 1) (by decide +kernel) (by decide) ?_
  refine jj_iadd (by decide +kernel) ?_
  rw [show nI i + 1 = nI (i + 1) from nI_add i 1]
  refine jj_scrload (vp_in_nI (by omega) (by omega)) (by decide +kernel) ?_
  refine jj_callr (c_LW_cut (d := 1900) hGX hN (by omega) hs) (fun o1 h1 hC => jj_callS ok_LW_cut ml_LW_44 st_LW_cut (by decide +kernel) rfl (by omega) (Nat.le_of_ble_eq_true rfl) hC) (by rintro E h9 (⟨j, -, -, q9, -⟩ | ⟨-, q9, -⟩) <;> cases q9) ?_
  rintro v h1 (⟨j, hj, hxj, hv, hS⟩ | ⟨hc, hv, hS⟩)
  · cases hv
    have hfr := hS.frame.2
    have hR1 : R N t h1 := rloc N t _ _ (fun z hz => hfr z (hown z hz).1 (hown z hz).2) hR
    have hq4 : h1.1 q = some (.inl (jj_cL G, 1, .inr (.inl f))) := (hfr q hq1 hq2).trans hq
    refine jj_istore (i := 5) (by decide +kernel) (by decide) rfl ?_
    refine jj_aload_n (j := 2) (by decide +kernel) rfl ?_
    refine jj_aload_n (j := 0) (by decide +kernel) rfl ?_
    refine jj_iload (i := 4) (by decide +kernel) rfl ?_
    refine jj_iconst (n := 1) (v := 1) (by decide +kernel) (by decide) ?_
    refine jj_iadd (by decide +kernel) ?_
    rw [show nI i + 1 = nI (i + 1) from nI_add i 1]
    refine jj_scrload (vp_in_nI (by omega) (by omega)) (by decide +kernel) ?_
    refine jj_callr (rcut _ _ _ _ hN hR1) (fun o1 h1 hC => jj_callV ok_MO_cut ml_LW_47 im_MO_cut se_MO_MO_cut (by decide +kernel) (rrcv _ _ _ hR1) rfl (by omega) (Nat.le_of_ble_eq_true rfl) hC) (by rintro E h9 ⟨q9, -⟩; cases q9) ?_
    rintro v h2 ⟨hv, hR2, e2, z2⟩
    cases hv
    have hn9 : ¬ (nI j < 0 ∨ nI N < nI j) := by
      rintro (c9 | c9)
      · exact nI_pos (by omega) c9
      · exact nI_nlt hj (by omega) c9
    rw [hxj, if_neg hn9, if_neg hn9, nI_clamp (show j < 2 ^ 31 by omega)] at hR2
    refine jj_goto (off := 148) (tgt := 330) (by decide +kernel) (by decide) ?_
    exact jj_wk (js_s (js_s (js_s (js_s (js_s (js_n (js_n js_0))))))) (b_law_330 ih hm hi hL (li.step (K := K) (N1 := j) hX hS (by omega) (by omega) hKi hown hq1 hq2 hq3 hR2 (fun z h9 _ => e2 z h9) ((e2 q hq3).trans hq4) z2))
  · cases hv
    have hfr := hS.frame.2
    have hR1 : R N t h1 := rloc N t _ _ (fun z hz => hfr z (hown z hz).1 (hown z hz).2) hR
    have hq4 : h1.1 q = some (.inl (jj_cL G, 1, .inr (.inl f))) := (hfr q hq1 hq2).trans hq
    refine jj_istore (i := 5) (by decide +kernel) (by decide) rfl ?_
    refine jj_aload_n (j := 2) (by decide +kernel) rfl ?_
    refine jj_aload_n (j := 0) (by decide +kernel) rfl ?_
    refine jj_iload (i := 4) (by decide +kernel) rfl ?_
    refine jj_iconst (n := 1) (v := 1) (by decide +kernel) (by decide) ?_
    refine jj_iadd (by decide +kernel) ?_
    rw [show nI i + 1 = nI (i + 1) from nI_add i 1]
    refine jj_scrload (vp_in_nI (by omega) (by omega)) (by decide +kernel) ?_
    refine jj_callr (rcut _ _ _ _ hN hR1) (fun o1 h1 hC => jj_callV ok_MO_cut ml_LW_47 im_MO_cut se_MO_MO_cut (by decide +kernel) (rrcv _ _ _ hR1) rfl (by omega) (Nat.le_of_ble_eq_true rfl) hC) (by rintro E h9 ⟨q9, -⟩; cases q9) ?_
    rintro v h2 ⟨hv, hR2, e2, z2⟩
    cases hv
    rw [if_pos hc, if_pos hc] at hR2
    refine jj_goto (off := 148) (tgt := 330) (by decide +kernel) (by decide) ?_
    exact jj_wk (js_s (js_s (js_s (js_s (js_s (js_n (js_n js_0))))))) (b_law_330 ih hm hi hL (li.step (K := K) (N1 := N) hX hS (by omega) (by omega) hKi hown hq1 hq2 hq3 hR2 (fun z h9 _ => e2 z h9) ((e2 q hq3).trans hq4) z2))
set_option maxRecDepth 100000 in
set_option maxHeartbeats 4000000 in
theorem b_law_185 (hG : jj_tyG G) (hrf : rf_ok l G m own R 1900) (ih : lx_ih l G own R x m q k1 k2 n) (hm : G.2.2.2.2.2.2.1 + 5 - i < n + 1) (hi : i + 5 ≤ G.2.2.2.2.2.2.1) (hL : G.2.2.2.2.2.2.1 ≤ 2560) (hli : li G own R x q k1 k2 i h) : jj_P l G y_law 2000 (lx_F k1 k2) 185 (lx_L G x m q i) [] h := by
  obtain ⟨X, K, o, N, t, f, hX, rfl, hb, rfl, rfl, hs, hN, hR, hown, hq, hq1, hq2, hq3, hKi⟩ := hli
  subst hb
  have hGX : sy_G G X := ⟨hG, hX⟩
  obtain ⟨rloc, rrcv, rtext, rcut, rlen, rread, rplace, rnodes, rnode, rnames, rname, rthr⟩ := hrf
  refine jj_aload_n (j := 1) (by decide +kernel) rfl ?_
  refine jj_callr (s_ST_length (d := 1900) hGX (by omega) hs) (fun o1 h1 hC => jj_callV ok_ST_length ml_LW_48 im_ST_length se_ST_ST_length (by decide +kernel) (hs.rcST hX) rfl (by omega) (Nat.le_of_ble_eq_true rfl) hC) (by rintro E h9 ⟨q9, -⟩; cases q9) ?_
  rintro v h1 ⟨hv, rfl⟩
  cases hv
  refine jj_pop (v := .int _) (by decide +kernel) rfl ?_
  refine jj_aload_n (j := 2) (by decide +kernel) rfl ?_
  refine jj_callr (rlen _ _ _ hN hR) (fun o1 h1 hC => jj_callV ok_MO_length ml_LW_51 im_MO_length se_MO_MO_length (by decide +kernel) (rrcv _ _ _ hR) rfl (by omega) (Nat.le_of_ble_eq_true rfl) hC) (by rintro E h9 ⟨v9, q9, -⟩; cases q9) ?_
  rintro v h2 ⟨v9, hv, hV, ⟨t2, hR2⟩, e2, z2⟩
  cases hv
  refine jj_pop (v := .int _) (by decide +kernel) rfl ?_
  refine jj_goto (off := 135) (tgt := 330) (by decide +kernel) (by decide) ?_
  exact jj_wk (js_s (js_s (js_s (js_s (js_s (js_n (js_n js_0))))))) (b_law_330 ih hm hi hL (li.step (K := K) (N1 := N) hX hs hN (Nat.le_succ _) hKi hown hq1 hq2 hq3 hR2 (fun z h9 _ => e2 z h9) ((e2 q hq3).trans hq) z2))
set_option maxRecDepth 100000 in
set_option maxHeartbeats 4000000 in
theorem b_law_198 (hG : jj_tyG G) (hrf : rf_ok l G m own R 1900) (ih : lx_ih l G own R x m q k1 k2 n) (hm : G.2.2.2.2.2.2.1 + 5 - i < n + 1) (hi : i + 5 ≤ G.2.2.2.2.2.2.1) (hL : G.2.2.2.2.2.2.1 ≤ 2560) (hli : li G own R x q k1 k2 i h) : jj_P l G y_law 2000 (lx_F k1 k2) 198 (lx_L G x m q i) [] h := by
  obtain ⟨X, K, o, N, t, f, hX, rfl, hb, rfl, rfl, hs, hN, hR, hown, hq, hq1, hq2, hq3, hKi⟩ := hli
  subst hb
  have hGX : sy_G G X := ⟨hG, hX⟩
  obtain ⟨rloc, rrcv, rtext, rcut, rlen, rread, rplace, rnodes, rnode, rnames, rname, rthr⟩ := hrf
  refine jj_aload_n (j := 1) (by decide +kernel) rfl ?_
  refine jj_callr (s_ST_read (d := 1900) hGX (by omega) hs) (fun o1 h1 hC => jj_callV ok_ST_read ml_LW_52 im_ST_read se_ST_ST_read (by decide +kernel) (hs.rcST hX) rfl (by omega) (Nat.le_of_ble_eq_true rfl) hC) (by rintro E h9 ⟨v9, K9, o9, -, -, q9, -⟩; cases q9) ?_
  rintro v h1 ⟨v9, K9, o9, hKa, hKb, hv, hS⟩
  cases hv
  have hfr := hS.frame.2
  have hR1 : R N t h1 := rloc N t _ _ (fun z hz => hfr z (hown z hz).1 (hown z hz).2) hR
  have hq4 : h1.1 q = some (.inl (jj_cL G, 1, .inr (.inl f))) := (hfr q hq1 hq2).trans hq
  refine jj_pop (v := .int _) (by decide +kernel) rfl ?_
  refine jj_aload_n (j := 2) (by decide +kernel) rfl ?_
  refine jj_callr (rread _ _ _ hN hR1) (fun o1 h1 hC => jj_callV ok_MO_read ml_LW_55 im_MO_read se_MO_MO_read (by decide +kernel) (rrcv _ _ _ hR1) rfl (by omega) (Nat.le_of_ble_eq_true rfl) hC) (by rintro E h9 ⟨v9, q9, -⟩; cases q9) ?_
  rintro v h2 ⟨v9, hv, hV, ⟨t2, hR2⟩, e2, z2⟩
  cases hv
  refine jj_pop (v := .int _) (by decide +kernel) rfl ?_
  refine jj_goto (off := 122) (tgt := 330) (by decide +kernel) (by decide) ?_
  exact jj_wk (js_s (js_s (js_s (js_s (js_s (js_n (js_n js_0))))))) (b_law_330 ih hm hi hL (li.step (K := K) (N1 := N) hX hS hN (by omega) hKi hown hq1 hq2 hq3 hR2 (fun z h9 _ => e2 z h9) ((e2 q hq3).trans hq4) z2))
set_option maxRecDepth 100000 in
set_option maxHeartbeats 4000000 in
theorem b_law_211 (hG : jj_tyG G) (hrf : rf_ok l G m own R 1900) (ih : lx_ih l G own R x m q k1 k2 n) (hm : G.2.2.2.2.2.2.1 + 5 - i < n + 1) (hi : i + 5 ≤ G.2.2.2.2.2.2.1) (hL : G.2.2.2.2.2.2.1 ≤ 2560) (hli : li G own R x q k1 k2 i h) : jj_P l G y_law 2000 (lx_F k1 k2) 211 (lx_L G x m q i) [] h := by
  obtain ⟨X, K, o, N, t, f, hX, rfl, hb, rfl, rfl, hs, hN, hR, hown, hq, hq1, hq2, hq3, hKi⟩ := hli
  subst hb
  have hGX : sy_G G X := ⟨hG, hX⟩
  obtain ⟨rloc, rrcv, rtext, rcut, rlen, rread, rplace, rnodes, rnode, rnames, rname, rthr⟩ := hrf
  refine jj_aload_n (j := 1) (by decide +kernel) rfl ?_
  refine jj_callr (s_ST_place (d := 1900) hGX hs) (fun o1 h1 hC => jj_callV ok_ST_place ml_LW_56 im_ST_place se_ST_ST_place (by decide +kernel) (hs.rcST hX) rfl (by omega) (Nat.le_of_ble_eq_true rfl) hC) (by rintro E h9 hP; exact absurd hP.1 (by decide)) ?_
  rintro v h1 hP
  cases v with
  | none => exact absurd hP.1 (by decide)
  | some v =>
    cases v with
    | int v =>
      have hS := hP.2
      have hfr := hS.frame.2
      have hR1 : R N t h1 := rloc N t _ _ (fun z hz => hfr z (hown z hz).1 (hown z hz).2) hR
      have hq4 : h1.1 q = some (.inl (jj_cL G, 1, .inr (.inl f))) := (hfr q hq1 hq2).trans hq
      refine jj_pop (v := .int _) (by decide +kernel) rfl ?_
      refine jj_aload_n (j := 2) (by decide +kernel) rfl ?_
      refine jj_callr (rplace _ _ _ hN hR1) (fun o1 h1 hC => jj_callV ok_MO_place ml_LW_59 im_MO_place se_MO_MO_place (by decide +kernel) (rrcv _ _ _ hR1) rfl (by omega) (Nat.le_of_ble_eq_true rfl) hC) (by rintro E h9 ⟨v9, q9, -⟩; cases q9) ?_
      rintro v h2 ⟨v9, hv, hV, ⟨t2, hR2⟩, e2, z2⟩
      cases hv
      refine jj_pop (v := .int _) (by decide +kernel) rfl ?_
      refine jj_goto (off := 109) (tgt := 330) (by decide +kernel) (by decide) ?_
      exact jj_wk (js_s (js_s (js_s (js_s (js_s (js_n (js_n js_0))))))) (b_law_330 ih hm hi hL (li.step (K := K) (N1 := N) hX hS hN (Nat.le_succ _) hKi hown hq1 hq2 hq3 hR2 (fun z h9 _ => e2 z h9) ((e2 q hq3).trans hq4) z2))
    | _ => exact hP.elim
set_option maxRecDepth 100000 in
set_option maxHeartbeats 4000000 in
theorem b_law_224 (hG : jj_tyG G) (hrf : rf_ok l G m own R 1900) (ih : lx_ih l G own R x m q k1 k2 n) (hm : G.2.2.2.2.2.2.1 + 5 - i < n + 1) (hi : i + 5 ≤ G.2.2.2.2.2.2.1) (hL : G.2.2.2.2.2.2.1 ≤ 2560) (hli : li G own R x q k1 k2 i h) : jj_P l G y_law 2000 (lx_F k1 k2) 224 (lx_L G x m q i) [] h := by
  obtain ⟨X, K, o, N, t, f, hX, rfl, hb, rfl, rfl, hs, hN, hR, hown, hq, hq1, hq2, hq3, hKi⟩ := hli
  subst hb
  have hGX : sy_G G X := ⟨hG, hX⟩
  obtain ⟨rloc, rrcv, rtext, rcut, rlen, rread, rplace, rnodes, rnode, rnames, rname, rthr⟩ := hrf
  refine jj_aload_n (j := 1) (by decide +kernel) rfl ?_
  refine jj_callr (s_ST_nodes (d := 1900) hGX (by omega) hs) (fun o1 h1 hC => jj_callV ok_ST_nodes ml_LW_60 im_ST_nodes se_ST_ST_nodes (by decide +kernel) (hs.rcST hX) rfl (by omega) (Nat.le_of_ble_eq_true rfl) hC) (by rintro E h9 hP; exact absurd hP.1 (by decide)) ?_
  rintro v h1 hP
  cases v with
  | none => exact absurd hP.1 (by decide)
  | some v =>
    cases v with
    | int v =>
      have hS := hP.2
      have hfr := hS.frame.2
      have hR1 : R N t h1 := rloc N t _ _ (fun z hz => hfr z (hown z hz).1 (hown z hz).2) hR
      have hq4 : h1.1 q = some (.inl (jj_cL G, 1, .inr (.inl f))) := (hfr q hq1 hq2).trans hq
      refine jj_pop (v := .int _) (by decide +kernel) rfl ?_
      refine jj_aload_n (j := 2) (by decide +kernel) rfl ?_
      refine jj_callr (rnodes _ _ _ hN hR1) (fun o1 h1 hC => jj_callV ok_MO_nodes ml_LW_63 im_MO_nodes se_MO_MO_nodes (by decide +kernel) (rrcv _ _ _ hR1) rfl (by omega) (Nat.le_of_ble_eq_true rfl) hC) (by rintro E h9 ⟨v9, q9, -⟩; cases q9) ?_
      rintro v h2 ⟨v9, hv, hV, ⟨t2, hR2⟩, e2, z2⟩
      cases hv
      refine jj_pop (v := .int _) (by decide +kernel) rfl ?_
      refine jj_goto (off := 96) (tgt := 330) (by decide +kernel) (by decide) ?_
      exact jj_wk (js_s (js_s (js_s (js_s (js_s (js_n (js_n js_0))))))) (b_law_330 ih hm hi hL (li.step (K := K) (N1 := N) hX hS hN (Nat.le_succ _) hKi hown hq1 hq2 hq3 hR2 (fun z h9 _ => e2 z h9) ((e2 q hq3).trans hq4) z2))
    | _ => exact hP.elim
set_option maxRecDepth 100000 in
set_option maxHeartbeats 4000000 in
theorem b_law_277 (hG : jj_tyG G) (hrf : rf_ok l G m own R 1900) (ih : lx_ih l G own R x m q k1 k2 n) (hm : G.2.2.2.2.2.2.1 + 5 - i < n + 1) (hi : i + 5 ≤ G.2.2.2.2.2.2.1) (hL : G.2.2.2.2.2.2.1 ≤ 2560) (hli : li G own R x q k1 k2 i h) : jj_P l G y_law 2000 (lx_F k1 k2) 277 (lx_L G x m q i) [] h := by
  obtain ⟨X, K, o, N, t, f, hX, rfl, hb, rfl, rfl, hs, hN, hR, hown, hq, hq1, hq2, hq3, hKi⟩ := hli
  subst hb
  have hGX : sy_G G X := ⟨hG, hX⟩
  obtain ⟨rloc, rrcv, rtext, rcut, rlen, rread, rplace, rnodes, rnode, rnames, rname, rthr⟩ := hrf
  refine jj_aload_n (j := 1) (by decide +kernel) rfl ?_
  refine jj_callr (s_ST_names (d := 1900) hGX (by omega) hs) (fun o1 h1 hC => jj_callV ok_ST_names ml_LW_68 im_ST_names se_ST_ST_names (by decide +kernel) (hs.rcST hX) rfl (by omega) (Nat.le_of_ble_eq_true rfl) hC) (by rintro E h9 hP; exact absurd hP.1 (by decide)) ?_
  rintro v h1 hP
  cases v with
  | none => exact absurd hP.1 (by decide)
  | some v =>
    cases v with
    | int v =>
      have hS := hP.2
      have hfr := hS.frame.2
      have hR1 : R N t h1 := rloc N t _ _ (fun z hz => hfr z (hown z hz).1 (hown z hz).2) hR
      have hq4 : h1.1 q = some (.inl (jj_cL G, 1, .inr (.inl f))) := (hfr q hq1 hq2).trans hq
      refine jj_pop (v := .int _) (by decide +kernel) rfl ?_
      refine jj_aload_n (j := 2) (by decide +kernel) rfl ?_
      refine jj_callr (rnames _ _ _ hN hR1) (fun o1 h1 hC => jj_callV ok_MO_names ml_LW_71 im_MO_names se_MO_MO_names (by decide +kernel) (rrcv _ _ _ hR1) rfl (by omega) (Nat.le_of_ble_eq_true rfl) hC) (by rintro E h9 ⟨v9, q9, -⟩; cases q9) ?_
      rintro v h2 ⟨v9, hv, hV, ⟨t2, hR2⟩, e2, z2⟩
      cases hv
      refine jj_pop (v := .int _) (by decide +kernel) rfl ?_
      refine jj_goto (off := 43) (tgt := 330) (by decide +kernel) (by decide) ?_
      exact jj_wk (js_s (js_s (js_s (js_s (js_s (js_n (js_n js_0))))))) (b_law_330 ih hm hi hL (li.step (K := K) (N1 := N) hX hS hN (Nat.le_succ _) hKi hown hq1 hq2 hq3 hR2 (fun z h9 _ => e2 z h9) ((e2 q hq3).trans hq4) z2))
    | _ => exact hP.elim
set_option maxRecDepth 100000 in
set_option maxHeartbeats 4000000 in
theorem b_law_237 (hG : jj_tyG G) (hrf : rf_ok l G m own R 1900) (ih : lx_ih l G own R x m q k1 k2 n) (hm : G.2.2.2.2.2.2.1 + 5 - i < n + 1) (hi : i + 5 ≤ G.2.2.2.2.2.2.1) (hL : G.2.2.2.2.2.2.1 ≤ 2560) (hli : li G own R x q k1 k2 i h) : jj_P l G y_law 2000 (lx_F k1 k2) 237 (lx_L G x m q i) [] h := by
  obtain ⟨X, K, o, N, t, f, hX, rfl, hb, rfl, rfl, hs, hN, hR, hown, hq, hq1, hq2, hq3, hKi⟩ := hli
  subst hb
  have hGX : sy_G G X := ⟨hG, hX⟩
  obtain ⟨rloc, rrcv, rtext, rcut, rlen, rread, rplace, rnodes, rnode, rnames, rname, rthr⟩ := hrf
  refine jj_aload_n (j := 1) (by decide +kernel) rfl ?_
  refine jj_aload_n (j := 0) (by decide +kernel) rfl ?_
  refine jj_iload (i := 4) (by decide +kernel) rfl ?_
  refine jj_iconst (n := 1) (v := 1) (by decide +kernel) (by decide) ?_
  refine jj_iadd (by decide +kernel) ?_
  rw [show nI i + 1 = nI (i + 1) from nI_add i 1]
  refine jj_scrload (vp_in_nI (by omega) (by omega)) (by decide +kernel) ?_
  refine jj_aload_n (j := 0) (by decide +kernel) rfl ?_
  refine jj_iload (i := 4) (by decide +kernel) rfl ?_
  refine jj_iconst (n := 2) (v := 2) (by decide +kernel) (by decide) ?_
  refine jj_iadd (by decide +kernel) ?_
  rw [show nI i + 2 = nI (i + 2) from nI_add i 2]
  refine jj_scrload (vp_in_nI (by omega) (by omega)) (by decide +kernel) ?_
  refine jj_aload_n (j := 3) (by decide +kernel) rfl ?_
  refine jj_callr (c_LW_node (d := 1900) hGX hq1 hq2 hq (by omega) hs) (fun o1 h1 hC => jj_callS ok_LW_node ml_LW_64 st_LW_node (by decide +kernel) rfl (by omega) (Nat.le_of_ble_eq_true rfl) hC) (by rintro E h9 ⟨v9, K9, o9, h8, -, q9, -⟩; cases q9) ?_
  rintro v h1 ⟨v9, K9, o9, h8, hKb, hv, hS, rfl | ⟨f9, rfl⟩⟩
  · cases hv
    have hfr := hS.frame.2
    have hR1 : R N t h1 := rloc N t _ _ (fun z hz => hfr z (hown z hz).1 (hown z hz).2) hR
    have hq4 : h1.1 q = some (.inl (jj_cL G, 1, .inr (.inl f))) := (hfr q hq1 hq2).trans hq
    refine jj_istore (i := 5) (by decide +kernel) (by decide) rfl ?_
    refine jj_aload_n (j := 2) (by decide +kernel) rfl ?_
    refine jj_aload_n (j := 0) (by decide +kernel) rfl ?_
    refine jj_iload (i := 4) (by decide +kernel) rfl ?_
    refine jj_iconst (n := 1) (v := 1) (by decide +kernel) (by decide) ?_
    refine jj_iadd (by decide +kernel) ?_
    rw [show nI i + 1 = nI (i + 1) from nI_add i 1]
    refine jj_scrload (vp_in_nI (by omega) (by omega)) (by decide +kernel) ?_
    refine jj_aload_n (j := 0) (by decide +kernel) rfl ?_
    refine jj_iload (i := 4) (by decide +kernel) rfl ?_
    refine jj_iconst (n := 2) (v := 2) (by decide +kernel) (by decide) ?_
    refine jj_iadd (by decide +kernel) ?_
    rw [show nI i + 2 = nI (i + 2) from nI_add i 2]
    refine jj_scrload (vp_in_nI (by omega) (by omega)) (by decide +kernel) ?_
    refine jj_callr (rnode _ _ _ _ _ hN hR1) (fun o1 h1 hC => jj_callV ok_MO_node ml_LW_67 im_MO_node se_MO_MO_node (by decide +kernel) (rrcv _ _ _ hR1) rfl (by omega) (Nat.le_of_ble_eq_true rfl) hC) (by rintro E h9 ⟨v9, q9, -⟩; cases q9) ?_
    rintro v h2 ⟨v9, hv, hV, ⟨t2, hR2⟩, e2, z2⟩
    cases hv
    refine jj_istore (i := 6) (by decide +kernel) (by decide) rfl ?_
    refine jj_goto (off := 56) (tgt := 330) (by decide +kernel) (by decide) ?_
    exact jj_wk (js_s (js_s (js_s (js_s (js_s (js_n (js_n js_0))))))) (b_law_330 ih hm hi hL (li.step (K := K) (N1 := N) hX hS hN (by omega) hKi hown hq1 hq2 hq3 hR2 (fun z h9 _ => e2 z h9) ((e2 q hq3).trans hq4) z2))
  · cases hv
    have hfr := hS.frame.2
    have hR1 : R N t (jj_up h8.1 q (.inl (jj_cL G, 1, .inr (.inl f9))), h8.2) := rloc N t _ _ (fun z hz => (jj_up_ne (fun e : z = q => hq3 (by rw [← e]; exact hz))).trans (hfr z (hown z hz).1 (hown z hz).2)) hR
    refine jj_istore (i := 5) (by decide +kernel) (by decide) rfl ?_
    refine jj_aload_n (j := 2) (by decide +kernel) rfl ?_
    refine jj_aload_n (j := 0) (by decide +kernel) rfl ?_
    refine jj_iload (i := 4) (by decide +kernel) rfl ?_
    refine jj_iconst (n := 1) (v := 1) (by decide +kernel) (by decide) ?_
    refine jj_iadd (by decide +kernel) ?_
    rw [show nI i + 1 = nI (i + 1) from nI_add i 1]
    refine jj_scrload (vp_in_nI (by omega) (by omega)) (by decide +kernel) ?_
    refine jj_aload_n (j := 0) (by decide +kernel) rfl ?_
    refine jj_iload (i := 4) (by decide +kernel) rfl ?_
    refine jj_iconst (n := 2) (v := 2) (by decide +kernel) (by decide) ?_
    refine jj_iadd (by decide +kernel) ?_
    rw [show nI i + 2 = nI (i + 2) from nI_add i 2]
    refine jj_scrload (vp_in_nI (by omega) (by omega)) (by decide +kernel) ?_
    refine jj_callr (rnode _ _ _ _ _ hN hR1) (fun o1 h1 hC => jj_callV ok_MO_node ml_LW_67 im_MO_node se_MO_MO_node (by decide +kernel) (rrcv _ _ _ hR1) rfl (by omega) (Nat.le_of_ble_eq_true rfl) hC) (by rintro E h9 ⟨v9, q9, -⟩; cases q9) ?_
    rintro v h2 ⟨v9, hv, hV, ⟨t2, hR2⟩, e2, z2⟩
    cases hv
    refine jj_istore (i := 6) (by decide +kernel) (by decide) rfl ?_
    refine jj_goto (off := 56) (tgt := 330) (by decide +kernel) (by decide) ?_
    exact jj_wk (js_s (js_s (js_s (js_s (js_s (js_n (js_n js_0))))))) (b_law_330 ih hm hi hL (li.step (K := K) (N1 := N) hX hS hN (by omega) hKi hown hq1 hq2 hq3 hR2 (fun z h9 h10 => (e2 z h9).trans (jj_up_ne h10)) ((e2 q hq3).trans jj_up_self) z2))
set_option maxRecDepth 100000 in
set_option maxHeartbeats 4000000 in
theorem b_law_290 (hG : jj_tyG G) (hrf : rf_ok l G m own R 1900) (ih : lx_ih l G own R x m q k1 k2 n) (hm : G.2.2.2.2.2.2.1 + 5 - i < n + 1) (hi : i + 5 ≤ G.2.2.2.2.2.2.1) (hL : G.2.2.2.2.2.2.1 ≤ 2560) (hli : li G own R x q k1 k2 i h) : jj_P l G y_law 2000 (lx_F k1 k2) 290 (lx_L G x m q i) [] h := by
  obtain ⟨X, K, o, N, t, f, hX, rfl, hb, rfl, rfl, hs, hN, hR, hown, hq, hq1, hq2, hq3, hKi⟩ := hli
  subst hb
  have hGX : sy_G G X := ⟨hG, hX⟩
  obtain ⟨rloc, rrcv, rtext, rcut, rlen, rread, rplace, rnodes, rnode, rnames, rname, rthr⟩ := hrf
  refine jj_aload_n (j := 1) (by decide +kernel) rfl ?_
  refine jj_aload_n (j := 0) (by decide +kernel) rfl ?_
  refine jj_iload (i := 4) (by decide +kernel) rfl ?_
  refine jj_iconst (n := 1) (v := 1) (by decide +kernel) (by decide) ?_
  refine jj_iadd (by decide +kernel) ?_
  rw [show nI i + 1 = nI (i + 1) from nI_add i 1]
  refine jj_scrload (vp_in_nI (by omega) (by omega)) (by decide +kernel) ?_
  refine jj_aload_n (j := 0) (by decide +kernel) rfl ?_
  refine jj_iload (i := 4) (by decide +kernel) rfl ?_
  refine jj_iconst (n := 2) (v := 2) (by decide +kernel) (by decide) ?_
  refine jj_iadd (by decide +kernel) ?_
  rw [show nI i + 2 = nI (i + 2) from nI_add i 2]
  refine jj_scrload (vp_in_nI (by omega) (by omega)) (by decide +kernel) ?_
  refine jj_aload_n (j := 3) (by decide +kernel) rfl ?_
  refine jj_callr (c_LW_name (d := 1900) hGX hq1 hq2 hq (by omega) hs) (fun o1 h1 hC => jj_callS ok_LW_name ml_LW_72 st_LW_name (by decide +kernel) rfl (by omega) (Nat.le_of_ble_eq_true rfl) hC) (by rintro E h9 ⟨v9, K9, o9, h8, -, q9, -⟩; cases q9) ?_
  rintro v h1 ⟨v9, K9, o9, h8, hKb, hv, hS, rfl | ⟨f9, rfl⟩⟩
  · cases hv
    have hfr := hS.frame.2
    have hR1 : R N t h1 := rloc N t _ _ (fun z hz => hfr z (hown z hz).1 (hown z hz).2) hR
    have hq4 : h1.1 q = some (.inl (jj_cL G, 1, .inr (.inl f))) := (hfr q hq1 hq2).trans hq
    refine jj_istore (i := 5) (by decide +kernel) (by decide) rfl ?_
    refine jj_aload_n (j := 2) (by decide +kernel) rfl ?_
    refine jj_aload_n (j := 0) (by decide +kernel) rfl ?_
    refine jj_iload (i := 4) (by decide +kernel) rfl ?_
    refine jj_iconst (n := 1) (v := 1) (by decide +kernel) (by decide) ?_
    refine jj_iadd (by decide +kernel) ?_
    rw [show nI i + 1 = nI (i + 1) from nI_add i 1]
    refine jj_scrload (vp_in_nI (by omega) (by omega)) (by decide +kernel) ?_
    refine jj_aload_n (j := 0) (by decide +kernel) rfl ?_
    refine jj_iload (i := 4) (by decide +kernel) rfl ?_
    refine jj_iconst (n := 2) (v := 2) (by decide +kernel) (by decide) ?_
    refine jj_iadd (by decide +kernel) ?_
    rw [show nI i + 2 = nI (i + 2) from nI_add i 2]
    refine jj_scrload (vp_in_nI (by omega) (by omega)) (by decide +kernel) ?_
    refine jj_callr (rname _ _ _ _ _ hN hR1) (fun o1 h1 hC => jj_callV ok_MO_name ml_LW_74 im_MO_name se_MO_MO_name (by decide +kernel) (rrcv _ _ _ hR1) rfl (by omega) (Nat.le_of_ble_eq_true rfl) hC) (by rintro E h9 ⟨v9, q9, -⟩; cases q9) ?_
    rintro v h2 ⟨v9, hv, hV, ⟨t2, hR2⟩, e2, z2⟩
    cases hv
    refine jj_istore (i := 6) (by decide +kernel) (by decide) rfl ?_
    refine jj_goto (off := 3) (tgt := 330) (by decide +kernel) (by decide) ?_
    exact jj_wk (js_s (js_s (js_s (js_s (js_s (js_n (js_n js_0))))))) (b_law_330 ih hm hi hL (li.step (K := K) (N1 := N) hX hS hN (by omega) hKi hown hq1 hq2 hq3 hR2 (fun z h9 _ => e2 z h9) ((e2 q hq3).trans hq4) z2))
  · cases hv
    have hfr := hS.frame.2
    have hR1 : R N t (jj_up h8.1 q (.inl (jj_cL G, 1, .inr (.inl f9))), h8.2) := rloc N t _ _ (fun z hz => (jj_up_ne (fun e : z = q => hq3 (by rw [← e]; exact hz))).trans (hfr z (hown z hz).1 (hown z hz).2)) hR
    refine jj_istore (i := 5) (by decide +kernel) (by decide) rfl ?_
    refine jj_aload_n (j := 2) (by decide +kernel) rfl ?_
    refine jj_aload_n (j := 0) (by decide +kernel) rfl ?_
    refine jj_iload (i := 4) (by decide +kernel) rfl ?_
    refine jj_iconst (n := 1) (v := 1) (by decide +kernel) (by decide) ?_
    refine jj_iadd (by decide +kernel) ?_
    rw [show nI i + 1 = nI (i + 1) from nI_add i 1]
    refine jj_scrload (vp_in_nI (by omega) (by omega)) (by decide +kernel) ?_
    refine jj_aload_n (j := 0) (by decide +kernel) rfl ?_
    refine jj_iload (i := 4) (by decide +kernel) rfl ?_
    refine jj_iconst (n := 2) (v := 2) (by decide +kernel) (by decide) ?_
    refine jj_iadd (by decide +kernel) ?_
    rw [show nI i + 2 = nI (i + 2) from nI_add i 2]
    refine jj_scrload (vp_in_nI (by omega) (by omega)) (by decide +kernel) ?_
    refine jj_callr (rname _ _ _ _ _ hN hR1) (fun o1 h1 hC => jj_callV ok_MO_name ml_LW_74 im_MO_name se_MO_MO_name (by decide +kernel) (rrcv _ _ _ hR1) rfl (by omega) (Nat.le_of_ble_eq_true rfl) hC) (by rintro E h9 ⟨v9, q9, -⟩; cases q9) ?_
    rintro v h2 ⟨v9, hv, hV, ⟨t2, hR2⟩, e2, z2⟩
    cases hv
    refine jj_istore (i := 6) (by decide +kernel) (by decide) rfl ?_
    refine jj_goto (off := 3) (tgt := 330) (by decide +kernel) (by decide) ?_
    exact jj_wk (js_s (js_s (js_s (js_s (js_s (js_n (js_n js_0))))))) (b_law_330 ih hm hi hL (li.step (K := K) (N1 := N) hX hS hN (by omega) hKi hown hq1 hq2 hq3 hR2 (fun z h9 h10 => (e2 z h9).trans (jj_up_ne h10)) ((e2 q hq3).trans jj_up_self) z2))
theorem lx_go {L i : Nat} (hL : L ≤ 2560) (hi : i ≤ 2560) (c : ¬ nI L - 5 < nI i) : i + 5 ≤ L := by
  have h1 : (nI L - 5).toInt = (L : Int) - 5 := by
    rw [Int32.toInt_sub, nI_toInt (by omega), show (5 : Int32).toInt = 5 from rfl]
    exact Int.bmod_eq_of_le (by omega) (by omega)
  have h2 := Int32.le_iff_toInt_le.mp (Int32.not_lt.mp c)
  rw [h1, nI_toInt (by omega)] at h2
  omega
end LWL
set_option maxRecDepth 100000 in
set_option maxHeartbeats 4000000 in
theorem law_loop {l : Launch} {G : jj_G} {own : Nat → Prop} {R : Nat → Int32 → jj_H → Prop} {x m q k1 k2 : Nat} (hG : jj_tyG G) (hrf : rf_ok l G m own R 1900) (hL : G.2.2.2.2.2.2.1 ≤ 2560) : ∀ n, lx_ih l G own R x m q k1 k2 n := by
  intro n
  induction n with
  | zero => intro i h hm; exact absurd hm (Nat.not_lt_zero _)
  | succ n ih =>
    intro i h hm hi hli
    refine jj_iload (i := 4) (by decide +kernel) rfl ?_
    refine jj_aload_n (j := 0) (by decide +kernel) rfl ?_
    refine jj_scrlen (by decide +kernel) ?_
    refine jj_iconst (n := 5) (v := 5) (by decide +kernel) (by decide) ?_
    refine jj_isub (by decide +kernel) ?_
    refine jj_icmp_gt (off := 307) (tgt := 336) (by decide +kernel) (by decide) (fun c1 => ?_) (fun c1 => ?_)
    · refine jj_iconst (n := 1) (v := 1) (by decide +kernel) (by decide) ?_
      obtain ⟨X, K, o, N, t, f, hX, rfl, hb, rfl, rfl, hs, hN, hR, hown, hq, hq1, hq2, hq3, hKi⟩ := hli
      have hB := hs.bound hX (by omega)
      exact jj_iret .boolean (by decide +kernel) rfl rfl ⟨rfl, hB.1, hB.2⟩
    · have hi5 := lx_go hL hi c1
      refine jj_aload_n (j := 0) (by decide +kernel) rfl ?_
      refine jj_iload (i := 4) (by decide +kernel) rfl ?_
      refine jj_scrload (vp_in_nI (by omega) (by omega)) (by decide +kernel) ?_
      refine jj_bipush (n := 15) (v := 15) (by decide +kernel) (by decide) ?_
      refine jj_iand (by decide +kernel) ?_
      refine jj_tableAny (dflt := 291) (lo := 0) (hi := 8) (offs := #[49, 121, 146, 159, 172, 185, 198, 238, 251]) (len := 49) (ts := [88, 160, 185, 198, 211, 224, 237, 277, 290, 330]) (by decide +kernel) (by decide) (by decide +kernel) (jt_c ?_ (jt_c ?_ (jt_c ?_ (jt_c ?_ (jt_c ?_ (jt_c ?_ (jt_c ?_ (jt_c ?_ (jt_c ?_ (jt_c ?_ jt_0))))))))))
      · exact b_law_88 hG hrf ih hm hi5 hL hli
      · exact b_law_160 hG hrf ih hm hi5 hL hli
      · exact b_law_185 hG hrf ih hm hi5 hL hli
      · exact b_law_198 hG hrf ih hm hi5 hL hli
      · exact b_law_211 hG hrf ih hm hi5 hL hli
      · exact b_law_224 hG hrf ih hm hi5 hL hli
      · exact b_law_237 hG hrf ih hm hi5 hL hli
      · exact b_law_277 hG hrf ih hm hi5 hL hli
      · exact b_law_290 hG hrf ih hm hi5 hL hli
      · refine b_law_330 ih hm hi5 hL ?_
        obtain ⟨X, K, o, N, t, f, hX, hx, hb, h1, h2, hs, hN, hR, hown, hq, hq1, hq2, hq3, hKi⟩ := hli
        exact ⟨X, K, o, N, t, f, hX, hx, hb, h1, h2, hs, hN, hR, hown, hq, hq1, hq2, hq3, by omega⟩
