/-! THE REFERENCE'S SCANNER: Pb with its tokens, names and arrays open -/
def mo_inj (A : Nat → Nat) : Prop := ∀ i j, mo_is i → mo_is j → A i = A j → i = j
def mo_u (c : Nat → Nat → Int32) (k : Nat) (f : Nat → Int32) : Nat → Nat → Int32 := fun i => if i = k then f else c i
theorem Pb.un {G : jj_G} {h0 : jj_H} {A : Nat → Nat} {N T M : Nat} {c : Nat → Nat → Int32} {wr nw ow : Int32} {g : Nat} {h : jj_H} (hb : Pb G (h0, A, N, T, M, c) wr nw ow g h) : ∃ (th wh : Int32) (S : Nat), h.1 (A 0) = some (.inr (6, mo_fs A th (nI N) wr wh (nI T) (nI M) (nI S) nw ow (nI g))) ∧ S ≤ 16384 ∧ g ≤ 16384 ∧ h.1 (A 1) = some (.inl (jj_cB G, 16384, .inl (c 1))) ∧ h.1 (A 5) = some (.inl (jj_cI G, 16386, .inl (c 5))) ∧ h.1 (A 6) = some (.inl (jj_cI G, 16386, .inl (c 6))) ∧ h.1 (A 7) = some (.inl (jj_cI G, 16386, .inl (c 7))) ∧ h.1 (A 9) = some (.inl (jj_cB G, 20000, .inl (c 9))) ∧ h.1 (A 10) = some (.inl (jj_cI G, 1002, .inl (c 10))) ∧ (∀ k, (k = 12 ∨ k = 13 ∨ k = 14 ∨ k = 18) → ∃ f : Nat → Int32, h.1 (A k) = some (.inl (jj_cI G, 16384, .inl f))) ∧ (∀ q, ¬ mo_own (h0, A, N, T, M, c) q → h.1 q = h0.1 q) ∧ h.2 = h0.2 := by
  obtain ⟨th, wh, S, b0, hS, hg, ⟨a1, a5, a6, a7, a9, a10⟩, nd, fr, hz⟩ := hb
  exact ⟨th, wh, S, b0, hS, hg, a1, a5, a6, a7, a9, a10, nd, fr, hz⟩
theorem Pb.obj {G : jj_G} {h0 : jj_H} {A : Nat → Nat} {N T M : Nat} {c : Nat → Nat → Int32} {wr nw ow : Int32} {g : Nat} {h : jj_H} (hi : mo_inj A) (hb : Pb G (h0, A, N, T, M, c) wr nw ow g h) (th wr' wh nw' ow' : Int32) (N' T' M' : Nat) {S g' : Nat} (hS : S ≤ 16384) (hg : g' ≤ 16384) : Pb G (h0, A, N', T', M', c) wr' nw' ow' g' (jj_up h.1 (A 0) (.inr (6, mo_fs A th (nI N') wr' wh (nI T') (nI M') (nI S) nw' ow' (nI g'))), h.2) := by
  obtain ⟨-, -, -, -, -, -, a1, a5, a6, a7, a9, a10, nd, fr, hz⟩ := hb.un
  have ne : ∀ i, mo_is i → i ≠ 0 → A i ≠ A 0 := fun i hq h0 e => h0 (hi i 0 hq (Or.inl rfl) e)
  refine ⟨th, wh, S, jj_up_self, hS, hg, ⟨(jj_up_ne (ne 1 (by unfold mo_is; decide) (by decide))).trans a1, (jj_up_ne (ne 5 (by unfold mo_is; decide) (by decide))).trans a5, (jj_up_ne (ne 6 (by unfold mo_is; decide) (by decide))).trans a6, (jj_up_ne (ne 7 (by unfold mo_is; decide) (by decide))).trans a7, (jj_up_ne (ne 9 (by unfold mo_is; decide) (by decide))).trans a9, (jj_up_ne (ne 10 (by unfold mo_is; decide) (by decide))).trans a10⟩, fun k hk9 => ?_, fun q hq => ?_, hz⟩
  · obtain ⟨f, e⟩ := nd k hk9
    exact ⟨f, (jj_up_ne (ne k (by unfold mo_is; omega) (by omega))).trans e⟩
  · exact (jj_up_ne (fun e => hq ⟨0, Or.inl rfl, e⟩)).trans (fr q hq)
theorem Pb.ar1 {G : jj_G} {h0 : jj_H} {A : Nat → Nat} {N T M : Nat} {c : Nat → Nat → Int32} {wr nw ow : Int32} {g : Nat} {h : jj_H} (hi : mo_inj A) (hb : Pb G (h0, A, N, T, M, c) wr nw ow g h) (f : Nat → Int32) : Pb G (h0, A, N, T, M, mo_u c 1 f) wr nw ow g (jj_up h.1 (A 1) (.inl (jj_cB G, 16384, .inl f)), h.2) := by
  obtain ⟨th, wh, S, b0, hS, hg, a1, a5, a6, a7, a9, a10, nd, fr, hz⟩ := hb.un
  have ne : ∀ i, mo_is i → i ≠ 1 → A i ≠ A 1 := fun i hq h0 e => h0 (hi i 1 hq (by unfold mo_is; decide) e)
  refine ⟨th, wh, S, (jj_up_ne (ne 0 (Or.inl rfl) (by decide))).trans b0, hS, hg, ⟨jj_up_self, (jj_up_ne (ne 5 (by unfold mo_is; decide) (by decide))).trans a5, (jj_up_ne (ne 6 (by unfold mo_is; decide) (by decide))).trans a6, (jj_up_ne (ne 7 (by unfold mo_is; decide) (by decide))).trans a7, (jj_up_ne (ne 9 (by unfold mo_is; decide) (by decide))).trans a9, (jj_up_ne (ne 10 (by unfold mo_is; decide) (by decide))).trans a10⟩, fun k hk9 => ?_, fun q hq => ?_, hz⟩
  · obtain ⟨f, e⟩ := nd k hk9
    exact ⟨f, (jj_up_ne (ne k (by unfold mo_is; omega) (by omega))).trans e⟩
  · exact (jj_up_ne (fun e => hq ⟨1, (by unfold mo_is; decide), e⟩)).trans (fr q hq)
theorem Pb.ar5 {G : jj_G} {h0 : jj_H} {A : Nat → Nat} {N T M : Nat} {c : Nat → Nat → Int32} {wr nw ow : Int32} {g : Nat} {h : jj_H} (hi : mo_inj A) (hb : Pb G (h0, A, N, T, M, c) wr nw ow g h) (f : Nat → Int32) : Pb G (h0, A, N, T, M, mo_u c 5 f) wr nw ow g (jj_up h.1 (A 5) (.inl (jj_cI G, 16386, .inl f)), h.2) := by
  obtain ⟨th, wh, S, b0, hS, hg, a1, a5, a6, a7, a9, a10, nd, fr, hz⟩ := hb.un
  have ne : ∀ i, mo_is i → i ≠ 5 → A i ≠ A 5 := fun i hq h0 e => h0 (hi i 5 hq (by unfold mo_is; decide) e)
  refine ⟨th, wh, S, (jj_up_ne (ne 0 (Or.inl rfl) (by decide))).trans b0, hS, hg, ⟨(jj_up_ne (ne 1 (by unfold mo_is; decide) (by decide))).trans a1, jj_up_self, (jj_up_ne (ne 6 (by unfold mo_is; decide) (by decide))).trans a6, (jj_up_ne (ne 7 (by unfold mo_is; decide) (by decide))).trans a7, (jj_up_ne (ne 9 (by unfold mo_is; decide) (by decide))).trans a9, (jj_up_ne (ne 10 (by unfold mo_is; decide) (by decide))).trans a10⟩, fun k hk9 => ?_, fun q hq => ?_, hz⟩
  · obtain ⟨f, e⟩ := nd k hk9
    exact ⟨f, (jj_up_ne (ne k (by unfold mo_is; omega) (by omega))).trans e⟩
  · exact (jj_up_ne (fun e => hq ⟨5, (by unfold mo_is; decide), e⟩)).trans (fr q hq)
theorem Pb.ar6 {G : jj_G} {h0 : jj_H} {A : Nat → Nat} {N T M : Nat} {c : Nat → Nat → Int32} {wr nw ow : Int32} {g : Nat} {h : jj_H} (hi : mo_inj A) (hb : Pb G (h0, A, N, T, M, c) wr nw ow g h) (f : Nat → Int32) : Pb G (h0, A, N, T, M, mo_u c 6 f) wr nw ow g (jj_up h.1 (A 6) (.inl (jj_cI G, 16386, .inl f)), h.2) := by
  obtain ⟨th, wh, S, b0, hS, hg, a1, a5, a6, a7, a9, a10, nd, fr, hz⟩ := hb.un
  have ne : ∀ i, mo_is i → i ≠ 6 → A i ≠ A 6 := fun i hq h0 e => h0 (hi i 6 hq (by unfold mo_is; decide) e)
  refine ⟨th, wh, S, (jj_up_ne (ne 0 (Or.inl rfl) (by decide))).trans b0, hS, hg, ⟨(jj_up_ne (ne 1 (by unfold mo_is; decide) (by decide))).trans a1, (jj_up_ne (ne 5 (by unfold mo_is; decide) (by decide))).trans a5, jj_up_self, (jj_up_ne (ne 7 (by unfold mo_is; decide) (by decide))).trans a7, (jj_up_ne (ne 9 (by unfold mo_is; decide) (by decide))).trans a9, (jj_up_ne (ne 10 (by unfold mo_is; decide) (by decide))).trans a10⟩, fun k hk9 => ?_, fun q hq => ?_, hz⟩
  · obtain ⟨f, e⟩ := nd k hk9
    exact ⟨f, (jj_up_ne (ne k (by unfold mo_is; omega) (by omega))).trans e⟩
  · exact (jj_up_ne (fun e => hq ⟨6, (by unfold mo_is; decide), e⟩)).trans (fr q hq)
theorem Pb.ar7 {G : jj_G} {h0 : jj_H} {A : Nat → Nat} {N T M : Nat} {c : Nat → Nat → Int32} {wr nw ow : Int32} {g : Nat} {h : jj_H} (hi : mo_inj A) (hb : Pb G (h0, A, N, T, M, c) wr nw ow g h) (f : Nat → Int32) : Pb G (h0, A, N, T, M, mo_u c 7 f) wr nw ow g (jj_up h.1 (A 7) (.inl (jj_cI G, 16386, .inl f)), h.2) := by
  obtain ⟨th, wh, S, b0, hS, hg, a1, a5, a6, a7, a9, a10, nd, fr, hz⟩ := hb.un
  have ne : ∀ i, mo_is i → i ≠ 7 → A i ≠ A 7 := fun i hq h0 e => h0 (hi i 7 hq (by unfold mo_is; decide) e)
  refine ⟨th, wh, S, (jj_up_ne (ne 0 (Or.inl rfl) (by decide))).trans b0, hS, hg, ⟨(jj_up_ne (ne 1 (by unfold mo_is; decide) (by decide))).trans a1, (jj_up_ne (ne 5 (by unfold mo_is; decide) (by decide))).trans a5, (jj_up_ne (ne 6 (by unfold mo_is; decide) (by decide))).trans a6, jj_up_self, (jj_up_ne (ne 9 (by unfold mo_is; decide) (by decide))).trans a9, (jj_up_ne (ne 10 (by unfold mo_is; decide) (by decide))).trans a10⟩, fun k hk9 => ?_, fun q hq => ?_, hz⟩
  · obtain ⟨f, e⟩ := nd k hk9
    exact ⟨f, (jj_up_ne (ne k (by unfold mo_is; omega) (by omega))).trans e⟩
  · exact (jj_up_ne (fun e => hq ⟨7, (by unfold mo_is; decide), e⟩)).trans (fr q hq)
theorem Pb.ar9 {G : jj_G} {h0 : jj_H} {A : Nat → Nat} {N T M : Nat} {c : Nat → Nat → Int32} {wr nw ow : Int32} {g : Nat} {h : jj_H} (hi : mo_inj A) (hb : Pb G (h0, A, N, T, M, c) wr nw ow g h) (f : Nat → Int32) : Pb G (h0, A, N, T, M, mo_u c 9 f) wr nw ow g (jj_up h.1 (A 9) (.inl (jj_cB G, 20000, .inl f)), h.2) := by
  obtain ⟨th, wh, S, b0, hS, hg, a1, a5, a6, a7, a9, a10, nd, fr, hz⟩ := hb.un
  have ne : ∀ i, mo_is i → i ≠ 9 → A i ≠ A 9 := fun i hq h0 e => h0 (hi i 9 hq (by unfold mo_is; decide) e)
  refine ⟨th, wh, S, (jj_up_ne (ne 0 (Or.inl rfl) (by decide))).trans b0, hS, hg, ⟨(jj_up_ne (ne 1 (by unfold mo_is; decide) (by decide))).trans a1, (jj_up_ne (ne 5 (by unfold mo_is; decide) (by decide))).trans a5, (jj_up_ne (ne 6 (by unfold mo_is; decide) (by decide))).trans a6, (jj_up_ne (ne 7 (by unfold mo_is; decide) (by decide))).trans a7, jj_up_self, (jj_up_ne (ne 10 (by unfold mo_is; decide) (by decide))).trans a10⟩, fun k hk9 => ?_, fun q hq => ?_, hz⟩
  · obtain ⟨f, e⟩ := nd k hk9
    exact ⟨f, (jj_up_ne (ne k (by unfold mo_is; omega) (by omega))).trans e⟩
  · exact (jj_up_ne (fun e => hq ⟨9, (by unfold mo_is; decide), e⟩)).trans (fr q hq)
theorem Pb.ar10 {G : jj_G} {h0 : jj_H} {A : Nat → Nat} {N T M : Nat} {c : Nat → Nat → Int32} {wr nw ow : Int32} {g : Nat} {h : jj_H} (hi : mo_inj A) (hb : Pb G (h0, A, N, T, M, c) wr nw ow g h) (f : Nat → Int32) : Pb G (h0, A, N, T, M, mo_u c 10 f) wr nw ow g (jj_up h.1 (A 10) (.inl (jj_cI G, 1002, .inl f)), h.2) := by
  obtain ⟨th, wh, S, b0, hS, hg, a1, a5, a6, a7, a9, a10, nd, fr, hz⟩ := hb.un
  have ne : ∀ i, mo_is i → i ≠ 10 → A i ≠ A 10 := fun i hq h0 e => h0 (hi i 10 hq (by unfold mo_is; decide) e)
  refine ⟨th, wh, S, (jj_up_ne (ne 0 (Or.inl rfl) (by decide))).trans b0, hS, hg, ⟨(jj_up_ne (ne 1 (by unfold mo_is; decide) (by decide))).trans a1, (jj_up_ne (ne 5 (by unfold mo_is; decide) (by decide))).trans a5, (jj_up_ne (ne 6 (by unfold mo_is; decide) (by decide))).trans a6, (jj_up_ne (ne 7 (by unfold mo_is; decide) (by decide))).trans a7, (jj_up_ne (ne 9 (by unfold mo_is; decide) (by decide))).trans a9, jj_up_self⟩, fun k hk9 => ?_, fun q hq => ?_, hz⟩
  · obtain ⟨f, e⟩ := nd k hk9
    exact ⟨f, (jj_up_ne (ne k (by unfold mo_is; omega) (by omega))).trans e⟩
  · exact (jj_up_ne (fun e => hq ⟨10, (by unfold mo_is; decide), e⟩)).trans (fr q hq)
def mo_at (N : Nat) (f : Nat → Int32) (p : Nat) : Int32 := if p < N then f p &&& 255 else -1
theorem mo_at.lt {N : Nat} {f : Nat → Int32} {p : Nat} (h : mo_at N f p ≠ -1) : p < N := Classical.not_not.mp (fun q => h (by rw [mo_at, if_neg q]))
set_option maxRecDepth 100000 in
set_option maxHeartbeats 4000000 in
theorem m_at {l : Launch} {G : jj_G} {h0 : jj_H} {A : Nat → Nat} {N T M : Nat} {c : Nat → Nat → Int32} {wr nw ow : Int32} {g d : Nat} {h : jj_H} {p : Nat} (hG : jj_tyG G) (hN : N ≤ 16384) (hb : Pb G (h0, A, N, T, M, c) wr nw ow g h) (hp : p < 2 ^ 30) : jj_Q l G y_MO_at d [.ref (A 0), .int (nI p)] h (fun out h' => out = .inl (some (.int (mo_at N (c 1) p))) ∧ h' = h) := by
  refine jj_Q.of (by decide +kernel) (Nat.le_of_ble_eq_true rfl) ?_
  obtain ⟨th, wh, S, b0, hS, hg, a1, a5, a6, a7, a9, a10, nd, fr, hz⟩ := hb.un
  refine jj_iload_n (j := 1) (by decide +kernel) rfl ?_
  refine jj_aload_n (j := 0) (by decide +kernel) rfl ?_
  refine jj_getfield 2 ck_MO fl_MO_51 (by decide) (by decide +kernel) b0 rfl ?_
  refine jj_icmp_ge (off := 16) (tgt := 21) (by decide +kernel) (by decide) (fun c1 => ?_) (fun c1 => ?_)
  · have e : ¬ p < N := fun q => nI_ge q (by omega) c1
    refine jj_iconst (n := (-1)) (v := (-1)) (by decide +kernel) (by decide) ?_
    exact jj_iret .int (by decide +kernel) rfl rfl ⟨by rw [mo_at, if_neg e], rfl⟩
  · have e : p < N := Nat.not_le.mp (fun q => c1 (nI_le q (by omega)))
    refine jj_aload_n (j := 0) (by decide +kernel) rfl ?_
    refine jj_getfield 1 ck_MO fl_MO_7 (by decide) (by decide +kernel) b0 rfl ?_
    refine jj_iload_n (j := 1) (by decide +kernel) rfl ?_
    refine jj_baload (jj_tB hG) (by decide +kernel) a1 (vp_in_nI (show p < 16384 by omega) (by decide)) ?_
    rw [nI_clamp (show p < 2 ^ 31 by omega)]
    refine jj_sipush (n := 255) (v := 255) (by decide +kernel) (by decide) ?_
    refine jj_iand (by decide +kernel) ?_
    refine jj_goto (off := 4) (tgt := 22) (by decide +kernel) (by decide) ?_
    exact jj_iret .int (by decide +kernel) rfl rfl ⟨by rw [mo_at, if_pos e], rfl⟩
def mo_isl (x : Int32) : Prop := (97 ≤ x ∧ x ≤ 122) ∨ (65 ≤ x ∧ x ≤ 90)
def mo_isd (x : Int32) : Prop := 48 ≤ x ∧ x ≤ 57
theorem mo_isl.ne {x : Int32} (h : mo_isl x) : x ≠ -1 ∧ x ≠ 32 := ⟨fun e => by subst e; exact absurd h (by unfold mo_isl; decide), fun e => by subst e; exact absurd h (by unfold mo_isl; decide)⟩
theorem mo_isd.ne {x : Int32} (h : mo_isd x) : x ≠ -1 ∧ x ≠ 32 := ⟨fun e => by subst e; exact absurd h (by unfold mo_isd; decide), fun e => by subst e; exact absurd h (by unfold mo_isd; decide)⟩
set_option maxRecDepth 100000 in
set_option maxHeartbeats 4000000 in
theorem m_letter {l : Launch} {G : jj_G} {d : Nat} {h : jj_H} {x : Int32} : jj_Q l G y_MO_letter d [.int x] h (fun out h' => ∃ v : Int32, out = .inl (some (.int v)) ∧ h' = h ∧ (v ≠ 0 ↔ mo_isl x)) := by
  refine jj_Q.of (by decide +kernel) (Nat.le_of_ble_eq_true rfl) ?_
  have k0 : ¬ mo_isl x → jj_P l G y_MO_letter d (fun out h' => ∃ v : Int32, out = .inl (some (.int v)) ∧ h' = h ∧ (v ≠ 0 ↔ mo_isl x)) 28 [some (.int x)] [] h := by
    intro hx
    refine jj_iconst (n := 0) (v := 0) (by decide +kernel) (by decide) ?_
    exact jj_iret .boolean (by decide +kernel) rfl rfl ⟨0, rfl, rfl, fun q => absurd rfl q, fun q => absurd q hx⟩
  have k1 : mo_isl x → jj_P l G y_MO_letter d (fun out h' => ∃ v : Int32, out = .inl (some (.int v)) ∧ h' = h ∧ (v ≠ 0 ↔ mo_isl x)) 24 [some (.int x)] [] h := by
    intro hx
    refine jj_iconst (n := 1) (v := 1) (by decide +kernel) (by decide) ?_
    refine jj_goto (off := 4) (tgt := 29) (by decide +kernel) (by decide) ?_
    exact jj_iret .boolean (by decide +kernel) rfl rfl ⟨1, rfl, rfl, fun _ => hx, fun _ => by decide⟩
  have k2 : ¬ (97 ≤ x ∧ x ≤ 122) → jj_P l G y_MO_letter d (fun out h' => ∃ v : Int32, out = .inl (some (.int v)) ∧ h' = h ∧ (v ≠ 0 ↔ mo_isl x)) 12 [some (.int x)] [] h := by
    intro hx
    refine jj_iload_n (j := 0) (by decide +kernel) rfl ?_
    refine jj_bipush (n := 65) (v := 65) (by decide +kernel) (by decide) ?_
    refine jj_icmp_lt (off := 13) (tgt := 28) (by decide +kernel) (by decide) (fun c1 => k0 (fun q => q.elim hx (fun q => Int32.not_lt.mpr q.1 c1))) (fun c1 => ?_)
    refine jj_iload_n (j := 0) (by decide +kernel) rfl ?_
    refine jj_bipush (n := 90) (v := 90) (by decide +kernel) (by decide) ?_
    refine jj_icmp_gt (off := 7) (tgt := 28) (by decide +kernel) (by decide) (fun c2 => k0 (fun q => q.elim hx (fun q => Int32.not_lt.mpr q.2 c2))) (fun c2 => ?_)
    exact k1 (Or.inr ⟨Int32.not_lt.mp c1, Int32.not_lt.mp c2⟩)
  refine jj_iload_n (j := 0) (by decide +kernel) rfl ?_
  refine jj_bipush (n := 97) (v := 97) (by decide +kernel) (by decide) ?_
  refine jj_icmp_lt (off := 9) (tgt := 12) (by decide +kernel) (by decide) (fun c1 => k2 (fun q => Int32.not_lt.mpr q.1 c1)) (fun c1 => ?_)
  refine jj_iload_n (j := 0) (by decide +kernel) rfl ?_
  refine jj_bipush (n := 122) (v := 122) (by decide +kernel) (by decide) ?_
  refine jj_icmp_le (off := 15) (tgt := 24) (by decide +kernel) (by decide) (fun c2 => ?_) (fun c2 => k2 (fun q => c2 q.2))
  exact k1 (Or.inl ⟨Int32.not_lt.mp c1, c2⟩)
set_option maxRecDepth 100000 in
set_option maxHeartbeats 4000000 in
theorem m_digit {l : Launch} {G : jj_G} {d : Nat} {h : jj_H} {x : Int32} : jj_Q l G y_MO_digit d [.int x] h (fun out h' => ∃ v : Int32, out = .inl (some (.int v)) ∧ h' = h ∧ (v ≠ 0 ↔ mo_isd x)) := by
  refine jj_Q.of (by decide +kernel) (Nat.le_of_ble_eq_true rfl) ?_
  have k0 : ¬ mo_isd x → jj_P l G y_MO_digit d (fun out h' => ∃ v : Int32, out = .inl (some (.int v)) ∧ h' = h ∧ (v ≠ 0 ↔ mo_isd x)) 16 [some (.int x)] [] h := by
    intro hx
    refine jj_iconst (n := 0) (v := 0) (by decide +kernel) (by decide) ?_
    exact jj_iret .boolean (by decide +kernel) rfl rfl ⟨0, rfl, rfl, fun q => absurd rfl q, fun q => absurd q hx⟩
  have k1 : mo_isd x → jj_P l G y_MO_digit d (fun out h' => ∃ v : Int32, out = .inl (some (.int v)) ∧ h' = h ∧ (v ≠ 0 ↔ mo_isd x)) 12 [some (.int x)] [] h := by
    intro hx
    refine jj_iconst (n := 1) (v := 1) (by decide +kernel) (by decide) ?_
    refine jj_goto (off := 4) (tgt := 17) (by decide +kernel) (by decide) ?_
    exact jj_iret .boolean (by decide +kernel) rfl rfl ⟨1, rfl, rfl, fun _ => hx, fun _ => by decide⟩
  refine jj_iload_n (j := 0) (by decide +kernel) rfl ?_
  refine jj_bipush (n := 48) (v := 48) (by decide +kernel) (by decide) ?_
  refine jj_icmp_lt (off := 13) (tgt := 16) (by decide +kernel) (by decide) (fun c1 => k0 (fun q => Int32.not_lt.mpr q.1 c1)) (fun c1 => ?_)
  refine jj_iload_n (j := 0) (by decide +kernel) rfl ?_
  refine jj_bipush (n := 57) (v := 57) (by decide +kernel) (by decide) ?_
  refine jj_icmp_gt (off := 7) (tgt := 16) (by decide +kernel) (by decide) (fun c2 => k0 (fun q => Int32.not_lt.mpr q.2 c2)) (fun c2 => ?_)
  exact k1 ⟨Int32.not_lt.mp c1, Int32.not_lt.mp c2⟩
def mo_lt (b : Int32) : Int32 := if 65 ≤ b &&& 255 ∧ b &&& 255 ≤ 90 then (b &&& 255) + 32 else b &&& 255
theorem mo_lt.ne {b : Int32} (h : b &&& 255 ≠ 32) : mo_lt b ≠ 32 := by
  unfold mo_lt
  split
  · rename_i q
    intro e
    have e1 : (b &&& 255) + 32 - 32 = 0 := by rw [e]; rfl
    rw [Int32.add_sub_cancel] at e1
    rw [e1] at q
    exact absurd q.1 (by decide)
  · exact h
set_option maxRecDepth 100000 in
set_option maxHeartbeats 4000000 in
theorem m_letterAt {l : Launch} {G : jj_G} {h0 : jj_H} {A : Nat → Nat} {N T M : Nat} {c : Nat → Nat → Int32} {wr nw ow : Int32} {g d : Nat} {h : jj_H} {p : Nat} (hG : jj_tyG G) (hb : Pb G (h0, A, N, T, M, c) wr nw ow g h) (hp : p < 16384) : jj_Q l G y_MO_letterAt d [.ref (A 0), .int (nI p)] h (fun out h' => out = .inl (some (.int (mo_lt (c 1 p)))) ∧ h' = h) := by
  refine jj_Q.of (by decide +kernel) (Nat.le_of_ble_eq_true rfl) ?_
  obtain ⟨th, wh, S, b0, hS, hg, a1, a5, a6, a7, a9, a10, nd, fr, hz⟩ := hb.un
  refine jj_aload_n (j := 0) (by decide +kernel) rfl ?_
  refine jj_getfield 1 ck_MO fl_MO_7 (by decide) (by decide +kernel) b0 rfl ?_
  refine jj_iload_n (j := 1) (by decide +kernel) rfl ?_
  refine jj_baload (jj_tB hG) (by decide +kernel) a1 (vp_in_nI (show p < 16384 by omega) (by decide)) ?_
  rw [nI_clamp (show p < 2 ^ 31 by omega)]
  refine jj_sipush (n := 255) (v := 255) (by decide +kernel) (by decide) ?_
  refine jj_iand (by decide +kernel) ?_
  refine jj_istore_n (j := 2) (by decide +kernel) (by decide) rfl ?_
  refine jj_iload_n (j := 2) (by decide +kernel) rfl ?_
  refine jj_bipush (n := 65) (v := 65) (by decide +kernel) (by decide) ?_
  refine jj_icmp_lt (off := 16) (tgt := 30) (by decide +kernel) (by decide) (fun c1 => ?_) (fun c1 => ?_)
  · refine jj_iload_n (j := 2) (by decide +kernel) rfl ?_
    exact jj_iret .int (by decide +kernel) rfl rfl ⟨by rw [mo_lt, if_neg (fun q => absurd c1 (Int32.not_lt.mpr q.1))], rfl⟩
  refine jj_iload_n (j := 2) (by decide +kernel) rfl ?_
  refine jj_bipush (n := 90) (v := 90) (by decide +kernel) (by decide) ?_
  refine jj_icmp_gt (off := 10) (tgt := 30) (by decide +kernel) (by decide) (fun c2 => ?_) (fun c2 => ?_)
  · refine jj_iload_n (j := 2) (by decide +kernel) rfl ?_
    exact jj_iret .int (by decide +kernel) rfl rfl ⟨by rw [mo_lt, if_neg (fun q => absurd c2 (Int32.not_lt.mpr q.2))], rfl⟩
  refine jj_iload_n (j := 2) (by decide +kernel) rfl ?_
  refine jj_bipush (n := 32) (v := 32) (by decide +kernel) (by decide) ?_
  refine jj_iadd (by decide +kernel) ?_
  refine jj_goto (off := 4) (tgt := 31) (by decide +kernel) (by decide) ?_
  exact jj_iret .int (by decide +kernel) rfl rfl ⟨by rw [mo_lt, if_pos ⟨Int32.not_lt.mp c1, Int32.not_lt.mp c2⟩], rfl⟩
set_option maxRecDepth 100000 in
set_option maxHeartbeats 4000000 in
theorem b_MO_skip_72 {l : Launch} {G : jj_G} {h0 : jj_H} {A : Nat → Nat} {N T M : Nat} {c : Nat → Nat → Int32} {wr nw ow : Int32} {g d : Nat} {h : jj_H} {p p0 : Nat} {x1 x3 x4 : Int32} (hG : jj_tyG G) (hN : N ≤ 16384) (hb : Pb G (h0, A, N, T, M, c) wr nw ow g h) (hdd : 1 ≤ d) (hp : mo_at N (c 1) p = 45) (k : ∀ q, p < q → q ≤ N → jj_P l G y_MO_skip d (fun out h' => ∃ q : Nat, out = .inl (some (.int (nI q))) ∧ h' = h ∧ p0 ≤ q ∧ q ≤ N) 103 [some (.ref (A 0)), some (.int x1), some (.int (nI q)), some (.int x3), some (.int x4)] [] h) : ∀ n q, N - q < n → p ≤ q → q ≤ N → jj_P l G y_MO_skip d (fun out h' => ∃ q : Nat, out = .inl (some (.int (nI q))) ∧ h' = h ∧ p0 ≤ q ∧ q ≤ N) 72 [some (.ref (A 0)), some (.int x1), some (.int (nI q)), some (.int x3), some (.int x4)] [] h := by
  obtain ⟨th, wh, S, b0, hS, hg, a1, a5, a6, a7, a9, a10, nd, fr, hz⟩ := hb.un
  intro n
  induction n with
  | zero => intro q hn; exact absurd hn (Nat.not_lt_zero _)
  | succ n ih =>
    intro q hn h1 h2
    have hpN : p < N := mo_at.lt (by rw [hp]; decide)
    refine jj_iload_n (j := 2) (by decide +kernel) rfl ?_
    refine jj_aload_n (j := 0) (by decide +kernel) rfl ?_
    refine jj_getfield 2 ck_MO fl_MO_51 (by decide) (by decide +kernel) b0 rfl ?_
    refine jj_icmp_ge (off := 26) (tgt := 103) (by decide +kernel) (by decide) (fun c1 => ?_) (fun c1 => ?_)
    · exact k q (Nat.lt_of_lt_of_le hpN ((nI_leI (by omega) (by omega)).mp c1)) h2
    · have hlt : q < N := Nat.not_le.mp (fun q9 => c1 (nI_le q9 (by omega)))
      refine jj_aload_n (j := 0) (by decide +kernel) rfl ?_
      refine jj_iload_n (j := 2) (by decide +kernel) rfl ?_
      refine jj_callr (m_at (d := d - 1) hG hN hb (by omega)) (fun o1 h1 hC => jj_callV ok_MO_at ml_MO_83 im_MO_at se_MO_MO_at (by decide +kernel) hb.rcv rfl (by omega) (Nat.le_of_ble_eq_true rfl) hC) (by rintro E h1 ⟨q, -⟩; cases q) ?_
      rintro v h9 ⟨hv, e9⟩
      cases hv
      have e9 := e9.symm
      subst e9
      refine jj_bipush (n := 10) (v := 10) (by decide +kernel) (by decide) ?_
      refine jj_icmp_eq (off := 16) (tgt := 103) (by decide +kernel) (by decide) (fun c2 => ?_) (fun c2 => ?_)
      · refine k q (Nat.lt_of_le_of_ne h1 (fun e => ?_)) h2
        subst e
        rw [hp] at c2
        exact absurd c2 (by decide)
      · refine jj_iinc (i := 2) (n := 1) (v := nI (q + 1)) (by decide +kernel) rfl (by rw [show Int32.ofInt 1 = 1 from rfl]; exact nI_1 q) (by decide) rfl ?_
        refine jj_goto (off := (-21)) (tgt := 72) (by decide +kernel) (by decide) ?_
        exact ih (q + 1) (by omega) (by omega) (by omega)
set_option maxRecDepth 100000 in
set_option maxHeartbeats 4000000 in
theorem b_MO_skip_4 {l : Launch} {G : jj_G} {h0 : jj_H} {A : Nat → Nat} {N T M : Nat} {c : Nat → Nat → Int32} {wr nw ow : Int32} {g d : Nat} {h : jj_H} {p0 : Nat} {x1 : Int32} (hG : jj_tyG G) (hN : N ≤ 16384) (hb : Pb G (h0, A, N, T, M, c) wr nw ow g h) (hdd : 1 ≤ d) : ∀ (n p : Nat) (x3 : Int32), p0 ≤ p → p ≤ N → (x3 ≠ 0 → N - p < n) → jj_P l G y_MO_skip d (fun out h' => ∃ q : Nat, out = .inl (some (.int (nI q))) ∧ h' = h ∧ p0 ≤ q ∧ q ≤ N) 4 [some (.ref (A 0)), some (.int x1), some (.int (nI p)), some (.int x3), none] [] h := by
  have ret : ∀ (p : Nat), p0 ≤ p → p ≤ N → jj_P l G y_MO_skip d (fun out h' => ∃ q : Nat, out = .inl (some (.int (nI q))) ∧ h' = h ∧ p0 ≤ q ∧ q ≤ N) 4 [some (.ref (A 0)), some (.int x1), some (.int (nI p)), some (.int 0), none] [] h := by
    intro p h1 h2
    refine jj_iload_n (j := 3) (by decide +kernel) rfl ?_
    refine jj_if_eq (off := 101) (tgt := 106) (by decide +kernel) (by decide) (fun c1 => ?_) (fun c1 => absurd rfl c1)
    refine jj_iload_n (j := 2) (by decide +kernel) rfl ?_
    exact jj_iret .int (by decide +kernel) rfl rfl ⟨p, rfl, rfl, h1, h2⟩
  intro n
  induction n with
  | zero =>
    intro p x3 h1 h2 hn
    have e : x3 = 0 := Classical.not_not.mp (fun q => absurd (hn q) (Nat.not_lt_zero _))
    subst e
    exact ret p h1 h2
  | succ n ih =>
    intro p x3 h1 h2 hn
    by_cases e : x3 = 0
    · subst e
      exact ret p h1 h2
    · have hn := hn e
      refine jj_iload_n (j := 3) (by decide +kernel) rfl ?_
      refine jj_if_eq (off := 101) (tgt := 106) (by decide +kernel) (by decide) (fun c1 => absurd c1 e) (fun c1 => ?_)
      refine jj_aload_n (j := 0) (by decide +kernel) rfl ?_
      refine jj_iload_n (j := 2) (by decide +kernel) rfl ?_
      refine jj_callr (m_at (d := d - 1) hG hN hb (by omega)) (fun o1 h1 hC => jj_callV ok_MO_at ml_MO_83 im_MO_at se_MO_MO_at (by decide +kernel) hb.rcv rfl (by omega) (Nat.le_of_ble_eq_true rfl) hC) (by rintro E h1 ⟨q, -⟩; cases q) ?_
      rintro v h9 ⟨hv, e9⟩
      cases hv
      have e9 := e9.symm
      subst e9
      refine jj_istore (i := 4) (by decide +kernel) (by decide) rfl ?_
      have K103 : ∀ (q : Nat) (y : Int32), p0 ≤ q → q ≤ N → (y ≠ 0 → p < q) → jj_P l G y_MO_skip d (fun out h' => ∃ q : Nat, out = .inl (some (.int (nI q))) ∧ h' = h ∧ p0 ≤ q ∧ q ≤ N) 103 [some (.ref (A 0)), some (.int x1), some (.int (nI q)), some (.int y), some (.int (mo_at N (c 1) p))] [] h := by
        intro q y g1 g2 g3
        refine jj_goto (off := (-99)) (tgt := 4) (by decide +kernel) (by decide) ?_
        exact jj_wk (js_s (js_s (js_s (js_s (js_n js_0))))) (ih q y g1 g2 (fun z => by have z9 := g3 z; omega))
      have K96 : ∀ (y : Int32), (y ≠ 0 → p < N) → jj_P l G y_MO_skip d (fun out h' => ∃ q : Nat, out = .inl (some (.int (nI q))) ∧ h' = h ∧ p0 ≤ q ∧ q ≤ N) 96 [some (.ref (A 0)), some (.int x1), some (.int (nI p)), some (.int y), some (.int (mo_at N (c 1) p))] [] h := by
        intro y g3
        refine jj_iload_n (j := 3) (by decide +kernel) rfl ?_
        refine jj_if_eq (off := 6) (tgt := 103) (by decide +kernel) (by decide) (fun c1 => K103 p y h1 h2 (fun z => absurd c1 z)) (fun c1 => ?_)
        refine jj_iinc (i := 2) (n := 1) (v := nI (p + 1)) (by decide +kernel) rfl (by rw [show Int32.ofInt 1 = 1 from rfl]; exact nI_1 p) (by decide) rfl ?_
        have g4 := g3 c1
        exact K103 (p + 1) y (by omega) (by omega) (fun _ => by omega)
      have K60 : ∀ (y z : Int32), (y ≠ 0 → p < N) → jj_P l G y_MO_skip d (fun out h' => ∃ q : Nat, out = .inl (some (.int (nI q))) ∧ h' = h ∧ p0 ≤ q ∧ q ≤ N) 60 [some (.ref (A 0)), some (.int x1), some (.int (nI p)), some (.int z), some (.int (mo_at N (c 1) p))] [.int y] h := by
        intro y z g3
        refine jj_istore_n (j := 3) (by decide +kernel) (by decide) rfl ?_
        refine jj_iload (i := 4) (by decide +kernel) rfl ?_
        refine jj_bipush (n := 45) (v := 45) (by decide +kernel) (by decide) ?_
        refine jj_icmp_ne (off := 31) (tgt := 96) (by decide +kernel) (by decide) (fun c1 => K96 y g3) (fun c1 => ?_)
        refine jj_iload_n (j := 3) (by decide +kernel) rfl ?_
        refine jj_if_eq (off := 27) (tgt := 96) (by decide +kernel) (by decide) (fun c2 => K96 y g3) (fun c2 => ?_)
        exact b_MO_skip_72 hG hN hb hdd c1 (fun q g1 g2 => K103 q y (by omega) g2 (fun _ => g1)) _ p (Nat.lt_succ_self _) (Nat.le_refl _) h2
      have K55 : mo_at N (c 1) p ≠ -1 → jj_P l G y_MO_skip d (fun out h' => ∃ q : Nat, out = .inl (some (.int (nI q))) ∧ h' = h ∧ p0 ≤ q ∧ q ≤ N) 55 [some (.ref (A 0)), some (.int x1), some (.int (nI p)), some (.int x3), some (.int (mo_at N (c 1) p))] [] h := by
        intro g3
        refine jj_iconst (n := 1) (v := 1) (by decide +kernel) (by decide) ?_
        refine jj_goto (off := 4) (tgt := 60) (by decide +kernel) (by decide) ?_
        exact K60 1 x3 (fun _ => mo_at.lt g3)
      have K59 : jj_P l G y_MO_skip d (fun out h' => ∃ q : Nat, out = .inl (some (.int (nI q))) ∧ h' = h ∧ p0 ≤ q ∧ q ≤ N) 59 [some (.ref (A 0)), some (.int x1), some (.int (nI p)), some (.int x3), some (.int (mo_at N (c 1) p))] [] h := by
        refine jj_iconst (n := 0) (v := 0) (by decide +kernel) (by decide) ?_
        exact K60 0 x3 (fun q => absurd rfl q)
      refine jj_iload (i := 4) (by decide +kernel) rfl ?_
      refine jj_bipush (n := 32) (v := 32) (by decide +kernel) (by decide) ?_
      refine jj_icmp_eq (off := 36) (tgt := 55) (by decide +kernel) (by decide) (fun c2 => K55 (by rw [c2]; decide)) (fun c2 => ?_)
      refine jj_iload (i := 4) (by decide +kernel) rfl ?_
      refine jj_bipush (n := 9) (v := 9) (by decide +kernel) (by decide) ?_
      refine jj_icmp_eq (off := 29) (tgt := 55) (by decide +kernel) (by decide) (fun c2 => K55 (by rw [c2]; decide)) (fun c2 => ?_)
      refine jj_iload (i := 4) (by decide +kernel) rfl ?_
      refine jj_bipush (n := 10) (v := 10) (by decide +kernel) (by decide) ?_
      refine jj_icmp_eq (off := 22) (tgt := 55) (by decide +kernel) (by decide) (fun c2 => K55 (by rw [c2]; decide)) (fun c2 => ?_)
      refine jj_iload (i := 4) (by decide +kernel) rfl ?_
      refine jj_bipush (n := 45) (v := 45) (by decide +kernel) (by decide) ?_
      refine jj_icmp_ne (off := 19) (tgt := 59) (by decide +kernel) (by decide) (fun c2 => K59) (fun c2 => ?_)
      refine jj_aload_n (j := 0) (by decide +kernel) rfl ?_
      refine jj_iload_n (j := 2) (by decide +kernel) rfl ?_
      refine jj_iconst (n := 1) (v := 1) (by decide +kernel) (by decide) ?_
      refine jj_iadd (by decide +kernel) ?_
      rw [nI_1 p]
      refine jj_callr (m_at (d := d - 1) hG hN hb (by omega)) (fun o1 h1 hC => jj_callV ok_MO_at ml_MO_83 im_MO_at se_MO_MO_at (by decide +kernel) hb.rcv rfl (by omega) (Nat.le_of_ble_eq_true rfl) hC) (by rintro E h1 ⟨q, -⟩; cases q) ?_
      rintro v h9 ⟨hv, e9⟩
      cases hv
      have e9 := e9.symm
      subst e9
      refine jj_bipush (n := 45) (v := 45) (by decide +kernel) (by decide) ?_
      refine jj_icmp_ne (off := 7) (tgt := 59) (by decide +kernel) (by decide) (fun c3 => K59) (fun c3 => ?_)
      exact K55 (by rw [c2]; decide)
set_option maxRecDepth 100000 in
set_option maxHeartbeats 4000000 in
theorem m_skip {l : Launch} {G : jj_G} {h0 : jj_H} {A : Nat → Nat} {N T M : Nat} {c : Nat → Nat → Int32} {wr nw ow : Int32} {g d : Nat} {h : jj_H} {p0 : Nat} (hG : jj_tyG G) (hN : N ≤ 16384) (hb : Pb G (h0, A, N, T, M, c) wr nw ow g h) (hdd : 1 ≤ d) (hp : p0 ≤ N) : jj_Q l G y_MO_skip d [.ref (A 0), .int (nI p0)] h (fun out h' => ∃ q : Nat, out = .inl (some (.int (nI q))) ∧ h' = h ∧ p0 ≤ q ∧ q ≤ N) := by
  refine jj_Q.of (by decide +kernel) (Nat.le_of_ble_eq_true rfl) ?_
  refine jj_iload_n (j := 1) (by decide +kernel) rfl ?_
  refine jj_istore_n (j := 2) (by decide +kernel) (by decide) rfl ?_
  refine jj_iconst (n := 1) (v := 1) (by decide +kernel) (by decide) ?_
  refine jj_istore_n (j := 3) (by decide +kernel) (by decide) rfl ?_
  exact b_MO_skip_4 hG hN hb hdd _ p0 1 (Nat.le_refl _) hp (fun _ => Nat.lt_succ_self _)
set_option maxRecDepth 100000 in
set_option maxHeartbeats 4000000 in
theorem m_token {l : Launch} {G : jj_G} {h0 : jj_H} {A : Nat → Nat} {N T M : Nat} {c : Nat → Nat → Int32} {wr nw ow : Int32} {g d : Nat} {h : jj_H} {x y z : Int32} (hi : mo_inj A) (hG : jj_tyG G) (hN : N ≤ 16384) (hb : Pb G (h0, A, N, T, M, c) wr nw ow g h) (hT : T ≤ 16385) : jj_Q l G y_MO_token d [.ref (A 0), .int x, .int y, .int z] h (fun out h' => out = .inl none ∧ Pb G (h0, A, N, T + 1, M, mo_u (mo_u (mo_u c 5 (upd (c 5) T x)) 6 (upd (c 6) T y)) 7 (upd (c 7) T z)) wr nw ow g h') := by
  refine jj_Q.of (by decide +kernel) (Nat.le_of_ble_eq_true rfl) ?_
  obtain ⟨th, wh, S, b0, hS, hg, a1, a5, a6, a7, a9, a10, nd, fr, hz⟩ := hb.un
  refine jj_aload_n (j := 0) (by decide +kernel) rfl ?_
  refine jj_getfield 5 ck_MO fl_MO_17 (by decide) (by decide +kernel) b0 rfl ?_
  refine jj_aload_n (j := 0) (by decide +kernel) rfl ?_
  refine jj_getfield 8 ck_MO fl_MO_80 (by decide) (by decide +kernel) b0 rfl ?_
  refine jj_iload_n (j := 1) (by decide +kernel) rfl ?_
  refine jj_iastore (jj_tI hG) (by decide +kernel) a5 (vp_in_nI (show T < 16386 by omega) (by decide)) ?_
  rw [nI_clamp (show T < 2 ^ 31 by omega)]
  have hb := hb.ar5 hi (upd (c 5) T x)
  obtain ⟨th, wh, S, b0, hS, hg, a1, a5, a6, a7, a9, a10, nd, fr, hz⟩ := hb.un
  refine jj_aload_n (j := 0) (by decide +kernel) rfl ?_
  refine jj_getfield 6 ck_MO fl_MO_21 (by decide) (by decide +kernel) b0 rfl ?_
  refine jj_aload_n (j := 0) (by decide +kernel) rfl ?_
  refine jj_getfield 8 ck_MO fl_MO_80 (by decide) (by decide +kernel) b0 rfl ?_
  refine jj_iload_n (j := 2) (by decide +kernel) rfl ?_
  refine jj_iastore (jj_tI hG) (by decide +kernel) a6 (vp_in_nI (show T < 16386 by omega) (by decide)) ?_
  rw [nI_clamp (show T < 2 ^ 31 by omega)]
  have hb := hb.ar6 hi (upd (c 6) T y)
  obtain ⟨th, wh, S, b0, hS, hg, a1, a5, a6, a7, a9, a10, nd, fr, hz⟩ := hb.un
  refine jj_aload_n (j := 0) (by decide +kernel) rfl ?_
  refine jj_getfield 7 ck_MO fl_MO_24 (by decide) (by decide +kernel) b0 rfl ?_
  refine jj_aload_n (j := 0) (by decide +kernel) rfl ?_
  refine jj_getfield 8 ck_MO fl_MO_80 (by decide) (by decide +kernel) b0 rfl ?_
  refine jj_iload_n (j := 3) (by decide +kernel) rfl ?_
  refine jj_iastore (jj_tI hG) (by decide +kernel) a7 (vp_in_nI (show T < 16386 by omega) (by decide)) ?_
  rw [nI_clamp (show T < 2 ^ 31 by omega)]
  have hb := hb.ar7 hi (upd (c 7) T z)
  obtain ⟨th, wh, S, b0, hS, hg, a1, a5, a6, a7, a9, a10, nd, fr, hz⟩ := hb.un
  refine jj_aload_n (j := 0) (by decide +kernel) rfl ?_
  refine jj_dup (by decide +kernel) rfl ?_
  refine jj_getfield 8 ck_MO fl_MO_80 (by decide) (by decide +kernel) b0 rfl ?_
  refine jj_iconst (n := 1) (v := 1) (by decide +kernel) (by decide) ?_
  refine jj_iadd (by decide +kernel) ?_
  rw [nI_1 T]
  refine jj_putfield 8 ck_MO fl_MO_80 (by decide) rfl (by decide +kernel) b0 rfl rfl (Nat.lt_of_sub_eq_succ rfl) ?_
  exact jj_vret (by decide +kernel) rfl ⟨rfl, hb.obj hi th wr wh nw ow N (T + 1) M hS hg⟩
