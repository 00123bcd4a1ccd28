/-! THE CLASS'S OBJECT AS A SYSTEM. Its thirteen addresses by number: rows 0 characters, 1 letters, 2 starts, 3 newest, 4 before, 5 declared, 6 pending; tables 7 tree, 8 tokens; 9 the object itself, 10 spellings, 11 scanner, 12 grammar.
X: the heap at the beginning, what of it is the system's, the addresses, the bases of cells and slots, and whether the spellings alone are made yet. K: how many were thrown; o: how many are open; N: how many characters. -/
abbrev sy_X : Type := jj_H × (Nat → Prop) × (Nat → Nat) × Nat × Nat × Bool
def sy_on (X : sy_X) (i : Nat) : Prop := X.2.2.2.2.2 = true → i = 1 ∨ i = 2 ∨ i = 3 ∨ i = 4 ∨ i = 10
theorem sy_p {X : sy_X} {i : Nat} (h : i = 1 ∨ i = 2 ∨ i = 3 ∨ i = 4 ∨ i = 10) : sy_on X i := fun _ => h
theorem sy_o {X : sy_X} {i : Nat} (h : X.2.2.2.2.2 = false) : sy_on X i := fun q => by rw [h] at q; cases q
def sy_G (G : jj_G) (X : sy_X) : Prop := jj_tyG G ∧ X.2.2.2.2.2 = false
def sy_row (G : jj_G) (A w c : Nat → Nat) (h : jj_H) (ci k b N t : Nat) : Prop :=
  ∃ (a : Nat) (f : Nat → Int32) (n : Nat), h.1 (A t) = some (.inr (ci, [.ref a, .int (nI n)])) ∧ h.1 a = some (.inl (jj_cI G, c t, .inl f)) ∧ k * n ≤ c t ∧ n ≤ b ∧ 64 ≤ c t ∧ c t ≤ 200000 ∧ w a = t ∧ a < h.2.1 ∧ A t ≠ a ∧ (t = 0 → n = N)
def sy_sum (c : Nat → Nat) : Nat := c 0 + c 1 + c 2 + c 3 + c 4 + c 5 + c 6 + c 7 + c 8
def sy_ST (A : Nat → Nat) (h : jj_H) : Prop := ∃ x : Int32, h.1 (A 9) = some (.inr (0, [.ref (A 0), .ref (A 10), .ref (A 7), .ref (A 11), .ref (A 12), .int x]))
def sy_SP (A : Nat → Nat) (h : jj_H) : Prop := ∃ x : Int32, h.1 (A 10) = some (.inr (3, [.ref (A 1), .ref (A 2), .ref (A 3), .ref (A 4), .int x]))
def sy_SC (A : Nat → Nat) (h : jj_H) : Prop := ∃ x : Int32, h.1 (A 11) = some (.inr (4, [.ref (A 0), .ref (A 10), .ref (A 8), .int x]))
def sy_GR (A : Nat → Nat) (h : jj_H) (o : Nat) : Prop := ∃ ki va pl fa fp ne : Int32, h.1 (A 12) = some (.inr (5, [.ref (A 0), .ref (A 5), .ref (A 6), .int ki, .int va, .int pl, .int fa, .int fp, .ref (A 8), .ref (A 7), .int ne, .int (nI o)]))
def sy_obs (X : sy_X) (h : jj_H) (o : Nat) : Prop := (sy_on X 9 → sy_ST X.2.2.1 h) ∧ sy_SP X.2.2.1 h ∧ (sy_on X 11 → sy_SC X.2.2.1 h) ∧ (sy_on X 12 → sy_GR X.2.2.1 h o)
def sy_in (G : jj_G) (X : sy_X) (K o N : Nat) (h : jj_H) (w c : Nat → Nat) : Prop :=
  (∀ t, t < 7 → sy_on X t → sy_row G X.2.2.1 w c h 1 1 32768 N t) ∧ (∀ t, 7 ≤ t → t < 9 → sy_on X t → sy_row G X.2.2.1 w c h 2 3 16385 N t) ∧ sy_obs X h o ∧
  (∀ i, i < 13 → sy_on X i → w (X.2.2.1 i) = i ∧ X.2.2.1 i < h.2.1) ∧ (∀ q, w q < 13 → q < X.1.2.1 → X.2.1 q) ∧ (∀ q, q < X.1.2.1 → ¬ X.2.1 q → h.1 q = X.1.1 q) ∧
  X.1.2.1 ≤ h.2.1 ∧ 64 * h.2.1 ≤ 64 * (X.2.2.2.1 + K) + sy_sum c ∧ h.2.2 ≤ X.2.2.2.2.1 + 6 * K + 2 * sy_sum c ∧ ∀ t, t < 9 → ¬ sy_on X t → c t = 0
def Sy (G : jj_G) (X : sy_X) (K o N : Nat) (h : jj_H) : Prop := ∃ w c : Nat → Nat, sy_in G X K o N h w c
theorem sy_row.keep {G : jj_G} {A w w' c c' : Nat → Nat} {h h' : jj_H} {ci k b N N' t : Nat} (hr : sy_row G A w c h ci k b N t) (hA : w (A t) = t ∧ A t < h.2.1) (hk : ∀ q, q < h.2.1 → w q = t → h'.1 q = h.1 q) (hz : h.2.1 ≤ h'.2.1) (hw : ∀ q, q < h.2.1 → w' q = w q) (hc : c' t = c t) (hN : t = 0 → N' = N) : sy_row G A w' c' h' ci k b N' t := by
  obtain ⟨a, f, n, r1, r2, r3, r4, r5, r6, r7, r8, r9, r10⟩ := hr
  refine ⟨a, f, n, (hk _ hA.2 hA.1).trans r1, ?_, by rw [hc]; exact r3, r4, by rw [hc]; exact r5, by rw [hc]; exact r6, (hw _ r8).trans r7, Nat.lt_of_lt_of_le r8 hz, r9, fun q => (r10 q).trans (hN q).symm⟩
  rw [hc]
  exact (hk _ r8 r7).trans r2
theorem sy_obs.keep {X : sy_X} {h h' : jj_H} {o : Nat} (ho : sy_obs X h o) (hk : ∀ i, 9 ≤ i → i < 13 → sy_on X i → h'.1 (X.2.2.1 i) = h.1 (X.2.2.1 i)) : sy_obs X h' o := by
  obtain ⟨o1, ⟨x2, e2⟩, o3, o4⟩ := ho
  refine ⟨fun q => ?_, ⟨x2, (hk 10 (by decide) (by decide) (sy_p (by decide))).trans e2⟩, fun q => ?_, fun q => ?_⟩
  · obtain ⟨x1, e1⟩ := o1 q
    exact ⟨x1, (hk 9 (by decide) (by decide) q).trans e1⟩
  · obtain ⟨x3, e3⟩ := o3 q
    exact ⟨x3, (hk 11 (by decide) (by decide) q).trans e3⟩
  · obtain ⟨a, b, c, d, e, f, e4⟩ := o4 q
    exact ⟨a, b, c, d, e, f, (hk 12 (by decide) (by decide) q).trans e4⟩
theorem sy_in.row_upd {G : jj_G} {X : sy_X} {K o N N' : Nat} {h h' : jj_H} {w c w' c' : Nat → Nat} {t : Nat} (hs : sy_in G X K o N h w c) (ht : t < 9) (hon : sy_on X t)
    (hn : (t < 7 → sy_row G X.2.2.1 w' c' h' 1 1 32768 N' t) ∧ (7 ≤ t → sy_row G X.2.2.1 w' c' h' 2 3 16385 N' t)) (hk : ∀ q, q < h.2.1 → w q ≠ t → h'.1 q = h.1 q) (hw : ∀ q, q < h.2.1 → w' q = w q) (hc : ∀ i, i ≠ t → c' i = c i) (hN : t ≠ 0 → N' = N)
    (hz : h.2.1 ≤ h'.2.1) (h1 : 64 * h'.2.1 + c t ≤ 64 * h.2.1 + c' t) (h2 : h'.2.2 + 2 * c t ≤ h.2.2 + 2 * c' t) : sy_in G X K o N' h' w' c' := by
  obtain ⟨a1, a2, a3, a4, a5, a6, a7, a8, a9, a10⟩ := hs
  have hsum : sy_sum c' + c t = sy_sum c + c' t := by
    have e0 := hc 0
    have e1 := hc 1
    have e2 := hc 2
    have e3 := hc 3
    have e4 := hc 4
    have e5 := hc 5
    have e6 := hc 6
    have e7 := hc 7
    have e8 := hc 8
    unfold sy_sum
    rcases (show t = 0 ∨ t = 1 ∨ t = 2 ∨ t = 3 ∨ t = 4 ∨ t = 5 ∨ t = 6 ∨ t = 7 ∨ t = 8 by omega) with rfl | rfl | rfl | rfl | rfl | rfl | rfl | rfl | rfl <;> omega
  refine ⟨fun i hi hio => ?_, fun i hi1 hi2 hio => ?_, a3.keep (fun i g1 g2 g3 => ?_), fun i hi hio => ⟨(hw _ (a4 i hi hio).2).trans (a4 i hi hio).1, Nat.lt_of_lt_of_le (a4 i hi hio).2 hz⟩, fun q hq hlt => ?_, fun q hq hno => ?_, by omega, by omega, by omega, fun i hi hno => (hc i (fun e => hno (e ▸ hon))).trans (a10 i hi hno)⟩
  · by_cases e : i = t
    · subst e
      exact hn.1 hi
    · exact (a1 i hi hio).keep (a4 i (by omega) hio) (fun q hq hw9 => hk q hq (by rw [hw9]; exact e)) hz hw (hc i e) (fun q => hN (fun z => e (q.trans z.symm)))
  · by_cases e : i = t
    · subst e
      exact hn.2 hi1
    · exact (a2 i hi1 hi2 hio).keep (a4 i (by omega) hio) (fun q hq hw9 => hk q hq (by rw [hw9]; exact e)) hz hw (hc i e) (fun q => hN (fun z => e (q.trans z.symm)))
  · exact hk _ (a4 i g2 g3).2 (by rw [(a4 i g2 g3).1]; omega)
  · exact a5 q (by rw [← hw q (Nat.lt_of_lt_of_le hlt a7)]; exact hq) hlt
  · exact (hk q (Nat.lt_of_lt_of_le hq a7) (fun e => hno (a5 q (by rw [e]; omega) hq))).trans (a6 q hq hno)
theorem sy_in.ob_upd {G : jj_G} {X : sy_X} {K o o' N i j : Nat} {h h' : jj_H} {w c : Nat → Nat} (hs : sy_in G X K o N h w c) (hi : 9 ≤ i) (hi2 : i < 13) (hio : sy_on X i) (hn : sy_obs X h' o') (hk : ∀ q, q ≠ X.2.2.1 i → h'.1 q = h.1 q)
    (hz : h.2.1 ≤ h'.2.1) (h1 : h'.2.1 ≤ h.2.1 + j) (h2 : h'.2.2 ≤ h.2.2 + 6 * j) : sy_in G X (K + j) o' N h' w c := by
  obtain ⟨a1, a2, a3, a4, a5, a6, a7, a8, a9, a10⟩ := hs
  have hne : ∀ q, w q < 9 → q ≠ X.2.2.1 i := by
    rintro q hq rfl
    rw [(a4 i hi2 hio).1] at hq
    omega
  refine ⟨fun t ht hto => ?_, fun t ht1 ht2 hto => ?_, hn, fun t ht hto => ⟨(a4 t ht hto).1, Nat.lt_of_lt_of_le (a4 t ht hto).2 hz⟩, a5, fun q hq hno => ?_, by omega, by omega, by omega, a10⟩
  · exact (a1 t ht hto).keep (a4 t (by omega) hto) (fun q _ hw9 => hk q (hne q (by omega))) hz (fun _ _ => rfl) rfl (fun _ => rfl)
  · exact (a2 t ht1 ht2 hto).keep (a4 t (by omega) hto) (fun q _ hw9 => hk q (hne q (by omega))) hz (fun _ _ => rfl) rfl (fun _ => rfl)
  · refine (hk q ?_).trans (a6 q hq hno)
    rintro rfl
    exact hno (a5 _ (by rw [(a4 i hi2 hio).1]; exact hi2) hq)
theorem sy_in.ne {G : jj_G} {X : sy_X} {K o N : Nat} {h : jj_H} {w c : Nat → Nat} (hs : sy_in G X K o N h w c) {i j : Nat} (hi : i < 13) (hj : j < 13) (hij : i ≠ j) (ai : sy_on X i) (aj : sy_on X j) : X.2.2.1 i ≠ X.2.2.1 j := by
  intro e
  have h1 := (hs.2.2.2.1 i hi ai).1
  rw [e, (hs.2.2.2.1 j hj aj).1] at h1
  exact hij h1.symm
section SYP
variable {G : jj_G} {X : sy_X} {K o N : Nat} {h : jj_H}
theorem Sy.st (hs : Sy G X K o N h) (hX : X.2.2.2.2.2 = false) : sy_ST X.2.2.1 h := by
  obtain ⟨w, c, hs⟩ := hs
  exact hs.2.2.1.1 (sy_o hX)
theorem Sy.sp (hs : Sy G X K o N h) : sy_SP X.2.2.1 h := by
  obtain ⟨w, c, hs⟩ := hs
  exact hs.2.2.1.2.1
theorem Sy.sc (hs : Sy G X K o N h) (hX : X.2.2.2.2.2 = false) : sy_SC X.2.2.1 h := by
  obtain ⟨w, c, hs⟩ := hs
  exact hs.2.2.1.2.2.1 (sy_o hX)
theorem Sy.gr (hs : Sy G X K o N h) (hX : X.2.2.2.2.2 = false) : sy_GR X.2.2.1 h o := by
  obtain ⟨w, c, hs⟩ := hs
  exact hs.2.2.1.2.2.2 (sy_o hX)
theorem Sy.putST (hs : Sy G X K o N h) (hX : X.2.2.2.2.2 = false) (x : Int32) : Sy G X K o N (jj_up h.1 (X.2.2.1 9) (.inr (0, [.ref (X.2.2.1 0), .ref (X.2.2.1 10), .ref (X.2.2.1 7), .ref (X.2.2.1 11), .ref (X.2.2.1 12), .int x])), h.2) := by
  obtain ⟨w, c, hs⟩ := hs
  obtain ⟨o1, o2, o3, o4⟩ := id hs.2.2.1
  refine ⟨w, c, hs.ob_upd (i := 9) (j := 0) (by decide) (by decide) (sy_o hX) ⟨fun _ => ⟨x, jj_up_self⟩, ?_, fun q => ?_, fun q => ?_⟩ (fun q hq => jj_up_ne hq) (Nat.le_refl _) (Nat.le_refl _) (Nat.le_refl _)⟩
  · obtain ⟨y, e⟩ := o2
    exact ⟨y, (jj_up_ne (hs.ne (by decide) (by decide) (by decide) (sy_p (by decide)) (sy_o hX))).trans e⟩
  · obtain ⟨y, e⟩ := o3 q
    exact ⟨y, (jj_up_ne (hs.ne (by decide) (by decide) (by decide) q (sy_o hX))).trans e⟩
  · obtain ⟨a, b, c, d, e, f, e4⟩ := o4 q
    exact ⟨a, b, c, d, e, f, (jj_up_ne (hs.ne (by decide) (by decide) (by decide) q (sy_o hX))).trans e4⟩
theorem Sy.putSP (hs : Sy G X K o N h) (x : Int32) : Sy G X K o N (jj_up h.1 (X.2.2.1 10) (.inr (3, [.ref (X.2.2.1 1), .ref (X.2.2.1 2), .ref (X.2.2.1 3), .ref (X.2.2.1 4), .int x])), h.2) := by
  obtain ⟨w, c, hs⟩ := hs
  obtain ⟨o1, o2, o3, o4⟩ := id hs.2.2.1
  refine ⟨w, c, hs.ob_upd (i := 10) (j := 0) (by decide) (by decide) (sy_p (by decide)) ⟨fun q => ?_, ⟨x, jj_up_self⟩, fun q => ?_, fun q => ?_⟩ (fun q hq => jj_up_ne hq) (Nat.le_refl _) (Nat.le_refl _) (Nat.le_refl _)⟩
  · obtain ⟨y, e⟩ := o1 q
    exact ⟨y, (jj_up_ne (hs.ne (by decide) (by decide) (by decide) q (sy_p (by decide)))).trans e⟩
  · obtain ⟨y, e⟩ := o3 q
    exact ⟨y, (jj_up_ne (hs.ne (by decide) (by decide) (by decide) q (sy_p (by decide)))).trans e⟩
  · obtain ⟨a, b, c, d, e, f, e4⟩ := o4 q
    exact ⟨a, b, c, d, e, f, (jj_up_ne (hs.ne (by decide) (by decide) (by decide) q (sy_p (by decide)))).trans e4⟩
theorem Sy.putSC (hs : Sy G X K o N h) (hX : X.2.2.2.2.2 = false) (x : Int32) : Sy G X K o N (jj_up h.1 (X.2.2.1 11) (.inr (4, [.ref (X.2.2.1 0), .ref (X.2.2.1 10), .ref (X.2.2.1 8), .int x])), h.2) := by
  obtain ⟨w, c, hs⟩ := hs
  obtain ⟨o1, o2, o3, o4⟩ := id hs.2.2.1
  refine ⟨w, c, hs.ob_upd (i := 11) (j := 0) (by decide) (by decide) (sy_o hX) ⟨fun q => ?_, ?_, fun _ => ⟨x, jj_up_self⟩, fun q => ?_⟩ (fun q hq => jj_up_ne hq) (Nat.le_refl _) (Nat.le_refl _) (Nat.le_refl _)⟩
  · obtain ⟨y, e⟩ := o1 q
    exact ⟨y, (jj_up_ne (hs.ne (by decide) (by decide) (by decide) q (sy_o hX))).trans e⟩
  · obtain ⟨y, e⟩ := o2
    exact ⟨y, (jj_up_ne (hs.ne (by decide) (by decide) (by decide) (sy_p (by decide)) (sy_o hX))).trans e⟩
  · obtain ⟨a, b, c, d, e, f, e4⟩ := o4 q
    exact ⟨a, b, c, d, e, f, (jj_up_ne (hs.ne (by decide) (by decide) (by decide) q (sy_o hX))).trans e4⟩
/-- the grammar's own fields anew, and perhaps a throw -/
theorem Sy.newGR (hs : Sy G X K o N h) (hX : X.2.2.2.2.2 = false) {h' : jj_H} {o' j : Nat} (hg : sy_GR X.2.2.1 h' o') (hk : ∀ q, q ≠ X.2.2.1 12 → h'.1 q = h.1 q) (hz : h.2.1 ≤ h'.2.1) (h1 : h'.2.1 ≤ h.2.1 + j) (h2 : h'.2.2 ≤ h.2.2 + 6 * j) : Sy G X (K + j) o' N h' := by
  obtain ⟨w, c, hs⟩ := hs
  obtain ⟨o1, o2, o3, -⟩ := id hs.2.2.1
  refine ⟨w, c, hs.ob_upd (i := 12) (j := j) (by decide) (by decide) (sy_o hX) ⟨fun q => ?_, ?_, fun q => ?_, fun _ => hg⟩ hk hz h1 h2⟩
  · obtain ⟨y, e⟩ := o1 q
    exact ⟨y, (hk _ (hs.ne (by decide) (by decide) (by decide) q (sy_o hX))).trans e⟩
  · obtain ⟨y, e⟩ := o2
    exact ⟨y, (hk _ (hs.ne (by decide) (by decide) (by decide) (sy_p (by decide)) (sy_o hX))).trans e⟩
  · obtain ⟨y, e⟩ := o3 q
    exact ⟨y, (hk _ (hs.ne (by decide) (by decide) (by decide) q (sy_o hX))).trans e⟩
theorem Sy.putGR (hs : Sy G X K o N h) (hX : X.2.2.2.2.2 = false) (ki va pl fa fp ne : Int32) (o' : Nat) : Sy G X K o' N (jj_up h.1 (X.2.2.1 12) (.inr (5, [.ref (X.2.2.1 0), .ref (X.2.2.1 5), .ref (X.2.2.1 6), .int ki, .int va, .int pl, .int fa, .int fp, .ref (X.2.2.1 8), .ref (X.2.2.1 7), .int ne, .int (nI o')])), h.2) :=
  hs.newGR hX (j := 0) ⟨ki, va, pl, fa, fp, ne, jj_up_self⟩ (fun q hq => jj_up_ne hq) (Nat.le_refl _) (Nat.le_refl _) (Nat.le_refl _)
/-! receivers -/
theorem Sy.rcR (hs : Sy G X K o N h) {t : Nat} (ht : t < 7) (hon : sy_on X t) : jj_rcv G h (X.2.2.1 t) "SourceTree$IntRow" := by
  obtain ⟨w, c, hs⟩ := hs
  obtain ⟨a, f, n, r1, -⟩ := hs.1 t ht hon
  exact jj_rcv.ob ck_IR.1 r1
theorem Sy.rcT (hs : Sy G X K o N h) {t : Nat} (h7 : 7 ≤ t) (ht : t < 9) (hon : sy_on X t) : jj_rcv G h (X.2.2.1 t) "SourceTree$Table" := by
  obtain ⟨w, c, hs⟩ := hs
  obtain ⟨a, f, n, r1, -⟩ := hs.2.1 t h7 ht hon
  exact jj_rcv.ob ck_TB.1 r1
theorem Sy.rcST (hs : Sy G X K o N h) (hX : X.2.2.2.2.2 = false) : jj_rcv G h (X.2.2.1 9) "SourceTree" := by
  obtain ⟨x, e⟩ := hs.st hX
  exact jj_rcv.ob ck_ST.1 e
theorem Sy.rcSP (hs : Sy G X K o N h) : jj_rcv G h (X.2.2.1 10) "SourceTree$Spellings" := by
  obtain ⟨x, e⟩ := hs.sp
  exact jj_rcv.ob ck_SP.1 e
theorem Sy.rcSC (hs : Sy G X K o N h) (hX : X.2.2.2.2.2 = false) : jj_rcv G h (X.2.2.1 11) "SourceTree$Scanner" := by
  obtain ⟨x, e⟩ := hs.sc hX
  exact jj_rcv.ob ck_SC.1 e
theorem Sy.rcGR (hs : Sy G X K o N h) (hX : X.2.2.2.2.2 = false) : jj_rcv G h (X.2.2.1 12) "SourceTree$Grammar" := by
  obtain ⟨_, _, _, _, _, _, e⟩ := hs.gr hX
  exact jj_rcv.ob ck_GR.1 e
end SYP
/-- how a call of the system's ends: ty 0 nothing, 1 an int, 2 a boolean, 3 an int that is not below 0, 9 never; thr whether it may throw -/
def sy_F (ty : Nat) (thr : Bool) (G : jj_G) (X : sy_X) (K o N : Nat) : jj_O → jj_H → Prop := fun out h' => match out with
  | .inl none => ty = 0 ∧ Sy G X K o N h'
  | .inl (some (.int v)) => (ty = 1 ∨ (ty = 2 ∧ (v = 0 ∨ v = 1)) ∨ (ty = 3 ∧ 0 ≤ v)) ∧ Sy G X K o N h'
  | .inl (some _) => False
  | .inr E => thr = true ∧ E = "java/lang/IllegalStateException" ∧ ∃ o', Sy G X (K + 1) o' N h'
section SYC
variable {l : Launch} {G : jj_G} {Y Y' : jj_Y} {d d' : Nat} {F : jj_O → jj_H → Prop} {pc : Nat} {L : List (Option Value)} {st as rest : List Value} {h : jj_H} {X : sy_X} {K o N ty : Nat} {thr : Bool}
theorem sy_cv (hQ : jj_Q l G Y' d' as h (sy_F 0 thr G X K o N)) (hR : ∀ o1 h1, jj_C l G Y' d' as h o1 h1 → jj_R l G Y d as h o1 h1 pc st rest) (hcov : (tableOf Y.2.2.2.2).all (fun x => !covers x pc) = true)
    (hx : thr = true → ∀ o' h1, Sy G X (K + 1) o' N h1 → F (.inr "java/lang/IllegalStateException") h1) (k : ∀ h1, Sy G X K o N h1 → jj_P l G Y d F (pc + 3) L rest h1) : jj_P l G Y d F pc L st h := by
  refine jj_call hQ hR hcov (fun v h1 hP => ?_) (fun E h1 hP => ?_)
  · cases v with
    | none => exact k h1 hP.2
    | some v =>
      cases v with
      | int v =>
        obtain ⟨q | ⟨q, -⟩ | ⟨q, -⟩, -⟩ := hP <;> exact absurd q (by decide)
      | _ => exact hP.elim
  · obtain ⟨q, rfl, o', hS⟩ := hP
    exact hx q o' h1 hS
theorem sy_ci (hQ : jj_Q l G Y' d' as h (sy_F ty thr G X K o N)) (hR : ∀ o1 h1, jj_C l G Y' d' as h o1 h1 → jj_R l G Y d as h o1 h1 pc st rest) (hty : ty ≠ 0) (hcov : (tableOf Y.2.2.2.2).all (fun x => !covers x pc) = true)
    (hx : thr = true → ∀ o' h1, Sy G X (K + 1) o' N h1 → F (.inr "java/lang/IllegalStateException") h1) (k : ∀ (v : Int32) (h1 : jj_H), (ty = 3 → 0 ≤ v) → Sy G X K o N h1 → jj_P l G Y d F (pc + 3) L (.int v :: rest) h1) : jj_P l G Y d F pc L st h := by
  refine jj_call hQ hR hcov (fun v h1 hP => ?_) (fun E h1 hP => ?_)
  · cases v with
    | none => exact absurd hP.1 hty
    | some v =>
      cases v with
      | int v =>
        refine k v h1 (fun q => ?_) hP.2
        obtain ⟨z | ⟨z, -⟩ | ⟨-, z⟩, -⟩ := hP
        · exact absurd (z.symm.trans q) (by decide)
        · exact absurd (z.symm.trans q) (by decide)
        · exact z
      | _ => exact hP.elim
  · obtain ⟨q, rfl, o', hS⟩ := hP
    exact hx q o' h1 hS
/-- a callee that never returns -/
theorem sy_cx (hQ : jj_Q l G Y' d' as h (sy_F 9 thr G X K o N)) (hR : ∀ o1 h1, jj_C l G Y' d' as h o1 h1 → jj_R l G Y d as h o1 h1 pc st rest) (hcov : (tableOf Y.2.2.2.2).all (fun x => !covers x pc) = true)
    (hx : ∀ o' h1, Sy G X (K + 1) o' N h1 → F (.inr "java/lang/IllegalStateException") h1) : jj_P l G Y d F pc L st h := by
  refine jj_call hQ hR hcov (fun v h1 hP => ?_) (fun E h1 hP => ?_)
  · cases v with
    | none => exact absurd hP.1 (by decide)
    | some v =>
      cases v with
      | int v =>
        obtain ⟨q | ⟨q, -⟩ | ⟨q, -⟩, -⟩ := hP <;> exact absurd q (by decide)
      | _ => exact hP.elim
  · obtain ⟨q, rfl, o', hS⟩ := hP
    exact hx o' h1 hS
/-- one more is open, or it threw -/
def sy_En (G : jj_G) (X : sy_X) (K o N m : Nat) : jj_O → jj_H → Prop := fun out h' => (out = .inl none ∧ 0 < m ∧ Sy G X K (o + 1) N h') ∨ (out = .inr "java/lang/IllegalStateException" ∧ ∃ o', Sy G X (K + 1) o' N h')
theorem sy_ce {m : Nat} (hQ : jj_Q l G Y' d' as h (sy_En G X K o N m)) (hR : ∀ o1 h1, jj_C l G Y' d' as h o1 h1 → jj_R l G Y d as h o1 h1 pc st rest) (hcov : (tableOf Y.2.2.2.2).all (fun x => !covers x pc) = true)
    (hx : ∀ o' h1, Sy G X (K + 1) o' N h1 → F (.inr "java/lang/IllegalStateException") h1) (k : ∀ h1, 0 < m → Sy G X K (o + 1) N h1 → jj_P l G Y d F (pc + 3) L rest h1) : jj_P l G Y d F pc L st h := by
  refine jj_call hQ hR hcov (fun v h1 hP => ?_) (fun E h1 hP => ?_)
  · rcases hP with ⟨q, hm, hS⟩ | ⟨q, -⟩
    · cases q
      exact k h1 hm hS
    · cases q
  · rcases hP with ⟨q, -⟩ | ⟨q, o', hS⟩
    · cases q
    · cases q
      exact hx o' h1 hS
theorem sy_pure {v : Int32} (hs : Sy G X K o N h) (hQ : jj_Q l G Y d as h (fun o1 h' => o1 = .inl (some (.int v)) ∧ h' = h)) : jj_Q l G Y d as h (sy_F 1 thr G X K o N) := by
  refine hQ.imp ?_
  rintro o1 h1 ⟨rfl, rfl⟩
  exact ⟨Or.inl rfl, hs⟩
theorem sy_putGR {index k : Nat} {v : Int32} (hs : Sy G X K o N h) (hX : X.2.2.2.2.2 = false) (hk : k = 3 ∨ k = 4 ∨ k = 5 ∨ k = 6 ∨ k = 7 ∨ k = 10) (hl : jj_fl Y.1.cls index T_GR k) (hd : decode Y.2.1 pc = .ok (.putfield index, 3)) (kk : ∀ h1, Sy G X K o N h1 → jj_P l G Y d F (pc + 3) L st h1) : jj_P l G Y d F pc L (.int v :: .ref (X.2.2.1 12) :: st) h := by
  obtain ⟨ki, va, pl, fa, fp, ne, hg⟩ := hs.gr hX
  rcases hk with rfl | rfl | rfl | rfl | rfl | rfl
  · exact jj_putfield 3 ck_GR hl (by decide) rfl hd hg rfl rfl (Nat.lt_of_sub_eq_succ rfl) (kk _ (hs.putGR hX v va pl fa fp ne o))
  · exact jj_putfield 4 ck_GR hl (by decide) rfl hd hg rfl rfl (Nat.lt_of_sub_eq_succ rfl) (kk _ (hs.putGR hX ki v pl fa fp ne o))
  · exact jj_putfield 5 ck_GR hl (by decide) rfl hd hg rfl rfl (Nat.lt_of_sub_eq_succ rfl) (kk _ (hs.putGR hX ki va v fa fp ne o))
  · exact jj_putfield 6 ck_GR hl (by decide) rfl hd hg rfl rfl (Nat.lt_of_sub_eq_succ rfl) (kk _ (hs.putGR hX ki va pl v fp ne o))
  · exact jj_putfield 7 ck_GR hl (by decide) rfl hd hg rfl rfl (Nat.lt_of_sub_eq_succ rfl) (kk _ (hs.putGR hX ki va pl fa v ne o))
  · exact jj_putfield 10 ck_GR hl (by decide) rfl hd hg rfl rfl (Nat.lt_of_sub_eq_succ rfl) (kk _ (hs.putGR hX ki va pl fa fp v o))
theorem sy_putO {index o' : Nat} {v : Int32} (hs : Sy G X K o N h) (hX : X.2.2.2.2.2 = false) (hv : v = nI o') (hl : jj_fl Y.1.cls index T_GR 11) (hd : decode Y.2.1 pc = .ok (.putfield index, 3)) (kk : ∀ h1, Sy G X K o' N h1 → jj_P l G Y d F (pc + 3) L st h1) : jj_P l G Y d F pc L (.int v :: .ref (X.2.2.1 12) :: st) h := by
  subst hv
  obtain ⟨ki, va, pl, fa, fp, ne, hg⟩ := hs.gr hX
  exact jj_putfield 11 ck_GR hl (by decide) rfl hd hg rfl rfl (Nat.lt_of_sub_eq_succ rfl) (kk _ (hs.putGR hX ki va pl fa fp ne o'))
theorem sy_putSP {index : Nat} {v : Int32} (hs : Sy G X K o N h) (hl : jj_fl Y.1.cls index T_SP 4) (hd : decode Y.2.1 pc = .ok (.putfield index, 3)) (kk : ∀ h1, Sy G X K o N h1 → jj_P l G Y d F (pc + 3) L st h1) : jj_P l G Y d F pc L (.int v :: .ref (X.2.2.1 10) :: st) h := by
  obtain ⟨x, hg⟩ := hs.sp
  exact jj_putfield 4 ck_SP hl (by decide) rfl hd hg rfl rfl (Nat.lt_of_sub_eq_succ rfl) (kk _ (hs.putSP v))
theorem sy_putSC {index : Nat} {v : Int32} (hs : Sy G X K o N h) (hX : X.2.2.2.2.2 = false) (hl : jj_fl Y.1.cls index T_SC 3) (hd : decode Y.2.1 pc = .ok (.putfield index, 3)) (kk : ∀ h1, Sy G X K o N h1 → jj_P l G Y d F (pc + 3) L st h1) : jj_P l G Y d F pc L (.int v :: .ref (X.2.2.1 11) :: st) h := by
  obtain ⟨x, hg⟩ := hs.sc hX
  exact jj_putfield 3 ck_SC hl (by decide) rfl hd hg rfl rfl (Nat.lt_of_sub_eq_succ rfl) (kk _ (hs.putSC hX v))
theorem sy_putST {index : Nat} {v : Int32} (hs : Sy G X K o N h) (hX : X.2.2.2.2.2 = false) (hl : jj_fl Y.1.cls index T_ST 5) (hd : decode Y.2.1 pc = .ok (.putfield index, 3)) (kk : ∀ h1, Sy G X K o N h1 → jj_P l G Y d F (pc + 3) L st h1) : jj_P l G Y d F pc L (.int v :: .ref (X.2.2.1 9) :: st) h := by
  obtain ⟨x, hg⟩ := hs.st hX
  exact jj_putfield 5 ck_ST hl (by decide) rfl hd hg rfl rfl (Nat.lt_of_sub_eq_succ rfl) (kk _ (hs.putST hX v))
/-! fewer locals known -/
def jj_sub : List (Option Value) → List (Option Value) → Prop
  | [], _ => True
  | none :: r, _ :: q => jj_sub r q
  | some v :: r, w :: q => w = some v ∧ jj_sub r q
  | _ :: _, [] => False
theorem js_0 {q : List (Option Value)} : jj_sub [] q := by unfold jj_sub; trivial
theorem js_n {r q : List (Option Value)} {w : Option Value} (h : jj_sub r q) : jj_sub (none :: r) (w :: q) := h
theorem js_s {r q : List (Option Value)} {v : Value} (h : jj_sub r q) : jj_sub (some v :: r) (some v :: q) := ⟨rfl, h⟩
theorem jj_sub_get : ∀ (L' L : List (Option Value)), jj_sub L' L → ∀ (i : Nat) (v : Value), L'[i]? = some (some v) → L[i]? = some (some v) := by
  intro L'
  induction L' with
  | nil => intro L _ i v h; simp at h
  | cons a r ih =>
    intro L hs i v h
    cases L with
    | nil => cases a <;> exact hs.elim
    | cons w q =>
      cases a with
      | none =>
        cases i with
        | zero => simp at h
        | succ i => simpa using ih q hs i v (by simpa using h)
      | some x =>
        cases i with
        | zero =>
          simp at h
          subst h
          simp [hs.1]
        | succ i => simpa using ih q hs.2 i v (by simpa using h)
theorem jj_wk {L' : List (Option Value)} (hs : jj_sub L' L) (k : jj_P l G Y d F pc L' st h) : jj_P l G Y d F pc L st h := by
  obtain ⟨o, h', hF, hm, hE⟩ := k
  refine ⟨o, h', hF, hm, fun p e R s m args below meth c H locs cells slots Q ls hx hw hr hS hH hL hK => ?_⟩
  exact hE p e R s m args below meth c H locs cells slots Q ls hx hw hr hS hH ⟨hL.1, hL.2.1, fun i v hv => hL.2.2 i v (jj_sub_get L' L hs i v hv)⟩ hK
/-! switches over any int -/
theorem jt_0 {P : Nat → Prop} : ∀ t ∈ ([] : List Nat), P t := by intro t ht; cases ht
theorem jt_c {P : Nat → Prop} {a : Nat} {r : List Nat} (h1 : P a) (h2 : ∀ t ∈ r, P t) : ∀ t ∈ a :: r, P t := by
  intro t ht
  rcases List.mem_cons.mp ht with rfl | q
  · exact h1
  · exact h2 t q
theorem jj_tableAny {dflt lo hi : Int} {offs : Array Int} {len : Nat} {x : Int32} {ts : List Nat} (hd : decode Y.2.1 pc = .ok (.tableswitch dflt lo hi offs, len)) (hn : (hi - lo).toNat < offs.size) (ht : ∀ off ∈ dflt :: offs.toList, ∃ t ∈ ts, (pc : Int) + off = (t : Int)) (k : ∀ t ∈ ts, jj_P l G Y d F t L st h) : jj_P l G Y d F pc L (.int x :: st) h := by
  by_cases h1 : x.toInt < lo ∨ hi < x.toInt
  · obtain ⟨t, t1, t2⟩ := ht dflt List.mem_cons_self
    exact jj_tableOut hd h1 t2 (k t t1)
  · have h2 : ¬ x.toInt < lo := fun q => h1 (Or.inl q)
    have h3 : ¬ hi < x.toInt := fun q => h1 (Or.inr q)
    have h4 : (x.toInt - lo).toNat < offs.size := by omega
    obtain ⟨t, t1, t2⟩ := ht offs[(x.toInt - lo).toNat] (List.mem_cons_of_mem _ (Array.getElem_mem_toList h4))
    exact jj_tableIn hd h2 h3 (Array.getElem?_eq_getElem h4) t2 (k t t1)
theorem jj_lookupIn : ∀ (ps : List (Int × Int)) (dflt x : Int), Op.lookupswitch.offset ps dflt x ∈ dflt :: ps.map (fun q => q.2) := by
  intro ps
  induction ps with
  | nil => intro dflt x; rw [Op.lookupswitch.offset_nil]; exact List.mem_cons_self
  | cons p r ih =>
    intro dflt x
    obtain ⟨a, o⟩ := p
    rw [Op.lookupswitch.offset_cons]
    by_cases hk : a = x
    · rw [if_pos hk]; exact List.mem_cons_of_mem _ List.mem_cons_self
    · rw [if_neg hk]
      rcases List.mem_cons.mp (ih dflt x) with q | q
      · rw [q]; exact List.mem_cons_self
      · exact List.mem_cons_of_mem _ (List.mem_cons_of_mem _ q)
theorem jj_lookupAny {dflt : Int} {ps : Array (Int × Int)} {len : Nat} {x : Int32} {ts : List Nat} (hd : decode Y.2.1 pc = .ok (.lookupswitch dflt ps, len)) (hp : (ps.toList.zip (ps.toList.drop 1)).all (fun (a, next) => a.1 < next.1) = true) (ht : ∀ off ∈ dflt :: ps.toList.map (fun q => q.2), ∃ t ∈ ts, (pc : Int) + off = (t : Int)) (k : ∀ t ∈ ts, jj_P l G Y d F t L st h) : jj_P l G Y d F pc L (.int x :: st) h := by
  obtain ⟨t, t1, t2⟩ := ht _ (jj_lookupIn ps.toList dflt x.toInt)
  exact jj_lookup hd hp rfl t2 (k t t1)
end SYC
/-- an int below another can go up -/
theorem up_lt {i b : Int32} {n : Nat} (hlt : i < b) (hn : (2147483647 - i.toInt).toNat < n + 1) : (2147483647 - (i + Int32.ofInt 1).toInt).toNat < n := by
  have h1 := Int32.lt_iff_toInt_lt.mp hlt
  have h2 := b.toInt_lt
  have h3 := i.le_toInt
  have h4 : (i + Int32.ofInt 1).toInt = i.toInt + 1 := by
    rw [Int32.toInt_add, show (Int32.ofInt 1).toInt = 1 from rfl]
    exact Int.bmod_eq_of_le (by omega) (by omega)
  omega
theorem dn_lt {i b : Int32} {n : Nat} (hb : 0 ≤ b) (hle : b ≤ i) (hn : (i.toInt + 1).toNat < n + 1) : ((i + Int32.ofInt (-1)).toInt + 1).toNat < n := by
  have h0 := Int32.le_iff_toInt_le.mp hb
  rw [show (0 : Int32).toInt = 0 from rfl] at h0
  have h1 := Int32.le_iff_toInt_le.mp hle
  have h2 := i.toInt_lt
  have h4 : (i + Int32.ofInt (-1)).toInt = i.toInt - 1 := by
    rw [Int32.toInt_add, show (Int32.ofInt (-1)).toInt = -1 from rfl]
    exact Int.bmod_eq_of_le (by omega) (by omega)
  omega
