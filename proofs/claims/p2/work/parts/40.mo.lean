/-! THE REFERENCE AS A SYSTEM. C: the heap at the beginning, its cells' addresses by the numbers of its fields (0 the object itself), how many characters N, tokens T and names M, what its arrays hold. u: how many tokens are left (0: a fault was found); o: how many are open; g: how many names stand in its group. -/
abbrev mo_C : Type := jj_H × (Nat → Nat) × Nat × Nat × Nat × (Nat → Nat → Int32)
def mo_is (i : Nat) : Prop := i = 0 ∨ i = 1 ∨ i = 5 ∨ i = 6 ∨ i = 7 ∨ i = 9 ∨ i = 10 ∨ i = 12 ∨ i = 13 ∨ i = 14 ∨ i = 18
def mo_own (C : mo_C) (q : Nat) : Prop := ∃ i, mo_is i ∧ q = C.2.1 i
def mo_fs (A : Nat → Nat) (th N wr wh T M S nw ow gs : Int32) : List Value := [.int th, .ref (A 1), .int N, .int wr, .int wh, .ref (A 5), .ref (A 6), .ref (A 7), .int T, .ref (A 9), .ref (A 10), .int M, .ref (A 12), .ref (A 13), .ref (A 14), .int S, .int nw, .int ow, .ref (A 18), .int gs]
def mo_ar (G : jj_G) (C : mo_C) (h : jj_H) : Prop := h.1 (C.2.1 1) = some (.inl (jj_cB G, 16384, .inl (C.2.2.2.2.2 1))) ∧ h.1 (C.2.1 5) = some (.inl (jj_cI G, 16386, .inl (C.2.2.2.2.2 5))) ∧ h.1 (C.2.1 6) = some (.inl (jj_cI G, 16386, .inl (C.2.2.2.2.2 6))) ∧ h.1 (C.2.1 7) = some (.inl (jj_cI G, 16386, .inl (C.2.2.2.2.2 7))) ∧ h.1 (C.2.1 9) = some (.inl (jj_cB G, 20000, .inl (C.2.2.2.2.2 9))) ∧ h.1 (C.2.1 10) = some (.inl (jj_cI G, 1002, .inl (C.2.2.2.2.2 10)))
def mo_nd (G : jj_G) (C : mo_C) (h : jj_H) : Prop := ∀ k, (k = 12 ∨ k = 13 ∨ k = 14 ∨ k = 18) → ∃ f : Nat → Int32, h.1 (C.2.1 k) = some (.inl (jj_cI G, 16384, .inl f))
/-- what the tokens of a text satisfy -/
def mo_k (C : mo_C) : Prop := (∀ i j, mo_is i → mo_is j → C.2.1 i = C.2.1 j → i = j) ∧ C.2.2.1 ≤ 16384 ∧ 1 ≤ C.2.2.2.1 ∧ C.2.2.2.1 ≤ 16385 ∧ (C.2.2.2.2.2 5 (C.2.2.2.1 - 1) = 2004 ∨ C.2.2.2.2.2 5 (C.2.2.2.1 - 1) = 2005) ∧ (∀ i, i < C.2.2.2.1 → C.2.2.2.2.2 5 i = 2005 → 0 < C.2.2.2.2.2 6 i) ∧ (∀ i, i < C.2.2.2.1 → C.2.2.2.2.2 5 i = 2003 → ∃ a b : Nat, C.2.2.2.2.2 7 i = nI a ∧ C.2.2.2.2.2 6 i = nI b ∧ a + 1 + b ≤ 16384)
def Pb (G : jj_G) (C : mo_C) (wr nw ow : Int32) (g : Nat) (h : jj_H) : Prop := ∃ (th wh : Int32) (S : Nat), h.1 (C.2.1 0) = some (.inr (6, mo_fs C.2.1 th (nI C.2.2.1) wr wh (nI C.2.2.2.1) (nI C.2.2.2.2.1) (nI S) nw ow (nI g))) ∧ S ≤ 16384 ∧ g ≤ 16384 ∧ mo_ar G C h ∧ mo_nd G C h ∧ (∀ q, ¬ mo_own C q → h.1 q = C.1.1 q) ∧ h.2 = C.1.2
def Pm (G : jj_G) (C : mo_C) (u o g : Nat) (h : jj_H) : Prop := ∃ wr nw ow : Int32, Pb G C wr nw ow g h ∧ ((u = 0 ∧ 0 < wr) ∨ (0 < u ∧ u ≤ C.2.2.2.1 ∧ wr = 0 ∧ nw = nI (C.2.2.2.1 - u) ∧ ow = nI o ∧ o ≤ 40 ∧ C.2.2.2.2.2 5 (C.2.2.2.1 - u) ≠ 2005))
/-- what kind() answers -/
def mo_kd (C : mo_C) (u : Nat) (v : Int32) : Prop := (u = 0 ∧ v = 2005) ∨ (0 < u ∧ v = C.2.2.2.2.2 5 (C.2.2.2.1 - u) ∧ v ≠ 2005)
/-- the token is not the last -/
def mo_nl (C : mo_C) (u : Nat) : Prop := u = 0 ∨ C.2.2.2.2.2 5 (C.2.2.2.1 - u) ≠ 2004
theorem mo_nl.of {C : mo_C} {u : Nat} {v : Int32} (hk : mo_kd C u v) (h1 : v ≠ 2004) : mo_nl C u := by
  rcases hk with ⟨q, -⟩ | ⟨-, q, -⟩
  · exact Or.inl q
  · exact Or.inr (by rw [← q]; exact h1)
theorem mo_kd.pos {C : mo_C} {u : Nat} {v : Int32} (hk : mo_kd C u v) (h1 : v ≠ 2005) : 0 < u := by
  rcases hk with ⟨-, q⟩ | ⟨q, -⟩
  · exact absurd q h1
  · exact q
def mo_V (G : jj_G) (C : mo_C) (o g : Nat) (P : Nat → Prop) : jj_O → jj_H → Prop := fun out h' => out = .inl none ∧ ∃ u', P u' ∧ Pm G C u' o g h'
def mo_I (G : jj_G) (C : mo_C) (o g : Nat) (P : Int32 → Nat → Prop) : jj_O → jj_H → Prop := fun out h' => ∃ (v : Int32) (u' : Nat), out = .inl (some (.int v)) ∧ P v u' ∧ Pm G C u' o g h'
theorem Pb.put {G : jj_G} {C : mo_C} {wr nw ow : Int32} {g : Nat} {h : jj_H} (hk : mo_k C) (hp : Pb G C wr nw ow g h) (th wr' wh nw' ow' : Int32) {S g' : Nat} (hS : S ≤ 16384) (hg : g' ≤ 16384) : Pb G C wr' nw' ow' g' (jj_up h.1 (C.2.1 0) (.inr (6, mo_fs C.2.1 th (nI C.2.2.1) wr' wh (nI C.2.2.2.1) (nI C.2.2.2.2.1) (nI S) nw' ow' (nI g'))), h.2) := by
  obtain ⟨-, -, -, -, -, -, ⟨a1, a2, a3, a4, a5, a6⟩, nd, fr, hz⟩ := hp
  have ne : ∀ i, mo_is i → i ≠ 0 → C.2.1 i ≠ C.2.1 0 := fun i hi h0 e => h0 (hk.1 i 0 hi (Or.inl rfl) e)
  refine ⟨th, wh, S, jj_up_self, hS, hg, ⟨(jj_up_ne (ne 1 (by unfold mo_is; decide) (by decide))).trans a1, (jj_up_ne (ne 5 (by unfold mo_is; decide) (by decide))).trans a2, (jj_up_ne (ne 6 (by unfold mo_is; decide) (by decide))).trans a3, (jj_up_ne (ne 7 (by unfold mo_is; decide) (by decide))).trans a4, (jj_up_ne (ne 9 (by unfold mo_is; decide) (by decide))).trans a5, (jj_up_ne (ne 10 (by unfold mo_is; decide) (by decide))).trans a6⟩, fun k hk9 => ?_, fun q hq => ?_, hz⟩
  · obtain ⟨f, e⟩ := nd k hk9
    exact ⟨f, (jj_up_ne (ne k (by unfold mo_is; omega) (by omega))).trans e⟩
  · exact (jj_up_ne (fun e => hq ⟨0, Or.inl rfl, e⟩)).trans (fr q hq)
theorem Pb.nod {G : jj_G} {C : mo_C} {wr nw ow : Int32} {g : Nat} {h : jj_H} (hk : mo_k C) (hp : Pb G C wr nw ow g h) {k : Nat} (hk9 : k = 12 ∨ k = 13 ∨ k = 14 ∨ k = 18) (f' : Nat → Int32) : Pb G C wr nw ow g (jj_up h.1 (C.2.1 k) (.inl (jj_cI G, 16384, .inl f')), h.2) := by
  obtain ⟨th, wh, S, b0, hS, hg, ⟨a1, a2, a3, a4, a5, a6⟩, nd, fr, hz⟩ := hp
  have hik : mo_is k := by unfold mo_is; omega
  have ne : ∀ i, mo_is i → i ≠ k → C.2.1 i ≠ C.2.1 k := fun i hi h0 e => h0 (hk.1 i k hi hik e)
  refine ⟨th, wh, S, (jj_up_ne (ne 0 (Or.inl rfl) (by omega))).trans b0, hS, hg, ⟨(jj_up_ne (ne 1 (by unfold mo_is; decide) (by omega))).trans a1, (jj_up_ne (ne 5 (by unfold mo_is; decide) (by omega))).trans a2, (jj_up_ne (ne 6 (by unfold mo_is; decide) (by omega))).trans a3, (jj_up_ne (ne 7 (by unfold mo_is; decide) (by omega))).trans a4, (jj_up_ne (ne 9 (by unfold mo_is; decide) (by omega))).trans a5, (jj_up_ne (ne 10 (by unfold mo_is; decide) (by omega))).trans a6⟩, fun j hj => ?_, fun q hq => ?_, hz⟩
  · by_cases e : j = k
    · subst e
      exact ⟨f', jj_up_self⟩
    · obtain ⟨f, e9⟩ := nd j hj
      exact ⟨f, (jj_up_ne (ne j (by unfold mo_is; omega) e)).trans e9⟩
  · exact (jj_up_ne (fun e => hq ⟨k, hik, e⟩)).trans (fr q hq)
theorem Pb.rcv {G : jj_G} {C : mo_C} {wr nw ow : Int32} {g : Nat} {h : jj_H} (hp : Pb G C wr nw ow g h) : jj_rcv G h (C.2.1 0) "SourceTreeModel" := by
  obtain ⟨th, wh, S, b0, -⟩ := hp
  exact jj_rcv.ob ck_MO.1 b0
theorem Pm.rcv {G : jj_G} {C : mo_C} {u o g : Nat} {h : jj_H} (hp : Pm G C u o g h) : jj_rcv G h (C.2.1 0) "SourceTreeModel" := by
  obtain ⟨wr, nw, ow, hb, -⟩ := hp
  exact hb.rcv
section MOC
variable {l : Launch} {G : jj_G} {Y Y' : jj_Y} {d d' : Nat} {F : jj_O → jj_H → Prop} {pc : Nat} {L : List (Option Value)} {st as rest : List Value} {h : jj_H} {C : mo_C} {o g : Nat}
theorem mo_cv {P : Nat → Prop} (hQ : jj_Q l G Y' d' as h (mo_V G C o g P)) (hR : ∀ o1 h1, jj_C l G Y' d' as h o1 h1 → jj_R l G Y d as h o1 h1 pc st rest) (k : ∀ (u' : Nat) (h1 : jj_H), P u' → Pm G C u' o g h1 → jj_P l G Y d F (pc + 3) L rest h1) : jj_P l G Y d F pc L st h := by
  refine jj_callr hQ hR (by rintro E h1 ⟨q, -⟩; cases q) ?_
  rintro v h1 ⟨hv, u', hP, hm⟩
  cases hv
  exact k u' h1 hP hm
theorem mo_ci {P : Int32 → Nat → Prop} (hQ : jj_Q l G Y' d' as h (mo_I G C o g P)) (hR : ∀ o1 h1, jj_C l G Y' d' as h o1 h1 → jj_R l G Y d as h o1 h1 pc st rest) (k : ∀ (v : Int32) (u' : Nat) (h1 : jj_H), P v u' → Pm G C u' o g h1 → jj_P l G Y d F (pc + 3) L (.int v :: rest) h1) : jj_P l G Y d F pc L st h := by
  refine jj_callr hQ hR (by rintro E h1 ⟨v, u, q, -⟩; cases q) ?_
  rintro v h1 ⟨v9, u', hv, hP, hm⟩
  cases hv
  exact k v9 u' h1 hP hm
end MOC
