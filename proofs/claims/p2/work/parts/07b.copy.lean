/-! System.arraycopy of ints between two arrays -/
section JJB
variable {p : Program} {l : Launch} {e : Env} {R : Room} {s : State} {m : MethodId} {args : Array Value} {below : List Frame} {meth : Method} {c : Code} {T : State} {locs : List Loc} {cells slots : Nat}
theorem jj_unbase (X : Stand p l e R s m args below meth c T locs cells slots) {R' : Room} (Y0 : Stand p l e R' (jj_anew s T m args below) m args below meth c T [] 0 0) {S : State} {K : List Loc} {k n : Nat} (Z : Stand p l e R' (jj_anew s T m args below) m args below meth c S K k n) : Stand p l e R s m args below meth c S (locs ++ K) (cells + k) (slots + n) := by
  have hW0 : s.WarmedH (jj_anew s T m args below).vm := State.WarmedH.refl s
  have hsame : s.sameButNew (S.setVm s.vm) (locs ++ K) (cells + k) (slots + n) := by
    obtain ⟨e1, e2⟩ := Z.same
    unfold jj_anew at e1
    rw [State.setFrames_setFrames] at e1
    have h2 : (T.setVm s.vm).sameButNew (S.setVm s.vm) K k n := ⟨e1, e2⟩
    exact X.same.trans h2
  exact { admits := X.admits, cas := X.cas, clock := X.clock, frames := X.frames, room := X.room, hears := X.hears, method := X.method, code := X.code, here := Z.here, tail := Z.tail, warmed := State.WarmedH.trans hW0 Z.warmed, limits := Z.limits.trans (Y0.limits.symm.trans X.limits), bytes := Z.bytes.trans (Y0.bytes.symm.trans X.bytes), same := hsame }
end JJB
section JJD
variable {l : Launch} {G : jj_G} {Y : jj_Y} {d : Nat} {F : jj_O → jj_H → Prop} {pc : Nat} {L : List (Option Value)} {st : List Value} {h : jj_H}
theorem jj_arraycopy {index a0 a n0 n1 t0 : Nat} {cA : ClassId} {f g : Nat → Int32} {sp dp n : Int32} (ht : G.2.2.1[t0]? = some (cA, .int)) (hl : Cond.methodLink Y.1.cls index arraycopyName ∈ jj_T) (hnat : Cond.native arraycopyName ∈ jj_T) (hstat : Cond.static arraycopyName ∈ jj_T) (hini : Cond.initialized "java/lang/System" ∈ jj_T) (hd : decode Y.2.1 pc = .ok (.invokestatic index, 3))
    (ha0 : h.1 a0 = some (.inl (cA, n0, .inl f))) (ha1 : h.1 a = some (.inl (cA, n1, .inl g))) (hne : a0 ≠ a) (h1 : ¬ sp < 0) (h2 : ¬ dp < 0) (h3 : ¬ n < 0) (h4 : sp.toNatClampNeg + n.toNatClampNeg ≤ n0) (h5 : dp.toNatClampNeg + n.toNatClampNeg ≤ n1) (hdd : 2 ≤ d) (hsum : (st.map fun v => v.category).sum + (nativeFrameWords "java/lang/System" "arraycopy" 5 + 11) ≤ 80)
    (k : jj_P l G Y d F (pc + 3) L st (jj_up h.1 a (.inl (cA, n1, .inl (va_cpy f g sp.toNatClampNeg dp.toNatClampNeg n.toNatClampNeg))), h.2)) : jj_P l G Y d F pc L (.int n :: .int dp :: .ref a :: .int sp :: .ref a0 :: st) h := by
  obtain ⟨o, h', hF, hm, hE⟩ := k
  refine ⟨o, h', hF, hm, fun p e R s m args below meth c H locs cells slots Q ls hx hw hr hS hH hL hK => ?_⟩
  intro T hT X
  have hts := hx.2.2.2.2.1
  have hcr : cells ≤ R.cells ∧ slots ≤ R.slots := by
    obtain ⟨-, q2, q3⟩ := hr
    exact ⟨by omega, by omega⟩
  have Y0 := jj_rebase X (R' := { frames := R.frames, locals := R.locals, cells := 0, slots := 0 }) (Nat.le_refl _) (Nat.le_refl _) hcr.1 hcr.2
  have hW0 : s.WarmedH (jj_anew s T m args below).vm := State.WarmedH.refl s
  have hg1 : ∀ w ∈ jj_T, w.before args (jj_anew s T m args below) = true := fun w hw9 => jj_at hts hW0 hw9
  have hP : va_P G.2.1 vwCl [(a0, .inl (cA, n0, .inl f)), (a, .inl (cA, n1, .inl g))] H := by
    intro k q hq
    match k, hq with
    | 0, hq => cases hq; exact (hH.2.2 a0 _ ha0).2
    | 1, hq => cases hq; exact (hH.2.2 a _ ha1).2
    | k + 2, hq => simp at hq
  have hD : va_D (fun q => q = a ∨ q = a0) [(a0, (.inl (cA, n0, .inl f) : va_E)), (a, .inl (cA, n1, .inl g))] := by
    refine ⟨fun i j p q hi hj hpq => ?_, fun k q hq => ?_⟩
    · match i, j, hi, hj with
      | 0, 0, _, _ => rfl
      | 1, 1, _, _ => rfl
      | 0, 1, hi, hj => cases hi; cases hj; exact absurd hpq hne
      | 1, 0, hi, hj => cases hi; cases hj; exact absurd hpq.symm hne
      | i + 2, _, hi, _ => simp at hi
      | _, j + 2, _, hj => simp at hj
    · match k, hq with
      | 0, hq => cases hq; exact Or.inr rfl
      | 1, hq => cases hq; exact Or.inl rfl
      | k + 2, hq => simp at hq
  have hKs : va_K G.2.1 vwCl G.2.2.1 (jj_anew s T m args below) := va_K.moved hW0.alike hw.1
  have key : W p l e { frames := R.frames, locals := R.locals, cells := 0, slots := 0 } (jj_anew s T m args below) m args below meth c H [] 0 0 Q (F0 m pc ls (.int n :: .int dp :: .ref a :: .int sp :: .ref a0 :: st)) := by
    refine va_copyi (D := G.2.1) (cl := vwCl) (A := fun q => q = a ∨ q = a0) (H0 := H) hx.1 hx.2.1 (hx.2.2.1.trans hL.1.symm) (show (jj_anew s T m args below).vm.findClass Y.1.cls = some m.cls from hx.2.2.2.1) (hg1 _ hl) (hg1 _ hnat) (hg1 _ hstat) (hg1 _ hini) hKs hP hD va_S.rf 0 1 t0 t0 rfl rfl ht ht rfl h1 h2 h3 h4 h5 (fun _ _ => rfl) (by show 1 ≤ R.frames; have := hr.1.1; omega) (by show _ ≤ R.locals; have := hr.1.2; omega) hd (fun H1 locs1 hP1 hD1 hS1 => ?_)
    intro S hS9 Z
    have X2 := jj_unbase X Y0 Z
    have hz1 : H1.size = H.size := by
      have q1 := Z.heapSize
      have q2 : (jj_anew s T m args below).heap = T.heap := rfl
      rw [q2, hT, hS9] at q1
      have q3 := hS1.1
      omega
    have hA0 := (hH.2.2 a0 _ ha0).1
    have hA1 := (hH.2.2 a _ ha1).1
    have c0 : H1[a0]? = H[a0]? := by
      have g1 : H1[a0]? = some (vp_cell cA (n0, .inl f)) := hP1 0 _ rfl
      have g2 : H[a0]? = some (vp_cell cA (n0, .inl f)) := (hH.2.2 a0 _ ha0).2
      rw [g1, g2]
    have oth : ∀ q : Nat, q ≠ a → H1[q]? = H[q]? := by
      intro q hq
      by_cases hq0 : q = a0
      · rw [hq0]; exact c0
      · rcases Nat.lt_or_ge q H.size with hlt | hge
        · exact hS1.2.1 q hlt (fun z => z.elim hq hq0)
        · rw [Array.getElem?_eq_none (by omega), Array.getElem?_eq_none (by omega)]
    have hSn : va_S (jj_A G) s.heap H1 (locs ++ locs1) := by
      refine ⟨by rw [hz1]; exact hS.1, fun q hq hA => ?_, fun z hz => ?_⟩
      · rw [oth q (fun hqa => hA (by rw [hqa]; exact hA1))]
        exact hS.2.1 q hq hA
      · rcases List.mem_append.mp hz with h9 | h9
        · exact hS.2.2 z h9
        · rcases hS1.2.2 z h9 with h8 | h8
          · rw [h8]; exact hA1
          · rw [h8]; exact hA0
    have hHn := hH.put (e' := .inl (cA, n1, .inl (va_cpy f g sp.toNatClampNeg dp.toNatClampNeg n.toNatClampNeg))) ha1 (hP1 1 _ rfl) hz1 oth
    obtain ⟨t, a1, b1⟩ := hE p e R s m args below meth c H1 (locs ++ locs1) cells slots Q ls hx hw hr hSn hHn hL hK S hS9 X2
    exact ⟨t, a1, b1⟩
  exact key T hT Y0
end JJD
theorem na_ok : nativeFrameWords "java/lang/System" "arraycopy" 5 + 11 ≤ 60 := by decide +kernel
