theorem ck_MO : jj_ck 6 "SourceTreeModel" T_MO 20 t_MO := ⟨rfl, by decide +kernel, by decide +kernel, by decide +kernel⟩
theorem ni_MO : Cond.instantiable "SourceTreeModel" 20 ∈ jj_T := jw 1037 (by decide +kernel) rfl
theorem st_l1 : Cond.laysStatic "java/lang/String" "COMPACT_STRINGS" "Z" ∈ lw_tbl := by decide +kernel
theorem st_l2 : Cond.laysStatic "jdk/internal/util/Preconditions" "SIOOBE_FORMATTER" "Ljava/util/function/BiFunction;" ∈ lw_tbl := by decide +kernel
theorem st_l3 : Cond.laysStatic "java/lang/Throwable" "UNASSIGNED_STACK" "[Ljava/lang/StackTraceElement;" ∈ lw_tbl := by decide +kernel
theorem st_l4 : Cond.laysStatic "java/lang/Throwable" "SUPPRESSED_SENTINEL" "Ljava/util/List;" ∈ lw_tbl := by decide +kernel
theorem st_sr {own tx : String} {k : Nat} {A A' : Array Value} {u U : State} (hv : U.vm = u.vm) (h : (Cond.stringRef own k tx).before A u = true) : (Cond.stringRef own k tx).before A' U = true := by
  simp only [Cond.before, Cond.holds, Cond.value, State.names, State.poolOf?, State.resolvedAt?, hv] at h ⊢
  exact h
theorem st_ref {v : Value} (h : v.isRef = true) : ∃ k : Nat, v = (match k with | 0 => Value.null | t + 1 => Value.ref t) := by
  cases v with
  | null => exact ⟨0, rfl⟩
  | ref t => exact ⟨t + 1, rfl⟩
  | _ => cases h
set_option maxRecDepth 100000 in
set_option maxHeartbeats 4000000 in
theorem st_wd {args : Array Value} {s : State} {b L : Nat} {xs : Nat → Int32} (hts : ∀ w ∈ lw_tbl, w.before args s = true) (hX : va_X b L xs s s.heap) (hbl : b < s.heap.size) (hgv : (Jvm.Cond.and given_1 narrow_1).before args s = true) : ∃ G : jj_G, jj_tyG G ∧ G.1 = s.heap.size ∧ G.2.2.2.2.2.1 = b ∧ G.2.2.2.2.2.2.1 = L ∧ G.2.2.2.2.2.2.2 = xs ∧ jj_wd G s := by
  have hT : ∀ w ∈ jj_T, w.before args s = true := fun w hw => hts w (List.mem_filter.mp hw).1
  have hfl := flat_of_before _ hgv
  obtain ⟨c0, i0, n0⟩ := u_known hT ck_ST.2.1 (hT _ ni_ST)
  obtain ⟨c1, i1, n1⟩ := u_known hT ck_IR.2.1 (hT _ ni_IR)
  obtain ⟨c2, i2, n2⟩ := u_known hT ck_TB.2.1 (hT _ ni_TB)
  obtain ⟨c3, i3, n3⟩ := u_known hT ck_SP.2.1 (hT _ ni_SP)
  obtain ⟨c4, i4, n4⟩ := u_known hT ck_SC.2.1 (hT _ ni_SC)
  obtain ⟨c5, i5, n5⟩ := u_known hT ck_GR.2.1 (hT _ ni_GR)
  obtain ⟨c6, i6, n6⟩ := u_known hT ck_MO.2.1 (hT _ ni_MO)
  obtain ⟨cI, kI, pI, aI1, aI2, aI3⟩ := Cond.arrayClass_spec (hT _ ac_int)
  obtain ⟨cB, kB, pB, aB1, aB2, aB3⟩ := Cond.arrayClass_spec (hT _ ac_byte)
  obtain ⟨cL, kL, pL, aL1, aL2, aL3⟩ := Cond.arrayClass_spec (hT _ ac_long)
  obtain ⟨dC, dI, hKc⟩ : ∃ (dC : Nat → ClassId) (dI : Nat → Nat → Nat), ∀ (k : Nat) (q : vw_C), vwCl[k]? = some q → u_Kn s q.1 q.2.1 q.2.2 (dC k) (dI k) := by
    refine ⟨fun k => if k = 0 then c0 else if k = 1 then c1 else if k = 2 then c2 else if k = 3 then c3 else if k = 4 then c4 else if k = 5 then c5 else c6, fun k => if k = 0 then i0 else if k = 1 then i1 else if k = 2 then i2 else if k = 3 then i3 else if k = 4 then i4 else if k = 5 then i5 else i6, ?_⟩
    intro k q hq
    match k, hq with
    | 0, hq => cases hq; exact n0
    | 1, hq => cases hq; exact n1
    | 2, hq => cases hq; exact n2
    | 3, hq => cases hq; exact n3
    | 4, hq => cases hq; exact n4
    | 5, hq => cases hq; exact n5
    | 6, hq => cases hq; exact n6
    | k + 7, hq => simp [vwCl] at hq
  have hA : ∀ a : Nat, a < s.heap.size → ¬ s.heap.size ≤ a := fun a h => Nat.not_le.mpr h
  obtain ⟨adK, adV, hV, hE⟩ := st_vS (A := fun a => s.heap.size ≤ a) hgv hA
  obtain ⟨v, hv, hr⟩ := Cond.isRef_spec (t := .static "jdk/internal/util/Preconditions" "SIOOBE_FORMATTER" "Ljava/util/function/BiFunction;") (args := args) (first := s) (o := none) (s := s) (idx := []) (hfl _ (List.mem_of_getElem? (i := 5) (by decide +kernel)))
  obtain ⟨kv, hkv⟩ := st_ref hr
  have hZ1 : va_Z "java/lang/String" "COMPACT_STRINGS" "Z" (.int 1) (fun a => s.heap.size ≤ a) s s.heap := va_Zof (hts _ st_l1) (hT _ it_JS) (va_eqi (hfl _ (List.mem_of_getElem? (i := 4) (by decide +kernel)))) hA
  have hZ2 : va_Z "jdk/internal/util/Preconditions" "SIOOBE_FORMATTER" "Ljava/util/function/BiFunction;" v (fun a => s.heap.size ≤ a) s s.heap := va_Zof (hts _ st_l2) (hT _ it_JP) hv hA
  refine ⟨(s.heap.size, (dC, dI), [(cI, .int), (cB, .byte), (cL, .long)], (fun i => if i = jj_nS then kv else adK i), adV, b, L, xs), rfl, rfl, rfl, rfl, rfl, ?_⟩
  refine ⟨⟨hKc, fun k q hq => ?_⟩, Nat.le_refl _, fun q hq => va_Nw.of rfl (hts _ (st_nm_in q hq)), fun w hw => ?_, ⟨⟨fun i hi => ?_, trivial⟩, fun q hq => ?_, ⟨fun q hq => ?_, ?_⟩, hX, hbl⟩, fun a cell ha hc => ?_, fun q hq => ?_⟩
  · match k, hq with
    | 0, hq => cases hq; exact ⟨fun n z => ⟨fun k h => (by cases h), kI, aI2, pI, aI3⟩, aI1⟩
    | 1, hq => cases hq; exact ⟨fun n z => ⟨fun k h => (by cases h), kB, aB2, pB, aB3⟩, aB1⟩
    | 2, hq => cases hq; exact ⟨fun n z => ⟨fun k h => (by cases h), kL, aL2, pL, aL3⟩, aL1⟩
    | k + 3, hq => simp at hq
  · intro args' V hW hk _
    have hk' : ∀ q, q < s.heap.size → V.heap[q]? = s.heap[q]? := fun q hq => hk q hq (Nat.not_le.mpr hq)
    rcases List.mem_append.mp hw with h | h
    · obtain ⟨h1, h2⟩ := List.mem_filter.mp h
      have hb := hts w h1
      cases w with
      | declares x => exact va_Nw.use rfl (va_Nw.warmD hW (va_Nw.of rfl hb))
      | castable C T => exact va_Nw.use rfl (va_Nw.warmC hW (va_Nw.of rfl hb))
      | stringRef a k t => exact st_sr (u := s.setVm V.vm) rfl (Cond.stringRef_warmed hW hb)
      | laysStatic C n d => exact kp_lays hb hW hk'
      | _ => exact absurd h2 Bool.false_ne_true
    · rcases List.mem_cons.mp h with rfl | h
      · exact kp_ref (hts _ st_l3) (hT _ it_JT) (hfl _ (List.mem_of_getElem? (i := 9) (by decide +kernel))) hW hk'
      · rcases List.mem_cons.mp h with rfl | h
        · exact kp_ref (hts _ st_l4) (hT _ it_JT) (hfl _ (List.mem_of_getElem? (i := 10) (by decide +kernel))) hW hk'
        · cases h
  · show va_O _ (if i = jj_nS then kv else adK i) _ _ _ ∧ va_OF _ _ _ _ (if i = jj_nS then kv else adK i) _ _ _ ∧ va_OF _ _ _ _ (if i = jj_nS then kv else adK i) _ _ _ ∧ _
    rw [if_neg (Nat.ne_of_lt hi)]
    exact hV i hi
  · obtain ⟨hi, hq2⟩ := st_strs q hq
    show vk_R q.1 q.2.1 q.2.2.1 (if q.2.2.2 = jj_nS then kv else adK q.2.2.2) s
    rw [if_neg (Nat.ne_of_lt hi)]
    refine ⟨st_sr rfl (hts _ (st_str_in q hq)), ?_⟩
    have hEi := hE _ hi
    rcases hq2 with h | ⟨h1, h2, h3⟩
    · rw [← h] at hEi
      exact hEi
    · rw [h1, h2, h3]
      rw [h3] at hEi
      have hm : (("SourceTreeModel", 57, 3) : String × Nat × Nat) ∈ st_eA ∨ (("SourceTreeModel", 57, 3) : String × Nat × Nat) ∈ st_eB := by decide +kernel
      obtain ⟨a9, -, -, -, g1, -⟩ := Cond.exactly_spec (args := args) (first := s) (o := none) (s := s) (idx := []) (t := .string "SourceTreeModel" 57) (cls := "java/lang/String") (hfl _ (st_in hm (List.mem_append_left _ List.mem_cons_self)))
      have g2 := Cond.eq_refs (hfl _ st_eq) g1 rfl
      have g3 : (Term.string "SourceTree$Spellings" 56).eval args s none [] s = some (.ref (adK 3)) := hEi
      cases Option.some.inj (g2.symm.trans g3)
      exact g1
  · rcases List.mem_cons.mp hq with rfl | h
    · exact hZ1
    · cases h
  · show va_Z "jdk/internal/util/Preconditions" "SIOOBE_FORMATTER" "Ljava/util/function/BiFunction;" (match (if jj_nS = jj_nS then kv else adK jj_nS) with | 0 => Value.null | t + 1 => Value.ref t) _ s s.heap
    rw [if_pos rfl, ← hkv]
    exact hZ2
  · have h9 := (Array.getElem?_eq_some_iff.mp hc).1
    exact absurd ha (Nat.not_le.mpr h9)
  · rcases List.mem_cons.mp hq with rfl | h
    · exact va_Nc.of (hfl _ (List.mem_of_getElem? (i := 37) (by decide +kernel)))
    · cases h
