/-! the world at the law's start -/
def st_eA : List (String × Nat × Nat) := [("SourceTree$Spellings", 46, 0), ("SourceTree$Spellings", 52, 1), ("SourceTree$Spellings", 54, 2), ("SourceTree$Spellings", 56, 3), ("SourceTree", 114, 4), ("SourceTree$Scanner", 111, 5), ("SourceTree$Cursor", 66, 6), ("SourceTree", 60, 7), ("SourceTree", 70, 8), ("SourceTree", 96, 9), ("SourceTree", 99, 10), ("SourceTree", 106, 11), ("SourceTreeModel", 57, 3)]
def st_eB : List (String × Nat × Nat) := [("SourceTreeModel", 68, 12), ("SourceTreeModel", 74, 13), ("SourceTreeModel", 118, 14), ("SourceTreeModel", 178, 15), ("SourceTreeModel", 186, 16), ("SourceTreeModel", 192, 17), ("SourceTreeModel", 214, 18), ("SourceTreeModel", 216, 19), ("SourceTreeModel", 218, 20), ("SourceTreeModel", 233, 21), ("SourceTreeModel", 436, 22), ("SourceTreeModel", 438, 23), ("SourceTreeModel", 235, 24), ("SourceTreeModel", 237, 25), ("SourceTreeModel", 432, 26), ("SourceTreeModel", 434, 27), ("SourceTreeModel", 416, 28), ("SourceTreeModel", 418, 29), ("SourceTreeModel", 398, 30), ("SourceTreeModel", 400, 31), ("SourceTreeModel", 402, 32), ("SourceTreeModel", 404, 33), ("SourceTreeModel", 406, 34), ("SourceTreeModel", 408, 35), ("SourceTreeModel", 198, 36), ("SourceTreeModel", 200, 37), ("SourceTreeModel", 182, 38), ("SourceTreeModel", 239, 39), ("SourceTreeModel", 252, 40), ("SourceTreeModel", 257, 41), ("SourceTreeModel", 259, 42), ("SourceTreeModel", 261, 43), ("SourceTreeModel", 265, 44), ("SourceTreeModel", 247, 45), ("SourceTreeModel", 269, 46), ("SourceTreeModel", 315, 47), ("SourceTreeModel", 317, 48), ("SourceTreeModel", 322, 49), ("SourceTreeModel", 327, 50), ("SourceTreeModel", 287, 51), ("SourceTreeModel", 386, 52), ("SourceTreeModel", 388, 53), ("SourceTreeModel", 340, 54), ("SourceTreeModel", 352, 55), ("SourceTreeModel", 338, 56), ("SourceTreeModel", 390, 57), ("SourceTreeModel", 282, 58), ("SourceTreeModel", 357, 59), ("SourceTreeModel", 359, 60), ("SourceTreeModel", 363, 61), ("SourceTreeModel", 368, 62), ("SourceTreeModel", 370, 63), ("SourceTreeModel", 392, 64), ("SourceTreeModel", 393, 65), ("SourceTreeModel", 375, 66), ("SourceTreeModel", 380, 67), ("SourceTreeModel", 384, 68), ("SourceTreeModel", 301, 69), ("SourceTreeModel", 303, 70), ("SourceTreeModel", 310, 71)]
def st_tm : List (String × Nat) := [("SourceTree$Spellings", 46), ("SourceTree$Spellings", 52), ("SourceTree$Spellings", 54), ("SourceTree$Spellings", 56), ("SourceTree", 114), ("SourceTree$Scanner", 111), ("SourceTree$Cursor", 66), ("SourceTree", 60), ("SourceTree", 70), ("SourceTree", 96), ("SourceTree", 99), ("SourceTree", 106), ("SourceTreeModel", 68), ("SourceTreeModel", 74), ("SourceTreeModel", 118), ("SourceTreeModel", 178), ("SourceTreeModel", 186), ("SourceTreeModel", 192), ("SourceTreeModel", 214), ("SourceTreeModel", 216), ("SourceTreeModel", 218), ("SourceTreeModel", 233), ("SourceTreeModel", 436), ("SourceTreeModel", 438), ("SourceTreeModel", 235), ("SourceTreeModel", 237), ("SourceTreeModel", 432), ("SourceTreeModel", 434), ("SourceTreeModel", 416), ("SourceTreeModel", 418), ("SourceTreeModel", 398), ("SourceTreeModel", 400), ("SourceTreeModel", 402), ("SourceTreeModel", 404), ("SourceTreeModel", 406), ("SourceTreeModel", 408), ("SourceTreeModel", 198), ("SourceTreeModel", 200), ("SourceTreeModel", 182), ("SourceTreeModel", 239), ("SourceTreeModel", 252), ("SourceTreeModel", 257), ("SourceTreeModel", 259), ("SourceTreeModel", 261), ("SourceTreeModel", 265), ("SourceTreeModel", 247), ("SourceTreeModel", 269), ("SourceTreeModel", 315), ("SourceTreeModel", 317), ("SourceTreeModel", 322), ("SourceTreeModel", 327), ("SourceTreeModel", 287), ("SourceTreeModel", 386), ("SourceTreeModel", 388), ("SourceTreeModel", 340), ("SourceTreeModel", 352), ("SourceTreeModel", 338), ("SourceTreeModel", 390), ("SourceTreeModel", 282), ("SourceTreeModel", 357), ("SourceTreeModel", 359), ("SourceTreeModel", 363), ("SourceTreeModel", 368), ("SourceTreeModel", 370), ("SourceTreeModel", 392), ("SourceTreeModel", 393), ("SourceTreeModel", 375), ("SourceTreeModel", 380), ("SourceTreeModel", 384), ("SourceTreeModel", 301), ("SourceTreeModel", 303), ("SourceTreeModel", 310)]
def st_pr (q : String × Nat × Nat) : List Cond := [.exactly (.string q.1 q.2.1) "java/lang/String", .eq (.field (.string q.1 q.2.1) "java/lang/String" "coder" "B") (.int 0), .arrayOf (.field (.string q.1 q.2.1) "java/lang/String" "value" "[B") .byte, .eq (.length (.field (.string q.1 q.2.1) "java/lang/String" "value" "[B")) (.int (Int32.ofNat (jj_lS.getD q.2.2 0)))] ++ (List.range (jj_lS.getD q.2.2 0)).map (fun j => .eq (.elem (.field (.string q.1 q.2.1) "java/lang/String" "value" "[B") (.int (Int32.ofNat j))) (.int ((jj_bS.getD q.2.2 []).getD j 0)))
set_option maxRecDepth 100000 in
set_option maxHeartbeats 4000000 in
theorem st_flat : (flatC (Jvm.Cond.and given_1 narrow_1)).drop 38 = st_eA.flatMap st_pr ++ [.eq (.string "SourceTree$Spellings" 56) (.string "SourceTreeModel" 57)] ++ st_eB.flatMap st_pr := by decide +kernel
theorem st_in {q : String × Nat × Nat} (hq : q ∈ st_eA ∨ q ∈ st_eB) {w : Cond} (hw : w ∈ st_pr q) : w ∈ flatC (Jvm.Cond.and given_1 narrow_1) := by
  refine List.mem_of_mem_drop (i := 38) ?_
  rw [st_flat]
  rcases hq with h | h
  · exact List.mem_append_left _ (List.mem_append_left _ (List.mem_flatMap.mpr ⟨q, h, hw⟩))
  · exact List.mem_append_right _ (List.mem_flatMap.mpr ⟨q, h, hw⟩)
theorem st_eq : Cond.eq (.string "SourceTree$Spellings" 56) (.string "SourceTreeModel" 57) ∈ flatC (Jvm.Cond.and given_1 narrow_1) := by
  refine List.mem_of_mem_drop (i := 38) ?_
  rw [st_flat]
  exact List.mem_append_left _ (List.mem_append_right _ List.mem_cons_self)
theorem st_tmi : ∀ i, i < jj_nS → ((st_tm.getD i ("", 0)).1, (st_tm.getD i ("", 0)).2, i) ∈ st_eA ∨ ((st_tm.getD i ("", 0)).1, (st_tm.getD i ("", 0)).2, i) ∈ st_eB := by decide +kernel
theorem st_strs : ∀ q ∈ jj_str, q.2.2.2 < jj_nS ∧ ((q.1, q.2.1) = st_tm.getD q.2.2.2 ("", 0) ∨ (q.1 = "SourceTreeModel" ∧ q.2.1 = 57 ∧ q.2.2.2 = 3)) := by decide +kernel
theorem st_str_in : ∀ q ∈ jj_str, Cond.stringRef q.1 q.2.1 q.2.2.1 ∈ lw_tbl := by decide +kernel
theorem st_nm_in : ∀ q ∈ jj_nm, Cond.methodLinkNest q.1 q.2.1 q.2.2.1 q.2.2.2 ∈ lw_tbl := by decide +kernel
/-- the strings, out of what the Statement gives of them -/
theorem st_vS {args : Array Value} {s : State} {A : Nat → Prop} (hgv : (Jvm.Cond.and given_1 narrow_1).before args s = true) (hA : ∀ a : Nat, a < s.heap.size → ¬ A a) : ∃ adK adV : Nat → Nat, jj_vS jj_nS jj_lS jj_bS adK adV A s s.heap ∧ ∀ i : Nat, i < jj_nS → (Term.string (st_tm.getD i ("", 0)).1 (st_tm.getD i ("", 0)).2).eval args s none [] s = some (.ref (adK i)) := by
  have hfl := flat_of_before _ hgv
  have h0 : ∀ i : Nat, ∃ q : Nat × Nat, i < jj_nS → (Term.string (st_tm.getD i ("", 0)).1 (st_tm.getD i ("", 0)).2).eval args s none [] s = some (.ref q.1) ∧ va_O "java/lang/String" q.1 A s s.heap ∧ va_OF "java/lang/String" "coder" "B" (.int 0) q.1 A s s.heap ∧ va_OF "java/lang/String" "value" "[B" (.ref q.2) q.1 A s s.heap ∧ va_T .byte q.2 (jj_lS.getD i 0) (fun j => .int ((jj_bS.getD i []).getD j 0)) A s s.heap := by
    intro i
    by_cases hi : i < jj_nS
    · have hin := fun w hw => hfl w (st_in (st_tmi i hi) hw)
      have hlen := lS_small i hi
      generalize hown : (st_tm.getD i ("", 0)).1 = own at hin ⊢
      generalize hk : (st_tm.getD i ("", 0)).2 = k at hin ⊢
      obtain ⟨a, c, cA, kA, q1, q2, q3, q4, q5, q6, -⟩ := Cond.exactly_spec (args := args) (first := s) (o := none) (s := s) (idx := []) (t := .string own k) (cls := "java/lang/String") (hin _ (List.mem_append_left _ List.mem_cons_self))
      obtain ⟨t, ht, hT⟩ := va_Tof (f := fun j => .int ((jj_bS.getD i []).getD j 0)) (A := A) (show jj_lS.getD i 0 < 2 ^ 31 by omega) (hin _ (List.mem_append_left _ (List.mem_cons_of_mem _ (List.mem_cons_of_mem _ List.mem_cons_self)))) (va_eqt (hin _ (List.mem_append_left _ (List.mem_cons_of_mem _ (List.mem_cons_of_mem _ (List.mem_cons_of_mem _ List.mem_cons_self)))))) (fun j hj => va_eqt (hin _ (List.mem_append_right _ (List.mem_map.mpr ⟨j, List.mem_range.mpr hj, rfl⟩)))) hA
      exact ⟨(a, t), fun _ => ⟨q1, ⟨cA, q3, q5, by rw [q6]; exact q2, hA a (Array.getElem?_eq_some_iff.mp q3).1⟩, vk_OFof q1 (va_eqt (hin _ (List.mem_append_left _ (List.mem_cons_of_mem _ List.mem_cons_self)))) hA, vk_OFof q1 ht hA, hT⟩⟩
    · exact ⟨(0, 0), fun h => absurd h hi⟩
  obtain ⟨ad, had⟩ := Classical.axiomOfChoice h0
  exact ⟨fun i => (ad i).1, fun i => (ad i).2, fun i hi => (had i hi).2, fun i hi => (had i hi).1⟩
/-! the words that are carried by the heap -/
theorem kp_lays {C n d : String} {args args' : Array Value} {s V : State} (h : (Cond.laysStatic C n d).before args s = true) (hW : s.WarmedH V.vm) (hk : ∀ q, q < s.heap.size → V.heap[q]? = s.heap[q]?) : (Cond.laysStatic C n d).before args' V = true := by
  have h1 := Cond.laysStatic_setVm hW.alike h
  obtain ⟨c, k, i, f, a, cell, g1, g2, g3, g4, g5, g6, g7, g8, g9⟩ := Cond.laysStatic_spec h1
  have e1 : V.vm.findClass C = some c := g1
  have e2 : V.fieldFound? C n d = some (c, k, i, f) := g2
  have g5' : s.heap[a]? = some cell := g5
  have e5 : V.heap[a]? = some cell := (hk a (Array.getElem?_eq_some_iff.mp g5').1).trans g5'
  simp [Cond.before, Cond.holds, Cond.value, e1, e2, g4, e5, g3, g6, g7, g8, g9]
theorem kp_ref {C n d : String} {args args' : Array Value} {s V : State} (hl : (Cond.laysStatic C n d).before args s = true) (hini : (Cond.initialized C).before args s = true) (h : (Cond.isRef (.static C n d)).before args s = true) (hW : s.WarmedH V.vm) (hk : ∀ q, q < s.heap.size → V.heap[q]? = s.heap[q]?) : (Cond.isRef (.static C n d)).before args' V = true := by
  obtain ⟨v, hv, hr⟩ := Cond.isRef_spec h
  have hZ : va_Z C n d v (fun _ => False) s s.heap := va_Zof hl hini hv (fun _ _ q => q)
  obtain ⟨cf, kf, fi, f, a, cell, h1, h2, h3, h4, h5, h6, h7, -⟩ := va_Z.moved hW.alike (hZ.kept (H1 := V.heap) (fun q hq _ => hk q hq))
  have hev : (Term.static C n d).eval args' V none [] V = some v := by simp [Term.eval, State.fieldNamed?, h1, h2, h4, h5, h6, h7]
  simp [Cond.before, Cond.holds, Cond.value, hev]
  cases v <;> first | rfl | (cases hr)
