/-! A METHOD'S RUN OVER AN ABSTRACT HEAP: cells by their addresses, the heap's size, the slots made so far.
jj_E: from here the frame comes to this outcome and this heap; jj_P: to some outcome that F allows; jj_C, jj_Q: a call. -/
abbrev jj_H : Type := (Nat → Option va_E) × Nat × Nat
abbrev jj_G : Type := Nat × va_G × List (ClassId × FieldType) × (Nat → Nat) × (Nat → Nat) × Nat × Nat × (Nat → Int32)
abbrev jj_Y : Type := MethodName × ByteArray × Nat × Option FieldType × List (Nat × Nat × Nat × Nat)
abbrev jj_O : Type := Option Value ⊕ String
def jj_A (G : jj_G) : Nat → Prop := fun a => G.1 ≤ a
/-- no cell from G.1 on holds a class's statics -/
def jj_ns (G : jj_G) (H : Heap) : Prop := ∀ (a : Nat) (cell : Cell), G.1 ≤ a → H[a]? = some cell → cell.vm.isStatics = false
def jj_hp (G : jj_G) (h : jj_H) (H : Heap) : Prop := H.size = h.2.1 ∧ jj_ns G H ∧ ∀ (a : Nat) (e : va_E), h.1 a = some e → G.1 ≤ a ∧ va_at G.2.1 vwCl (a, e) H
theorem jj_at_ns {D : va_G} {cl : List vw_C} {a : Nat} {e : va_E} {H : Heap} (h : va_at D cl (a, e) H) {cell : Cell} (hc : H[a]? = some cell) : cell.vm.isStatics = false := by
  cases e with
  | inl x =>
    have h1 : H[a]? = some (vp_cell x.1 x.2) := h
    cases Option.some.inj (hc.symm.trans h1)
    obtain ⟨c0, n, f⟩ := x
    rcases f with f | f | f | f | f <;> rfl
  | inr x =>
    obtain ⟨r, -, c9, h1, -, h3, -⟩ := h
    cases Option.some.inj (hc.symm.trans h1)
    rw [h3]
    rfl
def jj_up (f : Nat → Option va_E) (a : Nat) (e : va_E) : Nat → Option va_E := fun x => if x = a then some e else f x
theorem jj_up_self {f : Nat → Option va_E} {a : Nat} {e : va_E} : jj_up f a e a = some e := by simp [jj_up]
theorem jj_up_ne {f : Nat → Option va_E} {a b : Nat} {e : va_E} (hn : b ≠ a) : jj_up f a e b = f b := by simp [jj_up, hn]
theorem jj_hp.lt {G : jj_G} {h : jj_H} {H : Heap} (hh : jj_hp G h H) {a : Nat} {e : va_E} (ha : h.1 a = some e) : a < h.2.1 := by
  rw [← hh.1]
  exact (hh.2.2 a e ha).2.lt
theorem jj_hp.put {G : jj_G} {h : jj_H} {H H1 : Heap} {a : Nat} {e e' : va_E} (hh : jj_hp G h H) (ha : h.1 a = some e) (h1 : va_at G.2.1 vwCl (a, e') H1) (hz : H1.size = H.size) (ho : ∀ q : Nat, q ≠ a → H1[q]? = H[q]?) : jj_hp G (jj_up h.1 a e', h.2) H1 := by
  refine ⟨by rw [hz]; exact hh.1, fun q cell hq hcell => ?_, fun q x hx => ?_⟩
  · by_cases hqa : q = a
    · subst hqa
      exact jj_at_ns h1 hcell
    · rw [ho q hqa] at hcell
      exact hh.2.1 q cell hq hcell
  by_cases hq : q = a
  · subst hq
    dsimp only at hx
    rw [show jj_up h.1 q e' q = some e' from jj_up_self] at hx
    cases hx
    exact ⟨(hh.2.2 _ _ ha).1, h1⟩
  · dsimp only at hx
    rw [show jj_up h.1 a e' q = h.1 q from jj_up_ne hq] at hx
    exact ⟨(hh.2.2 _ _ hx).1, (hh.2.2 _ _ hx).2.kept (ho q hq)⟩
theorem jj_hp.new {G : jj_G} {h : jj_H} {H H1 : Heap} {e : va_E} {n : Nat} (hh : jj_hp G h H) (hb : G.1 ≤ h.2.1) (h1 : va_at G.2.1 vwCl (h.2.1, e) H1) (hz : H1.size = h.2.1 + 1) (ho : ∀ q : Nat, q < h.2.1 → H1[q]? = H[q]?) : jj_hp G (jj_up h.1 h.2.1 e, h.2.1 + 1, n) H1 := by
  refine ⟨hz, fun q cell hq hcell => ?_, fun q x hx => ?_⟩
  · by_cases hqa : q = h.2.1
    · subst hqa
      exact jj_at_ns h1 hcell
    · have hlt : q < h.2.1 := by
        have := (Array.getElem?_eq_some_iff.mp hcell).1
        omega
      rw [ho q hlt] at hcell
      exact hh.2.1 q cell hq hcell
  by_cases hq : q = h.2.1
  · subst hq
    dsimp only at hx
    rw [show jj_up h.1 h.2.1 e h.2.1 = some e from jj_up_self] at hx
    cases hx
    exact ⟨hb, h1⟩
  · dsimp only at hx
    rw [show jj_up h.1 h.2.1 e q = h.1 q from jj_up_ne hq] at hx
    exact ⟨(hh.2.2 _ _ hx).1, (hh.2.2 _ _ hx).2.kept (ho q (hh.lt hx))⟩
theorem jj_hp.more {G : jj_G} {h : jj_H} {H H1 : Heap} {z n : Nat} (hh : jj_hp G h H) (hz : H1.size = z) (hn : ∀ (q : Nat) (cell : Cell), h.2.1 ≤ q → H1[q]? = some cell → cell.vm.isStatics = false) (ho : ∀ q : Nat, q < h.2.1 → H1[q]? = H[q]?) : jj_hp G (h.1, z, n) H1 :=
  ⟨hz, fun q cell hq hcell => by
    rcases Nat.lt_or_ge q h.2.1 with h9 | h9
    · rw [ho q h9] at hcell
      exact hh.2.1 q cell hq hcell
    · exact hn q cell h9 hcell, fun q x hx => ⟨(hh.2.2 _ _ hx).1, (hh.2.2 _ _ hx).2.kept (ho q (hh.lt hx))⟩⟩
/-! the locals: by places, none where nothing is known -/
def jj_l : Nat → List (Option Value) → List (Nat × Value)
  | _, [] => []
  | k, none :: r => jj_l (k + 1) r
  | k, some v :: r => (k, v) :: jj_l (k + 1) r
def jj_L (n : Nat) (L : List (Option Value)) (ls : Array Slot) : Prop := ls.size = n ∧ lv_wf ls ∧ ∀ (i : Nat) (v : Value), L[i]? = some (some v) → ls[i]? = some (.val v)
theorem jj_l_mem : ∀ (L : List (Option Value)) (k j : Nat) (v : Value), (j, v) ∈ jj_l k L ↔ k ≤ j ∧ L[j - k]? = some (some v) := by
  intro L
  induction L with
  | nil => intro k j v; simp [jj_l]
  | cons a r ih =>
    intro k j v
    have hs : k + 1 ≤ j → j - k = (j - (k + 1)) + 1 := by omega
    cases a with
    | none =>
      rw [jj_l, ih]
      constructor
      · rintro ⟨h1, h2⟩
        exact ⟨by omega, by rw [hs h1, List.getElem?_cons_succ]; exact h2⟩
      · rintro ⟨h1, h2⟩
        by_cases hk : k = j
        · subst hk
          simp at h2
        · have h3 : k + 1 ≤ j := by omega
          rw [hs h3, List.getElem?_cons_succ] at h2
          exact ⟨h3, h2⟩
    | some w =>
      rw [jj_l, List.mem_cons, ih]
      constructor
      · rintro (h1 | ⟨h1, h2⟩)
        · cases h1
          exact ⟨Nat.le_refl _, by simp⟩
        · exact ⟨by omega, by rw [hs h1, List.getElem?_cons_succ]; exact h2⟩
      · rintro ⟨h1, h2⟩
        by_cases hk : k = j
        · subst hk
          simp at h2
          subst h2
          exact Or.inl rfl
        · have h3 : k + 1 ≤ j := by omega
          rw [hs h3, List.getElem?_cons_succ] at h2
          exact Or.inr ⟨h3, h2⟩
theorem jj_L.has {n : Nat} {L : List (Option Value)} {ls : Array Slot} (h : jj_L n L ls) : lv_has ls n (jj_l 0 L) := by
  refine ⟨h.1, h.2.1, fun q hq => ?_⟩
  obtain ⟨i, v⟩ := q
  obtain ⟨-, h2⟩ := (jj_l_mem L 0 i v).mp hq
  exact h.2.2 i v h2
theorem jj_L.of {n : Nat} {L : List (Option Value)} {ls : Array Slot} (h : lv_has ls n (jj_l 0 L)) : jj_L n L ls :=
  ⟨h.1, h.2.1, fun i v hv => h.2.2 (i, v) ((jj_l_mem L 0 i v).mpr ⟨Nat.zero_le _, hv⟩)⟩
/-- no long or double lies just ahead of place i -/
def jj_ok1 (L : List (Option Value)) (i : Nat) : Bool := match i with
  | 0 => true
  | j + 1 => match L[j]? with
    | some (some v) => v.category == 1
    | _ => true
theorem jj_L.set1 {n i : Nat} {L : List (Option Value)} {ls : Array Slot} {v : Value} (hk : jj_ok1 L i = true) (h : lv_has ls n ((i, v) :: (jj_l 0 L).filter (fun q => !(q.1 == i) && !(q.1 + 1 == i && q.2.category == 2)))) : jj_L n (L.set i (some v)) ls := by
  refine ⟨h.1, h.2.1, fun j w hw => ?_⟩
  by_cases hj : j = i
  · subst hj
    rw [List.getElem?_set] at hw
    simp at hw
    obtain ⟨-, rfl⟩ := hw
    exact h.2.2 (j, v) List.mem_cons_self
  · rw [List.getElem?_set_ne (fun q => hj q.symm)] at hw
    refine h.2.2 (j, w) (List.mem_cons_of_mem _ (List.mem_filter.mpr ⟨(jj_l_mem L 0 j w).mpr ⟨Nat.zero_le _, hw⟩, ?_⟩))
    have hc : ¬ (j + 1 = i ∧ w.category = 2) := by
      rintro ⟨rfl, h2⟩
      simp [jj_ok1, hw] at hk
      omega
    simp [hj]
    omega
theorem jj_L.set2 {n i : Nat} {L : List (Option Value)} {ls : Array Slot} {v : Value} (hk : jj_ok1 L i = true) (h : lv_has ls n ((i, v) :: (jj_l 0 L).filter (fun q => !(q.1 == i) && (!(q.1 == i + 1) && !(q.1 + 1 == i && q.2.category == 2))))) : jj_L n ((L.set i (some v)).set (i + 1) none) ls := by
  refine ⟨h.1, h.2.1, fun j w hw => ?_⟩
  by_cases hj1 : j = i + 1
  · subst hj1
    rw [List.getElem?_set] at hw
    simp at hw
  · rw [List.getElem?_set_ne (fun q => hj1 q.symm)] at hw
    by_cases hj : j = i
    · subst hj
      rw [List.getElem?_set] at hw
      simp at hw
      obtain ⟨-, rfl⟩ := hw
      exact h.2.2 (j, v) List.mem_cons_self
    · rw [List.getElem?_set_ne (fun q => hj q.symm)] at hw
      refine h.2.2 (j, w) (List.mem_cons_of_mem _ (List.mem_filter.mpr ⟨(jj_l_mem L 0 j w).mpr ⟨Nat.zero_le _, hw⟩, ?_⟩))
      have hc : ¬ (j + 1 = i ∧ w.category = 2) := by
        rintro ⟨rfl, h2⟩
        simp [jj_ok1, hw] at hk
        omega
      simp [hj, hj1]
      omega
/-- the string constants by their texts; two of one text are one object -/
def jj_vS (N : Nat) (len : List Nat) (byt : List (List Int32)) (adK adV : Nat → Nat) (A : Nat → Prop) (U : State) (H : Heap) : Prop := ∀ i : Nat, i < N → va_O "java/lang/String" (adK i) A U H ∧ va_OF "java/lang/String" "coder" "B" (.int 0) (adK i) A U H ∧ va_OF "java/lang/String" "value" "[B" (.ref (adV i)) (adK i) A U H ∧ va_T .byte (adV i) (len.getD i 0) (fun j => .int ((byt.getD i []).getD j 0)) A U H
theorem jj_vS.moved {N : Nat} {len : List Nat} {byt : List (List Int32)} {adK adV : Nat → Nat} {A : Nat → Prop} {u U : State} {H : Heap} (hvm : u.vm.Alike U.vm) (h : jj_vS N len byt adK adV A u H) : jj_vS N len byt adK adV A U H :=
  fun i hi => ⟨va_O.moved hvm (h i hi).1, va_OF.moved hvm (h i hi).2.1, va_OF.moved hvm (h i hi).2.2.1, va_T.moved hvm (h i hi).2.2.2⟩
theorem jj_vS.kept {N : Nat} {len : List Nat} {byt : List (List Int32)} {adK adV : Nat → Nat} {A : Nat → Prop} {U : State} {H H1 : Heap} (h : jj_vS N len byt adK adV A U H) (hq : ∀ a : Nat, a < H.size → ¬ A a → H1[a]? = H[a]?) : jj_vS N len byt adK adV A U H1 :=
  fun i hi => ⟨(h i hi).1.kept hq, (h i hi).2.1.kept hq, (h i hi).2.2.1.kept hq, (h i hi).2.2.2.kept hq⟩
/-- the JDK's formatter of wrong indices: null or a reference, told by the place behind the strings' -/
def jj_sv (G : jj_G) : Value := match G.2.2.2.1 jj_nS with
  | 0 => .null
  | t + 1 => .ref t
/-- the constants of the run: string literals, statics that nobody writes, the law's script -/
def jj_mw (G : jj_G) (U : State) : Prop := (jj_vS jj_nS jj_lS jj_bS G.2.2.2.1 G.2.2.2.2.1 (jj_A G) U U.heap ∧ True) ∧ (∀ q ∈ jj_str, vk_R q.1 q.2.1 q.2.2.1 (G.2.2.2.1 q.2.2.2) U) ∧ ((∀ q ∈ jj_sta, va_Z q.1 q.2.1 q.2.2.1 q.2.2.2 (jj_A G) U U.heap) ∧ va_Z "jdk/internal/util/Preconditions" "SIOOBE_FORMATTER" "Ljava/util/function/BiFunction;" (jj_sv G) (jj_A G) U U.heap) ∧ va_X G.2.2.2.2.2.1 G.2.2.2.2.2.2.1 G.2.2.2.2.2.2.2 U U.heap ∧ G.2.2.2.2.2.1 < G.1
theorem jj_mw.next {G : jj_G} {s U : State} (h : jj_mw G s) (hW : s.WarmedH U.vm) (hk : ∀ q : Nat, q < s.heap.size → ¬ jj_A G q → U.heap[q]? = s.heap[q]?) (hb : G.1 ≤ s.heap.size) : jj_mw G U := by
  obtain ⟨h1, h2, h3, h4, h5⟩ := h
  exact ⟨⟨jj_vS.moved hW.alike (h1.1.kept hk), trivial⟩, fun q hq => vk_R.warm hW (h2 q hq), ⟨fun q hq => va_Z.moved hW.alike ((h3.1 q hq).kept hk), va_Z.moved hW.alike (h3.2.kept hk)⟩, va_X.moved hW.alike (h4.kept (hk _ (Nat.lt_of_lt_of_le h5 hb) (Nat.not_le.mpr h5))), h5⟩
/-! THE JUDGEMENTS -/
def jj_cw (Y : jj_Y) : Cond := match Y.2.2.2.2 with
  | [] => .code Y.1 Y.2.1 Y.2.2.1 Y.2.2.2.1
  | q :: hh => .codeWith Y.1 Y.2.1 Y.2.2.1 Y.2.2.2.1 (q :: hh)
/-- what stands throughout a method's run -/
def jj_cx (Y : jj_Y) (l : Launch) (p : Program) (s : State) (m : MethodId) (args : Array Value) (meth : Method) (c : Code) : Prop :=
  p.tables.exec = Jvm.exec ∧ c.code = Y.2.1 ∧ c.maxLocals = Y.2.2.1 ∧ s.vm.findClass Y.1.cls = some m.cls ∧ (∀ w ∈ jj_T, w.before args s = true) ∧ meth.sig.returnType = Y.2.2.2.1 ∧ meth.locks = false ∧ c.exceptionTable.toList = tableOf Y.2.2.2.2 ∧ meth.name = Y.1.name ∧ l.stackTraces = false
/-- a word that is carried from state to state by its heap below G.1 -/
def jj_kp (G : jj_G) (w : Cond) (U : State) : Prop := ∀ (args : Array Value) (V : State), U.WarmedH V.vm → (∀ q : Nat, q < U.heap.size → ¬ jj_A G q → V.heap[q]? = U.heap[q]?) → U.heap.size ≤ V.heap.size → w.before args V = true
/-- what stands throughout the whole run: of every state, by its tables and what lies below G.1 in its heap -/
def jj_wd (G : jj_G) (U : State) : Prop :=
  va_K G.2.1 vwCl G.2.2.1 U ∧ G.1 ≤ U.heap.size ∧ (∀ q ∈ jj_nm, va_Nw (.methodLinkNest q.1 q.2.1 q.2.2.1 q.2.2.2) U) ∧ (∀ w ∈ jj_hw, jj_kp G w U) ∧ jj_mw G U ∧ jj_ns G U.heap ∧ ∀ q ∈ jj_ncl, va_Nc q.1 q.2 U
/-- the answer that a return at pc gives -/
def jj_ret (Y : jj_Y) (pc : Nat) (v : Option Value) : Prop := match v with
  | none => Y.2.2.2.1 = none ∧ decode Y.2.1 pc = .ok (.return_, 1)
  | some (.int x) => (∃ ty, Y.2.2.2.1 = some ty ∧ narrow ty (.int x) = .int x) ∧ decode Y.2.1 pc = .ok (.ireturn, 1)
  | some (.long _) => Y.2.2.2.1 = some .long ∧ decode Y.2.1 pc = .ok (.lreturn, 1)
  | some (.ref _) => (∃ rt, Y.2.2.2.1 = some rt ∧ ((∃ n, rt = .object n) ∨ ∃ t, rt = .array t)) ∧ decode Y.2.1 pc = .ok (.areturn, 1)
  | some _ => False
/-- how the run goes on behind its outcome -/
def jj_K (l : Launch) (G : jj_G) (Y : jj_Y) (o : jj_O) (h' : jj_H) (p : Program) (e : Env) (R : Room) (s : State) (m : MethodId) (args : Array Value) (below : List Frame) (meth : Method) (c : Code) (cells slots : Nat) (Q : State → Prop) : Prop := match o with
  | .inl v => ∀ (H : Heap) (locs : List Loc) (ls : Array Slot) (pc : Nat), va_S (jj_A G) s.heap H locs → jj_hp G h' H → jj_ret Y pc v → W p l e R s m args below meth c H locs cells slots Q (F0 m pc ls v.toList)
  | .inr E => ∀ (U : State) (locs : List Loc) (q : Addr) (ce : Cell), U.status = .running → Ended U below (.threw q) → s.WarmedH U.vm → s.sameButNew ({ U with vm := s.vm } : State) locs cells slots → va_S (jj_A G) s.heap U.heap locs → jj_hp G h' U.heap → U.heap[q]? = some ce → ce.vm = .none → s.vm.findClass E = some ce.cls → Q U
def jj_le (h h' : jj_H) : Prop := h.2.1 ≤ h'.2.1 ∧ h.2.2 ≤ h'.2.2
theorem jj_le.rf {h : jj_H} : jj_le h h := ⟨Nat.le_refl _, Nat.le_refl _⟩
theorem jj_le.tr {h h1 h2 : jj_H} (a : jj_le h h1) (b : jj_le h1 h2) : jj_le h h2 := ⟨Nat.le_trans a.1 b.1, Nat.le_trans a.2 b.2⟩
/-- the room that is left for what comes between h and h' -/
def jj_rm (R : Room) (d cells slots : Nat) (h h' : jj_H) : Prop := (d ≤ R.frames ∧ 40 * d ≤ R.locals) ∧ cells + (h'.2.1 - h.2.1) ≤ R.cells ∧ slots + (h'.2.2 - h.2.2) ≤ R.slots
def jj_E (l : Launch) (G : jj_G) (Y : jj_Y) (d : Nat) (o : jj_O) (h' : jj_H) (pc : Nat) (L : List (Option Value)) (st : List Value) (h : jj_H) : Prop :=
  jj_le h h' ∧ ∀ (p : Program) (e : Env) (R : Room) (s : State) (m : MethodId) (args : Array Value) (below : List Frame) (meth : Method) (c : Code) (H : Heap) (locs : List Loc) (cells slots : Nat) (Q : State → Prop) (ls : Array Slot),
    jj_cx Y l p s m args meth c → jj_wd G s → jj_rm R d cells slots h h' → va_S (jj_A G) s.heap H locs → jj_hp G h H → jj_L Y.2.2.1 L ls →
    jj_K l G Y o h' p e R s m args below meth c (cells + (h'.2.1 - h.2.1)) (slots + (h'.2.2 - h.2.2)) Q →
    W p l e R s m args below meth c H locs cells slots Q (F0 m pc ls st)
def jj_P (l : Launch) (G : jj_G) (Y : jj_Y) (d : Nat) (F : jj_O → jj_H → Prop) (pc : Nat) (L : List (Option Value)) (st : List Value) (h : jj_H) : Prop := ∃ (o : jj_O) (h' : jj_H), F o h' ∧ jj_E l G Y d o h' pc L st h
theorem jj_P.imp {l : Launch} {G : jj_G} {Y : jj_Y} {d : Nat} {F F' : jj_O → jj_H → Prop} {pc : Nat} {L : List (Option Value)} {st : List Value} {h : jj_H} (k : jj_P l G Y d F pc L st h) (hF : ∀ o h', F o h' → F' o h') : jj_P l G Y d F' pc L st h := by
  obtain ⟨o, h', a, b⟩ := k
  exact ⟨o, h', hF o h' a, b⟩
section JJP
variable {l : Launch} {G : jj_G} {Y : jj_Y} {d : Nat} {F : jj_O → jj_H → Prop} {pc : Nat} {L : List (Option Value)} {st : List Value} {h : jj_H}
theorem jj_pure {pc' : Nat} {L' : List (Option Value)} {st' : List Value}
    (hs : ∀ (p : Program) (e : Env) (R : Room) (s : State) (m : MethodId) (args : Array Value) (below : List Frame) (meth : Method) (c : Code) (H : Heap) (locs : List Loc) (cells slots : Nat) (Q : State → Prop) (ls : Array Slot), jj_cx Y l p s m args meth c → jj_L Y.2.2.1 L ls →
      (∀ ls' : Array Slot, jj_L Y.2.2.1 L' ls' → W p l e R s m args below meth c H locs cells slots Q (F0 m pc' ls' st')) → W p l e R s m args below meth c H locs cells slots Q (F0 m pc ls st))
    (k : jj_P l G Y d F pc' L' st' h) : jj_P l G Y d F pc L st h := by
  obtain ⟨o, h', hF, hm, hE⟩ := k
  refine ⟨o, h', hF, hm, fun p e R s m args below meth c H locs cells slots Q ls hx hw hr hS hH hL hK => ?_⟩
  exact hs p e R s m args below meth c H locs cells slots Q ls hx hL (fun ls' hL' => hE p e R s m args below meth c H locs cells slots Q ls' hx hw hr hS hH hL' hK)
theorem jj_iconst {n : Int} {v : Int32} (hd : decode Y.2.1 pc = .ok (.iconst n, 1)) (hv : Int32.ofInt n = v) (k : jj_P l G Y d F (pc + 1) L (.int v :: st) h) : jj_P l G Y d F pc L st h :=
  jj_pure (fun _ _ _ _ _ _ _ _ _ _ _ _ _ _ ls hx hL kk => lv_iconst hx.1 hx.2.1 hd hv (kk ls hL)) k
theorem jj_bipush {n : Int} {v : Int32} (hd : decode Y.2.1 pc = .ok (.bipush n, 2)) (hv : (Int8.ofInt n).toInt32 = v) (k : jj_P l G Y d F (pc + 2) L (.int v :: st) h) : jj_P l G Y d F pc L st h :=
  jj_pure (fun _ _ _ _ _ _ _ _ _ _ _ _ _ _ ls hx hL kk => lv_bipush hx.1 hx.2.1 hd hv (kk ls hL)) k
theorem jj_sipush {n : Int} {v : Int32} (hd : decode Y.2.1 pc = .ok (.sipush n, 3)) (hv : (Int16.ofInt n).toInt32 = v) (k : jj_P l G Y d F (pc + 3) L (.int v :: st) h) : jj_P l G Y d F pc L st h :=
  jj_pure (fun _ _ _ _ _ _ _ _ _ _ _ _ _ _ ls hx hL kk => lv_sipush hx.1 hx.2.1 hd hv (kk ls hL)) k
theorem jj_lconst {n : Fin 2} {v : Int64} (hd : decode Y.2.1 pc = .ok (.lconst n, 1)) (hv : Int64.ofNat (n : Nat) = v) (k : jj_P l G Y d F (pc + 1) L (.long v :: st) h) : jj_P l G Y d F pc L st h :=
  jj_pure (fun _ _ _ _ _ _ _ _ _ _ _ _ _ _ ls hx hL kk => lv_lconst hx.1 hx.2.1 hd hv (kk ls hL)) k
theorem jj_ldc {index : Nat} {v : Int32} (hd : decode Y.2.1 pc = .ok (.ldc index, 2)) (hw : Jvm.Cond.constant Y.1.cls index v ∈ jj_T) (k : jj_P l G Y d F (pc + 2) L (.int v :: st) h) : jj_P l G Y d F pc L st h :=
  jj_pure (fun _ _ _ _ _ _ _ _ _ _ _ _ _ _ ls hx hL kk => lv_ldc hx.1 hx.2.1 hx.2.2.2.1 (hx.2.2.2.2.1 _ hw) hd (kk ls hL)) k
theorem jj_ldc2 {index : Nat} {v : Int64} (hd : decode Y.2.1 pc = .ok (.ldc2_w index, 3)) (hw : Jvm.Cond.constantLong Y.1.cls index v ∈ jj_T) (k : jj_P l G Y d F (pc + 3) L (.long v :: st) h) : jj_P l G Y d F pc L st h :=
  jj_pure (fun _ _ _ _ _ _ _ _ _ _ _ _ _ _ ls hx hL kk => lv_ldc2 hx.1 hx.2.1 hx.2.2.2.1 (hx.2.2.2.2.1 _ hw) hd (kk ls hL)) k
theorem jj_iload_n {j : Fin 4} {x : Int32} (hd : decode Y.2.1 pc = .ok (.iload_n j, 1)) (hv : L[(j : Nat)]? = some (some (.int x))) (k : jj_P l G Y d F (pc + 1) L (.int x :: st) h) : jj_P l G Y d F pc L st h :=
  jj_pure (fun _ _ _ _ _ _ _ _ _ _ _ _ _ _ ls hx hL kk => lv_iload_n hx.1 hx.2.1 hd rfl (hL.2.2 _ _ hv) (kk ls hL)) k
theorem jj_iload {i : Nat} {x : Int32} (hd : decode Y.2.1 pc = .ok (.iload i, 2)) (hv : L[i]? = some (some (.int x))) (k : jj_P l G Y d F (pc + 2) L (.int x :: st) h) : jj_P l G Y d F pc L st h :=
  jj_pure (fun _ _ _ _ _ _ _ _ _ _ _ _ _ _ ls hx hL kk => lv_iload hx.1 hx.2.1 hd (hL.2.2 _ _ hv) (kk ls hL)) k
theorem jj_lload_n {j : Fin 4} {x : Int64} (hd : decode Y.2.1 pc = .ok (.lload_n j, 1)) (hv : L[(j : Nat)]? = some (some (.long x))) (k : jj_P l G Y d F (pc + 1) L (.long x :: st) h) : jj_P l G Y d F pc L st h :=
  jj_pure (fun _ _ _ _ _ _ _ _ _ _ _ _ _ _ ls hx hL kk => lv_lload_n hx.1 hx.2.1 hd rfl (hL.2.2 _ _ hv) (kk ls hL)) k
theorem jj_lload {i : Nat} {x : Int64} (hd : decode Y.2.1 pc = .ok (.lload i, 2)) (hv : L[i]? = some (some (.long x))) (k : jj_P l G Y d F (pc + 2) L (.long x :: st) h) : jj_P l G Y d F pc L st h :=
  jj_pure (fun _ _ _ _ _ _ _ _ _ _ _ _ _ _ ls hx hL kk => lv_lload hx.1 hx.2.1 hd (hL.2.2 _ _ hv) (kk ls hL)) k
theorem jj_aload_n {j : Fin 4} {x : Nat} (hd : decode Y.2.1 pc = .ok (.aload_n j, 1)) (hv : L[(j : Nat)]? = some (some (.ref x))) (k : jj_P l G Y d F (pc + 1) L (.ref x :: st) h) : jj_P l G Y d F pc L st h :=
  jj_pure (fun _ _ _ _ _ _ _ _ _ _ _ _ _ _ ls hx hL kk => lv_aload_n hx.1 hx.2.1 hd rfl (hL.2.2 _ _ hv) (kk ls hL)) k
theorem jj_aload {i : Nat} {x : Nat} (hd : decode Y.2.1 pc = .ok (.aload i, 2)) (hv : L[i]? = some (some (.ref x))) (k : jj_P l G Y d F (pc + 2) L (.ref x :: st) h) : jj_P l G Y d F pc L st h :=
  jj_pure (fun _ _ _ _ _ _ _ _ _ _ _ _ _ _ ls hx hL kk => lv_aload hx.1 hx.2.1 hd (hL.2.2 _ _ hv) (kk ls hL)) k
theorem jj_istore_n {j : Fin 4} {x : Int32} (hd : decode Y.2.1 pc = .ok (.istore_n j, 1)) (hb : (j : Nat) < Y.2.2.1) (ho : jj_ok1 L j = true) (k : jj_P l G Y d F (pc + 1) (L.set j (some (.int x))) st h) : jj_P l G Y d F pc L (.int x :: st) h :=
  jj_pure (fun _ _ _ _ _ _ _ _ _ _ _ _ _ _ ls hx hL kk => lv_istore_n hx.1 hx.2.1 hd rfl hL.has hb rfl (fun ls' h' => kk ls' (jj_L.set1 ho h'))) k
theorem jj_istore {i : Nat} {x : Int32} (hd : decode Y.2.1 pc = .ok (.istore i, 2)) (hb : i < Y.2.2.1) (ho : jj_ok1 L i = true) (k : jj_P l G Y d F (pc + 2) (L.set i (some (.int x))) st h) : jj_P l G Y d F pc L (.int x :: st) h :=
  jj_pure (fun _ _ _ _ _ _ _ _ _ _ _ _ _ _ ls hx hL kk => lv_istore hx.1 hx.2.1 hd hL.has hb rfl (fun ls' h' => kk ls' (jj_L.set1 ho h'))) k
theorem jj_lstore_n {j : Fin 4} {x : Int64} (hd : decode Y.2.1 pc = .ok (.lstore_n j, 1)) (hb : (j : Nat) + 1 < Y.2.2.1) (ho : jj_ok1 L j = true) (k : jj_P l G Y d F (pc + 1) ((L.set j (some (.long x))).set (j + 1) none) st h) : jj_P l G Y d F pc L (.long x :: st) h :=
  jj_pure (fun _ _ _ _ _ _ _ _ _ _ _ _ _ _ ls hx hL kk => lv_lstore_n hx.1 hx.2.1 hd rfl hL.has hb rfl (fun ls' h' => kk ls' (jj_L.set2 ho h'))) k
theorem jj_lstore {i : Nat} {x : Int64} (hd : decode Y.2.1 pc = .ok (.lstore i, 2)) (hb : i + 1 < Y.2.2.1) (ho : jj_ok1 L i = true) (k : jj_P l G Y d F (pc + 2) ((L.set i (some (.long x))).set (i + 1) none) st h) : jj_P l G Y d F pc L (.long x :: st) h :=
  jj_pure (fun _ _ _ _ _ _ _ _ _ _ _ _ _ _ ls hx hL kk => lv_lstore hx.1 hx.2.1 hd hL.has hb rfl (fun ls' h' => kk ls' (jj_L.set2 ho h'))) k
theorem jj_astore_n {j : Fin 4} {x : Nat} (hd : decode Y.2.1 pc = .ok (.astore_n j, 1)) (hb : (j : Nat) < Y.2.2.1) (ho : jj_ok1 L j = true) (k : jj_P l G Y d F (pc + 1) (L.set j (some (.ref x))) st h) : jj_P l G Y d F pc L (.ref x :: st) h :=
  jj_pure (fun _ _ _ _ _ _ _ _ _ _ _ _ _ _ ls hx hL kk => lv_astore_n hx.1 hx.2.1 hd rfl hL.has hb rfl (fun ls' h' => kk ls' (jj_L.set1 ho h'))) k
theorem jj_astore {i : Nat} {x : Nat} (hd : decode Y.2.1 pc = .ok (.astore i, 2)) (hb : i < Y.2.2.1) (ho : jj_ok1 L i = true) (k : jj_P l G Y d F (pc + 2) (L.set i (some (.ref x))) st h) : jj_P l G Y d F pc L (.ref x :: st) h :=
  jj_pure (fun _ _ _ _ _ _ _ _ _ _ _ _ _ _ ls hx hL kk => lv_astore hx.1 hx.2.1 hd hL.has hb rfl (fun ls' h' => kk ls' (jj_L.set1 ho h'))) k
theorem jj_iinc {i : Nat} {n : Int} {x v : Int32} (hd : decode Y.2.1 pc = .ok (.iinc i n, 3)) (hv : L[i]? = some (some (.int x))) (he : x + Int32.ofInt n = v) (hb : i < Y.2.2.1) (ho : jj_ok1 L i = true) (k : jj_P l G Y d F (pc + 3) (L.set i (some (.int v))) st h) : jj_P l G Y d F pc L st h := by
  obtain ⟨j, hj⟩ := List.getElem?_of_mem ((jj_l_mem L 0 i (.int x)).mpr ⟨Nat.zero_le _, hv⟩)
  exact jj_pure (fun _ _ _ _ _ _ _ _ _ _ _ _ _ _ ls hx hL kk => lv_iinc hx.1 hx.2.1 hd hL.has hj he hb rfl (fun ls' h' => kk ls' (jj_L.set1 ho h'))) k
theorem jj_iadd {x y : Int32} (hd : decode Y.2.1 pc = .ok (.iadd, 1)) (k : jj_P l G Y d F (pc + 1) L (.int (x + y) :: st) h) : jj_P l G Y d F pc L (.int y :: .int x :: st) h :=
  jj_pure (fun _ _ _ _ _ _ _ _ _ _ _ _ _ _ ls hx hL kk => lv_iadd hx.1 hx.2.1 hd (kk ls hL)) k
theorem jj_isub {x y : Int32} (hd : decode Y.2.1 pc = .ok (.isub, 1)) (k : jj_P l G Y d F (pc + 1) L (.int (x - y) :: st) h) : jj_P l G Y d F pc L (.int y :: .int x :: st) h :=
  jj_pure (fun _ _ _ _ _ _ _ _ _ _ _ _ _ _ ls hx hL kk => lv_isub hx.1 hx.2.1 hd (kk ls hL)) k
theorem jj_imul {x y : Int32} (hd : decode Y.2.1 pc = .ok (.imul, 1)) (k : jj_P l G Y d F (pc + 1) L (.int (x * y) :: st) h) : jj_P l G Y d F pc L (.int y :: .int x :: st) h :=
  jj_pure (fun _ _ _ _ _ _ _ _ _ _ _ _ _ _ ls hx hL kk => lv_imul hx.1 hx.2.1 hd (kk ls hL)) k
theorem jj_iand {x y : Int32} (hd : decode Y.2.1 pc = .ok (.iand, 1)) (k : jj_P l G Y d F (pc + 1) L (.int (x &&& y) :: st) h) : jj_P l G Y d F pc L (.int y :: .int x :: st) h :=
  jj_pure (fun _ _ _ _ _ _ _ _ _ _ _ _ _ _ ls hx hL kk => lv_iand hx.1 hx.2.1 hd (kk ls hL)) k
theorem jj_ior {x y : Int32} (hd : decode Y.2.1 pc = .ok (.ior, 1)) (k : jj_P l G Y d F (pc + 1) L (.int (x ||| y) :: st) h) : jj_P l G Y d F pc L (.int y :: .int x :: st) h :=
  jj_pure (fun _ _ _ _ _ _ _ _ _ _ _ _ _ _ ls hx hL kk => lv_ior hx.1 hx.2.1 hd (kk ls hL)) k
theorem jj_ixor {x y : Int32} (hd : decode Y.2.1 pc = .ok (.ixor, 1)) (k : jj_P l G Y d F (pc + 1) L (.int (x ^^^ y) :: st) h) : jj_P l G Y d F pc L (.int y :: .int x :: st) h :=
  jj_pure (fun _ _ _ _ _ _ _ _ _ _ _ _ _ _ ls hx hL kk => lv_ixor hx.1 hx.2.1 hd (kk ls hL)) k
theorem jj_ladd {x y : Int64} (hd : decode Y.2.1 pc = .ok (.ladd, 1)) (k : jj_P l G Y d F (pc + 1) L (.long (x + y) :: st) h) : jj_P l G Y d F pc L (.long y :: .long x :: st) h :=
  jj_pure (fun _ _ _ _ _ _ _ _ _ _ _ _ _ _ ls hx hL kk => lv_ladd hx.1 hx.2.1 hd (kk ls hL)) k
theorem jj_lsub {x y : Int64} (hd : decode Y.2.1 pc = .ok (.lsub, 1)) (k : jj_P l G Y d F (pc + 1) L (.long (x - y) :: st) h) : jj_P l G Y d F pc L (.long y :: .long x :: st) h :=
  jj_pure (fun _ _ _ _ _ _ _ _ _ _ _ _ _ _ ls hx hL kk => lv_lsub hx.1 hx.2.1 hd (kk ls hL)) k
theorem jj_lmul {x y : Int64} (hd : decode Y.2.1 pc = .ok (.lmul, 1)) (k : jj_P l G Y d F (pc + 1) L (.long (x * y) :: st) h) : jj_P l G Y d F pc L (.long y :: .long x :: st) h :=
  jj_pure (fun _ _ _ _ _ _ _ _ _ _ _ _ _ _ ls hx hL kk => lv_lmul hx.1 hx.2.1 hd (kk ls hL)) k
theorem jj_land {x y : Int64} (hd : decode Y.2.1 pc = .ok (.land, 1)) (k : jj_P l G Y d F (pc + 1) L (.long (x &&& y) :: st) h) : jj_P l G Y d F pc L (.long y :: .long x :: st) h :=
  jj_pure (fun _ _ _ _ _ _ _ _ _ _ _ _ _ _ ls hx hL kk => lv_land hx.1 hx.2.1 hd (kk ls hL)) k
theorem jj_lor {x y : Int64} (hd : decode Y.2.1 pc = .ok (.lor, 1)) (k : jj_P l G Y d F (pc + 1) L (.long (x ||| y) :: st) h) : jj_P l G Y d F pc L (.long y :: .long x :: st) h :=
  jj_pure (fun _ _ _ _ _ _ _ _ _ _ _ _ _ _ ls hx hL kk => lv_lor hx.1 hx.2.1 hd (kk ls hL)) k
theorem jj_lxor {x y : Int64} (hd : decode Y.2.1 pc = .ok (.lxor, 1)) (k : jj_P l G Y d F (pc + 1) L (.long (x ^^^ y) :: st) h) : jj_P l G Y d F pc L (.long y :: .long x :: st) h :=
  jj_pure (fun _ _ _ _ _ _ _ _ _ _ _ _ _ _ ls hx hL kk => lv_lxor hx.1 hx.2.1 hd (kk ls hL)) k
theorem jj_ishl {x y : Int32} (hd : decode Y.2.1 pc = .ok (.ishl, 1)) (k : jj_P l G Y d F (pc + 1) L (.int (x <<< (y &&& 31)) :: st) h) : jj_P l G Y d F pc L (.int y :: .int x :: st) h :=
  jj_pure (fun _ _ _ _ _ _ _ _ _ _ _ _ _ _ ls hx hL kk => lv_ishl hx.1 hx.2.1 hd (kk ls hL)) k
theorem jj_ishr {x y : Int32} (hd : decode Y.2.1 pc = .ok (.ishr, 1)) (k : jj_P l G Y d F (pc + 1) L (.int (x >>> (y &&& 31)) :: st) h) : jj_P l G Y d F pc L (.int y :: .int x :: st) h :=
  jj_pure (fun _ _ _ _ _ _ _ _ _ _ _ _ _ _ ls hx hL kk => lv_ishr hx.1 hx.2.1 hd (kk ls hL)) k
theorem jj_ineg {x : Int32} (hd : decode Y.2.1 pc = .ok (.ineg, 1)) (k : jj_P l G Y d F (pc + 1) L (.int (-x) :: st) h) : jj_P l G Y d F pc L (.int x :: st) h :=
  jj_pure (fun _ _ _ _ _ _ _ _ _ _ _ _ _ _ ls hx hL kk => lv_ineg hx.1 hx.2.1 hd (kk ls hL)) k
theorem jj_iushr {x y : Int32} (hd : decode Y.2.1 pc = .ok (.iushr, 1)) (k : jj_P l G Y d F (pc + 1) L (.int (x.toUInt32 >>> (y.toUInt32 &&& Int32.toUInt32 31)).toInt32 :: st) h) : jj_P l G Y d F pc L (.int y :: .int x :: st) h :=
  jj_pure (fun _ _ _ _ _ _ _ _ _ _ _ _ _ _ ls hx hL kk => lv_iushr hx.1 hx.2.1 hd rfl (kk ls hL)) k
theorem jj_idiv {x y : Int32} (hd : decode Y.2.1 pc = .ok (.idiv, 1)) (hn : ¬ y = 0) (k : jj_P l G Y d F (pc + 1) L (.int (x / y) :: st) h) : jj_P l G Y d F pc L (.int y :: .int x :: st) h :=
  jj_pure (fun _ _ _ _ _ _ _ _ _ _ _ _ _ _ ls hx hL kk => lv_idiv hx.1 hx.2.1 hd hn (kk ls hL)) k
theorem jj_irem {x y : Int32} (hd : decode Y.2.1 pc = .ok (.irem, 1)) (hn : ¬ y = 0) (k : jj_P l G Y d F (pc + 1) L (.int (x - x / y * y) :: st) h) : jj_P l G Y d F pc L (.int y :: .int x :: st) h :=
  jj_pure (fun _ _ _ _ _ _ _ _ _ _ _ _ _ _ ls hx hL kk => lv_irem hx.1 hx.2.1 hd hn (kk ls hL)) k
theorem jj_i2l {x : Int32} (hd : decode Y.2.1 pc = .ok (.i2l, 1)) (k : jj_P l G Y d F (pc + 1) L (.long x.toInt64 :: st) h) : jj_P l G Y d F pc L (.int x :: st) h :=
  jj_pure (fun _ _ _ _ _ _ _ _ _ _ _ _ _ _ ls hx hL kk => lv_i2l hx.1 hx.2.1 hd rfl (kk ls hL)) k
theorem jj_l2i {x : Int64} (hd : decode Y.2.1 pc = .ok (.l2i, 1)) (k : jj_P l G Y d F (pc + 1) L (.int x.toInt32 :: st) h) : jj_P l G Y d F pc L (.long x :: st) h :=
  jj_pure (fun _ _ _ _ _ _ _ _ _ _ _ _ _ _ ls hx hL kk => lv_l2i hx.1 hx.2.1 hd rfl (kk ls hL)) k
theorem jj_i2c {x : Int32} (hd : decode Y.2.1 pc = .ok (.i2c, 1)) (k : jj_P l G Y d F (pc + 1) L (.int (x.toUInt32 % 65536).toInt32 :: st) h) : jj_P l G Y d F pc L (.int x :: st) h :=
  jj_pure (fun _ _ _ _ _ _ _ _ _ _ _ _ _ _ ls hx hL kk => lv_i2c hx.1 hx.2.1 hd rfl (kk ls hL)) k
theorem jj_i2b {x : Int32} (hd : decode Y.2.1 pc = .ok (.i2b, 1)) (k : jj_P l G Y d F (pc + 1) L (.int x.toInt8.toInt32 :: st) h) : jj_P l G Y d F pc L (.int x :: st) h :=
  jj_pure (fun _ _ _ _ _ _ _ _ _ _ _ _ _ _ ls hx hL kk => lv_i2b hx.1 hx.2.1 hd rfl (kk ls hL)) k
theorem jj_dup {v : Value} (hd : decode Y.2.1 pc = .ok (.dup, 1)) (hc : v.category = 1) (k : jj_P l G Y d F (pc + 1) L (v :: v :: st) h) : jj_P l G Y d F pc L (v :: st) h :=
  jj_pure (fun _ _ _ _ _ _ _ _ _ _ _ _ _ _ ls hx hL kk => lv_dup hx.1 hx.2.1 hd hc (kk ls hL)) k
theorem jj_pop {v : Value} (hd : decode Y.2.1 pc = .ok (.pop, 1)) (hc : v.category = 1) (k : jj_P l G Y d F (pc + 1) L st h) : jj_P l G Y d F pc L (v :: st) h :=
  jj_pure (fun _ _ _ _ _ _ _ _ _ _ _ _ _ _ ls hx hL kk => lv_pop hx.1 hx.2.1 hd hc (kk ls hL)) k
theorem jj_dup_x1 {v w : Value} (hd : decode Y.2.1 pc = .ok (.dup_x1, 1)) (hc : v.category = 1) (hw : w.category = 1) (k : jj_P l G Y d F (pc + 1) L (v :: w :: v :: st) h) : jj_P l G Y d F pc L (v :: w :: st) h :=
  jj_pure (fun _ _ _ _ _ _ _ _ _ _ _ _ _ _ ls hx hL kk => lv_dup_x1 hx.1 hx.2.1 hd hc hw (kk ls hL)) k
theorem jj_dup_x2 {v w z : Value} (hd : decode Y.2.1 pc = .ok (.dup_x2, 1)) (hc : v.category = 1) (hw : w.category = 1) (hz : z.category = 1) (k : jj_P l G Y d F (pc + 1) L (v :: w :: z :: v :: st) h) : jj_P l G Y d F pc L (v :: w :: z :: st) h :=
  jj_pure (fun _ _ _ _ _ _ _ _ _ _ _ _ _ _ ls hx hL kk => lv_dup_x2 hx.1 hx.2.1 hd hc hw hz (kk ls hL)) k
theorem jj_dup2 {v w : Value} (hd : decode Y.2.1 pc = .ok (.dup2, 1)) (hc : v.category = 1) (hw : w.category = 1) (k : jj_P l G Y d F (pc + 1) L (v :: w :: v :: w :: st) h) : jj_P l G Y d F pc L (v :: w :: st) h :=
  jj_pure (fun _ _ _ _ _ _ _ _ _ _ _ _ _ _ ls hx hL kk => lv_dup2_11 hx.1 hx.2.1 hd hc hw (kk ls hL)) k
theorem jj_dup2l {v : Value} (hd : decode Y.2.1 pc = .ok (.dup2, 1)) (hc : v.category = 2) (k : jj_P l G Y d F (pc + 1) L (v :: v :: st) h) : jj_P l G Y d F pc L (v :: st) h :=
  jj_pure (fun _ _ _ _ _ _ _ _ _ _ _ _ _ _ ls hx hL kk => lv_dup2_2 hx.1 hx.2.1 hd hc (kk ls hL)) k
theorem jj_goto {off : Int} {tgt : Nat} (hd : decode Y.2.1 pc = .ok (.goto off, 3)) (ht : (pc : Int) + off = (tgt : Int)) (k : jj_P l G Y d F tgt L st h) : jj_P l G Y d F pc L st h :=
  jj_pure (fun _ _ _ _ _ _ _ _ _ _ _ _ _ _ ls hx hL kk => lv_goto hx.1 hx.2.1 hd ht (kk ls hL)) k
theorem jj_if_eq {x : Int32} {off : Int} {tgt : Nat} (hd : decode Y.2.1 pc = .ok (.ifCond .eq off, 3)) (ht : (pc : Int) + off = (tgt : Int)) (kt : x = 0 → jj_P l G Y d F tgt L st h) (kf : ¬ x = 0 → jj_P l G Y d F (pc + 3) L st h) : jj_P l G Y d F pc L (.int x :: st) h := by
  by_cases hc : x = 0
  · exact jj_pure (fun _ _ _ _ _ _ _ _ _ _ _ _ _ _ ls hx hL kk => lv_if_eq hx.1 hx.2.1 hd ht (fun _ => kk ls hL) (fun q => absurd q (by first | exact not_not_intro hc | exact hc))) (kt hc)
  · exact jj_pure (fun _ _ _ _ _ _ _ _ _ _ _ _ _ _ ls hx hL kk => lv_if_eq hx.1 hx.2.1 hd ht (fun q => absurd q hc) (fun _ => kk ls hL)) (kf (by first | exact hc | exact Classical.not_not.mp hc))
theorem jj_icmp_eq {x y : Int32} {off : Int} {tgt : Nat} (hd : decode Y.2.1 pc = .ok (.if_icmp .eq off, 3)) (ht : (pc : Int) + off = (tgt : Int)) (kt : x = y → jj_P l G Y d F tgt L st h) (kf : ¬ x = y → jj_P l G Y d F (pc + 3) L st h) : jj_P l G Y d F pc L (.int y :: .int x :: st) h := by
  by_cases hc : x = y
  · exact jj_pure (fun _ _ _ _ _ _ _ _ _ _ _ _ _ _ ls hx hL kk => lv_icmp_eq hx.1 hx.2.1 hd ht (fun _ => kk ls hL) (fun q => absurd q (by first | exact not_not_intro hc | exact hc))) (kt hc)
  · exact jj_pure (fun _ _ _ _ _ _ _ _ _ _ _ _ _ _ ls hx hL kk => lv_icmp_eq hx.1 hx.2.1 hd ht (fun q => absurd q hc) (fun _ => kk ls hL)) (kf (by first | exact hc | exact Classical.not_not.mp hc))
theorem jj_if_ne {x : Int32} {off : Int} {tgt : Nat} (hd : decode Y.2.1 pc = .ok (.ifCond .ne off, 3)) (ht : (pc : Int) + off = (tgt : Int)) (kt : ¬ x = 0 → jj_P l G Y d F tgt L st h) (kf : x = 0 → jj_P l G Y d F (pc + 3) L st h) : jj_P l G Y d F pc L (.int x :: st) h := by
  by_cases hc : ¬ x = 0
  · exact jj_pure (fun _ _ _ _ _ _ _ _ _ _ _ _ _ _ ls hx hL kk => lv_if_ne hx.1 hx.2.1 hd ht (fun _ => kk ls hL) (fun q => absurd q (by first | exact not_not_intro hc | exact hc))) (kt hc)
  · exact jj_pure (fun _ _ _ _ _ _ _ _ _ _ _ _ _ _ ls hx hL kk => lv_if_ne hx.1 hx.2.1 hd ht (fun q => absurd q hc) (fun _ => kk ls hL)) (kf (by first | exact hc | exact Classical.not_not.mp hc))
theorem jj_icmp_ne {x y : Int32} {off : Int} {tgt : Nat} (hd : decode Y.2.1 pc = .ok (.if_icmp .ne off, 3)) (ht : (pc : Int) + off = (tgt : Int)) (kt : ¬ x = y → jj_P l G Y d F tgt L st h) (kf : x = y → jj_P l G Y d F (pc + 3) L st h) : jj_P l G Y d F pc L (.int y :: .int x :: st) h := by
  by_cases hc : ¬ x = y
  · exact jj_pure (fun _ _ _ _ _ _ _ _ _ _ _ _ _ _ ls hx hL kk => lv_icmp_ne hx.1 hx.2.1 hd ht (fun _ => kk ls hL) (fun q => absurd q (by first | exact not_not_intro hc | exact hc))) (kt hc)
  · exact jj_pure (fun _ _ _ _ _ _ _ _ _ _ _ _ _ _ ls hx hL kk => lv_icmp_ne hx.1 hx.2.1 hd ht (fun q => absurd q hc) (fun _ => kk ls hL)) (kf (by first | exact hc | exact Classical.not_not.mp hc))
theorem jj_if_lt {x : Int32} {off : Int} {tgt : Nat} (hd : decode Y.2.1 pc = .ok (.ifCond .lt off, 3)) (ht : (pc : Int) + off = (tgt : Int)) (kt : x < 0 → jj_P l G Y d F tgt L st h) (kf : ¬ x < 0 → jj_P l G Y d F (pc + 3) L st h) : jj_P l G Y d F pc L (.int x :: st) h := by
  by_cases hc : x < 0
  · exact jj_pure (fun _ _ _ _ _ _ _ _ _ _ _ _ _ _ ls hx hL kk => lv_if_lt hx.1 hx.2.1 hd ht (fun _ => kk ls hL) (fun q => absurd q (by first | exact not_not_intro hc | exact hc))) (kt hc)
  · exact jj_pure (fun _ _ _ _ _ _ _ _ _ _ _ _ _ _ ls hx hL kk => lv_if_lt hx.1 hx.2.1 hd ht (fun q => absurd q hc) (fun _ => kk ls hL)) (kf (by first | exact hc | exact Classical.not_not.mp hc))
theorem jj_icmp_lt {x y : Int32} {off : Int} {tgt : Nat} (hd : decode Y.2.1 pc = .ok (.if_icmp .lt off, 3)) (ht : (pc : Int) + off = (tgt : Int)) (kt : x < y → jj_P l G Y d F tgt L st h) (kf : ¬ x < y → jj_P l G Y d F (pc + 3) L st h) : jj_P l G Y d F pc L (.int y :: .int x :: st) h := by
  by_cases hc : x < y
  · exact jj_pure (fun _ _ _ _ _ _ _ _ _ _ _ _ _ _ ls hx hL kk => lv_icmp_lt hx.1 hx.2.1 hd ht (fun _ => kk ls hL) (fun q => absurd q (by first | exact not_not_intro hc | exact hc))) (kt hc)
  · exact jj_pure (fun _ _ _ _ _ _ _ _ _ _ _ _ _ _ ls hx hL kk => lv_icmp_lt hx.1 hx.2.1 hd ht (fun q => absurd q hc) (fun _ => kk ls hL)) (kf (by first | exact hc | exact Classical.not_not.mp hc))
theorem jj_if_ge {x : Int32} {off : Int} {tgt : Nat} (hd : decode Y.2.1 pc = .ok (.ifCond .ge off, 3)) (ht : (pc : Int) + off = (tgt : Int)) (kt : 0 ≤ x → jj_P l G Y d F tgt L st h) (kf : ¬ 0 ≤ x → jj_P l G Y d F (pc + 3) L st h) : jj_P l G Y d F pc L (.int x :: st) h := by
  by_cases hc : 0 ≤ x
  · exact jj_pure (fun _ _ _ _ _ _ _ _ _ _ _ _ _ _ ls hx hL kk => lv_if_ge hx.1 hx.2.1 hd ht (fun _ => kk ls hL) (fun q => absurd q (by first | exact not_not_intro hc | exact hc))) (kt hc)
  · exact jj_pure (fun _ _ _ _ _ _ _ _ _ _ _ _ _ _ ls hx hL kk => lv_if_ge hx.1 hx.2.1 hd ht (fun q => absurd q hc) (fun _ => kk ls hL)) (kf (by first | exact hc | exact Classical.not_not.mp hc))
theorem jj_icmp_ge {x y : Int32} {off : Int} {tgt : Nat} (hd : decode Y.2.1 pc = .ok (.if_icmp .ge off, 3)) (ht : (pc : Int) + off = (tgt : Int)) (kt : y ≤ x → jj_P l G Y d F tgt L st h) (kf : ¬ y ≤ x → jj_P l G Y d F (pc + 3) L st h) : jj_P l G Y d F pc L (.int y :: .int x :: st) h := by
  by_cases hc : y ≤ x
  · exact jj_pure (fun _ _ _ _ _ _ _ _ _ _ _ _ _ _ ls hx hL kk => lv_icmp_ge hx.1 hx.2.1 hd ht (fun _ => kk ls hL) (fun q => absurd q (by first | exact not_not_intro hc | exact hc))) (kt hc)
  · exact jj_pure (fun _ _ _ _ _ _ _ _ _ _ _ _ _ _ ls hx hL kk => lv_icmp_ge hx.1 hx.2.1 hd ht (fun q => absurd q hc) (fun _ => kk ls hL)) (kf (by first | exact hc | exact Classical.not_not.mp hc))
theorem jj_if_gt {x : Int32} {off : Int} {tgt : Nat} (hd : decode Y.2.1 pc = .ok (.ifCond .gt off, 3)) (ht : (pc : Int) + off = (tgt : Int)) (kt : 0 < x → jj_P l G Y d F tgt L st h) (kf : ¬ 0 < x → jj_P l G Y d F (pc + 3) L st h) : jj_P l G Y d F pc L (.int x :: st) h := by
  by_cases hc : 0 < x
  · exact jj_pure (fun _ _ _ _ _ _ _ _ _ _ _ _ _ _ ls hx hL kk => lv_if_gt hx.1 hx.2.1 hd ht (fun _ => kk ls hL) (fun q => absurd q (by first | exact not_not_intro hc | exact hc))) (kt hc)
  · exact jj_pure (fun _ _ _ _ _ _ _ _ _ _ _ _ _ _ ls hx hL kk => lv_if_gt hx.1 hx.2.1 hd ht (fun q => absurd q hc) (fun _ => kk ls hL)) (kf (by first | exact hc | exact Classical.not_not.mp hc))
theorem jj_icmp_gt {x y : Int32} {off : Int} {tgt : Nat} (hd : decode Y.2.1 pc = .ok (.if_icmp .gt off, 3)) (ht : (pc : Int) + off = (tgt : Int)) (kt : y < x → jj_P l G Y d F tgt L st h) (kf : ¬ y < x → jj_P l G Y d F (pc + 3) L st h) : jj_P l G Y d F pc L (.int y :: .int x :: st) h := by
  by_cases hc : y < x
  · exact jj_pure (fun _ _ _ _ _ _ _ _ _ _ _ _ _ _ ls hx hL kk => lv_icmp_gt hx.1 hx.2.1 hd ht (fun _ => kk ls hL) (fun q => absurd q (by first | exact not_not_intro hc | exact hc))) (kt hc)
  · exact jj_pure (fun _ _ _ _ _ _ _ _ _ _ _ _ _ _ ls hx hL kk => lv_icmp_gt hx.1 hx.2.1 hd ht (fun q => absurd q hc) (fun _ => kk ls hL)) (kf (by first | exact hc | exact Classical.not_not.mp hc))
theorem jj_if_le {x : Int32} {off : Int} {tgt : Nat} (hd : decode Y.2.1 pc = .ok (.ifCond .le off, 3)) (ht : (pc : Int) + off = (tgt : Int)) (kt : x ≤ 0 → jj_P l G Y d F tgt L st h) (kf : ¬ x ≤ 0 → jj_P l G Y d F (pc + 3) L st h) : jj_P l G Y d F pc L (.int x :: st) h := by
  by_cases hc : x ≤ 0
  · exact jj_pure (fun _ _ _ _ _ _ _ _ _ _ _ _ _ _ ls hx hL kk => lv_if_le hx.1 hx.2.1 hd ht (fun _ => kk ls hL) (fun q => absurd q (by first | exact not_not_intro hc | exact hc))) (kt hc)
  · exact jj_pure (fun _ _ _ _ _ _ _ _ _ _ _ _ _ _ ls hx hL kk => lv_if_le hx.1 hx.2.1 hd ht (fun q => absurd q hc) (fun _ => kk ls hL)) (kf (by first | exact hc | exact Classical.not_not.mp hc))
theorem jj_icmp_le {x y : Int32} {off : Int} {tgt : Nat} (hd : decode Y.2.1 pc = .ok (.if_icmp .le off, 3)) (ht : (pc : Int) + off = (tgt : Int)) (kt : x ≤ y → jj_P l G Y d F tgt L st h) (kf : ¬ x ≤ y → jj_P l G Y d F (pc + 3) L st h) : jj_P l G Y d F pc L (.int y :: .int x :: st) h := by
  by_cases hc : x ≤ y
  · exact jj_pure (fun _ _ _ _ _ _ _ _ _ _ _ _ _ _ ls hx hL kk => lv_icmp_le hx.1 hx.2.1 hd ht (fun _ => kk ls hL) (fun q => absurd q (by first | exact not_not_intro hc | exact hc))) (kt hc)
  · exact jj_pure (fun _ _ _ _ _ _ _ _ _ _ _ _ _ _ ls hx hL kk => lv_icmp_le hx.1 hx.2.1 hd ht (fun q => absurd q hc) (fun _ => kk ls hL)) (kf (by first | exact hc | exact Classical.not_not.mp hc))
/-! fields, arrays, new objects -/
/-- what the tables say of a class of the worlds -/
def jj_ck (ci : Nat) (C : String) (T : u_T) (N : Nat) (ty : Nat → FieldType) : Prop := vwCl[ci]? = some (C, T, N) ∧ (∀ w ∈ u_ws C T N, w ∈ jj_T) ∧ (∀ k, k < N → parseFieldDescriptor (T k).2.2.1 = some (ty k)) ∧ ∀ a, a < N → ∀ b, b < N → a ≠ b → (T a).2.1 ≠ (T b).2.1
/-- the pool's name of the field k of T leads to it -/
def jj_fl (own : String) (index : Nat) (T : u_T) (k : Nat) : Prop := ∃ ref : String, Cond.fieldLink own index ref (T k).2.1 (T k).2.2.1 ∈ jj_T ∧ (ref = (T k).1 ∨ Cond.sameField ref (T k).1 (T k).2.1 (T k).2.2.1 ∈ jj_T)
theorem jj_fl.use {own : String} {index : Nat} {T : u_T} {k : Nat} (h : jj_fl own index T k) {args : Array Value} {s : State} (hts : ∀ w ∈ jj_T, w.before args s = true) : ∃ ref : String, (Cond.fieldLink own index ref (T k).2.1 (T k).2.2.1).before args s = true ∧ ∀ x, s.fieldFound? (T k).1 (T k).2.1 (T k).2.2.1 = some x → s.fieldFound? ref (T k).2.1 (T k).2.2.1 = some x := by
  obtain ⟨ref, h1, h2⟩ := h
  refine ⟨ref, hts _ h1, fun x hx => ?_⟩
  rcases h2 with h2 | h2
  · rw [h2]; exact hx
  · exact u_same (hts _ h2) x hx
theorem jj_hp.one {G : jj_G} {h : jj_H} {H : Heap} (hh : jj_hp G h H) {a : Nat} {e : va_E} (ha : h.1 a = some e) : va_P G.2.1 vwCl [(a, e)] H := by
  intro k q hq
  have hz : k < 1 := (List.getElem?_eq_some_iff.mp hq).1
  rw [show k = 0 by omega] at hq
  cases hq
  exact (hh.2.2 a e ha).2
theorem jj_getfield {index a ci : Nat} {fs : List Value} {C : String} {T : u_T} {N : Nat} {ty : Nat → FieldType} {v : Value} (k : Nat) (hck : jj_ck ci C T N ty) (hl : jj_fl Y.1.cls index T k) (hk : k < N) (hd : decode Y.2.1 pc = .ok (.getfield index, 3)) (ha : h.1 a = some (.inr (ci, fs))) (hv : fs[k]? = some v)
    (kk : jj_P l G Y d F (pc + 3) L (v :: st) h) : jj_P l G Y d F pc L (.ref a :: st) h := by
  obtain ⟨o, h', hF, hm, hE⟩ := kk
  refine ⟨o, h', hF, hm, fun p e R s m args below meth c H locs cells slots Q ls hx hw hr hS hH hL hK => ?_⟩
  obtain ⟨ref, hl1, hl2⟩ := hl.use hx.2.2.2.2.1
  exact va_get hx.1 hx.2.1 hx.2.2.2.2.1 hck.2.1 hx.2.2.2.1 hw.1 (hH.one ha) 0 rfl hck.1 k hk hl1 hl2 hv hd (hE p e R s m args below meth c H locs cells slots Q ls hx hw hr hS hH hL hK)
theorem jj_putfield {index a ci : Nat} {fs : List Value} {C : String} {T : u_T} {N : Nat} {ty : Nat → FieldType} {v : Value} (k : Nat) (hck : jj_ck ci C T N ty) (hl : jj_fl Y.1.cls index T k) (hk : k < N) (hf : (T k).2.2.2 = false) (hd : decode Y.2.1 pc = .ok (.putfield index, 3)) (ha : h.1 a = some (.inr (ci, fs))) (hn : narrow (ty k) v = v) (hfit : fits (ty k) v = true) (hlen : k < fs.length)
    (kk : jj_P l G Y d F (pc + 3) L st (jj_up h.1 a (.inr (ci, fs.set k v)), h.2)) : jj_P l G Y d F pc L (v :: .ref a :: st) h := by
  obtain ⟨o, h', hF, hm, hE⟩ := kk
  refine ⟨o, h', hF, hm, fun p e R s m args below meth c H locs cells slots Q ls hx hw hr hS hH hL hK => ?_⟩
  obtain ⟨hC, hin, hty, hnm⟩ := hck
  have hts := hx.2.2.2.2.1
  obtain ⟨ref, hl1, hl2⟩ := hl.use hts
  have hK0 := hw.1
  have hap := va_apart (own := Y.1.cls) hts hin ty hty hnm hK0 hC
  obtain ⟨hb0, r, h1, cell, q1, q2, q3, q4⟩ := hH.2.2 a _ ha
  have hr9 : r = (C, T, N) := Option.some.inj (h1.symm.trans hC)
  subst hr9
  obtain ⟨hSl, hfc, kC, hkC, hkind⟩ := hK0.1 ci _ hC
  obtain ⟨cf, kf, fi, f, hi, hsl⟩ := hSl k hk
  have hlay := hts _ (hin _ (u_in_lay hk))
  unfold u_lay at hlay
  rw [if_neg (by rw [hf]; decide)] at hlay
  have hst := (u_facts hfc hkC (u_lays hts hin hk) hi).1
  have h6 := u_store hfc hkC hkind hlay hi (hty k hk) hn hfit
  refine W.putK hx.1 hx.2.1 (f := f) ⟨hx.2.2.2.1, hl1, ⟨_, _, _, hl2 _ hi⟩, hst⟩ (by rw [q2]; exact h6) q1 q3 (by rw [hsl]; exact k2_hasslot (q4 k hk)) rfl rfl hd fun H' e1 e2 e3 => ?_
  rw [hsl] at e1 ⊢
  exact hE p e R s m args below meth c H' _ cells slots Q ls hx hw hr (hS.put e2 e3 hb0) (hH.put ha ⟨_, hC, t_OB.to (V := updV (vp_V fs) k v) ⟨_, e1, q2, q3, t_set q4 hap hk v⟩ (fun j _ => vp_updV_set hlen v j)⟩ e2 e3) hL hK
/-- a final field, in a constructor of its own class -/
theorem jj_putfinal {index a ci : Nat} {fs : List Value} {C : String} {T : u_T} {N : Nat} {ty : Nat → FieldType} {v : Value} (k : Nat) (hck : jj_ck ci C T N ty) (hl : jj_fl Y.1.cls index T k) (hk : k < N) (hf : (T k).2.2.2 = true) (hi0 : Y.1.name = "<init>") (hdecl : (T k).1 = Y.1.cls) (hd : decode Y.2.1 pc = .ok (.putfield index, 3)) (ha : h.1 a = some (.inr (ci, fs))) (hn : narrow (ty k) v = v) (hfit : fits (ty k) v = true) (hlen : k < fs.length)
    (kk : jj_P l G Y d F (pc + 3) L st (jj_up h.1 a (.inr (ci, fs.set k v)), h.2)) : jj_P l G Y d F pc L (v :: .ref a :: st) h := by
  obtain ⟨o, h', hF, hm, hE⟩ := kk
  refine ⟨o, h', hF, hm, fun p e R s m args below meth c H locs cells slots Q ls hx hw hr hS hH hL hK => ?_⟩
  obtain ⟨hC, hin, hty, hnm⟩ := hck
  have hts := hx.2.2.2.2.1
  obtain ⟨ref, hl1, hl2⟩ := hl.use hts
  have hK0 := hw.1
  have hap := va_apart (own := Y.1.cls) hts hin ty hty hnm hK0 hC
  obtain ⟨hb0, r, h1, cell, q1, q2, q3, q4⟩ := hH.2.2 a _ ha
  have hr9 : r = (C, T, N) := Option.some.inj (h1.symm.trans hC)
  subst hr9
  obtain ⟨hSl, hfc, kC, hkC, hkind⟩ := hK0.1 ci _ hC
  obtain ⟨cf, kf, fi, f, hi, hsl⟩ := hSl k hk
  have hlay := hts _ (hin _ (u_in_lay hk))
  unfold u_lay at hlay
  rw [if_pos hf] at hlay
  have hst := (u_facts hfc hkC (u_lays hts hin hk) hi).1
  have hcf : m.cls = cf := by
    obtain ⟨_, _, c', _, _, _, -, -, hf', -, -, -, hown2, -⟩ := Cond.laysFinal_spec hlay
    have e1 : c' = cf := by have := hi.symm.trans hf'; simp at this; exact this.1.symm
    rw [hdecl] at hown2
    rw [← e1]; exact Option.some.inj (hx.2.2.2.1.symm.trans hown2)
  have h6 := u_fits hfc hkC hkind (Or.inr hlay) hi (hty k hk) hn hfit
  refine W.putFinK hx.1 hx.2.1 hx.2.2.2.1 hl1 (hl2 _ hi) hst hcf (hx.2.2.2.2.2.2.2.2.1.trans hi0) (by rw [q2]; exact h6) q1 q3 (by rw [hsl]; exact k2_hasslot (q4 k hk)) rfl rfl hd fun H' e1 e2 e3 => ?_
  rw [hsl] at e1 ⊢
  exact hE p e R s m args below meth c H' _ cells slots Q ls hx hw hr (hS.put e2 e3 hb0) (hH.put ha ⟨_, hC, t_OB.to (V := updV (vp_V fs) k v) ⟨_, e1, q2, q3, t_set q4 hap hk v⟩ (fun j _ => vp_updV_set hlen v j)⟩ e2 e3) hL hK
theorem jj_rm.step {R : Room} {d cells slots : Nat} {h h1 h' : jj_H} (hr : jj_rm R d cells slots h h') (a : jj_le h h1) (b : jj_le h1 h') : jj_rm R d cells slots h h1 ∧ jj_rm R d (cells + (h1.2.1 - h.2.1)) (slots + (h1.2.2 - h.2.2)) h1 h' ∧ cells + (h1.2.1 - h.2.1) + (h'.2.1 - h1.2.1) = cells + (h'.2.1 - h.2.1) ∧ slots + (h1.2.2 - h.2.2) + (h'.2.2 - h1.2.2) = slots + (h'.2.2 - h.2.2) := by
  obtain ⟨r1, r2, r3⟩ := hr
  obtain ⟨a1, a2⟩ := a
  obtain ⟨b1, b2⟩ := b
  refine ⟨⟨r1, by omega, by omega⟩, ⟨r1, by omega, by omega⟩, by omega, by omega⟩
/-- a step that makes cells: from h to h1 -/
theorem jj_made {pc' : Nat} {st' : List Value} {h1 : jj_H} (hle : jj_le h h1)
    (hs : ∀ (p : Program) (e : Env) (R : Room) (s : State) (m : MethodId) (args : Array Value) (below : List Frame) (meth : Method) (c : Code) (H : Heap) (locs : List Loc) (cells slots : Nat) (Q : State → Prop) (ls : Array Slot), jj_cx Y l p s m args meth c → jj_wd G s → jj_rm R d cells slots h h1 → va_S (jj_A G) s.heap H locs → jj_hp G h H → jj_L Y.2.2.1 L ls →
      (∀ (H1 : Heap) (locs1 : List Loc), va_S (jj_A G) s.heap H1 locs1 → jj_hp G h1 H1 → W p l e R s m args below meth c H1 locs1 (cells + (h1.2.1 - h.2.1)) (slots + (h1.2.2 - h.2.2)) Q (F0 m pc' ls st')) → W p l e R s m args below meth c H locs cells slots Q (F0 m pc ls st))
    (k : jj_P l G Y d F pc' L st' h1) : jj_P l G Y d F pc L st h := by
  obtain ⟨o, h', hF, hm, hE⟩ := k
  refine ⟨o, h', hF, hle.tr hm, fun p e R s m args below meth c H locs cells slots Q ls hx hw hr hS hH hL hK => ?_⟩
  obtain ⟨r1, r2, e1, e2⟩ := hr.step hle hm
  refine hs p e R s m args below meth c H locs cells slots Q ls hx hw r1 hS hH hL (fun H1 locs1 hS1 hH1 => ?_)
  exact hE p e R s m args below meth c H1 locs1 _ _ Q ls hx hw r2 hS1 hH1 hL (by rw [e1, e2]; exact hK)
theorem jj_new {index ci : Nat} {fs : List Value} {C : String} {T : u_T} {N : Nat} {ty : Nat → FieldType} (hck : jj_ck ci C T N ty) (hl : Cond.classLink Y.1.cls index C ∈ jj_T) (hi : Cond.instantiable C N ∈ jj_T) (hini : Cond.initialized C ∈ jj_T) (hfs : ∀ j, j < N → defaultValue (ty j) = vp_V fs j) (hd : decode Y.2.1 pc = .ok (.new index, 3))
    (k : jj_P l G Y d F (pc + 3) L (.ref h.2.1 :: st) (jj_up h.1 h.2.1 (.inr (ci, fs)), h.2.1 + 1, h.2.2 + N)) : jj_P l G Y d F pc L st h := by
  refine jj_made (h1 := (jj_up h.1 h.2.1 (.inr (ci, fs)), h.2.1 + 1, h.2.2 + N)) ⟨Nat.le_add_right _ _, Nat.le_add_right _ _⟩ (fun p e R s m args below meth c H locs cells slots Q ls hx hw hr hS hH hL kk => ?_) k
  obtain ⟨hC, hin, hty, hnm⟩ := hck
  have hts := hx.2.2.2.2.1
  have hKn := hw.1.1 ci _ hC
  obtain ⟨-, r2, r3⟩ := hr
  have z1 : (h.2.1 + 1) - h.2.1 = 1 := by omega
  have z2 : (h.2.2 + N) - h.2.2 = N := by omega
  dsimp only at r2 r3 kk
  rw [z1] at r2 kk
  rw [z2] at r3 kk
  refine W.newcK hx.1 hx.2.1 hx.2.2.2.1 (hts _ hl) (hts _ hi) (hts _ hini) rfl hd r2 r3 hKn.2.1 hH.1 fun H1 kC hkC e1 z1 o1 => ?_
  have hb : G.1 ≤ h.2.1 := by rw [← hH.1]; exact Nat.le_trans hw.2.1 hS.1
  refine kk H1 locs ⟨Nat.le_trans hS.1 (by rw [hH.1, z1]; omega), fun x h1 h2 => (o1 x (by rw [← hH.1]; exact Nat.lt_of_lt_of_le h1 hS.1)).trans (hS.2.1 x h1 h2), hS.2.2⟩ (hH.new hb ⟨_, hC, (u_born ty hts hin hKn hkC e1 hty).to hfs⟩ z1 o1)
def jj_tys (G : jj_G) : List (ClassId × FieldType) := G.2.2.1
theorem jj_newarray {atype : ArrayType} {fty : FieldType} {n : Int32} {N' t0 : Nat} {cA : ClassId} {a0 : vp_A} (hty : newarray.typeOf atype = fty) (ht : G.2.2.1[t0]? = some (cA, fty)) (hra : ∀ U : State, va_RA U cA fty → U.vm.findClass ("[" ++ fty.toString) = some cA) (hw0 : Cond.arrayClass fty ∈ jj_T) (ha0 : ∀ c0 : ClassId, vp_cell c0 a0 = arrV c0 N' (fun _ => defaultValue fty)) (hn : ¬ n < 0) (hN : n.toNatClampNeg = N') (hby : N' * componentBytes fty ≤ 536870912) (hd : decode Y.2.1 pc = .ok (.newarray atype, 2))
    (k : jj_P l G Y d F (pc + 2) L (.ref h.2.1 :: st) (jj_up h.1 h.2.1 (.inl (cA, a0)), h.2.1 + 1, h.2.2 + N')) : jj_P l G Y d F pc L (.int n :: st) h := by
  subst hty
  refine jj_made (h1 := (jj_up h.1 h.2.1 (.inl (cA, a0)), h.2.1 + 1, h.2.2 + N')) ⟨Nat.le_add_right _ _, Nat.le_add_right _ _⟩ (fun p e R s m args below meth c H locs cells slots Q ls hx hw hr hS hH hL kk => ?_) k
  have hts := hx.2.2.2.2.1
  obtain ⟨-, r2, r3⟩ := hr
  have z1 : (h.2.1 + 1) - h.2.1 = 1 := by omega
  have z2 : (h.2.2 + N') - h.2.2 = N' := by omega
  dsimp only at r2 r3 kk
  rw [z1] at r2 kk
  rw [z2] at r3 kk
  refine va_newaK hx.1 hx.2.1 (hts _ hw0) rfl hd rfl hn hN hby r2 r3 hH.1 fun H1 c1 e1 z1 o1 hAr hNm => ?_
  have hb : G.1 ≤ h.2.1 := by rw [← hH.1]; exact Nat.le_trans hw.2.1 hS.1
  have hc : c1 = cA := Option.some.inj (hNm.symm.trans (hra s (hw.1.2 t0 _ ht).2))
  subst hc
  refine kk H1 locs ⟨Nat.le_trans hS.1 (by rw [hH.1, z1]; omega), fun x h1 h2 => (o1 x (by rw [← hH.1]; exact Nat.lt_of_lt_of_le h1 hS.1)).trans (hS.2.1 x h1 h2), hS.2.2⟩ (hH.new hb (show H1[h.2.1]? = some (vp_cell c1 a0) by rw [ha0]; exact e1) z1 o1)
theorem jj_arraylength {a t0 : Nat} {cA : ClassId} {x : vp_A} {fty : FieldType} {v : Int32} (ht : G.2.2.1[t0]? = some (cA, fty)) (hd : decode Y.2.1 pc = .ok (.arraylength, 1)) (ha : h.1 a = some (.inl (cA, x))) (hv : Int32.ofNat x.1 = v)
    (kk : jj_P l G Y d F (pc + 1) L (.int v :: st) h) : jj_P l G Y d F pc L (.ref a :: st) h := by
  obtain ⟨o, h', hF, hm, hE⟩ := kk
  refine ⟨o, h', hF, hm, fun p e R s m args below meth c H locs cells slots Q ls hx hw hr hS hH hL hK => ?_⟩
  exact va_alen hx.1 hx.2.1 hw.1 (hH.one ha) 0 t0 rfl ht hv hd (hE p e R s m args below meth c H locs cells slots Q ls hx hw hr hS hH hL hK)
theorem jj_iaload {a t0 n : Nat} {cA : ClassId} {f : Nat → Int32} {i : Int32} (ht : G.2.2.1[t0]? = some (cA, .int)) (hd : decode Y.2.1 pc = .ok (.iaload, 1)) (ha : h.1 a = some (.inl (cA, n, .inl f))) (hi : vp_in i n)
    (kk : jj_P l G Y d F (pc + 1) L (.int (f i.toNatClampNeg) :: st) h) : jj_P l G Y d F pc L (.int i :: .ref a :: st) h := by
  obtain ⟨o, h', hF, hm, hE⟩ := kk
  refine ⟨o, h', hF, hm, fun p e R s m args below meth c H locs cells slots Q ls hx hw hr hS hH hL hK => ?_⟩
  exact va_iald hx.1 hx.2.1 hw.1 (hH.one ha) 0 t0 rfl ht hi hd (hE p e R s m args below meth c H locs cells slots Q ls hx hw hr hS hH hL hK)
theorem jj_laload {a t0 n : Nat} {cA : ClassId} {f : Nat → Int64} {i : Int32} (ht : G.2.2.1[t0]? = some (cA, .long)) (hd : decode Y.2.1 pc = .ok (.laload, 1)) (ha : h.1 a = some (.inl (cA, n, .inr (.inl f)))) (hi : vp_in i n)
    (kk : jj_P l G Y d F (pc + 1) L (.long (f i.toNatClampNeg) :: st) h) : jj_P l G Y d F pc L (.int i :: .ref a :: st) h := by
  obtain ⟨o, h', hF, hm, hE⟩ := kk
  refine ⟨o, h', hF, hm, fun p e R s m args below meth c H locs cells slots Q ls hx hw hr hS hH hL hK => ?_⟩
  exact va_lald hx.1 hx.2.1 hw.1 (hH.one ha) 0 t0 rfl ht hi hd (hE p e R s m args below meth c H locs cells slots Q ls hx hw hr hS hH hL hK)
theorem jj_iastore {a t0 n : Nat} {cA : ClassId} {f : Nat → Int32} {i x : Int32} (ht : G.2.2.1[t0]? = some (cA, .int)) (hd : decode Y.2.1 pc = .ok (.iastore, 1)) (ha : h.1 a = some (.inl (cA, n, .inl f))) (hi : vp_in i n)
    (kk : jj_P l G Y d F (pc + 1) L st (jj_up h.1 a (.inl (cA, n, .inl (upd f i.toNatClampNeg x))), h.2)) : jj_P l G Y d F pc L (.int x :: .int i :: .ref a :: st) h := by
  obtain ⟨o, h', hF, hm, hE⟩ := kk
  refine ⟨o, h', hF, hm, fun p e R s m args below meth c H locs cells slots Q ls hx hw hr hS hH hL hK => ?_⟩
  have hc : H[a]? = some (vp_cell cA (n, .inl f)) := (hH.2.2 a _ ha).2
  refine W.iast hx.1 hx.2.1 hc ((hw.1.2 t0 _ ht).1 n (fun j => .int (f j))) (fun q => by cases q) (by show ¬ (i < 0 ∨ (arrV _ _ _).slots.size ≤ _); rw [arrV_size]; exact hi) rfl rfl hd fun H1 e1 z oq => ?_
  refine hE p e R s m args below meth c H1 _ cells slots Q ls hx hw hr (hS.put z oq (hH.2.2 a _ ha).1) (hH.put ha ?_ z oq) hL hK
  show H1[a]? = some (vp_cell _ _)
  rw [e1, vp_cell_i, vp_cell_i, arrV_store]
  congr 2
  funext q
  by_cases hq : q = i.toNatClampNeg
  · subst hq
    simp [updV, upd]
  · simp [updV, upd, hq]
/-! returns -/
theorem jj_vret (hd : decode Y.2.1 pc = .ok (.return_, 1)) (hr : Y.2.2.2.1 = none) (hF : F (.inl none) h) : jj_P l G Y d F pc L [] h := by
  refine ⟨.inl none, h, hF, jj_le.rf, fun p e R s m args below meth c H locs cells slots Q ls hx hw hr0 hS hH hL hK => ?_⟩
  rw [Nat.sub_self, Nat.sub_self] at hK
  exact hK H locs ls pc hS hH ⟨hr, hd⟩
theorem jj_iret {x : Int32} (ty : FieldType) (hd : decode Y.2.1 pc = .ok (.ireturn, 1)) (hr : Y.2.2.2.1 = some ty) (hn : narrow ty (.int x) = .int x) (hF : F (.inl (some (.int x))) h) : jj_P l G Y d F pc L [.int x] h := by
  refine ⟨.inl (some (.int x)), h, hF, jj_le.rf, fun p e R s m args below meth c H locs cells slots Q ls hx hw hr0 hS hH hL hK => ?_⟩
  rw [Nat.sub_self, Nat.sub_self] at hK
  exact hK H locs ls pc hS hH ⟨⟨ty, hr, hn⟩, hd⟩
theorem jj_lret {x : Int64} (hd : decode Y.2.1 pc = .ok (.lreturn, 1)) (hr : Y.2.2.2.1 = some .long) (hF : F (.inl (some (.long x))) h) : jj_P l G Y d F pc L [.long x] h := by
  refine ⟨.inl (some (.long x)), h, hF, jj_le.rf, fun p e R s m args below meth c H locs cells slots Q ls hx hw hr0 hS hH hL hK => ?_⟩
  rw [Nat.sub_self, Nat.sub_self] at hK
  exact hK H locs ls pc hS hH ⟨hr, hd⟩
theorem jj_aret {x : Nat} {rt : FieldType} (hd : decode Y.2.1 pc = .ok (.areturn, 1)) (hr : Y.2.2.2.1 = some rt) (ht : (∃ n, rt = .object n) ∨ ∃ t, rt = .array t) (hF : F (.inl (some (.ref x))) h) : jj_P l G Y d F pc L [.ref x] h := by
  refine ⟨.inl (some (.ref x)), h, hF, jj_le.rf, fun p e R s m args below meth c H locs cells slots Q ls hx hw hr0 hS hH hL hK => ?_⟩
  rw [Nat.sub_self, Nat.sub_self] at hK
  exact hK H locs ls pc hS hH ⟨⟨rt, hr, ht⟩, hd⟩
end JJP
