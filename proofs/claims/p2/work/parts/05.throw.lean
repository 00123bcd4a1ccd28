/-! exceptions -/
section JJX
variable {p : Program} {l : Launch} {e : Env} {R : Room} {s : State} {m : MethodId} {args : Array Value} {below : List Frame} {meth : Method} {c : Code} {T : State} {locs : List Loc} {cells slots : Nat}
/-- the state in which this method would be called anew where it now stands -/
def jj_anew (s T : State) (m : MethodId) (args : Array Value) (below : List Frame) : State := (T.setVm s.vm).setFrames (.invoking m args :: below)
theorem jj_rebase (X : Stand p l e R s m args below meth c T locs cells slots) {R' : Room} (hf : R'.frames ≤ R.frames) (hl : R'.locals ≤ R.locals) (hc : cells + R'.cells ≤ R.cells) (hs : slots + R'.slots ≤ R.slots) : Stand p l e R' (jj_anew s T m args below) m args below meth c T [] 0 0 := by
  have htop : (T.setVm s.vm).topJava?.isSome := X.here.top
  have hF : (jj_anew s T m args below).frames = .invoking m args :: below := State.frames_setFrames _ (State.cur_lt_of_top htop)
  have hl9 : e.platform.stackLimits (T.setVm s.vm).me = e.platform.stackLimits s.me := X.limits
  have hb9 : (T.setVm s.vm).me.stackBytes = s.me.stackBytes := X.bytes
  obtain ⟨g₀, hg0⟩ := Option.isSome_iff_exists.mp htop
  obtain ⟨r, hr⟩ := State.topJava?_eq_some.mp hg0
  obtain ⟨t9, ht9, -⟩ := State.frames_cons hr
  have hroom : (jj_anew s T m args below).hasRoom e.platform R' = true := by
    have h := X.room
    have hU : (jj_anew s T m args below).localsInUse = s.localsInUse := by
      rw [State.localsInUse_invoking hF (meth := meth) (c := c) X.method X.code, State.localsInUse_invoking X.frames X.method X.code]
    have q1 := X.heapSize
    have q2 := X.used
    have q3 := X.book
    simp only [State.hasRoom, Bool.and_eq_true, decide_eq_true_eq] at h ⊢
    obtain ⟨⟨⟨⟨h1, h2, h3, h4, h5, h6⟩, h7⟩, h8⟩, -⟩ := h
    rw [X.frames, List.length_cons] at h2 h3
    rw [hU, hF, List.length_cons]
    have e1 : e.platform.stackLimits (jj_anew s T m args below).me = e.platform.stackLimits s.me := by unfold jj_anew; rw [State.stackLimits_setFrames]; exact hl9
    have e2 : (jj_anew s T m args below).me.stackBytes = s.me.stackBytes := by unfold jj_anew; rw [State.stackBytes_setFrames]; exact hb9
    have e3 : (jj_anew s T m args below).heap = T.heap := rfl
    have e4 : (jj_anew s T m args below).slotsUsed = T.slotsUsed := rfl
    rw [e1, e2, e3, e4]
    exact ⟨⟨⟨⟨by omega, by omega, by omega, by omega, by omega, h6⟩, by omega⟩, by omega⟩, q3⟩
  refine ⟨X.admits, X.cas, X.clock, hF, hroom, X.hears, X.method, X.code, X.here, X.tail, X.warmed, ?_, ?_, ?_⟩
  · unfold jj_anew
    rw [State.stackLimits_setFrames]
    rfl
  · unfold jj_anew
    rw [State.stackBytes_setFrames]
    rfl
  · have h := State.sameButNew.refl (T.setVm s.vm) ht9
    obtain ⟨e1, e2⟩ := h
    refine ⟨?_, e2⟩
    unfold jj_anew
    rw [State.setFrames_setFrames]
    exact e1
/-- what was made and written since then, seen from the method's start -/
theorem jj_since (X : Stand p l e R s m args below meth c T locs cells slots) {U : State} {k n : Nat} (h : (jj_anew s T m args below).sameButNew ({ U with vm := (jj_anew s T m args below).vm } : State) [] k n) : s.sameButNew ({ U with vm := s.vm } : State) locs (cells + k) (slots + n) := by
  obtain ⟨e1, e2⟩ := h
  have h2 : (T.setVm s.vm).sameButNew ({ U with vm := s.vm } : State) [] k n := by
    refine ⟨?_, e2⟩
    unfold jj_anew at e1
    rw [State.setFrames_setFrames] at e1
    exact e1
  have h3 := X.same.trans h2
  rw [List.append_nil] at h3
  exact h3
/-- cells that were there are as they were -/
theorem jj_same_old {u v : State} {k n : Nat} (h : u.sameButNew v [] k n) : u.heap.size ≤ v.heap.size ∧ v.heap.size ≤ u.heap.size + k ∧ ∀ q : Nat, q < u.heap.size → v.heap[q]? = u.heap[q]? := by
  obtain ⟨-, h2, h3, -, -, h6⟩ := h
  refine ⟨h2, h3, fun q hq => ?_⟩
  obtain ⟨c9, e1, e2, e3, e4⟩ := h6 q _ (Array.getElem?_eq_getElem hq)
  have hs : c9.slots = (u.heap[q]).slots := Array.ext_getElem? fun i => e4 i (fun hm => nomatch hm)
  have h9 : c9 = u.heap[q] := by
    rw [hs] at e2
    exact e2
  rw [e1, h9, Array.getElem?_eq_getElem hq]
end JJX
section JJT
variable {l : Launch} {G : jj_G} {Y : jj_Y} {d : Nat} {F : jj_O → jj_H → Prop} {pc : Nat} {L : List (Option Value)} {st : List Value} {h : jj_H}
/-- 'throw new E("text")' in a method that doesn't catch it -/
theorem jj_throwS {ik is ic : Nat} {cls text : String} {names : List String} (hcls : Bundle.fit cls = true) (hnames : ∀ n ∈ names, Bundle.fit n = true) (hlen : names.length ≤ 2) (hk : Cond.classLink Y.1.cls ik cls ∈ jj_T) (hini : Cond.initialized cls ∈ jj_T) (hst : Cond.stringRef Y.1.cls is text ∈ jj_hw) (hat : ∀ w ∈ Bundle.ownAtoms Y.1.cls ic cls names, w ∈ jj_T ∨ w ∈ jj_hw)
    (d0 : decode Y.2.1 pc = .ok (.new ik, 3)) (d3 : decode Y.2.1 (pc + 3) = .ok (.dup, 1)) (d4 : decode Y.2.1 (pc + 4) = .ok (.ldc is, 2)) (d6 : decode Y.2.1 (pc + 6) = .ok (.invokespecial ic, 3)) (d9 : decode Y.2.1 (pc + 9) = .ok (.athrow, 1))
    (hcov : (tableOf Y.2.2.2.2).all (fun x => !covers x (pc + 9)) = true) (hdd : 6 ≤ d) (hsum : (st.map fun v => v.category).sum ≤ 40) (hF : F (.inr cls) (h.1, h.2.1 + 1, h.2.2 + 6)) : jj_P l G Y d F pc L st h := by
  refine ⟨.inr cls, (h.1, h.2.1 + 1, h.2.2 + 6), hF, ⟨Nat.le_add_right _ _, Nat.le_add_right _ _⟩, fun p e R s m args below meth c H locs cells slots Q ls hx hw hr hS hH hL hK => ?_⟩
  intro T hT X
  have hts := hx.2.2.2.2.1
  obtain ⟨⟨r0, r1⟩, r2, r3⟩ := hr
  have z1 : (h.2.1 + 1) - h.2.1 = 1 := by omega
  have z2 : (h.2.2 + 6) - h.2.2 = 6 := by omega
  dsimp only at r2 r3 hK
  rw [z1] at r2 hK
  rw [z2] at r3 hK
  have htr : e.platform.stackTraces = false := (show e.platform.stackTraces = l.stackTraces by rw [X.admits.platform]).trans hx.2.2.2.2.2.2.2.2.2
  have Y0 := jj_rebase X (R' := { frames := R.frames, locals := R.locals, cells := 1, slots := 6 }) (Nat.le_refl _) (Nat.le_refl _) r2 r3
  obtain ⟨s', hs'⟩ : ∃ z, z = jj_anew s T m args below := ⟨_, rfl⟩
  rw [← hs'] at Y0
  have hvm : s'.vm = s.vm := by rw [hs']; rfl
  have hhp : s'.heap = T.heap := by rw [hs']; rfl
  have hW0 : s.WarmedH s'.vm := by rw [hvm]; exact State.WarmedH.refl s
  have hg1 : ∀ w ∈ jj_T, w.before args s' = true := fun w hw9 => jj_at hts hW0 hw9
  have hg2 : ∀ w ∈ jj_hw, w.before args s' = true := fun w hw9 => hw.2.2.2.1 w hw9 args s' hW0 (fun q hq hA => by rw [hhp, hT]; exact hS.2.1 q hq hA) (by rw [hhp, hT]; exact hS.1)
  have hall : ∀ w ∈ Bundle.ownAtoms Y.1.cls ic cls names, w.before args s' = true := fun w hw9 => (hat w hw9).elim (hg1 w) (hg2 w)
  have hown' : s'.vm.findClass Y.1.cls = some m.cls := by rw [hvm]; exact hx.2.2.2.1
  have hins : (Cond.instantiable cls 6).before args s' = true := hall _ (by simp [Bundle.ownAtoms])
  obtain ⟨vm₁, cX, kX, hfX, hkX, -, -, X₁, st1⟩ := Y0.newCold hx.1 (own := Y.1.cls) (C := cls) (index := ik) (n := 6) hown' (hg1 _ hk) hins (hg1 _ hini)
    (g := F0 m pc ls st) rfl (by rw [hx.2.1]; exact d0) (Nat.le_refl _) (Nat.le_refl _)
  generalize hT1 : (T.setVm vm₁).pushCell { cls := cX, slots := kX.instanceTypes.map defaultValue, vm := .none } = T1 at X₁ st1
  have hcellA : T1.heap[T.heap.size]? = some (freshCell cX kX) := by rw [← hT1]; exact State.heap_pushCell_size _ _
  have hstr := hg2 _ hst
  obtain ⟨-, -, -, sa, -, -, -, -, -, hev⟩ := Cond.stringRef_spec hown' hstr
  have hsum9 : ((Value.ref T.heap.size :: st).map fun v => v.category).sum ≤ 41 := by
    rw [List.map_cons, List.sum_cons]
    show 1 + _ ≤ 41
    omega
  obtain ⟨U, hsteps, hrun, hend, hW, hsame, ce, hce, K⟩ := X₁.ctorThrowS hx.1 htr (own := Y.1.cls) (cls := cls) (names := names) (ic := ic) hown' hcls hnames hall (fun y hy => nomatch hy) hfX hkX hcellA (by rw [hhp]; exact Nat.le_refl _) (msg := .ref sa) rfl
    (g := F0 m (pc + 6) ls (.ref sa :: .ref T.heap.size :: .ref T.heap.size :: st)) rfl (hL.1.trans hx.2.2.1.symm) rfl rfl (rest := st) rfl
    (by rw [hx.2.1]; exact d6) (by rw [hx.2.1]; exact d9) (fun x hx9 => by
      rw [hx.2.2.2.2.2.2.2.1] at hx9
      have h9 := List.all_eq_true.mp hcov x hx9
      simpa only [Bool.not_eq_true'] using h9) (by show _ < R.frames; omega) (by show 2 * 0 + _ + _ ≤ R.locals; omega) hx.2.2.2.2.2.2.1
  have hold := jj_same_old hsame
  have hold1 : T.heap.size ≤ U.heap.size ∧ U.heap.size ≤ T.heap.size + 1 ∧ ∀ q : Nat, q < T.heap.size → U.heap[q]? = T.heap[q]? := by
    rw [← hhp]
    exact hold
  have hce0 := (Array.getElem?_eq_some_iff.mp hce).1
  have hcv : ce.vm = .none := K.vm
  refine ⟨U, st1 _ ?_, hK U locs T.heap.size ce hrun hend (State.WarmedH.trans hW0 hW) (jj_since X (by rw [← hs']; exact hsame)) ⟨Nat.le_trans hS.1 (by rw [← hT]; exact hold1.1), fun q hq hA => ?_, hS.2.2⟩ ?_ hce hcv ?_⟩
  · show Steps p.tables e below (T1.setTop { method := m, pc := pc + 3, locals := ls, stack := .ref T.heap.size :: st, locked := none }) _
    have d3' : decode c.code (pc + 3) = .ok (.dup, 1) := by rw [hx.2.1]; exact d3
    have d4' : decode c.code (pc + 4) = .ok (.ldc is, 2) := by rw [hx.2.1]; exact d4
    jvm_step X₁.here [X₁.here.top, hx.1, d3', Value.category]
    exact X₁.ldcString hx.1 (own := Y.1.cls) (text := text) (index := is) (a := sa) hown' hstr hev
      (g := { method := m, pc := pc + 4, locals := ls, stack := .ref T.heap.size :: .ref T.heap.size :: st, locked := none }) rfl d4' _ hsteps
  · rw [hold1.2.2 q (by rw [hT]; exact Nat.lt_of_lt_of_le hq hS.1), hT]
    exact hS.2.1 q hq hA
  · have hz : T.heap.size = h.2.1 := by rw [hT]; exact hH.1
    refine hH.more (by omega) (fun q cell hq hcell => ?_) (fun q hq => by rw [hold1.2.2 q (by omega), hT])
    have hq2 := (Array.getElem?_eq_some_iff.mp hcell).1
    have hq3 : q = T.heap.size := by omega
    subst hq3
    cases Option.some.inj (hcell.symm.trans hce)
    rw [hcv]
    rfl
  · rw [← hvm]
    exact K.cls
end JJT
