/-! a callee's throw, caught here -/
/-- a row that catches: its class, looked up here, takes the thing thrown -/
theorem jj_go1 {Q : Handler → Pre} {E : CtlPost} {e : Env} {d : Bool} {acts : List Action} {s : State} {f : JFrame} {a : Addr} {x : ExceptionTableEntry} {t : List ExceptionTableEntry} {c : ClassId} {cell : Cell} (hx : covers x f.pc = true) (h0 : x.catchType ≠ 0)
    (hl : s.vm.ClassLinks e.platform f.method.cls x.catchType c) (hcell : s.heap[a]? = some cell) (hobj : ∀ k, cell.vm ≠ .statics k) (hk : ∃ k, s.vm.classes[cell.cls]? = some k) (hc : ∃ k, s.vm.classes[c]? = some k) :
    wp (findHandler.go f a (x :: t)) Q E e d acts s ↔ if s.vm.assignable cell.cls c = true then Q (.found x.handlerPc) d acts (s.setVm (s.vm.noted f.method.cls x.catchType (.cls c))) else wp (findHandler.go f a t) Q E e d acts (s.setVm (s.vm.noted f.method.cls x.catchType (.cls c))) := by
  have hx1 := hx
  simp only [covers] at hx1
  obtain ⟨ha, ht⟩ := (resolveClass_links e.toSetting hl).op (op := VmOp.resolveClass f.method.cls x.catchType) rfl
  have hal : s.vm.Alike (s.vm.noted f.method.cls x.catchType (.cls c)) := (Vm.Alike.refl s.vm).noted _ _ _
  obtain ⟨k1, hk1⟩ := hk
  obtain ⟨k2, hk2⟩ := hc
  obtain ⟨k1', hk1', -⟩ := hal.2.2 _ _ hk1
  obtain ⟨k2', hk2', -⟩ := hal.2.2 _ _ hk2
  by_cases hfit : s.vm.assignable cell.cls c = true
  · have hfit' : (s.vm.noted f.method.cls x.catchType (.cls c)).assignable cell.cls c = true := by rw [hal.assignable]; exact hfit
    rw [if_pos hfit]
    simp [findHandler.go, hx1, h0, ha, ht, hcell, hobj, hk1', hk2', hfit', VmOp.dirties, VmOp.acts]
  · have hfit' : (s.vm.noted f.method.cls x.catchType (.cls c)).assignable cell.cls c = false := by rw [hal.assignable]; simpa using hfit
    rw [if_neg hfit]
    simp [findHandler.go, hx1, h0, ha, ht, hcell, hobj, hk1', hk2', hfit', VmOp.dirties, VmOp.acts]
def jj_passed (pl : Platform) (s₀ : State) (d : ClassId) (pc : Nat) (thrown : ClassId) (x : ExceptionTableEntry) : Prop := covers x pc = false ∨ (x.catchType ≠ 0 ∧ ∃ c, s₀.vm.ClassLinks pl d x.catchType c ∧ s₀.vm.assignable thrown c = false)
theorem jj_go {e : Env} {s₀ : State} {f : JFrame} {a : Addr} {cell : Cell} (hobj : ∀ k, cell.vm ≠ .statics k) (hk0 : ∃ k, s₀.vm.classes[cell.cls]? = some k) (x : ExceptionTableEntry) (suf : List ExceptionTableEntry) (hx : covers x f.pc = true) (h0 : x.catchType ≠ 0) {c : ClassId} (hl : s₀.vm.ClassLinks e.platform f.method.cls x.catchType c) (hfit : s₀.vm.assignable cell.cls c = true) :
    ∀ (pre : List ExceptionTableEntry) (S : State), s₀.WarmedH S.vm → S.heap[a]? = some cell → (∀ y ∈ pre, jj_passed e.platform s₀ f.method.cls f.pc cell.cls y) →
      ∃ vm', s₀.WarmedH vm' ∧ ∀ (Q : Handler → Pre) (E : CtlPost) (d : Bool) (acts : List Action), wp (findHandler.go f a (pre ++ x :: suf)) Q E e d acts S ↔ Q (.found x.handlerPc) d acts (S.setVm vm') := by
  obtain ⟨k0, hk0⟩ := hk0
  intro pre
  induction pre with
  | nil =>
    intro S hW hcell _
    obtain ⟨k1, hk1, -⟩ := hW.alike.2.2 _ _ hk0
    obtain ⟨dk, _, _, kt, hd, _, _, _, _, hkt, _, hopen⟩ := hl.here
    obtain ⟨kt1, hkt1, -⟩ := hW.alike.2.2 _ _ hkt
    refine ⟨_, hW.noted hd hopen (State.rightAt_cls hl), fun Q E d acts => ?_⟩
    rw [List.nil_append, jj_go1 hx h0 (hW.classLinks hl) hcell hobj ⟨k1, hk1⟩ ⟨kt1, hkt1⟩, if_pos (by rw [hW.alike.assignable]; exact hfit)]
  | cons y ys ih =>
    intro S hW hcell hpass
    obtain ⟨k1, hk1, -⟩ := hW.alike.2.2 _ _ hk0
    have hrest : ∀ z ∈ ys, jj_passed e.platform s₀ f.method.cls f.pc cell.cls z := fun z hz => hpass z (List.mem_cons_of_mem _ hz)
    by_cases hcov : covers y f.pc = true
    · rcases hpass y List.mem_cons_self with h9 | ⟨h9, c1, hl1, hno⟩
      · rw [h9] at hcov
        cases hcov
      · obtain ⟨dk, _, _, kt, hd, _, _, _, _, hkt, _, hopen⟩ := hl1.here
        obtain ⟨kt1, hkt1, -⟩ := hW.alike.2.2 _ _ hkt
        obtain ⟨vm', hW', hq⟩ := ih (S.setVm (S.vm.noted f.method.cls y.catchType (.cls c1))) (hW.noted hd hopen (State.rightAt_cls hl1)) hcell hrest
        refine ⟨vm', hW', fun Q E d acts => ?_⟩
        rw [List.cons_append, jj_go1 hcov h9 (hW.classLinks hl1) hcell hobj ⟨k1, hk1⟩ ⟨kt1, hkt1⟩, if_neg (by rw [hW.alike.assignable, hno]; decide)]
        exact hq Q E d acts
    · obtain ⟨vm', hW', hq⟩ := ih S hW hcell hrest
      refine ⟨vm', hW', fun Q E d acts => ?_⟩
      rw [List.cons_append, W.findHandler_go_skip (by simpa using hcov)]
      exact hq Q E d acts
section JJY
variable {p : Program} {l : Launch} {e : Env} {R : Room} {s : State} {m : MethodId} {args : Array Value} {below : List Frame} {meth : Method} {c : Code} {T : State} {locs : List Loc} {cells slots : Nat}
theorem jj_caught (X : Stand p l e R s m args below meth c T locs cells slots) (a : Addr) {g : JFrame} (hg : g.method = m) {cell : Cell} (hcell : T.heap[a]? = some cell) (hobj : ∀ k, cell.vm ≠ .statics k) (hk0 : ∃ k, s.vm.classes[cell.cls]? = some k)
    (pre : List ExceptionTableEntry) (x : ExceptionTableEntry) (suf : List ExceptionTableEntry) (hsplit : c.exceptionTable.toList = pre ++ x :: suf) (hpass : ∀ y ∈ pre, jj_passed e.platform s m.cls g.pc cell.cls y) (hx : covers x g.pc = true) (h0 : x.catchType ≠ 0) {cT : ClassId} (hl : s.vm.ClassLinks e.platform m.cls x.catchType cT) (hfit : s.vm.assignable cell.cls cT = true) :
    ∃ vm', Stand p l e R s m args below meth c (T.setVm vm') locs cells slots ∧ ∀ target, Steps p.tables e below ((T.setVm vm').setTop { g with pc := x.handlerPc, stack := [.ref a] }) target → Steps p.tables e below ((T.setTop g).pushFrame (.throwing a)) target := by
  subst hg
  obtain ⟨vm', hW', hq⟩ := jj_go (e := e) (s₀ := s) (f := g) (a := a) hobj hk0 x suf hx h0 hl hfit pre ((T.setTop g).pushFrame (.throwing a)) X.warmed hcell hpass
  have hm9 : ((T.setTop g).pushFrame (.throwing a)).vm.method? g.method = some meth := X.method'
  have hfind : ∀ (Q : Handler → Pre) (E : CtlPost) (d : Bool) (acts : List Action), wp (findHandler g a) Q E e d acts ((T.setTop g).pushFrame (.throwing a)) ↔ Q (.found x.handlerPc) d acts (((T.setTop g).pushFrame (.throwing a)).setVm vm') := fun Q E d acts => by
    rw [W.findHandler_eq hm9 X.code, hsplit]
    exact hq Q E d acts
  refine ⟨vm', X.noted hW', fun target hrest => ?_⟩
  obtain ⟨hgo, hw⟩ := X.here.throwing (g := g) a
  refine Steps.head hgo hw ?_
  have hstep : (stepThrowing e ((T.setTop g).pushFrame (.throwing a)) a (.java g :: T.frames.tail)).Is ((((T.setTop g).pushFrame (.throwing a)).setVm vm').setFrames (.java { g with pc := x.handlerPc, stack := [.ref a] } :: T.frames.tail)) [] := by
    simp only [stepThrowing, searchFrame, vmDo]
    generalize hr : Sem.go _ e false [] ((T.setTop g).pushFrame (.throwing a)) = res
    obtain ⟨as, rfl, ha⟩ := Sem.eq_ok_of hr (a := Handler.found x.handlerPc) (s' := ((T.setTop g).pushFrame (.throwing a)).setVm vm') (acts' := []) (by simp [hfind _ _ _ _])
    exact ⟨rfl, ha⟩
  rw [stepThread_throwing (frames_entered X.here.top _), hstep.1]
  obtain ⟨g₀, hg0⟩ := Option.isSome_iff_exists.mp X.here.top
  obtain ⟨r, hr⟩ := State.topJava?_eq_some.mp hg0
  have hr' : (T.setVm vm').frames = .java g₀ :: r := hr
  rw [State.setTop_of_frames _ hr'] at hrest
  have e1 : ((T.setTop g).pushFrame (.throwing a)).setVm vm' = ((T.setVm vm').setFrames (.throwing a :: .java g :: r)) := by
    rw [State.pushFrame, State.frames_setTop _ hr, State.setTop_of_frames _ hr, State.setFrames_setFrames]
    rfl
  rw [e1, State.setFrames_setFrames, hr, List.tail_cons]
  exact hrest
end JJY
section JJR2
variable {l : Launch} {G : jj_G} {Y : jj_Y} {d : Nat} {F : jj_O → jj_H → Prop} {pc : Nat} {L : List (Option Value)} {st rest : List Value} {h h1 : jj_H} {as : List Value}
theorem jj_L.drop {n i : Nat} {L : List (Option Value)} {ls : Array Slot} {v : Value} (h : jj_L n (L.set i (some v)) ls) : jj_L n (L.set i none) ls := by
  refine ⟨h.1, h.2.1, fun j w hw => h.2.2 j w ?_⟩
  by_cases hj : i = j
  · subst hj
    rw [List.getElem?_set] at hw
    simp at hw
  · rw [List.getElem?_set_ne hj] at hw ⊢
    exact hw
/-- what the words say of a class that another isn't under -/
def jj_nc (E nm : String) : Prop := (E, nm) ∈ jj_ncl
/-- caught by the row x, its handler lays the reference away at place i at once -/
theorem jj_R.catchA {E name : String} {i : Nat} (pre : List ExceptionTableEntry) (x : ExceptionTableEntry) (suf : List ExceptionTableEntry) (hsp : tableOf Y.2.2.2.2 = pre ++ x :: suf) (hpass : ∀ z ∈ pre, covers z pc = false ∨ (z.catchType ≠ 0 ∧ ∃ nm : String, Cond.classLink Y.1.cls z.catchType nm ∈ jj_T ∧ jj_nc E nm)) (hxc : covers x pc = true) (h0 : x.catchType ≠ 0) (hlk : Cond.classLink Y.1.cls x.catchType name ∈ jj_T) (hcast : Cond.castable E name ∈ jj_hw)
    {len : Nat} (hd : decode Y.2.1 x.handlerPc = .ok (.astore i, len) ∧ len = 2 ∨ ∃ j : Fin 4, (j : Nat) = i ∧ decode Y.2.1 x.handlerPc = .ok (.astore_n j, len) ∧ len = 1) (hb : i < Y.2.2.1) (ho : jj_ok1 L i = true)
    (hR : jj_R l G Y d as h (.inr E) h1 pc st rest) (hle : jj_le h h1) (k : jj_P l G Y d F (x.handlerPc + len) (L.set i none) [] h1) : jj_P l G Y d F pc L st h := by
  obtain ⟨o, h', hF, hm, hE⟩ := k
  refine ⟨o, h', hF, hle.tr hm, fun p e R s m args below meth c H locs cells slots Q ls hx hw hr hS hH hL hK => ?_⟩
  obtain ⟨r1, r2, e1, e2⟩ := hr.step hle hm
  intro T hT X
  obtain ⟨oc, st0, t, T', L1, h00, hW0, ⟨-, hH1, hFr, -, q, ce, hq, hce, hcv, hcl⟩, X', hL1, f1, f2, stp⟩ := hR p e R s m args below meth c H locs cells slots ls hx hw r1 hS hH hL.1 T hT X
  subst hq
  have hts := hx.2.2.2.2.1
  have hpl : e.platform.magicAccessors = ({} : Platform).magicAccessors := by rw [X.admits.platform]
  have hcl9 : s.vm.findClass E = some ce.cls := by rw [← hcl, hW0.alike.findClass]
  obtain ⟨c3, c4, hc3, hc4, hasg⟩ := Cond.castable_spec (hw.2.2.2.1 _ hcast args s (State.WarmedH.refl s) (fun _ _ _ => rfl) (Nat.le_refl _))
  cases Option.some.inj (hc3.symm.trans hcl9)
  obtain ⟨c5, hc5, hcl5⟩ := Cond.classLink_spec hx.2.2.2.1 (hts _ hlk) e.platform hpl
  cases Option.some.inj (hc4.symm.trans hc5)
  obtain ⟨vm', X2, stp2⟩ := jj_caught X' q (g := F0 m pc ls rest) rfl (by rw [f1]; exact hce) (fun z hz => by rw [hcv] at hz; cases hz) (by obtain ⟨k9, h9, -⟩ := Vm.findClass_spec hcl9; exact ⟨k9, h9⟩) pre x suf (hx.2.2.2.2.2.2.2.1.trans hsp)
    (fun z hz => by
      rcases hpass z hz with h9 | ⟨hz0, nm, hl1, hn1⟩
      · exact Or.inl h9
      · obtain ⟨c6, hc6, hcl6⟩ := Cond.classLink_spec hx.2.2.2.1 (hts _ hl1) e.platform hpl
        obtain ⟨a8, b8, g1, g2, g3⟩ := hw.2.2.2.2.2.2 _ hn1
        cases Option.some.inj (g1.symm.trans hcl9)
        cases Option.some.inj (g2.symm.trans hc6)
        exact Or.inr ⟨hz0, _, hcl6, g3⟩) hxc h0 hcl5 hasg
  have hSn := jj_keep h00 f1 hS hL1 hFr
  have hHn : jj_hp G h1 T'.heap := by rw [f1]; exact hH1
  have fin : ∀ ls' : Array Slot, jj_L Y.2.2.1 (L.set i none) ls' → W p l e R s m args below meth c T'.heap (locs ++ L1) (cells + (h1.2.1 - h.2.1)) (slots + (h1.2.2 - h.2.2)) Q (F0 m (x.handlerPc + len) ls' []) := fun ls' hL' =>
    hE p e R s m args below meth c T'.heap (locs ++ L1) _ _ Q ls' hx hw r2 hSn hHn hL' (by rw [e1, e2]; exact hK)
  have hWh : W p l e R s m args below meth c T'.heap (locs ++ L1) (cells + (h1.2.1 - h.2.1)) (slots + (h1.2.2 - h.2.2)) Q (F0 m x.handlerPc ls [.ref q]) := by
    rcases hd with ⟨hd, rfl⟩ | ⟨j, hj, hd, rfl⟩
    · exact lv_astore hx.1 hx.2.1 hd hL.has hb rfl (fun ls' h9 => fin ls' (jj_L.drop (jj_L.set1 ho h9)))
    · exact lv_astore_n hx.1 hx.2.1 hd hj hL.has hb rfl (fun ls' h9 => fin ls' (jj_L.drop (jj_L.set1 ho h9)))
  obtain ⟨t2, a1, b1⟩ := hWh (T'.setVm vm') rfl X2
  exact ⟨t2, stp.trans (stp2 t2 a1), b1⟩
end JJR2
