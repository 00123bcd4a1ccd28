theorem jj_cw_named {Y : jj_Y} {args : Array Value} {s : State} (h : (jj_cw Y).before args s = true) : ∃ m, s.methodNamed? Y.1 = some m := by
  cases hh : Y.2.2.2.2 with
  | nil =>
    rw [jj_cw_nil hh] at h
    exact Cond.code_named h
  | cons q r =>
    rw [jj_cw_cons hh] at h
    obtain ⟨m9, meth, c, hn9, -⟩ := Cond.codeWith_spec h
    exact ⟨m9, hn9⟩
/-! a call's run, whatever its kind -/
def jj_R (l : Launch) (G : jj_G) (Y : jj_Y) (d : Nat) (as : List Value) (h : jj_H) (o1 : jj_O) (h1 : jj_H) (pc : Nat) (st rest : List Value) : Prop :=
  ∀ (p : Program) (e : Env) (R : Room) (s : State) (m : MethodId) (args : Array Value) (below : List Frame) (meth : Method) (c : Code) (H : Heap) (locs : List Loc) (cells slots : Nat) (ls : Array Slot),
    jj_cx Y l p s m args meth c → jj_wd G s → jj_rm R d cells slots h h1 → va_S (jj_A G) s.heap H locs → jj_hp G h H → ls.size = Y.2.2.1 → ∀ T : State, T.heap = H → Stand p l e R s m args below meth c T locs cells slots →
    ∃ (oc : Outcome) (st0 t T' : State) (L : List Loc), st0.heap = H ∧ s.WarmedH st0.vm ∧ jj_out G o1 h1 (h1.2.1 - h.2.1) (h1.2.2 - h.2.2) as.toArray st0 oc t ∧ Stand p l e R s m args below meth c T' (locs ++ L) (cells + (h1.2.1 - h.2.1)) (slots + (h1.2.2 - h.2.2)) ∧ (∀ q ∈ L, jj_A G q.base) ∧ T'.heap = t.heap ∧ T'.vm = t.vm ∧
      match oc with
      | .returned v => ∀ target, Steps p.tables e below (T'.setTop (F0 m (pc + 3) ls (v.toList ++ rest))) target → Steps p.tables e below (T.setTop (F0 m pc ls st)) target
      | .threw q => Steps p.tables e below (T.setTop (F0 m pc ls st)) ((T'.setTop (F0 m pc ls rest)).pushFrame (.throwing q))
/-- the callee's own words -/
def jj_okc (Y' : jj_Y) (n : Nat) : Prop := jj_cw Y' ∈ jj_T ∧ Cond.initialized Y'.1.cls ∈ jj_T ∧ Y'.1.cls ≠ "java/lang/invoke/MethodHandle" ∧ Y'.1.cls ≠ "java/lang/invoke/VarHandle" ∧ (parseMethodDescriptor Y'.1.desc).map (fun q => q.parameters.length) = some n ∧ Y'.2.2.1 ≤ 21
theorem jj_okc.len {Y' : jj_Y} {n : Nat} (ok : jj_okc Y' n) : ∀ sig, parseMethodDescriptor Y'.1.desc = some sig → n = sig.parameters.length := by
  intro sig hs
  have h := ok.2.2.2.2.1
  rw [hs] at h
  exact (Option.some.inj h).symm
theorem jj_at {args a' : Array Value} {s U : State} (hts : ∀ w ∈ jj_T, w.before args s = true) (hW : s.WarmedH U.vm) {w : Cond} (hw : w ∈ jj_T) : w.before a' U = true := word_at hW (good_of_word (jj_T_good w hw)) (hts w hw)
/-- a receiver of class C stands at b -/
def jj_rcv (G : jj_G) (h : jj_H) (b : Nat) (C : String) : Prop := ∀ (s : State) (H : Heap) (locs : List Loc), jj_wd G s → va_S (jj_A G) s.heap H locs → jj_hp G h H → ∃ cellB : Cell, H[b]? = some cellB ∧ cellB.vm.isStatics = false ∧ s.vm.findClass C = some cellB.cls
theorem jj_rcv.ob {G : jj_G} {h : jj_H} {b ci : Nat} {fs : List Value} {C : String} {T : u_T} {N : Nat} (hC : vwCl[ci]? = some (C, T, N)) (ha : h.1 b = some (.inr (ci, fs))) : jj_rcv G h b C := fun _ _ _ hw _ hH => va_recv hw.1 (hH.one ha) hC (q0 := 0) rfl
theorem jj_rcv.str {G : jj_G} {h : jj_H} {i : Nat} (hi : i < jj_nS) : jj_rcv G h (G.2.2.2.1 i) "java/lang/String" := fun _ _ _ hw hS _ => by
  obtain ⟨cell, h1, h2, h3, -⟩ := (hw.2.2.2.2.1.1.1 _ hi).1.kept hS.2.1
  exact ⟨cell, h1, h2, h3⟩
section JJC
variable {l : Launch} {G : jj_G} {Y Y' : jj_Y} {d d' : Nat} {pc : Nat} {rest : List Value} {h h1 : jj_H} {o1 : jj_O} {As : List Value} {index n : Nat}
theorem jj_tail {as st : List Value} (ok : jj_okc Y' n) (hM : jj_C l G Y' d' as h o1 h1) (hdd : d' + 1 ≤ d) (hrest : (rest.map fun v => v.category).sum ≤ 8) {ig : Instr} (hd : decode Y.2.1 pc = .ok (ig, 3))
    {p : Program} {e : Env} {R : Room} {s : State} {m : MethodId} {args : Array Value} {below : List Frame} {meth : Method} {c : Code} {H : Heap} {locs : List Loc} {cells slots : Nat} {ls : Array Slot}
    (hx : jj_cx Y l p s m args meth c) (hw : jj_wd G s) (hr : jj_rm R d cells slots h h1) (hS : va_S (jj_A G) s.heap H locs) (hH : jj_hp G h H) (hsz : ls.size = Y.2.2.1) {T : State} (hT : T.heap = H) {vm₁ : Vm}
    (X₁ : Stand p l e R s m args below meth c (T.setVm vm₁) locs cells slots) {mk : MethodId} (hnm : s.methodNamed? Y'.1 = some mk)
    (hstep : ∀ target, (∀ acts, Steps p.tables e below (doInvoke e ((T.setVm vm₁).setTop (F0 m pc ls rest)) acts mk as.toArray).1 target) → Steps p.tables e below (T.setTop (F0 m pc ls st)) target) :
    ∃ (oc : Outcome) (st0 t T' : State) (L : List Loc), st0.heap = H ∧ s.WarmedH st0.vm ∧ jj_out G o1 h1 (h1.2.1 - h.2.1) (h1.2.2 - h.2.2) as.toArray st0 oc t ∧ Stand p l e R s m args below meth c T' (locs ++ L) (cells + (h1.2.1 - h.2.1)) (slots + (h1.2.2 - h.2.2)) ∧ (∀ q ∈ L, jj_A G q.base) ∧ T'.heap = t.heap ∧ T'.vm = t.vm ∧
      match oc with
      | .returned v => ∀ target, Steps p.tables e below (T'.setTop (F0 m (pc + 3) ls (v.toList ++ rest))) target → Steps p.tables e below (T.setTop (F0 m pc ls st)) target
      | .threw q => Steps p.tables e below (T.setTop (F0 m pc ls st)) ((T'.setTop (F0 m pc ls rest)).pushFrame (.throwing q)) := by
  obtain ⟨hcw, hini, hy1, hy2, hlen, hmx⟩ := ok
  have hts := hx.2.2.2.2.1
  have hws : ∀ w ∈ jj_cw Y' :: jj_T, w.before as.toArray (T.setVm vm₁) = true := by
    intro w hw9
    rcases List.mem_cons.mp hw9 with rfl | h9
    · exact jj_at hts X₁.warmed hcw
    · exact jj_at hts X₁.warmed h9
  obtain ⟨oc, t, T', L, b1, b2, b3, b4, b5, b6⟩ := jj_back hM hx.2.2.2.2.2.2.2.2.2 X₁ (g := F0 m pc ls rest) rfl (hsz.trans hx.2.2.1.symm) (by rw [hx.2.1]; exact hd) (lv_room hrest) (X₁.named hnm) hws (jj_at hts X₁.warmed hini) (by have := hr.1.1; omega) (by have := hr.1.2; omega) hr.2.1 hr.2.2
    ⟨rfl, hw.next X₁.warmed (by show va_S (jj_A G) s.heap T.heap locs; rw [hT]; exact hS) (by show jj_ns G T.heap; rw [hT]; exact hH.2.1), by show jj_hp G h T.heap; rw [hT]; exact hH⟩
  refine ⟨oc, _, t, T', L, ?_, ?_, b1, b2, b3, b4, b5, ?_⟩
  · exact hT
  · exact X₁.warmed
  · cases oc with
    | returned v => exact fun target ht => hstep target (fun acts => by rw [doInvoke_state]; exact b6.trans ht)
    | threw q => exact hstep _ (fun acts => by rw [doInvoke_state]; exact b6)
theorem jj_callV {b : Nat} {C : String} (ok : jj_okc Y' n) (hl : Cond.methodLink Y.1.cls index Y'.1 ∈ jj_T) (hi : Cond.instanceMethod Y'.1 ∈ jj_T) (hsel : Cond.selects C Y'.1 Y'.1 ∈ jj_T) (hd : decode Y.2.1 pc = .ok (.invokevirtual index, 3)) (ha : jj_rcv G h b C) (hn : As.length = n) (hdd : d' + 1 ≤ d) (hrest : (rest.map fun v => v.category).sum ≤ 8)
    (hM : jj_C l G Y' d' (.ref b :: As) h o1 h1) : jj_R l G Y d (.ref b :: As) h o1 h1 pc (As.reverse ++ .ref b :: rest) rest := by
  intro p e R s m args below meth c H locs cells slots ls hx hw hr hS hH hsz T hT X
  have hts := hx.2.2.2.2.1
  obtain ⟨cellB, hcB, hoB, hclB⟩ := ha s H locs hw hS hH
  obtain ⟨mk, methM, hnamed, hmethM, hstM, habM⟩ := Cond.instanceMethod_spec (hts _ hi)
  obtain ⟨methM', cM, hmethM', -, -, -, -, -, -, hsigM⟩ := jj_cw_spec hnamed (hts _ ok.1)
  cases hmethM.symm.trans hmethM'
  obtain ⟨c2, r2, m2, q1, q2, q3, q4, kP, hkP, hkPi⟩ := Cond.selects_spec (hts _ hsel)
  have hy : Y'.1.cls ≠ "java/lang/invoke/MethodHandle" ∧ Y'.1.cls ≠ "java/lang/invoke/VarHandle" := ⟨ok.2.2.1, ok.2.2.2.1⟩
  cases hclB.symm.trans q1
  cases (State.methodFound?_of_named hnamed hy).symm.trans q2
  cases hnamed.symm.trans q3
  have hselP : selectMethod e.platform s.vm cellB.cls mk = .method mk := by rw [Launch.admits_selectMethod X.admits]; exact q4
  obtain ⟨vm₁, X₁, hstep₁⟩ := X.invokevirtual hx.1 hx.2.2.2.1 (hts _ hl) hnamed hmethM hstM hkP hkPi hy (a := b) (cell := cellB) (by rw [hT]; exact hcB)
    (fun z h9 => by rw [h9] at hoB; cases hoB) hselP hmethM habM hkP hkPi (g := F0 m pc ls (As.reverse ++ .ref b :: rest)) rfl (argsL := As) (rest := rest) (hn.trans (ok.len _ hsigM)) rfl (by rw [hx.2.1]; exact hd)
  exact jj_tail ok hM hdd hrest hd hx hw hr hS hH hsz hT X₁ hnamed hstep₁
theorem jj_callS (ok : jj_okc Y' n) (hl : Cond.methodLink Y.1.cls index Y'.1 ∈ jj_T) (hst : Cond.static Y'.1 ∈ jj_T) (hd : decode Y.2.1 pc = .ok (.invokestatic index, 3)) (hn : As.length = n) (hdd : d' + 1 ≤ d) (hrest : (rest.map fun v => v.category).sum ≤ 8)
    (hM : jj_C l G Y' d' As h o1 h1) : jj_R l G Y d As h o1 h1 pc (As.reverse ++ rest) rest := by
  intro p e R s m args below meth c H locs cells slots ls hx hw hr hS hH hsz T hT X
  have hts := hx.2.2.2.2.1
  have hy : Y'.1.cls ≠ "java/lang/invoke/MethodHandle" ∧ Y'.1.cls ≠ "java/lang/invoke/VarHandle" := ⟨ok.2.2.1, ok.2.2.2.1⟩
  obtain ⟨mk, hnamed⟩ := jj_cw_named (hts _ ok.1)
  obtain ⟨methM, cM, hmethM, -, -, -, -, -, -, hsigM⟩ := jj_cw_spec hnamed (hts _ ok.1)
  have hstatic : methM.isStatic = true := Cond.static_spec hnamed hmethM (hts _ hst)
  obtain ⟨kP, hkP, -⟩ := className_of_methodNamed hnamed
  have hinitP : kP.init = .initialized := Cond.initialized_spec (findClass_of_methodNamed hnamed) hkP (hts _ ok.2.1)
  obtain ⟨vm₁, X₁, hstep₁⟩ := X.invokestatic hx.1 hx.2.2.2.1 (hts _ hl) hnamed hmethM hstatic hkP hinitP hy (g := F0 m pc ls (As.reverse ++ rest)) rfl (argsL := As) (rest := rest) (hn.trans (ok.len _ hsigM)) rfl (by rw [hx.2.1]; exact hd)
  exact jj_tail ok hM hdd hrest hd hx hw hr hS hH hsz hT X₁ hnamed hstep₁
theorem jj_callI {b : Nat} (ok : jj_okc Y' n) (hh : Y'.2.2.2.2 = []) (hrt : Y'.2.2.2.1 = none) (hnm : Y'.1.name = "<init>") (hl : Cond.methodLink Y.1.cls index Y'.1 ∈ jj_T) (hi : Cond.instanceMethod Y'.1 ∈ jj_T) (hd : decode Y.2.1 pc = .ok (.invokespecial index, 3)) (hn : As.length = n) (hdd : d' + 1 ≤ d) (hrest : (rest.map fun v => v.category).sum ≤ 8)
    (hM : jj_C l G Y' d' (.ref b :: As) h o1 h1) : jj_R l G Y d (.ref b :: As) h o1 h1 pc (As.reverse ++ .ref b :: rest) rest := by
  intro p e R s m args below meth c H locs cells slots ls hx hw hr hS hH hsz T hT X
  have hts := hx.2.2.2.2.1
  have hy : Y'.1.cls ≠ "java/lang/invoke/MethodHandle" ∧ Y'.1.cls ≠ "java/lang/invoke/VarHandle" := ⟨ok.2.2.1, ok.2.2.2.1⟩
  have ec : jj_cw Y' = .code Y'.1 Y'.2.1 Y'.2.2.1 none := by rw [jj_cw_nil hh, hrt]
  have hpl : e.platform.magicAccessors = ({} : Platform).magicAccessors := by rw [X.admits.platform]
  obtain ⟨mk, methM, cM, kP, vm₁, hnamed, hmethM, hcodeM, -, hlocalsM, -, hkP, -, hW₁, hstep₁⟩ := Steps.initColdArgs (e := e) X.here hx.1 X.warmed hpl hx.2.2.2.1 hnm hy (hts _ hl) (hts _ hi) (by rw [← ec]; exact hts _ ok.1) (f := F0 m pc ls (As.reverse ++ .ref b :: rest)) rfl (argsL := As) (rest := rest) (fun sig h9 => hn.trans (ok.len sig h9)) rfl (by rw [hx.2.1]; exact hd)
  exact jj_tail ok hM hdd hrest hd hx hw hr hS hH hsz hT (X.noted hW₁) hnamed hstep₁
/-- a private method of a nest mate -/
theorem jj_callVN {b : Nat} {C host : String} (ok : jj_okc Y' n) (hl : (Y.1.cls, index, Y'.1, host) ∈ jj_nm) (hi : Cond.instanceMethod Y'.1 ∈ jj_T) (hsel : Cond.selects C Y'.1 Y'.1 ∈ jj_T) (hd : decode Y.2.1 pc = .ok (.invokevirtual index, 3)) (ha : jj_rcv G h b C) (hn : As.length = n) (hdd : d' + 1 ≤ d) (hrest : (rest.map fun v => v.category).sum ≤ 8)
    (hM : jj_C l G Y' d' (.ref b :: As) h o1 h1) : jj_R l G Y d (.ref b :: As) h o1 h1 pc (As.reverse ++ .ref b :: rest) rest := by
  intro p e R s m args below meth c H locs cells slots ls hx hw hr hS hH hsz T hT X
  have hts := hx.2.2.2.2.1
  obtain ⟨cellB, hcB, hoB, hclB⟩ := ha s H locs hw hS hH
  obtain ⟨mk, methM, hnamed, hmethM, hstM, habM⟩ := Cond.instanceMethod_spec (hts _ hi)
  obtain ⟨methM', cM, hmethM', -, -, -, -, -, -, hsigM⟩ := jj_cw_spec hnamed (hts _ ok.1)
  cases hmethM.symm.trans hmethM'
  obtain ⟨c2, r2, m2, q1, q2, q3, q4, kP, hkP, hkPi⟩ := Cond.selects_spec (hts _ hsel)
  have hy : Y'.1.cls ≠ "java/lang/invoke/MethodHandle" ∧ Y'.1.cls ≠ "java/lang/invoke/VarHandle" := ⟨ok.2.2.1, ok.2.2.2.1⟩
  cases hclB.symm.trans q1
  cases (State.methodFound?_of_named hnamed hy).symm.trans q2
  cases hnamed.symm.trans q3
  have hselP : selectMethod e.platform s.vm cellB.cls mk = .method mk := by rw [Launch.admits_selectMethod X.admits]; exact q4
  obtain ⟨vm₁, X₁, hstep₁⟩ := X.invokevirtualNest hx.1 hx.2.2.2.1 (va_Nw.use rfl (hw.2.2.1 _ hl)) hnamed hmethM hstM hkP hkPi hy (a := b) (cell := cellB) (by rw [hT]; exact hcB)
    (fun z h9 => by rw [h9] at hoB; cases hoB) hselP hmethM habM hkP hkPi (g := F0 m pc ls (As.reverse ++ .ref b :: rest)) rfl (argsL := As) (rest := rest) (hn.trans (ok.len _ hsigM)) rfl (by rw [hx.2.1]; exact hd)
  exact jj_tail ok hM hdd hrest hd hx hw hr hS hH hsz hT X₁ hnamed hstep₁
theorem jj_callSN {host : String} (ok : jj_okc Y' n) (hl : (Y.1.cls, index, Y'.1, host) ∈ jj_nm) (hst : Cond.static Y'.1 ∈ jj_T) (hd : decode Y.2.1 pc = .ok (.invokestatic index, 3)) (hn : As.length = n) (hdd : d' + 1 ≤ d) (hrest : (rest.map fun v => v.category).sum ≤ 8)
    (hM : jj_C l G Y' d' As h o1 h1) : jj_R l G Y d As h o1 h1 pc (As.reverse ++ rest) rest := by
  intro p e R s m args below meth c H locs cells slots ls hx hw hr hS hH hsz T hT X
  have hts := hx.2.2.2.2.1
  have hy : Y'.1.cls ≠ "java/lang/invoke/MethodHandle" ∧ Y'.1.cls ≠ "java/lang/invoke/VarHandle" := ⟨ok.2.2.1, ok.2.2.2.1⟩
  obtain ⟨mk, hnamed⟩ := jj_cw_named (hts _ ok.1)
  obtain ⟨methM, cM, hmethM, -, -, -, -, -, -, hsigM⟩ := jj_cw_spec hnamed (hts _ ok.1)
  have hstatic : methM.isStatic = true := Cond.static_spec hnamed hmethM (hts _ hst)
  obtain ⟨kP, hkP, -⟩ := className_of_methodNamed hnamed
  have hinitP : kP.init = .initialized := Cond.initialized_spec (findClass_of_methodNamed hnamed) hkP (hts _ ok.2.1)
  obtain ⟨vm₁, X₁, hstep₁⟩ := X.invokestaticNest hx.1 hx.2.2.2.1 (va_Nw.use rfl (hw.2.2.1 _ hl)) hnamed hmethM hstatic hkP hinitP hy (g := F0 m pc ls (As.reverse ++ rest)) rfl (argsL := As) (rest := rest) (hn.trans (ok.len _ hsigM)) rfl (by rw [hx.2.1]; exact hd)
  exact jj_tail ok hM hdd hrest hd hx hw hr hS hH hsz hT X₁ hnamed hstep₁
/-- a method that a class above declares, named by the class below: x is the pool's name -/
theorem jj_callU {b : Nat} {C : String} {x : MethodName} (ok : jj_okc Y' n) (hl : Cond.methodLink Y.1.cls index x ∈ jj_T) (hsame : Cond.sameMethod x.cls Y'.1.cls x.name x.desc ∈ jj_T) (hxy : Y'.1 = ⟨Y'.1.cls, x.name, x.desc⟩) (hi : Cond.instanceMethod Y'.1 ∈ jj_T) (hsel : Cond.selects C x Y'.1 ∈ jj_T) (hd : decode Y.2.1 pc = .ok (.invokevirtual index, 3)) (ha : jj_rcv G h b C) (hn : As.length = n) (hdd : d' + 1 ≤ d) (hrest : (rest.map fun v => v.category).sum ≤ 8)
    (hM : jj_C l G Y' d' (.ref b :: As) h o1 h1) : jj_R l G Y d (.ref b :: As) h o1 h1 pc (As.reverse ++ .ref b :: rest) rest := by
  intro p e R s m args below meth c H locs cells slots ls hx hw hr hS hH hsz T hT X
  have hts := hx.2.2.2.2.1
  obtain ⟨cellB, hcB, hoB, hclB⟩ := ha s H locs hw hS hH
  obtain ⟨mk, methM, hnamed, hmethM, hstM, habM⟩ := Cond.instanceMethod_spec (hts _ hi)
  obtain ⟨methM', cM, hmethM', -, -, -, -, -, -, hsigM⟩ := jj_cw_spec hnamed (hts _ ok.1)
  cases hmethM.symm.trans hmethM'
  obtain ⟨cn, ck, r1, hcn, hck, hni, hf, hn1⟩ := Cond.sameMethod_found (hts _ hsame)
  rw [← hxy] at hn1
  cases hnamed.symm.trans hn1
  obtain ⟨c2, r2, m2, q1, q2, q3, q4, kP, hkP, hkPi⟩ := Cond.selects_spec (hts _ hsel)
  cases hclB.symm.trans q1
  cases hf.symm.trans q2
  cases hnamed.symm.trans q3
  have hds : Y'.1.desc = x.desc := by rw [hxy]
  have hselP : selectMethod e.platform s.vm cellB.cls mk = .method mk := by rw [Launch.admits_selectMethod X.admits]; exact q4
  obtain ⟨vm₁, X₁, hstep₁⟩ := X.invokevirtualUp hx.1 hx.2.2.2.1 (hts _ hl) (hts _ hsame) ⟨ok.2.2.1, ok.2.2.2.1⟩ (by rw [← hxy]; exact hnamed) hmethM hstM (a := b) (cell := cellB) (by rw [hT]; exact hcB)
    (fun z h9 => by rw [h9] at hoB; cases hoB) hselP hmethM habM hkP hkPi (g := F0 m pc ls (As.reverse ++ .ref b :: rest)) rfl (argsL := As) (rest := rest) (hn.trans (ok.len _ hsigM)) rfl (by rw [hx.2.1]; exact hd)
  exact jj_tail ok hM hdd hrest hd hx hw hr hS hH hsz hT X₁ hnamed hstep₁
end JJC
section JJR
variable {l : Launch} {G : jj_G} {Y : jj_Y} {d : Nat} {F : jj_O → jj_H → Prop} {pc : Nat} {L : List (Option Value)} {st rest : List Value} {h h1 : jj_H} {as : List Value}
theorem jj_keep {G : jj_G} {H : Heap} {s st0 t T' : State} {locs L1 : List Loc} (h0 : st0.heap = H) (f1 : T'.heap = t.heap) (hS : va_S (jj_A G) s.heap H locs) (hL1 : ∀ q ∈ L1, jj_A G q.base) (hFr : va_F (jj_A G) st0 t) : va_S (jj_A G) s.heap T'.heap (locs ++ L1) := by
  obtain ⟨hz, hk⟩ := hFr
  rw [h0] at hz hk
  refine ⟨by rw [f1]; exact Nat.le_trans hS.1 hz, fun q h1 h2 => ?_, fun q hq => ?_⟩
  · rw [f1, hk q (Nat.lt_of_lt_of_le h1 hS.1) h2]
    exact hS.2.1 q h1 h2
  · rcases List.mem_append.mp hq with h9 | h9
    · exact hS.2.2 q h9
    · exact hL1 q h9
theorem jj_R.ret {v : Option Value} (hR : jj_R l G Y d as h (.inl v) h1 pc st rest) (hle : jj_le h h1) (k : jj_P l G Y d F (pc + 3) L (v.toList ++ rest) h1) : jj_P l G Y d F pc L st h := by
  obtain ⟨o, h', hF, hm, hE⟩ := k
  refine ⟨o, h', hF, hle.tr hm, fun p e R s m args below meth c H locs cells slots Q ls hx hw hr hS hH hL hK => ?_⟩
  obtain ⟨r1, r2, e1, e2⟩ := hr.step hle hm
  intro T hT X
  obtain ⟨oc, st0, t, T', L1, h0, hW0, ⟨-, hH1, hFr, -, hv⟩, X', hL1, f1, f2, stp⟩ := hR p e R s m args below meth c H locs cells slots ls hx hw r1 hS hH hL.1 T hT X
  subst hv
  obtain ⟨t2, a1, b1⟩ := hE p e R s m args below meth c T'.heap (locs ++ L1) _ _ Q ls hx hw r2 (jj_keep h0 f1 hS hL1 hFr) (by rw [f1]; exact hH1) hL (by rw [e1, e2]; exact hK) T' rfl X'
  exact ⟨t2, stp t2 a1, b1⟩
theorem jj_R.thr {E : String} (hR : jj_R l G Y d as h (.inr E) h1 pc st rest) (hle : jj_le h h1) (hcov : (tableOf Y.2.2.2.2).all (fun x => !covers x pc) = true) (hF : F (.inr E) h1) : jj_P l G Y d F pc L st h := by
  refine ⟨.inr E, h1, hF, hle, fun p e R s m args below meth c H locs cells slots Q ls hx hw hr hS hH hL hK => ?_⟩
  intro T hT X
  obtain ⟨oc, st0, t, T', L1, h0, hW0, ⟨-, hH1, hFr, -, q, ce, hq, hce, hcv, hcl⟩, X', hL1, f1, f2, stp⟩ := hR p e R s m args below meth c H locs cells slots ls hx hw hr hS hH hL.1 T hT X
  subst hq
  obtain ⟨st1, hrun, hend, hW, hsm⟩ := X'.leaveThrown q (g := F0 m pc ls rest) rfl rfl rfl (fun x hx9 => by
      rw [hx.2.2.2.2.2.2.2.1] at hx9
      have h9 := List.all_eq_true.mp hcov x hx9
      simpa only [Bool.not_eq_true'] using h9) hx.2.2.2.2.2.2.1
  refine ⟨_, stp.trans st1, hK _ (locs ++ L1) q ce hrun hend hW hsm (jj_keep h0 f1 hS hL1 hFr) ?_ ?_ hcv ?_⟩
  · show jj_hp G h1 T'.heap
    rw [f1]; exact hH1
  · show T'.heap[q]? = some ce
    rw [f1]; exact hce
  · rw [← hcl, hW0.alike.findClass]
end JJR
