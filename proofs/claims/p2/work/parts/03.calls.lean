/-! calls -/
def jj_Pre (G : jj_G) (as : List Value) (h : jj_H) : Array Value → State → Prop := fun v U => v = as.toArray ∧ jj_wd G U ∧ jj_hp G h U.heap
/-- how a call ends -/
def jj_out (G : jj_G) (o : jj_O) (h' : jj_H) (mc ms : Nat) : Array Value → State → Outcome → State → Prop := fun _ st oc t =>
  st.WarmedH t.vm ∧ jj_hp G h' t.heap ∧ va_F (jj_A G) st t ∧ (∃ L : List Loc, st.sameButNew ({ t with vm := st.vm } : State) L mc ms ∧ ∀ q ∈ L, jj_A G q.base) ∧
  match o with
  | .inl v => oc = .returned v
  | .inr E => ∃ (q : Addr) (ce : Cell), oc = .threw q ∧ t.heap[q]? = some ce ∧ ce.vm = .none ∧ st.vm.findClass E = some ce.cls
def jj_room (d : Nat) (h h' : jj_H) : Room := { frames := d, cells := h'.2.1 - h.2.1, slots := h'.2.2 - h.2.2, locals := 40 * d }
def jj_C (l : Launch) (G : jj_G) (Y : jj_Y) (d : Nat) (as : List Value) (h : jj_H) (o : jj_O) (h' : jj_H) : Prop :=
  jj_le h h' ∧ (l.stackTraces = false → MetFree l Y.1 (headSpec (jj_cw Y :: jj_T) (jj_room d h h')) (jj_Pre G as h) (fun _ _ _ _ _ => True) (jj_out G o h' (h'.2.1 - h.2.1) (h'.2.2 - h.2.2)))
def jj_Q (l : Launch) (G : jj_G) (Y : jj_Y) (d : Nat) (as : List Value) (h : jj_H) (F : jj_O → jj_H → Prop) : Prop := ∃ (o : jj_O) (h' : jj_H), F o h' ∧ jj_C l G Y d as h o h'
theorem jj_kp.next {G : jj_G} {w : Cond} {s U : State} (h : jj_kp G w s) (hW : s.WarmedH U.vm) (h1 : ∀ q : Nat, q < s.heap.size → ¬ jj_A G q → U.heap[q]? = s.heap[q]?) (h2 : s.heap.size ≤ U.heap.size) : jj_kp G w U := by
  intro args V hV g1 g2
  exact h args V (State.WarmedH.trans hW hV) (fun q hq hA => (g1 q (Nat.lt_of_lt_of_le hq h2) hA).trans (h1 q hq hA)) (Nat.le_trans h2 g2)
theorem jj_wd.next {G : jj_G} {s U : State} {locs : List Loc} (h : jj_wd G s) (hW : s.WarmedH U.vm) (hS : va_S (jj_A G) s.heap U.heap locs) (hns : jj_ns G U.heap) : jj_wd G U := by
  obtain ⟨h1, h2, h3, h4, h5, -, h7⟩ := h
  exact ⟨va_K.moved hW.alike h1, Nat.le_trans h2 hS.1, fun q hq => va_Nw.warmM hW (h3 q hq), fun w hw => (h4 w hw).next hW hS.2.1 hS.1, jj_mw.next h5 hW hS.2.1 h2, hns, fun q hq => va_Nc.moved hW.alike (h7 q hq)⟩
theorem jj_Pre.blind {G : jj_G} {as : List Value} {h : jj_H} {a : Array Value} {U : State} {g : JFrame} {mk : MethodId} (q : jj_Pre G as h a U) : jj_Pre G as h a (U.calling g mk a) :=
  ⟨q.1, jj_wd.next (U := U.calling g mk a) (locs := []) q.2.1 (State.WarmedH.refl U) va_S.rf q.2.2.2.1, q.2.2⟩
def jj_ent : List Value → List (Option Value)
  | [] => []
  | v :: vs => if v.category = 2 then some v :: none :: jj_ent vs else some v :: jj_ent vs
theorem jj_ent_args : ∀ (vs : List Value) (k i : Nat) (v : Value), (jj_ent vs)[i]? = some (some v) → (k + i, v) ∈ lv_args k vs := by
  intro vs
  induction vs with
  | nil => intro k i v h; simp [jj_ent] at h
  | cons w vs ih =>
    intro k i v h
    by_cases hc : w.category = 2
    · rw [jj_ent, if_pos hc] at h
      rw [lv_args, if_pos hc]
      match i, h with
      | 0, h => simp at h; subst h; exact List.mem_cons_self
      | 1, h => simp at h
      | i + 2, h =>
        have h2 : (jj_ent vs)[i]? = some (some v) := by simpa using h
        have h3 := ih (k + 2) i v h2
        rw [show k + (i + 2) = k + 2 + i by omega]
        exact List.mem_cons_of_mem _ h3
    · rw [jj_ent, if_neg hc] at h
      rw [lv_args, if_neg hc]
      match i, h with
      | 0, h => simp at h; subst h; exact List.mem_cons_self
      | i + 1, h =>
        have h2 : (jj_ent vs)[i]? = some (some v) := by simpa using h
        have h3 := ih (k + 1) i v h2
        rw [show k + (i + 1) = k + 1 + i by omega]
        exact List.mem_cons_of_mem _ h3
def jj_L0 (n : Nat) (vs : List Value) : List (Option Value) := jj_ent vs ++ List.replicate (n - (jj_ent vs).length) none
theorem jj_L0_ok {n : Nat} {vs : List Value} (h : (lg_sl vs).length ≤ n) : jj_L n (jj_L0 n vs) ((lg_sl vs ++ List.replicate (n - (lg_sl vs).length) Slot.unset).toArray) := by
  have h1 := lv_entry vs h
  refine ⟨h1.1, h1.2.1, fun i v hv => ?_⟩
  have h2 : (jj_ent vs)[i]? = some (some v) := by
    unfold jj_L0 at hv
    by_cases hi : i < (jj_ent vs).length
    · rw [List.getElem?_append_left hi] at hv
      exact hv
    · rw [List.getElem?_append_right (by omega)] at hv
      rw [List.getElem?_replicate] at hv
      split at hv <;> simp at hv
  have h3 := jj_ent_args vs 0 i v h2
  rw [Nat.zero_add] at h3
  exact h1.2.2 (i, v) h3
theorem jj_Wimp {p : Program} {l : Launch} {e : Env} {R : Room} {s : State} {m : MethodId} {args : Array Value} {below : List Frame} {meth : Method} {c : Code} {H : Heap} {locs : List Loc} {cells slots : Nat} {Q Q' : State → Prop} {g : JFrame} (hQ : ∀ t, Q t → Q' t) (k : W p l e R s m args below meth c H locs cells slots Q g) : W p l e R s m args below meth c H locs cells slots Q' g := by
  intro T hT X
  obtain ⟨t, a, b⟩ := k T hT X
  exact ⟨t, a, hQ t b⟩
theorem jj_cw_nil {Y : jj_Y} (hh : Y.2.2.2.2 = []) : jj_cw Y = .code Y.1 Y.2.1 Y.2.2.1 Y.2.2.2.1 := by unfold jj_cw; rw [hh]
theorem jj_cw_cons {Y : jj_Y} {q : Nat × Nat × Nat × Nat} {r : List (Nat × Nat × Nat × Nat)} (hh : Y.2.2.2.2 = q :: r) : jj_cw Y = .codeWith Y.1 Y.2.1 Y.2.2.1 Y.2.2.2.1 (q :: r) := by unfold jj_cw; rw [hh]
/-- what the method's own word says of it -/
theorem jj_cw_spec {Y : jj_Y} {args : Array Value} {s : State} {m : MethodId} (hn : s.methodNamed? Y.1 = some m) (h : (jj_cw Y).before args s = true) :
    ∃ meth c, s.vm.method? m = some meth ∧ meth.code = some c ∧ c.code = Y.2.1 ∧ c.maxLocals = Y.2.2.1 ∧ meth.sig.returnType = Y.2.2.2.1 ∧ meth.locks = false ∧ c.exceptionTable.toList = tableOf Y.2.2.2.2 ∧ parseMethodDescriptor Y.1.desc = some meth.sig := by
  cases hh : Y.2.2.2.2 with
  | nil =>
    rw [jj_cw_nil hh] at h
    obtain ⟨meth, c, h1, h2, h3, h4, h5, h6, h7, h8⟩ := Cond.code_spec hn h
    refine ⟨meth, c, h1, h2, h3, h4, h5, h6, ?_, h8⟩
    rw [Array.isEmpty_iff.mp h7]
    rfl
  | cons q r =>
    rw [jj_cw_cons hh] at h
    obtain ⟨m9, meth, c, hn9, h1, h2, h3, h4, h5, h6, h7, h8⟩ := Cond.codeWith_spec h
    cases hn.symm.trans hn9
    refine ⟨meth, c, h1, h2, h3, h4, h6, h7, ?_, h8⟩
    rw [← h5, table_eq]
/-- the end of a body, whatever its outcome -/
def jj_end (G : jj_G) (o : jj_O) (h h' : jj_H) (below : List Frame) (args : Array Value) (s : State) : State → Prop := fun t => ∃ oc, t.status = .running ∧ Ended t below oc ∧ jj_out G o h' (h'.2.1 - h.2.1) (h'.2.2 - h.2.2) args s oc t
theorem jj_body {l : Launch} {G : jj_G} {Y : jj_Y} {d : Nat} {o : jj_O} {h h' : jj_H} {as : List Value} (hl : l.stackTraces = false) (hn : (lg_sl as).length ≤ Y.2.2.1) (k : jj_E l G Y d o h' 0 (jj_L0 Y.2.2.1 as) [] h)
    {p : Program} {e : Env} {s s₁ : State} {m : MethodId} {args : Array Value} {below : List Frame} {meth : Method} {c : Code} (B : BodyLoose p l Y.1 (headSpec (jj_cw Y :: jj_T) (jj_room d h h')) Y.2.1 Y.2.2.1 Y.2.2.2.1 e s m args below meth c s₁) (hml : c.maxLocals = Y.2.2.1) (hv : jj_Pre G as h args s) :
    W p l e (headSpec (jj_cw Y :: jj_T) (jj_room d h h')).room s m args below meth c s.heap [] 0 0 (jj_end G o h h' below args s) (entryFrame m args Y.2.2.1) := by
  obtain ⟨rfl, hw, hH⟩ := hv
  have hts := atoms_spec (ws := jj_cw Y :: jj_T) B.pre
  have hlocks := B.notSynchronized
  have hr := B.returns
  have htab : c.exceptionTable.toList = tableOf Y.2.2.2.2 := by
    obtain ⟨meth9, c9, h1, h2, -, -, -, -, h7, -⟩ := jj_cw_spec B.named (hts _ List.mem_cons_self)
    cases Option.some.inj (h1.symm.trans B.method)
    cases Option.some.inj (h2.symm.trans (Stand.of_body B).code)
    exact h7
  rw [lg_entry_eq]
  refine k.2 p e _ s m _ below meth c s.heap [] 0 0 _ _ ⟨B.exec, B.bytes, hml, findClass_of_methodNamed B.named, fun w hw9 => hts w (List.mem_cons_of_mem _ hw9), B.returns, B.notSynchronized, htab, (name_of_methodNamed B.named B.method).1, hl⟩ hw ⟨⟨Nat.le_refl _, Nat.le_refl _⟩, ?_, ?_⟩ va_S.rf hH (jj_L0_ok hn) ?_
  · show 0 + _ ≤ _
    rw [Nat.zero_add]
    exact Nat.le_refl _
  · show 0 + _ ≤ _
    rw [Nat.zero_add]
    exact Nat.le_refl _
  · rw [Nat.zero_add, Nat.zero_add]
    cases o with
    | inl v =>
      intro H locs ls pc hS hH1 hret
      have fin : ∀ t, MQ below (fun _ s9 oc t => oc = .returned v ∧ s9.WarmedH t.vm ∧ jj_hp G h' t.heap ∧ va_F (jj_A G) s9 t) as.toArray s (h'.2.1 - h.2.1) (h'.2.2 - h.2.2) (jj_A G) t → jj_end G (.inl v) h h' below as.toArray s t := by
        rintro t ⟨oc, b1, b2, ⟨c1, c2, c3, c4⟩, L, ⟨-, -, d3⟩, d4⟩
        exact ⟨oc, b1, b2, c2, c3, c4, ⟨L, d3, d4⟩, c1⟩
      refine jj_Wimp fin ?_
      cases v with
      | none => exact W.vret B.exec B.bytes (hr.trans hret.1) (fun t ht hW => ⟨rfl, hW, by rw [ht]; exact hH1, hS.F ht⟩) hS.2.2 hret.2
      | some v =>
        cases v with
        | int x =>
          obtain ⟨⟨ty, h1, h2⟩, h3⟩ := hret
          exact W.zret B.exec B.bytes (hr.trans h1) h2 (fun t ht hW => ⟨rfl, hW, by rw [ht]; exact hH1, hS.F ht⟩) hS.2.2 h3
        | long x => exact W.lret B.exec B.bytes (hr.trans hret.1) (fun t ht hW => ⟨rfl, hW, by rw [ht]; exact hH1, hS.F ht⟩) hS.2.2 hret.2
        | ref x =>
          obtain ⟨⟨rt, h1, h2⟩, h3⟩ := hret
          exact W.aret B.exec B.bytes (hr.trans h1) h2 (Or.inr ⟨x, rfl⟩) (fun t ht hW => ⟨rfl, hW, by rw [ht]; exact hH1, hS.F ht⟩) hS.2.2 h3
        | _ => exact hret.elim
    | inr E =>
      intro U locs q ce b1 b2 b3 b4 hS hH1 hce hv hcl
      exact ⟨.threw q, b1, b2, b3, hH1, hS.F rfl, ⟨locs, b4, hS.2.2⟩, q, ce, rfl, hce, hv, hcl⟩
theorem jj_C.of {l : Launch} {G : jj_G} {Y : jj_Y} {d : Nat} {o : jj_O} {h h' : jj_H} {as : List Value} (hp : plainFor Y.1 = true) (hn : (lg_sl as).length ≤ Y.2.2.1) (k : jj_E l G Y d o h' 0 (jj_L0 Y.2.2.1 as) [] h) : jj_C l G Y d as h o h' := by
  refine ⟨k.1, fun hl => ?_⟩
  refine MetFree.of_bodySF (code := Y.2.1) (maxLocals := Y.2.2.1) (ret := Y.2.2.2.1) hp ?_ ?_
  · intro args s m hpre hnm
    obtain ⟨meth, c, h1, h2, h3, h4, h5, h6, -, -⟩ := jj_cw_spec hnm (atoms_spec (ws := jj_cw Y :: jj_T) hpre _ List.mem_cons_self)
    exact ⟨meth, c, h1, h2, h3, h4, h5, h6⟩
  · intro p e s m args below meth c s₁ B hml hP _
    have hh0 : s₁.heap = s.heap := by rw [B.state]; rfl
    obtain ⟨t, a1, oc, b1, b2, b3⟩ := jj_body hl hn k B hml hP s₁ hh0 (Stand.of_body B)
    exact ⟨t, oc, a1, b1, b2, b3⟩
theorem jj_Q.of {l : Launch} {G : jj_G} {Y : jj_Y} {d : Nat} {h : jj_H} {as : List Value} {F : jj_O → jj_H → Prop} (hp : plainFor Y.1 = true) (hn : (lg_sl as).length ≤ Y.2.2.1) (k : jj_P l G Y d F 0 (jj_L0 Y.2.2.1 as) [] h) : jj_Q l G Y d as h F := by
  obtain ⟨o, h', hF, hE⟩ := k
  exact ⟨o, h', hF, jj_C.of hp hn hE⟩
theorem jj_Q.imp {l : Launch} {G : jj_G} {Y : jj_Y} {d : Nat} {h : jj_H} {as : List Value} {F F' : jj_O → jj_H → Prop} (k : jj_Q l G Y d as h F) (hF : ∀ o h', F o h' → F' o h') : jj_Q l G Y d as h F' := by
  obtain ⟨o, h', a, b⟩ := k
  exact ⟨o, h', hF o h' a, b⟩
/-- a call comes back: it returned, or it threw -/
theorem jj_back {l : Launch} {G : jj_G} {Y' : jj_Y} {d' : Nat} {as : List Value} {h h1 : jj_H} {o1 : jj_O} (hM : jj_C l G Y' d' as h o1 h1) (hlt : l.stackTraces = false)
    {p : Program} {e : Env} {R : Room} {s : State} {m : MethodId} {sargs : Array Value} {below : List Frame} {meth : Method} {c : Code} {U : State} {locs : List Loc} {cells slots : Nat} (X : Stand p l e R s m sargs below meth c U locs cells slots)
    {g : JFrame} (hg : g.method = m) (hsize : g.locals.size = c.maxLocals) {ig : Instr} {len : Nat} (hdg : decode c.code g.pc = .ok (ig, len)) (hW : 2 * g.monitorRoom + (g.stack.map fun v => v.category).sum ≤ 8) {mk : MethodId} (hn : U.methodNamed? Y'.1 = some mk)
    (hws : ∀ w ∈ jj_cw Y' :: jj_T, w.before as.toArray U = true) (hini : (Cond.initialized Y'.1.cls).before as.toArray U = true) (hfr : d' + 1 ≤ R.frames) (hlo : 8 + (Y'.2.2.1 + 11) + 40 * d' ≤ R.locals) (hc : cells + (h1.2.1 - h.2.1) ≤ R.cells) (hs : slots + (h1.2.2 - h.2.2) ≤ R.slots) (hPre : jj_Pre G as h as.toArray U) :
    ∃ (oc : Outcome) (t T' : State) (L : List Loc), jj_out G o1 h1 (h1.2.1 - h.2.1) (h1.2.2 - h.2.2) as.toArray (U.calling g mk as.toArray) oc t ∧ Stand p l e R s m sargs below meth c T' (locs ++ L) (cells + (h1.2.1 - h.2.1)) (slots + (h1.2.2 - h.2.2)) ∧ (∀ q ∈ L, jj_A G q.base) ∧ T'.heap = t.heap ∧ T'.vm = t.vm ∧
      match oc with
      | .returned v => Steps p.tables e below (doInvoke e (U.setTop g) [] mk as.toArray).1 (T'.setTop { g with pc := g.pc + len, stack := v.toList ++ g.stack })
      | .threw q => Steps p.tables e below (doInvoke e (U.setTop g) [] mk as.toArray).1 ((T'.setTop g).pushFrame (.throwing q)) := by
  obtain ⟨methY, cY, hmY, hcY, -, hlY, -, -, -, -⟩ := jj_cw_spec hn (hws _ List.mem_cons_self)
  obtain ⟨kY, hkY, -⟩ := className_of_methodNamed hn
  have hinitY : kY.init = .initialized := Cond.initialized_spec (findClass_of_methodNamed hn) hkY hini
  have hat : At U g.method c below := by rw [hg]; exact X.here
  have happ : (headSpec (jj_cw Y' :: jj_T) (jj_room d' h h1)).appliesLoose Y'.1 e.platform (U.calling g mk as.toArray) = true :=
    Spec.appliesLoose_calling (g := g) hat hdg hn hkY hinitY
      (X.room_calling (g := g) (R' := jj_room d' h h1) hsize hmY hcY hfr (by rw [hlY]; show _ + 40 * d' ≤ _; omega) hc hs) (atoms_intro hws)
  obtain ⟨mid, hmid⟩ := hat.above
  have hfr9 : (U.setTop g).frames = (.java g :: mid) ++ below := by rw [State.frames_setTop' g hat.top, hmid]; rfl
  obtain ⟨oc, s₂, hsteps, -, hend, hq⟩ := Steps.callFree (hM.2 hlt) p X.admits X.cas X.clock (acts := []) hfr9 happ hPre.blind trivial
  have hq' : jj_out G o1 h1 (h1.2.1 - h.2.1) (h1.2.2 - h.2.2) as.toArray (U.calling g mk as.toArray) oc s₂ := hq
  rw [State.frames_setTop' g hat.top] at hend
  obtain ⟨hW₂, hH1, hF1, ⟨L, ⟨e2, q2, q3, q4, q5, q6⟩, hL⟩, -⟩ := id hq'
  have e3 : s₂ = ({ (U.calling g mk as.toArray).setFrames s₂.frames with heap := s₂.heap, slotsUsed := s₂.slotsUsed } : State).setVm s₂.vm := by
    have h9 : s₂ = ({ s₂ with vm := (U.calling g mk as.toArray).vm } : State).setVm s₂.vm := rfl
    rw [e2] at h9
    exact h9
  have hW' : U.WarmedH s₂.vm := hW₂
  obtain ⟨g₀, hg0⟩ := Option.isSome_iff_exists.mp hat.top
  obtain ⟨r, hr⟩ := State.topJava?_eq_some.mp hg0
  have hr' : (({ U with heap := s₂.heap, slotsUsed := s₂.slotsUsed } : State).setVm s₂.vm).frames = .java g₀ :: r := hr
  have hsame : U.sameButNew ({ U with heap := s₂.heap, slotsUsed := s₂.slotsUsed } : State) L (h1.2.1 - h.2.1) (h1.2.2 - h.2.2) := by
    refine ⟨?_, q2, q3, q4, q5, q6⟩
    obtain ⟨t, ht, -⟩ := State.frames_cons hr
    show ({ U with heap := s₂.heap, slotsUsed := s₂.slotsUsed } : State) = { U.setFrames U.frames with heap := s₂.heap, slotsUsed := s₂.slotsUsed }
    rw [State.setFrames_self ht]
  have hX : Stand p l e R s m sargs below meth c (({ U with heap := s₂.heap, slotsUsed := s₂.slotsUsed } : State).setVm s₂.vm) (locs ++ L) (cells + (h1.2.1 - h.2.1)) (slots + (h1.2.2 - h.2.2)) :=
    ⟨X.admits, X.cas, X.clock, X.frames, X.room, X.hears, X.method, X.code, (X.here.setHeapUsed s₂.heap s₂.slotsUsed).setVm hW'.alike, X.tail, State.WarmedH.trans X.warmed hW', X.limits, X.bytes, X.same.trans (hsame.setVm s.vm)⟩
  refine ⟨oc, s₂, _, L, hq', hX, hL, rfl, rfl, ?_⟩
  cases oc with
  | returned v =>
    obtain ⟨c₂, i₂, len₂, hc₂, hd₂, hf₂⟩ := hend
    have hcc : c₂ = c := by
      have h9 : s₂.code? g.method = U.code? g.method := by
        rw [State.code?_eq, State.code?_eq, hW'.alike.method?]
      exact Option.some.inj (hc₂.symm.trans (h9.trans hat.code))
    subst hcc
    have hlen : len₂ = len := by rw [hdg] at hd₂; cases hd₂; rfl
    subst hlen
    have hs₂ : s₂ = (({ U with heap := s₂.heap, slotsUsed := s₂.slotsUsed } : State).setVm s₂.vm).setTop { g with pc := g.pc + len₂, stack := v.toList ++ g.stack } := by
      refine e3.trans ?_
      rw [hf₂, State.calling_eq hat.top, State.setFrames_setFrames, State.setTop_of_frames _ hr', hr]
      rfl
    show Steps p.tables e below _ _
    rw [← hs₂]
    exact hsteps
  | threw q =>
    have hf₂ : s₂.frames = .throwing q :: .java g :: U.frames.tail := hend
    have hs₂ : s₂ = ((({ U with heap := s₂.heap, slotsUsed := s₂.slotsUsed } : State).setVm s₂.vm).setTop g).pushFrame (.throwing q) := by
      refine e3.trans ?_
      rw [hf₂, State.calling_eq hat.top, State.setFrames_setFrames, State.pushFrame, State.frames_setTop _ hr', State.setTop_of_frames _ hr', State.setFrames_setFrames, hr]
      rfl
    show Steps p.tables e below _ _
    rw [← hs₂]
    exact hsteps
