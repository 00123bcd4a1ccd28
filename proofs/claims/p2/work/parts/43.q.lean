theorem st_ldcW {p : Program} {l : Launch} {e : Env} {R : Room} {s : State} {m : MethodId} {args : Array Value} {below : List Frame} {meth : Method} {c : Code} {T : State} {locs : List Loc} {cells slots : Nat}
    (X : Stand p l e R s m args below meth c T locs cells slots) (hexec : p.tables.exec = Jvm.exec) {own text : String} {index : Nat} {a : Addr} (hown : s.vm.findClass own = some m.cls)
    (hconst : (Cond.stringRef own index text).before args s = true) (hev : (Term.string own index).eval args s none [] s = some (.ref a)) {g : JFrame} (hg : g.method = m) (hdg : decode c.code g.pc = .ok (.ldc_w index, 3)) :
    ∀ target, Steps p.tables e below (T.setTop { g with pc := g.pc + 3, stack := .ref a :: g.stack }) target → Steps p.tables e below (T.setTop g) target := by
  obtain ⟨k, cf, i, a', hk, hcf, hcp, -, hr, hev'⟩ := Cond.stringRef_spec hown hconst
  cases hev.symm.trans hev'
  obtain ⟨k', hk', he⟩ := X.warmed.alike.2.2 _ _ hk
  have hr' : k'.resolved[index]? = some (some (.string a)) := by
    rcases X.warmed.entry hk hk' index with h | ⟨h, -⟩
    · rw [h]; exact hr
    · rw [hr] at h; cases h
  intro target hrest
  subst hg
  jvm_step X.here [hexec, hdg, ldc_w.wp_string (e := e) (s := T) (f := g) X.here.top hk' (by rw [he]; exact hcf) hcp hr']
  exact hrest
theorem jj_ldcW {l : Launch} {G : jj_G} {Y : jj_Y} {d : Nat} {F : jj_O → jj_H → Prop} {pc : Nat} {L : List (Option Value)} {st : List Value} {h : jj_H} {index i : Nat} {tx : String} (hd : decode Y.2.1 pc = .ok (.ldc_w index, 3)) (hq : (Y.1.cls, index, tx, i) ∈ jj_str) (k : jj_P l G Y d F (pc + 3) L (.ref (G.2.2.2.1 i) :: st) h) : jj_P l G Y d F pc L st h :=
  jj_still (fun _ _ _ _ _ _ _ _ _ _ _ _ _ _ ls hx hw _ _ _ _ kk T hT X => by
    obtain ⟨t, a1, b1⟩ := kk T hT X
    have hZ := hw.2.2.2.2.1.2.1 _ hq
    exact ⟨t, st_ldcW X hx.1 hx.2.2.2.1 (text := tx) (a := G.2.2.2.1 i) hZ.1 hZ.2 (g := F0 _ pc ls st) rfl (by rw [hx.2.1]; exact hd) t a1, b1⟩) k
/-! the reference's state with any group -/
def Pq (G : jj_G) (C : mo_C) (u o : Nat) (h : jj_H) : Prop := ∃ g, Pm G C u o g h
theorem Pq.rcv {G : jj_G} {C : mo_C} {u o : Nat} {h : jj_H} (hq : Pq G C u o h) : jj_rcv G h (C.2.1 0) "SourceTreeModel" := by
  obtain ⟨g, hm⟩ := hq
  exact hm.rcv
theorem Pq.le {G : jj_G} {C : mo_C} {u o : Nat} {h : jj_H} (hq : Pq G C u o h) (hu : 0 < u) : o ≤ 40 := by
  obtain ⟨g, wr, nw, ow, hb, q | ⟨-, -, -, -, -, q, -⟩⟩ := hq
  · omega
  · exact q
def mq_V (G : jj_G) (C : mo_C) (o : Nat) (P : Nat → Prop) : jj_O → jj_H → Prop := fun out h' => out = .inl none ∧ ∃ u', P u' ∧ Pq G C u' o h'
def mq_I (G : jj_G) (C : mo_C) (o : Nat) (P : Int32 → Nat → Prop) : jj_O → jj_H → Prop := fun out h' => ∃ (v : Int32) (u' : Nat), out = .inl (some (.int v)) ∧ P v u' ∧ Pq G C u' o h'
def mq_K (u : Nat) : Int32 → Nat → Prop := fun v u' => u' ≤ u ∧ (v ≠ 0 → 0 < u ∧ u' ≤ u - 1)
def mq_G (C : mo_C) (u : Nat) : Int32 → Nat → Prop := fun v u' => u' = u ∧ (v ≠ (-1) → 0 < u ∧ mo_nl C u)
section MQC
variable {l : Launch} {G : jj_G} {Y Y' : jj_Y} {d d' : Nat} {F : jj_O → jj_H → Prop} {pc : Nat} {L : List (Option Value)} {st as rest : List Value} {h : jj_H} {C : mo_C} {u o o' : Nat}
theorem mq_v {P : Nat → Prop} (hq : Pq G C u o h) (hQ : ∀ g, Pm G C u o g h → jj_Q l G Y' d' as h (mo_V G C o' g P)) : jj_Q l G Y' d' as h (mq_V G C o' P) := by
  obtain ⟨g, hm⟩ := hq
  refine (hQ g hm).imp ?_
  rintro out h1 ⟨hv, u', hP, hm1⟩
  exact ⟨hv, u', hP, g, hm1⟩
theorem mq_i {P P' : Int32 → Nat → Prop} (hq : Pq G C u o h) (hQ : ∀ g, Pm G C u o g h → jj_Q l G Y' d' as h (mo_I G C o' g P)) (hP9 : ∀ v u', P v u' → P' v u') : jj_Q l G Y' d' as h (mq_I G C o' P') := by
  obtain ⟨g, hm⟩ := hq
  refine (hQ g hm).imp ?_
  rintro out h1 ⟨v, u', hv, hP, hm1⟩
  exact ⟨v, u', hv, hP9 v u' hP, g, hm1⟩
theorem mq_k (hq : Pq G C u o h) (hQ : ∀ g, Pm G C u o g h → jj_Q l G Y' d' as h (mo_I G C o' g (mo_K u))) : jj_Q l G Y' d' as h (mq_I G C o' (mq_K u)) := by
  refine mq_i hq hQ ?_
  rintro v u' (⟨rfl, rfl⟩ | ⟨rfl, h1, h2⟩)
  · exact ⟨Nat.le_refl _, fun q => absurd rfl q⟩
  · exact ⟨by omega, fun _ => ⟨h1, h2⟩⟩
theorem mq_cv {P : Nat → Prop} (hQ : jj_Q l G Y' d' as h (mq_V G C o P)) (hR : ∀ o1 h1, jj_C l G Y' d' as h o1 h1 → jj_R l G Y d as h o1 h1 pc st rest) (k : ∀ (u' : Nat) (h1 : jj_H), P u' → Pq G C u' o h1 → jj_P l G Y d F (pc + 3) L rest h1) : jj_P l G Y d F pc L st h := by
  refine jj_callr hQ hR (by rintro E h1 ⟨q, -⟩; cases q) ?_
  rintro v h1 ⟨hv, u', hP, hm⟩
  cases hv
  exact k u' h1 hP hm
theorem mq_ci {P : Int32 → Nat → Prop} (hQ : jj_Q l G Y' d' as h (mq_I G C o P)) (hR : ∀ o1 h1, jj_C l G Y' d' as h o1 h1 → jj_R l G Y d as h o1 h1 pc st rest) (k : ∀ (v : Int32) (u' : Nat) (h1 : jj_H), P v u' → Pq G C u' o h1 → jj_P l G Y d F (pc + 3) L (.int v :: rest) h1) : jj_P l G Y d F pc L st h := by
  refine jj_callr hQ hR (by rintro E h1 ⟨v, u, q, -⟩; cases q) ?_
  rintro v h1 ⟨v9, u', hv, hP, hm⟩
  cases hv
  exact k v9 u' h1 hP hm
end MQC
/-- the contracts that are proved by how deep may still be gone -/
def mo_Ex (l : Launch) (G : jj_G) (C : mo_C) (m : Nat) : Prop := ∀ (u o : Nat) (h : jj_H) (d : Nat), (u = 0 ∨ o + m = 41) → Pq G C u o h → 18 + 20 * m ≤ d → jj_Q l G y_MO_expression d [.ref (C.2.1 0)] h (mq_V G C o (fun u' => u' ≤ u - 1))
def mo_St (l : Launch) (G : jj_G) (C : mo_C) (m : Nat) : Prop := ∀ (u o : Nat) (h : jj_H) (d : Nat), (u = 0 ∨ o + m = 41) → Pq G C u o h → 23 + 20 * m ≤ d → jj_Q l G y_MO_statements d [.ref (C.2.1 0)] h (mq_V G C o (fun u' => u' ≤ u))
def mo_Co (l : Launch) (G : jj_G) (C : mo_C) (m : Nat) : Prop := ∀ (u o : Nat) (h : jj_H) (d : Nat), (u = 0 ∨ o + m = 41) → Pq G C u o h → 26 + 20 * m ≤ d → jj_Q l G y_MO_concurrents d [.ref (C.2.1 0)] h (mq_V G C o (fun u' => u' ≤ u))
theorem mq_must {l : Launch} {G : jj_G} {C : mo_C} {u o d : Nat} {h : jj_H} {x : Int32} (hG : jj_tyG G) (hk : mo_k C) (hdd : 1 ≤ d) (hq : Pq G C u o h) : jj_Q l G y_MO_must d [.ref (C.2.1 0), .int x] h (mq_V G C o (fun u' => u' ≤ u)) := by
  obtain ⟨g, hm⟩ := hq
  refine (m_must hG hk hdd hm).imp ?_
  rintro out h1 ⟨hv, u', hP, hm1⟩
  refine ⟨hv, u', ?_, g, hm1⟩
  rcases hP with ⟨-, q⟩ | ⟨-, q⟩ <;> omega
