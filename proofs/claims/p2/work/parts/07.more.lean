/-! more instructions -/
section JJM
variable {l : Launch} {G : jj_G} {Y : jj_Y} {d : Nat} {F : jj_O → jj_H → Prop} {pc : Nat} {L : List (Option Value)} {st : List Value} {h : jj_H}
/-- a step that leaves the heap as it is -/
theorem jj_still {pc' : Nat} {st' : List Value}
    (hs : ∀ (p : Program) (e : Env) (R : Room) (s : State) (m : MethodId) (args : Array Value) (below : List Frame) (meth : Method) (c : Code) (H : Heap) (locs : List Loc) (cells slots : Nat) (Q : State → Prop) (ls : Array Slot), jj_cx Y l p s m args meth c → jj_wd G s → (d ≤ R.frames ∧ 40 * d ≤ R.locals) → va_S (jj_A G) s.heap H locs → jj_hp G h H → jj_L Y.2.2.1 L ls →
      W p l e R s m args below meth c H locs cells slots Q (F0 m pc' ls st') → W p l e R s m args below meth c H locs cells slots Q (F0 m pc ls st))
    (k : jj_P l G Y d F pc' L st' h) : jj_P l G Y d F pc L st h := by
  obtain ⟨o, h', hF, hm, hE⟩ := k
  refine ⟨o, h', hF, hm, fun p e R s m args below meth c H locs cells slots Q ls hx hw hr hS hH hL hK => ?_⟩
  exact hs p e R s m args below meth c H locs cells slots Q ls hx hw hr.1 hS hH hL (hE p e R s m args below meth c H locs cells slots Q ls hx hw hr hS hH hL hK)
theorem jj_lcmp {x y : Int64} (hd : decode Y.2.1 pc = .ok (.lcmp, 1)) (k : jj_P l G Y d F (pc + 1) L (.int (lg_cmp x y) :: st) h) : jj_P l G Y d F pc L (.long y :: .long x :: st) h :=
  jj_still (fun _ _ _ _ _ _ _ _ _ _ _ _ _ _ _ hx _ _ _ _ _ kk => W.lcmp hx.1 hx.2.1 hd kk) k
theorem jj_ldcS {index i : Nat} {tx : String} (hd : decode Y.2.1 pc = .ok (.ldc index, 2)) (hq : (Y.1.cls, index, tx, i) ∈ jj_str) (k : jj_P l G Y d F (pc + 2) L (.ref (G.2.2.2.1 i) :: st) h) : jj_P l G Y d F pc L st h :=
  jj_still (fun _ _ _ _ _ _ _ _ _ _ _ _ _ _ ls hx hw _ _ _ _ kk T hT X => by
    obtain ⟨t, a1, b1⟩ := kk T hT X
    have hZ := hw.2.2.2.2.1.2.1 _ hq
    exact ⟨t, X.ldcString hx.1 hx.2.2.2.1 (text := tx) (a := G.2.2.2.1 i) hZ.1 hZ.2 (g := F0 _ pc ls st) rfl (by rw [hx.2.1]; exact hd) t a1, b1⟩) k
theorem jj_coder {index i : Nat} (hi : i < jj_nS) (hl : Cond.fieldLink Y.1.cls index "java/lang/String" "coder" "B" ∈ jj_T) (hd : decode Y.2.1 pc = .ok (.getfield index, 3)) (k : jj_P l G Y d F (pc + 3) L (.int 0 :: st) h) : jj_P l G Y d F pc L (.ref (G.2.2.2.1 i) :: st) h :=
  jj_still (fun _ _ _ _ _ _ _ _ _ _ _ _ _ _ _ hx hw _ hS _ _ kk => vk_getf hx.1 hx.2.1 (hw.2.2.2.2.1.1.1 i hi).2.1 hS hx.2.2.2.1 (hx.2.2.2.2.1 _ hl) (fun _ q => q) hd kk) k
theorem jj_value {index i : Nat} (hi : i < jj_nS) (hl : Cond.fieldLink Y.1.cls index "java/lang/String" "value" "[B" ∈ jj_T) (hd : decode Y.2.1 pc = .ok (.getfield index, 3)) (k : jj_P l G Y d F (pc + 3) L (.ref (G.2.2.2.2.1 i) :: st) h) : jj_P l G Y d F pc L (.ref (G.2.2.2.1 i) :: st) h :=
  jj_still (fun _ _ _ _ _ _ _ _ _ _ _ _ _ _ _ hx hw _ hS _ _ kk => vk_getf hx.1 hx.2.1 (hw.2.2.2.2.1.1.1 i hi).2.2.1 hS hx.2.2.2.1 (hx.2.2.2.2.1 _ hl) (fun _ q => q) hd kk) k
theorem jj_getstatic {index : Nat} {C n dd : String} {v : Value} (hq : (C, n, dd, v) ∈ jj_sta) (hl : Cond.fieldLink Y.1.cls index C n dd ∈ jj_T) (hd : decode Y.2.1 pc = .ok (.getstatic index, 3)) (k : jj_P l G Y d F (pc + 3) L (v :: st) h) : jj_P l G Y d F pc L st h :=
  jj_still (fun _ _ _ _ _ _ _ _ _ _ _ _ _ _ _ hx hw _ hS _ _ kk => va_gets hx.1 hx.2.1 (hw.2.2.2.2.1.2.2.1.1 _ hq) hS hx.2.2.2.1 (hx.2.2.2.2.1 _ hl) (fun _ q => q) hd kk) k
theorem jj_getSIO {index : Nat} (hl : Cond.fieldLink Y.1.cls index "jdk/internal/util/Preconditions" "SIOOBE_FORMATTER" "Ljava/util/function/BiFunction;" ∈ jj_T) (hd : decode Y.2.1 pc = .ok (.getstatic index, 3)) (k : jj_P l G Y d F (pc + 3) L (jj_sv G :: st) h) : jj_P l G Y d F pc L st h :=
  jj_still (fun _ _ _ _ _ _ _ _ _ _ _ _ _ _ _ hx hw _ hS _ _ kk => va_gets hx.1 hx.2.1 hw.2.2.2.2.1.2.2.1.2 hS hx.2.2.2.1 (hx.2.2.2.2.1 _ hl) (fun _ q => q) hd kk) k
theorem jj_strlen {i : Nat} (hi : i < jj_nS) (hd : decode Y.2.1 pc = .ok (.arraylength, 1)) (k : jj_P l G Y d F (pc + 1) L (.int (nI (jj_lS.getD i 0)) :: st) h) : jj_P l G Y d F pc L (.ref (G.2.2.2.2.1 i) :: st) h :=
  jj_still (fun _ _ _ _ _ _ _ _ _ _ _ _ _ _ _ hx hw _ hS _ _ kk => va_tlen hx.1 hx.2.1 (hw.2.2.2.2.1.1.1 i hi).2.2.2 hS rfl hd kk) k
theorem jj_strbyte {i : Nat} {j : Int32} (hi : i < jj_nS) (hj : vp_in j (jj_lS.getD i 0)) (hd : decode Y.2.1 pc = .ok (.baload, 1)) (k : jj_P l G Y d F (pc + 1) L (.int ((jj_bS.getD i []).getD j.toNatClampNeg 0) :: st) h) : jj_P l G Y d F pc L (.int j :: .ref (G.2.2.2.2.1 i) :: st) h :=
  jj_still (fun _ _ _ _ _ _ _ _ _ _ _ _ _ _ _ hx hw _ hS _ _ kk => va_tb hx.1 hx.2.1 (hw.2.2.2.2.1.1.1 i hi).2.2.2 hS hj rfl hd kk) k
theorem jj_scrlen (hd : decode Y.2.1 pc = .ok (.arraylength, 1)) (k : jj_P l G Y d F (pc + 1) L (.int (nI G.2.2.2.2.2.2.1) :: st) h) : jj_P l G Y d F pc L (.ref G.2.2.2.2.2.1 :: st) h :=
  jj_still (fun _ _ _ s _ _ _ _ _ _ _ _ _ _ _ hx hw _ hS _ _ kk => va_slen (H0 := s.heap) hx.1 hx.2.1 hw.2.2.2.2.1.2.2.2.1 (Nat.lt_of_lt_of_le hw.2.2.2.2.1.2.2.2.2 hw.2.1) (Nat.not_le.mpr hw.2.2.2.2.1.2.2.2.2) hS hd kk) k
theorem jj_scrload {i : Int32} (hi : vp_in i G.2.2.2.2.2.2.1) (hd : decode Y.2.1 pc = .ok (.iaload, 1)) (k : jj_P l G Y d F (pc + 1) L (.int (G.2.2.2.2.2.2.2 i.toNatClampNeg) :: st) h) : jj_P l G Y d F pc L (.int i :: .ref G.2.2.2.2.2.1 :: st) h :=
  jj_still (fun _ _ _ s _ _ _ _ _ _ _ _ _ _ _ hx hw _ hS _ _ kk => va_sld (H0 := s.heap) hx.1 hx.2.1 hw.2.2.2.2.1.2.2.2.1 (Nat.lt_of_lt_of_le hw.2.2.2.2.1.2.2.2.2 hw.2.1) (Nat.not_le.mpr hw.2.2.2.2.1.2.2.2.2) hS hi hd kk) k
theorem jj_objInit {idx a : Nat} (hl : Cond.methodLink Y.1.cls idx Lib.objectInit ∈ jj_T) (hi : Cond.instanceMethod Lib.objectInit ∈ jj_T) (hc : Cond.code Lib.objectInit ⟨#[0xb1]⟩ 1 none ∈ jj_T) (hd : decode Y.2.1 pc = .ok (.invokespecial idx, 3)) (hdd : 1 ≤ d) (hsum : (st.map fun v => v.category).sum ≤ 20) (k : jj_P l G Y d F (pc + 3) L st h) : jj_P l G Y d F pc L (.ref a :: st) h :=
  jj_still (fun _ _ R _ m _ _ _ _ _ _ _ _ _ ls hx hw hr hS _ hL kk => by
    have hts := hx.2.2.2.2.1
    exact W.objInit hx.1 hx.2.1 hx.2.2.2.1 (hts _ hl) (hts _ hi) (hts _ hc) (g := F0 m pc ls (.ref a :: st)) rfl (hL.1.trans hx.2.2.1.symm) rfl hd (by omega) (by show 2 * 0 + _ + 12 ≤ R.locals; omega) kk) k
theorem jj_lookup {dflt : Int} {ps : Array (Int × Int)} {len : Nat} {x : Int32} {off : Int} {tgt : Nat} (hd : decode Y.2.1 pc = .ok (.lookupswitch dflt ps, len)) (hp : (ps.toList.zip (ps.toList.drop 1)).all (fun (a, next) => a.1 < next.1) = true) (ho : Op.lookupswitch.offset ps.toList dflt x.toInt = off) (ht : (pc : Int) + off = (tgt : Int)) (k : jj_P l G Y d F tgt L st h) : jj_P l G Y d F pc L (.int x :: st) h :=
  jj_still (fun _ _ _ _ _ _ _ _ _ _ _ _ _ _ _ hx _ _ _ _ _ kk => lv_lookup hx.1 hx.2.1 hd hp ho ht kk) k
theorem jj_tableOut {dflt lo hi : Int} {offs : Array Int} {len : Nat} {x : Int32} {tgt : Nat} (hd : decode Y.2.1 pc = .ok (.tableswitch dflt lo hi offs, len)) (hx0 : x.toInt < lo ∨ hi < x.toInt) (ht : (pc : Int) + dflt = (tgt : Int)) (k : jj_P l G Y d F tgt L st h) : jj_P l G Y d F pc L (.int x :: st) h :=
  jj_still (fun _ _ _ _ _ _ _ _ _ _ _ _ _ _ _ hx _ _ _ _ _ kk => lv_tableOut hx.1 hx.2.1 hd hx0 ht kk) k
theorem jj_tableIn {dflt lo hi : Int} {offs : Array Int} {len : Nat} {x : Int32} {off : Int} {tgt : Nat} (hd : decode Y.2.1 pc = .ok (.tableswitch dflt lo hi offs, len)) (h1 : ¬ x.toInt < lo) (h2 : ¬ hi < x.toInt) (ho : offs[(x.toInt - lo).toNat]? = some off) (ht : (pc : Int) + off = (tgt : Int)) (k : jj_P l G Y d F tgt L st h) : jj_P l G Y d F pc L (.int x :: st) h :=
  jj_still (fun _ _ _ _ _ _ _ _ _ _ _ _ _ _ _ hx _ _ _ _ _ kk => lv_tableIn hx.1 hx.2.1 hd h1 h2 ho ht kk) k
theorem jj_baload {a t0 n : Nat} {cA : ClassId} {f : Nat → Int32} {i : Int32} (ht : G.2.2.1[t0]? = some (cA, .byte)) (hd : decode Y.2.1 pc = .ok (.baload, 1)) (ha : h.1 a = some (.inl (cA, n, .inl f))) (hi : vp_in i n) (k : jj_P l G Y d F (pc + 1) L (.int (f i.toNatClampNeg) :: st) h) : jj_P l G Y d F pc L (.int i :: .ref a :: st) h :=
  jj_still (fun _ _ _ _ _ _ _ _ _ _ _ _ _ _ _ hx hw _ _ hH _ kk => va_bald hx.1 hx.2.1 hw.1 (hH.one ha) 0 t0 rfl ht hi hd kk) k
theorem jj_bastore {a t0 n : Nat} {cA : ClassId} {f : Nat → Int32} {i x : Int32} (ht : G.2.2.1[t0]? = some (cA, .byte)) (hd : decode Y.2.1 pc = .ok (.bastore, 1)) (ha : h.1 a = some (.inl (cA, n, .inl f))) (hi : vp_in i n)
    (kk : jj_P l G Y d F (pc + 1) L st (jj_up h.1 a (.inl (cA, n, .inl (upd f i.toNatClampNeg (vp_nar .byte x)))), h.2)) : jj_P l G Y d F pc L (.int x :: .int i :: .ref a :: st) h := by
  obtain ⟨o, h', hF, hm, hE⟩ := kk
  refine ⟨o, h', hF, hm, fun p e R s m args below meth c H locs cells slots Q ls hx hw hr hS hH hL hK => ?_⟩
  have hc : H[a]? = some (vp_cell cA (n, .inl f)) := (hH.2.2 a _ ha).2
  refine W.bast hx.1 hx.2.1 hc ((hw.1.2 t0 _ ht).1 n (fun j => .int (f j))) (fun q => by cases q) (by show ¬ (i < 0 ∨ (arrV _ _ _).slots.size ≤ _); rw [arrV_size]; exact hi) rfl rfl hd fun H1 e1 z oq => ?_
  refine hE p e R s m args below meth c H1 _ cells slots Q ls hx hw hr (hS.put z oq (hH.2.2 a _ ha).1) (hH.put ha ?_ z oq) hL hK
  show H1[a]? = some (vp_cell _ _)
  rw [e1, vp_cell_i, vp_cell_i, arrV_store]
  congr 2
  funext q
  by_cases hq : q = i.toNatClampNeg
  · subst hq
    simp [updV, upd, vp_nar, narrow]
  · simp [updV, upd, hq]
theorem jj_lastore {a t0 n : Nat} {cA : ClassId} {f : Nat → Int64} {i : Int32} {x : Int64} (ht : G.2.2.1[t0]? = some (cA, .long)) (hd : decode Y.2.1 pc = .ok (.lastore, 1)) (ha : h.1 a = some (.inl (cA, n, .inr (.inl f)))) (hi : vp_in i n)
    (kk : jj_P l G Y d F (pc + 1) L st (jj_up h.1 a (.inl (cA, n, .inr (.inl (vp_updL f i.toNatClampNeg x)))), h.2)) : jj_P l G Y d F pc L (.long x :: .int i :: .ref a :: st) h := by
  obtain ⟨o, h', hF, hm, hE⟩ := kk
  refine ⟨o, h', hF, hm, fun p e R s m args below meth c H locs cells slots Q ls hx hw hr hS hH hL hK => ?_⟩
  have hc : H[a]? = some (vp_cell cA (n, .inr (.inl f))) := (hH.2.2 a _ ha).2
  refine W.last hx.1 hx.2.1 hc ((hw.1.2 t0 _ ht).1 n (fun j => .long (f j))) (fun q => by cases q) (by show ¬ (i < 0 ∨ (arrV _ _ _).slots.size ≤ _); rw [arrV_size]; exact hi) rfl rfl hd fun H1 e1 z oq => ?_
  refine hE p e R s m args below meth c H1 _ cells slots Q ls hx hw hr (hS.put z oq (hH.2.2 a _ ha).1) (hH.put ha ?_ z oq) hL hK
  show H1[a]? = some (vp_cell _ _)
  rw [e1, vp_cell_l, vp_cell_l, arrV_store]
  congr 2
  funext q
  by_cases hq : q = i.toNatClampNeg
  · subst hq
    simp [updV, vp_updL]
  · simp [updV, vp_updL, hq]
/-- a call of any kind by its contract: what returned goes on, what was thrown is this method's own outcome -/
theorem jj_call {Y' : jj_Y} {d' : Nat} {as rest : List Value} {P : jj_O → jj_H → Prop} (hQ : jj_Q l G Y' d' as h P) (hR : ∀ o1 h1, jj_C l G Y' d' as h o1 h1 → jj_R l G Y d as h o1 h1 pc st rest) (hcov : (tableOf Y.2.2.2.2).all (fun x => !covers x pc) = true)
    (kr : ∀ (v : Option Value) (h1 : jj_H), P (.inl v) h1 → jj_P l G Y d F (pc + 3) L (v.toList ++ rest) h1) (kx : ∀ (E : String) (h1 : jj_H), P (.inr E) h1 → F (.inr E) h1) : jj_P l G Y d F pc L st h := by
  obtain ⟨o1, h1, hP, hC⟩ := hQ
  cases o1 with
  | inl v => exact (hR _ _ hC).ret hC.1 (kr v h1 hP)
  | inr E => exact (hR _ _ hC).thr hC.1 hcov (kx E h1 hP)
/-- .. of a callee that only returns -/
theorem jj_callr {Y' : jj_Y} {d' : Nat} {as rest : List Value} {P : jj_O → jj_H → Prop} (hQ : jj_Q l G Y' d' as h P) (hR : ∀ o1 h1, jj_C l G Y' d' as h o1 h1 → jj_R l G Y d as h o1 h1 pc st rest) (hx : ∀ (E : String) (h1 : jj_H), ¬ P (.inr E) h1)
    (kr : ∀ (v : Option Value) (h1 : jj_H), P (.inl v) h1 → jj_P l G Y d F (pc + 3) L (v.toList ++ rest) h1) : jj_P l G Y d F pc L st h := by
  obtain ⟨o1, h1, hP, hC⟩ := hQ
  cases o1 with
  | inl v => exact (hR _ _ hC).ret hC.1 (kr v h1 hP)
  | inr E => exact absurd hP (hx E h1)
end JJM
