/-! the law's own helpers -/
set_option maxRecDepth 100000 in
set_option maxHeartbeats 4000000 in
theorem c_LW_text {l : Launch} {G : jj_G} {X : sy_X} {K o N d : Nat} {h : jj_H} {x y z w : Int32} (hG : sy_G G X) (hN : N ≤ 16384) (hdd : 10 ≤ d) (hs : Sy G X K o N h) : jj_Q l G y_LW_text d [.ref (X.2.2.1 9), .int x, .int y, .int z, .int w] h (fun out h' => (N ≤ 16368 ∧ out = .inl (some (.int 0)) ∧ Sy G X K o (N + 16) h') ∨ (16368 < N ∧ out = .inl (some (.int 1)) ∧ Sy G X (K + 1) o N h')) := by
  refine jj_Q.of (by decide +kernel) (Nat.le_of_ble_eq_true rfl) ?_
  refine jj_aload_n (j := 0) (by decide +kernel) rfl ?_
  refine jj_iload_n (j := 1) (by decide +kernel) rfl ?_
  refine jj_iload_n (j := 2) (by decide +kernel) rfl ?_
  refine jj_iload_n (j := 3) (by decide +kernel) rfl ?_
  refine jj_iload (i := 4) (by decide +kernel) rfl ?_
  obtain ⟨o1, h1, hP, hC⟩ := s_ST_text (l := l) (d := d - 1) (x := x) (y := y) (z := z) (w := w) hG hN (by omega) hs
  have hR : jj_R l G y_LW_text d [.ref (X.2.2.1 9), .int x, .int y, .int z, .int w] h o1 h1 6 [.int w, .int z, .int y, .int x, .ref (X.2.2.1 9)] [] := jj_callV (As := [.int x, .int y, .int z, .int w]) ok_ST_text ml_LW_7 im_ST_text se_ST_ST_text (by decide +kernel) (hs.rcST hG.2) rfl (by omega) (Nat.le_of_ble_eq_true rfl) hC
  rcases hP with ⟨a, rfl, b⟩ | ⟨a, rfl, b⟩
  · refine hR.ret hC.1 ?_
    refine jj_goto (off := 7) (tgt := 16) (by decide +kernel) (by decide) ?_
    refine jj_iconst (n := 0) (v := 0) (by decide +kernel) (by decide) ?_
    exact jj_iret .int (by decide +kernel) rfl rfl (Or.inl ⟨a, rfl, b⟩)
  · refine hR.catchA [] _ [] rfl (by intro z hz; cases hz) (by decide +kernel) (by decide) cl_LW_13 cs_JI_JI (i := 5) (len := 2) (Or.inl ⟨(by decide +kernel), rfl⟩) (by decide) rfl hC.1 ?_
    refine jj_iconst (n := 1) (v := 1) (by decide +kernel) (by decide) ?_
    exact jj_iret .int (by decide +kernel) rfl rfl (Or.inr ⟨a, rfl, b⟩)
set_option maxRecDepth 100000 in
set_option maxHeartbeats 4000000 in
theorem c_LW_cut {l : Launch} {G : jj_G} {X : sy_X} {K o N d : Nat} {h : jj_H} {x : Int32} (hG : sy_G G X) (hN : N ≤ 16384) (hdd : 10 ≤ d) (hs : Sy G X K o N h) : jj_Q l G y_LW_cut d [.ref (X.2.2.1 9), .int x] h (fun out h' => (∃ j : Nat, j ≤ N ∧ x = nI j ∧ out = .inl (some (.int 0)) ∧ Sy G X K o j h') ∨ ((x < 0 ∨ nI N < x) ∧ out = .inl (some (.int 1)) ∧ Sy G X (K + 1) o N h')) := by
  refine jj_Q.of (by decide +kernel) (Nat.le_of_ble_eq_true rfl) ?_
  refine jj_aload_n (j := 0) (by decide +kernel) rfl ?_
  refine jj_iload_n (j := 1) (by decide +kernel) rfl ?_
  obtain ⟨o1, h1, hP, hC⟩ := s_ST_cut (l := l) (d := d - 1) (x := x) hG hN (by omega) hs
  have hR : jj_R l G y_LW_cut d [.ref (X.2.2.1 9), .int x] h o1 h1 2 [.int x, .ref (X.2.2.1 9)] [] := jj_callV (As := [.int x]) ok_ST_cut ml_LW_15 im_ST_cut se_ST_ST_cut (by decide +kernel) (hs.rcST hG.2) rfl (by omega) (Nat.le_of_ble_eq_true rfl) hC
  rcases hP with ⟨j, a, e, rfl, b⟩ | ⟨a, rfl, b⟩
  · refine hR.ret hC.1 ?_
    refine jj_goto (off := 6) (tgt := 11) (by decide +kernel) (by decide) ?_
    refine jj_iconst (n := 0) (v := 0) (by decide +kernel) (by decide) ?_
    exact jj_iret .int (by decide +kernel) rfl rfl (Or.inl ⟨j, a, e, rfl, b⟩)
  · refine hR.catchA [] _ [] rfl (by intro z hz; cases hz) (by decide +kernel) (by decide) cl_LW_19 cs_JG_JG (i := 2) (len := 1) (Or.inr ⟨2, rfl, (by decide +kernel), rfl⟩) (by decide) rfl hC.1 ?_
    refine jj_iconst (n := 1) (v := 1) (by decide +kernel) (by decide) ?_
    exact jj_iret .int (by decide +kernel) rfl rfl (Or.inr ⟨a, rfl, b⟩)
/-- the law's one long, at q: a system's state with it written or not -/
def lx_P (G : jj_G) (X : sy_X) (K N q : Nat) : jj_O → jj_H → Prop := fun out h' => ∃ (v : Int32) (K' o' : Nat) (h2 : jj_H), K' ≤ K + 1 ∧ out = .inl (some (.int v)) ∧ Sy G X K' o' N h2 ∧ (h' = h2 ∨ ∃ f : Nat → Int64, h' = (jj_up h2.1 q (.inl (jj_cL G, 1, .inr (.inl f))), h2.2))
set_option maxRecDepth 100000 in
set_option maxHeartbeats 4000000 in
theorem c_LW_node {l : Launch} {G : jj_G} {X : sy_X} {K o N d : Nat} {h : jj_H} {x1 x2 : Int32} {q : Nat} {f : Nat → Int64} (hG : sy_G G X) (hq1 : q < X.1.2.1) (hq2 : ¬ X.2.1 q) (hq3 : X.1.1 q = some (.inl (jj_cL G, 1, .inr (.inl f)))) (hdd : 10 ≤ d) (hs : Sy G X K o N h) : jj_Q l G y_LW_node d [.ref (X.2.2.1 9), .int x1, .int x2, .ref q] h (lx_P G X K N q) := by
  refine jj_Q.of (by decide +kernel) (Nat.le_of_ble_eq_true rfl) ?_
  refine jj_aload_n (j := 3) (by decide +kernel) rfl ?_
  refine jj_iconst (n := 0) (v := 0) (by decide +kernel) (by decide) ?_
  refine jj_aload_n (j := 0) (by decide +kernel) rfl ?_
  refine jj_iload_n (j := 1) (by decide +kernel) rfl ?_
  refine jj_iload_n (j := 2) (by decide +kernel) rfl ?_
  obtain ⟨o1, h1, hP, hC⟩ := s_ST_node (l := l) (d := d - 1) (x1 := x1) (x2 := x2) hG (by omega) hs
  have hR : jj_R l G y_LW_node d [.ref (X.2.2.1 9), .int x1, .int x2] h o1 h1 5 [.int x2, .int x1, .ref (X.2.2.1 9), .int 0, .ref q] [.int 0, .ref q] := jj_callV (As := [.int x1, .int x2]) ok_ST_node ml_LW_21 im_ST_node se_ST_ST_node (by decide +kernel) (hs.rcST hG.2) rfl (by omega) (Nat.le_of_ble_eq_true rfl) hC
  rcases hP with ⟨v, rfl, hS⟩ | ⟨E, hE, rfl, hS⟩
  · refine hR.ret hC.1 ?_
    refine jj_i2l (by decide +kernel) ?_
    have hq4 : h1.1 q = some (.inl (jj_cL G, 1, .inr (.inl f))) := (hS.frame.2 q hq1 hq2).trans hq3
    refine jj_lastore (jj_tL hG.1) (by decide +kernel) hq4 (vp_in_nI (n := 0) (by decide) (by decide)) ?_
    refine jj_goto (off := 11) (tgt := 21) (by decide +kernel) (by decide) ?_
    refine jj_iconst (n := 0) (v := 0) (by decide +kernel) (by decide) ?_
    exact jj_iret .int (by decide +kernel) rfl rfl ⟨_, K, o, h1, Nat.le_succ _, rfl, hS, Or.inr ⟨_, rfl⟩⟩
  · rcases List.mem_cons.mp hE with rfl | hE
    · refine hR.catchA [] _ [_] rfl (by intro z hz; cases hz) (by decide +kernel) (by decide) cl_LW_25 cs_JX_JX (i := 4) (len := 2) (Or.inl ⟨(by decide +kernel), rfl⟩) (by decide) rfl hC.1 ?_
      refine jj_iconst (n := 1) (v := 1) (by decide +kernel) (by decide) ?_
      exact jj_iret .int (by decide +kernel) rfl rfl ⟨_, K + 1, o, _, Nat.le_refl _, rfl, hS, Or.inl rfl⟩
    · rcases List.mem_cons.mp hE with rfl | hE
      · refine hR.catchA [_] _ [] rfl (by
            intro z hz
            rcases List.mem_cons.mp hz with rfl | q
            · exact Or.inr ⟨by decide, _, cl_LW_25, List.mem_cons_self⟩
            · cases q) (by decide +kernel) (by decide) cl_LW_19 cs_JG_JG (i := 4) (len := 2) (Or.inl ⟨(by decide +kernel), rfl⟩) (by decide) rfl hC.1 ?_
        refine jj_iconst (n := 2) (v := 2) (by decide +kernel) (by decide) ?_
        exact jj_iret .int (by decide +kernel) rfl rfl ⟨_, K + 1, o, _, Nat.le_refl _, rfl, hS, Or.inl rfl⟩
      · cases hE
set_option maxRecDepth 100000 in
set_option maxHeartbeats 4000000 in
theorem c_LW_name {l : Launch} {G : jj_G} {X : sy_X} {K o N d : Nat} {h : jj_H} {x1 x2 : Int32} {q : Nat} {f : Nat → Int64} (hG : sy_G G X) (hq1 : q < X.1.2.1) (hq2 : ¬ X.2.1 q) (hq3 : X.1.1 q = some (.inl (jj_cL G, 1, .inr (.inl f)))) (hdd : 10 ≤ d) (hs : Sy G X K o N h) : jj_Q l G y_LW_name d [.ref (X.2.2.1 9), .int x1, .int x2, .ref q] h (lx_P G X K N q) := by
  refine jj_Q.of (by decide +kernel) (Nat.le_of_ble_eq_true rfl) ?_
  refine jj_aload_n (j := 3) (by decide +kernel) rfl ?_
  refine jj_iconst (n := 0) (v := 0) (by decide +kernel) (by decide) ?_
  refine jj_aload_n (j := 0) (by decide +kernel) rfl ?_
  refine jj_iload_n (j := 1) (by decide +kernel) rfl ?_
  refine jj_iload_n (j := 2) (by decide +kernel) rfl ?_
  obtain ⟨o1, h1, hP, hC⟩ := s_ST_name (l := l) (d := d - 1) (x1 := x1) (x2 := x2) hG (by omega) hs
  have hR : jj_R l G y_LW_name d [.ref (X.2.2.1 9), .int x1, .int x2] h o1 h1 5 [.int x2, .int x1, .ref (X.2.2.1 9), .int 0, .ref q] [.int 0, .ref q] := jj_callV (As := [.int x1, .int x2]) ok_ST_name ml_LW_27 im_ST_name se_ST_ST_name (by decide +kernel) (hs.rcST hG.2) rfl (by omega) (Nat.le_of_ble_eq_true rfl) hC
  rcases hP with ⟨v, rfl, hS⟩ | ⟨E, hE, rfl, hS⟩
  · refine hR.ret hC.1 ?_
    refine jj_i2l (by decide +kernel) ?_
    have hq4 : h1.1 q = some (.inl (jj_cL G, 1, .inr (.inl f))) := (hS.frame.2 q hq1 hq2).trans hq3
    refine jj_lastore (jj_tL hG.1) (by decide +kernel) hq4 (vp_in_nI (n := 0) (by decide) (by decide)) ?_
    refine jj_goto (off := 7) (tgt := 17) (by decide +kernel) (by decide) ?_
    refine jj_iconst (n := 0) (v := 0) (by decide +kernel) (by decide) ?_
    exact jj_iret .int (by decide +kernel) rfl rfl ⟨_, K, o, h1, Nat.le_succ _, rfl, hS, Or.inr ⟨_, rfl⟩⟩
  · rcases List.mem_cons.mp hE with rfl | hE
    · refine hR.catchA [] _ [] rfl (by intro z hz; cases hz) (by decide +kernel) (by decide) cl_LW_25 cs_JX_JX (i := 4) (len := 2) (Or.inl ⟨(by decide +kernel), rfl⟩) (by decide) rfl hC.1 ?_
      refine jj_iconst (n := 1) (v := 1) (by decide +kernel) (by decide) ?_
      exact jj_iret .int (by decide +kernel) rfl rfl ⟨_, K + 1, o, _, Nat.le_refl _, rfl, hS, Or.inl rfl⟩
    · cases hE
