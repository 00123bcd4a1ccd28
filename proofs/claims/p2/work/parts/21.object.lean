/-! the object's own methods -/
theorem iae_ok : Bundle.fit "java/lang/IllegalArgumentException" = true := by decide +kernel
theorem iob_ok : Bundle.fit "java/lang/IndexOutOfBoundsException" = true := by decide +kernel
theorem Sy.thrown {G : jj_G} {X : sy_X} {K o N : Nat} {h : jj_H} (hs : Sy G X K o N h) (hX : X.2.2.2.2.2 = false) : Sy G X (K + 1) o N (h.1, h.2.1 + 1, h.2.2 + 6) :=
  hs.newGR hX (j := 1) (hs.gr hX) (fun _ _ => rfl) (Nat.le_succ _) (Nat.le_refl _) (Nat.le_refl _)
set_option maxRecDepth 100000 in
set_option maxHeartbeats 4000000 in
theorem s_ST_addFour {l : Launch} {G : jj_G} {X : sy_X} {K o N d : Nat} {h : jj_H} {x : Int32} (hG : sy_G G X) (hN : N + 4 ≤ 32768) (hdd : 6 ≤ d) (hs : Sy G X K o N h) : jj_Q l G y_ST_addFour d [.ref (X.2.2.1 9), .int x] h (sy_F 0 false G X K o (N + 4)) := by
  refine jj_Q.of (by decide +kernel) (Nat.le_of_ble_eq_true rfl) ?_
  refine jj_bipush (n := 24) (v := 24) (by decide +kernel) (by decide) ?_
  refine jj_istore_n (j := 2) (by decide +kernel) (by decide) rfl ?_
  refine jj_iload_n (j := 2) (by decide +kernel) rfl ?_
  refine jj_if_lt (off := 23) (tgt := 27) (by decide +kernel) (by decide) (fun c1 => absurd c1 (by decide)) (fun c1 => ?_)
  refine jj_aload_n (j := 0) (by decide +kernel) rfl ?_
  obtain ⟨fp, hg⟩ := hs.st hG.2
  refine jj_getfield 0 ck_ST fl_ST_14 (by decide) (by decide +kernel) hg rfl ?_
  refine jj_iload_n (j := 1) (by decide +kernel) rfl ?_
  refine jj_iload_n (j := 2) (by decide +kernel) rfl ?_
  refine jj_ishr (by decide +kernel) ?_
  refine jj_sipush (n := 255) (v := 255) (by decide +kernel) (by decide) ?_
  refine jj_iand (by decide +kernel) ?_
  refine sy_cv (s_cha_add (d := d - 1) hG.1 (sy_o hG.2) hs (by omega) (by omega)) (fun o1 h1 hC => jj_callV ok_IR_add ml_ST_111 im_IR_add se_IR_IR_add (by decide +kernel) (hs.rcR (t := 0) (by decide) (sy_o hG.2)) rfl (by omega) (Nat.le_of_ble_eq_true rfl) hC) rfl (fun q => by cases q) (fun h hs => ?_)
  refine jj_iinc (i := 2) (n := (-8)) (v := 16) (by decide +kernel) rfl (by decide) (by decide) rfl ?_
  refine jj_goto (off := (-21)) (tgt := 3) (by decide +kernel) (by decide) ?_
  refine jj_iload_n (j := 2) (by decide +kernel) rfl ?_
  refine jj_if_lt (off := 23) (tgt := 27) (by decide +kernel) (by decide) (fun c1 => absurd c1 (by decide)) (fun c1 => ?_)
  refine jj_aload_n (j := 0) (by decide +kernel) rfl ?_
  obtain ⟨fp, hg⟩ := hs.st hG.2
  refine jj_getfield 0 ck_ST fl_ST_14 (by decide) (by decide +kernel) hg rfl ?_
  refine jj_iload_n (j := 1) (by decide +kernel) rfl ?_
  refine jj_iload_n (j := 2) (by decide +kernel) rfl ?_
  refine jj_ishr (by decide +kernel) ?_
  refine jj_sipush (n := 255) (v := 255) (by decide +kernel) (by decide) ?_
  refine jj_iand (by decide +kernel) ?_
  refine sy_cv (s_cha_add (d := d - 1) hG.1 (sy_o hG.2) hs (by omega) (by omega)) (fun o1 h1 hC => jj_callV ok_IR_add ml_ST_111 im_IR_add se_IR_IR_add (by decide +kernel) (hs.rcR (t := 0) (by decide) (sy_o hG.2)) rfl (by omega) (Nat.le_of_ble_eq_true rfl) hC) rfl (fun q => by cases q) (fun h hs => ?_)
  refine jj_iinc (i := 2) (n := (-8)) (v := 8) (by decide +kernel) rfl (by decide) (by decide) rfl ?_
  refine jj_goto (off := (-21)) (tgt := 3) (by decide +kernel) (by decide) ?_
  refine jj_iload_n (j := 2) (by decide +kernel) rfl ?_
  refine jj_if_lt (off := 23) (tgt := 27) (by decide +kernel) (by decide) (fun c1 => absurd c1 (by decide)) (fun c1 => ?_)
  refine jj_aload_n (j := 0) (by decide +kernel) rfl ?_
  obtain ⟨fp, hg⟩ := hs.st hG.2
  refine jj_getfield 0 ck_ST fl_ST_14 (by decide) (by decide +kernel) hg rfl ?_
  refine jj_iload_n (j := 1) (by decide +kernel) rfl ?_
  refine jj_iload_n (j := 2) (by decide +kernel) rfl ?_
  refine jj_ishr (by decide +kernel) ?_
  refine jj_sipush (n := 255) (v := 255) (by decide +kernel) (by decide) ?_
  refine jj_iand (by decide +kernel) ?_
  refine sy_cv (s_cha_add (d := d - 1) hG.1 (sy_o hG.2) hs (by omega) (by omega)) (fun o1 h1 hC => jj_callV ok_IR_add ml_ST_111 im_IR_add se_IR_IR_add (by decide +kernel) (hs.rcR (t := 0) (by decide) (sy_o hG.2)) rfl (by omega) (Nat.le_of_ble_eq_true rfl) hC) rfl (fun q => by cases q) (fun h hs => ?_)
  refine jj_iinc (i := 2) (n := (-8)) (v := 0) (by decide +kernel) rfl (by decide) (by decide) rfl ?_
  refine jj_goto (off := (-21)) (tgt := 3) (by decide +kernel) (by decide) ?_
  refine jj_iload_n (j := 2) (by decide +kernel) rfl ?_
  refine jj_if_lt (off := 23) (tgt := 27) (by decide +kernel) (by decide) (fun c1 => absurd c1 (by decide)) (fun c1 => ?_)
  refine jj_aload_n (j := 0) (by decide +kernel) rfl ?_
  obtain ⟨fp, hg⟩ := hs.st hG.2
  refine jj_getfield 0 ck_ST fl_ST_14 (by decide) (by decide +kernel) hg rfl ?_
  refine jj_iload_n (j := 1) (by decide +kernel) rfl ?_
  refine jj_iload_n (j := 2) (by decide +kernel) rfl ?_
  refine jj_ishr (by decide +kernel) ?_
  refine jj_sipush (n := 255) (v := 255) (by decide +kernel) (by decide) ?_
  refine jj_iand (by decide +kernel) ?_
  refine sy_cv (s_cha_add (d := d - 1) hG.1 (sy_o hG.2) hs (by omega) (by omega)) (fun o1 h1 hC => jj_callV ok_IR_add ml_ST_111 im_IR_add se_IR_IR_add (by decide +kernel) (hs.rcR (t := 0) (by decide) (sy_o hG.2)) rfl (by omega) (Nat.le_of_ble_eq_true rfl) hC) rfl (fun q => by cases q) (fun h hs => ?_)
  refine jj_iinc (i := 2) (n := (-8)) (v := (-8)) (by decide +kernel) rfl (by decide) (by decide) rfl ?_
  refine jj_goto (off := (-21)) (tgt := 3) (by decide +kernel) (by decide) ?_
  refine jj_iload_n (j := 2) (by decide +kernel) rfl ?_
  refine jj_if_lt (off := 23) (tgt := 27) (by decide +kernel) (by decide) (fun c1 => ?_) (fun c1 => absurd (show (-8 : Int32) < 0 by decide) c1)
  exact jj_vret (by decide +kernel) rfl ⟨rfl, hs⟩
set_option maxRecDepth 100000 in
set_option maxHeartbeats 4000000 in
theorem s_ST_text {l : Launch} {G : jj_G} {X : sy_X} {K o N d : Nat} {h : jj_H} {x y z w : Int32} (hG : sy_G G X) (hN : N ≤ 16384) (hdd : 8 ≤ d) (hs : Sy G X K o N h) : jj_Q l G y_ST_text d [.ref (X.2.2.1 9), .int x, .int y, .int z, .int w] h (fun out h' => (N ≤ 16368 ∧ out = .inl none ∧ Sy G X K o (N + 16) h') ∨ (16368 < N ∧ out = .inr "java/lang/IllegalStateException" ∧ Sy G X (K + 1) o N h')) := by
  refine jj_Q.of (by decide +kernel) (Nat.le_of_ble_eq_true rfl) ?_
  refine jj_aload_n (j := 0) (by decide +kernel) rfl ?_
  obtain ⟨fp, hg⟩ := hs.st hG.2
  refine jj_getfield 0 ck_ST fl_ST_14 (by decide) (by decide +kernel) hg rfl ?_
  refine jj_callr (s_cha_size (d := d - 1) (sy_o hG.2) hs).2 (fun o1 h1 hC => jj_callV ok_IR_size ml_ST_54 im_IR_size se_IR_IR_size (by decide +kernel) (hs.rcR (t := 0) (by decide) (sy_o hG.2)) rfl (by omega) (Nat.le_of_ble_eq_true rfl) hC) (by rintro E h1 ⟨q, -⟩; cases q) ?_
  rintro v h1 ⟨hv, rfl⟩
  cases hv
  refine jj_sipush (n := 16368) (v := 16368) (by decide +kernel) (by decide) ?_
  refine jj_icmp_le (off := 13) (tgt := 23) (by decide +kernel) (by decide) (fun c1 => ?_) (fun c1 => ?_)
  · have hN2 : N ≤ 16368 := (nI_leI (b := 16368) (by omega) (by omega)).mp c1
    refine jj_aload_n (j := 0) (by decide +kernel) rfl ?_
    refine jj_iload_n (j := 1) (by decide +kernel) rfl ?_
    refine sy_cv (s_ST_addFour (d := d - 1) hG (by omega) (by omega) hs) (fun o1 h1 hC => jj_callV ok_ST_addFour ml_ST_65 im_ST_addFour se_ST_ST_addFour (by decide +kernel) (hs.rcST hG.2) rfl (by omega) (Nat.le_of_ble_eq_true rfl) hC) rfl (fun q => by cases q) (fun h hs => ?_)
    refine jj_aload_n (j := 0) (by decide +kernel) rfl ?_
    refine jj_iload_n (j := 2) (by decide +kernel) rfl ?_
    refine sy_cv (s_ST_addFour (d := d - 1) hG (by omega) (by omega) hs) (fun o1 h1 hC => jj_callV ok_ST_addFour ml_ST_65 im_ST_addFour se_ST_ST_addFour (by decide +kernel) (hs.rcST hG.2) rfl (by omega) (Nat.le_of_ble_eq_true rfl) hC) rfl (fun q => by cases q) (fun h hs => ?_)
    refine jj_aload_n (j := 0) (by decide +kernel) rfl ?_
    refine jj_iload_n (j := 3) (by decide +kernel) rfl ?_
    refine sy_cv (s_ST_addFour (d := d - 1) hG (by omega) (by omega) hs) (fun o1 h1 hC => jj_callV ok_ST_addFour ml_ST_65 im_ST_addFour se_ST_ST_addFour (by decide +kernel) (hs.rcST hG.2) rfl (by omega) (Nat.le_of_ble_eq_true rfl) hC) rfl (fun q => by cases q) (fun h hs => ?_)
    refine jj_aload_n (j := 0) (by decide +kernel) rfl ?_
    refine jj_iload (i := 4) (by decide +kernel) rfl ?_
    refine sy_cv (s_ST_addFour (d := d - 1) hG (by omega) (by omega) hs) (fun o1 h1 hC => jj_callV ok_ST_addFour ml_ST_65 im_ST_addFour se_ST_ST_addFour (by decide +kernel) (hs.rcST hG.2) rfl (by omega) (Nat.le_of_ble_eq_true rfl) hC) rfl (fun q => by cases q) (fun h hs => ?_)
    exact jj_vret (by decide +kernel) rfl (Or.inl ⟨hN2, rfl, hs⟩)
  · have hN2 : 16368 < N := Nat.not_le.mp (fun q => c1 (nI_le (b := 16368) q (by omega)))
    exact jj_throwS (is := 60) (text := _) ise_ok.1 ise_ok.2 (by decide) cl_ST_58 it_JI sr_ST_60 ta_ST_62 (by decide +kernel) (by decide +kernel) (by decide +kernel) (by decide +kernel) (by decide +kernel) rfl (by omega) (by decide) (Or.inr ⟨hN2, rfl, hs.thrown hG.2⟩)
set_option maxRecDepth 100000 in
set_option maxHeartbeats 4000000 in
theorem s_ST_cut {l : Launch} {G : jj_G} {X : sy_X} {K o N d : Nat} {h : jj_H} {x : Int32} (hG : sy_G G X) (hN : N ≤ 16384) (hdd : 8 ≤ d) (hs : Sy G X K o N h) : jj_Q l G y_ST_cut d [.ref (X.2.2.1 9), .int x] h (fun out h' => (∃ j : Nat, j ≤ N ∧ x = nI j ∧ out = .inl none ∧ Sy G X K o j h') ∨ ((x < 0 ∨ nI N < x) ∧ out = .inr "java/lang/IllegalArgumentException" ∧ Sy G X (K + 1) o N h')) := by
  refine jj_Q.of (by decide +kernel) (Nat.le_of_ble_eq_true rfl) ?_
  refine jj_iload_n (j := 1) (by decide +kernel) rfl ?_
  refine jj_if_lt (off := 14) (tgt := 15) (by decide +kernel) (by decide) (fun c1 => ?_) (fun c1 => ?_)
  · exact jj_throwS (is := 70) (text := _) iae_ok ise_ok.2 (by decide) cl_ST_68 it_JG sr_ST_70 ta_ST_72 (by decide +kernel) (by decide +kernel) (by decide +kernel) (by decide +kernel) (by decide +kernel) rfl (by omega) (by decide) (Or.inr ⟨Or.inl c1, rfl, hs.thrown hG.2⟩)
  · refine jj_iload_n (j := 1) (by decide +kernel) rfl ?_
    refine jj_aload_n (j := 0) (by decide +kernel) rfl ?_
    obtain ⟨fp, hg⟩ := hs.st hG.2
    refine jj_getfield 0 ck_ST fl_ST_14 (by decide) (by decide +kernel) hg rfl ?_
    refine jj_callr (s_cha_size (d := d - 1) (sy_o hG.2) hs).2 (fun o1 h1 hC => jj_callV ok_IR_size ml_ST_54 im_IR_size se_IR_IR_size (by decide +kernel) (hs.rcR (t := 0) (by decide) (sy_o hG.2)) rfl (by omega) (Nat.le_of_ble_eq_true rfl) hC) (by rintro E h1 ⟨q, -⟩; cases q) ?_
    rintro v h1 ⟨hv, rfl⟩
    cases hv
    refine jj_icmp_le (off := 13) (tgt := 25) (by decide +kernel) (by decide) (fun c2 => ?_) (fun c2 => ?_)
    · obtain ⟨j, hj, rfl⟩ := nI_of2 (nI_toInt (by omega)) c1 c2
      refine jj_aload_n (j := 0) (by decide +kernel) rfl ?_
      obtain ⟨fp, hg⟩ := hs.st hG.2
      refine jj_getfield 0 ck_ST fl_ST_14 (by decide) (by decide +kernel) hg rfl ?_
      refine jj_iload_n (j := 1) (by decide +kernel) rfl ?_
      refine sy_cv (s_cha_cut (d := d - 1) (sy_o hG.2) hs hj) (fun o1 h1 hC => jj_callV ok_IR_cutTo ml_ST_73 im_IR_cutTo se_IR_IR_cutTo (by decide +kernel) (hs.rcR (t := 0) (by decide) (sy_o hG.2)) rfl (by omega) (Nat.le_of_ble_eq_true rfl) hC) rfl (fun q => by cases q) (fun h hs => ?_)
      exact jj_vret (by decide +kernel) rfl (Or.inl ⟨j, hj, rfl, rfl, hs⟩)
    · exact jj_throwS (is := 70) (text := _) iae_ok ise_ok.2 (by decide) cl_ST_68 it_JG sr_ST_70 ta_ST_72 (by decide +kernel) (by decide +kernel) (by decide +kernel) (by decide +kernel) (by decide +kernel) rfl (by omega) (by decide) (Or.inr ⟨Or.inr (Int32.not_le.mp c2), rfl, hs.thrown hG.2⟩)
set_option maxRecDepth 100000 in
set_option maxHeartbeats 4000000 in
theorem s_ST_length {l : Launch} {G : jj_G} {X : sy_X} {K o N d : Nat} {h : jj_H} (hG : sy_G G X) (hdd : 1 ≤ d) (hs : Sy G X K o N h) : jj_Q l G y_ST_length d [.ref (X.2.2.1 9)] h (fun out h' => out = .inl (some (.int (nI N))) ∧ h' = h) := by
  refine jj_Q.of (by decide +kernel) (Nat.le_of_ble_eq_true rfl) ?_
  refine jj_aload_n (j := 0) (by decide +kernel) rfl ?_
  obtain ⟨fp, hg⟩ := hs.st hG.2
  refine jj_getfield 0 ck_ST fl_ST_14 (by decide) (by decide +kernel) hg rfl ?_
  refine jj_callr (s_cha_size (d := d - 1) (sy_o hG.2) hs).2 (fun o1 h1 hC => jj_callV ok_IR_size ml_ST_54 im_IR_size se_IR_IR_size (by decide +kernel) (hs.rcR (t := 0) (by decide) (sy_o hG.2)) rfl (by omega) (Nat.le_of_ble_eq_true rfl) hC) (by rintro E h1 ⟨q, -⟩; cases q) ?_
  rintro v h1 ⟨hv, rfl⟩
  cases hv
  exact jj_iret .int (by decide +kernel) rfl rfl ⟨rfl, rfl⟩
set_option maxRecDepth 100000 in
set_option maxHeartbeats 4000000 in
theorem s_ST_place {l : Launch} {G : jj_G} {X : sy_X} {K o N d : Nat} {h : jj_H} (hG : sy_G G X) (hs : Sy G X K o N h) : jj_Q l G y_ST_place d [.ref (X.2.2.1 9)] h (sy_F 1 false G X K o N) := by
  refine jj_Q.of (by decide +kernel) (Nat.le_of_ble_eq_true rfl) ?_
  refine jj_aload_n (j := 0) (by decide +kernel) rfl ?_
  obtain ⟨fp, hg⟩ := hs.st hG.2
  refine jj_getfield 5 ck_ST fl_ST_50 (by decide) (by decide +kernel) hg rfl ?_
  exact jj_iret .int (by decide +kernel) rfl rfl ⟨Or.inl rfl, hs⟩
set_option maxRecDepth 100000 in
set_option maxHeartbeats 4000000 in
theorem s_ST_nodes {l : Launch} {G : jj_G} {X : sy_X} {K o N d : Nat} {h : jj_H} (hG : sy_G G X) (hdd : 1 ≤ d) (hs : Sy G X K o N h) : jj_Q l G y_ST_nodes d [.ref (X.2.2.1 9)] h (sy_F 1 false G X K o N) := by
  refine jj_Q.of (by decide +kernel) (Nat.le_of_ble_eq_true rfl) ?_
  refine jj_aload_n (j := 0) (by decide +kernel) rfl ?_
  obtain ⟨fp, hg⟩ := hs.st hG.2
  refine jj_getfield 2 ck_ST fl_ST_28 (by decide) (by decide +kernel) hg rfl ?_
  refine sy_ci (s_tab_size (d := d - 1) (t := 7) hs (by decide) (by decide) (sy_o hG.2)) (fun o1 h1 hC => jj_callV ok_TB_size ml_ST_93 im_TB_size se_TB_TB_size (by decide +kernel) (hs.rcT (t := 7) (by decide) (by decide) (sy_o hG.2)) rfl (by omega) (Nat.le_of_ble_eq_true rfl) hC) (by decide) rfl (fun q => by cases q) (fun v h _ hs => ?_)
  exact jj_iret .int (by decide +kernel) rfl rfl ⟨Or.inl rfl, hs⟩
set_option maxRecDepth 100000 in
set_option maxHeartbeats 4000000 in
theorem s_ST_names {l : Launch} {G : jj_G} {X : sy_X} {K o N d : Nat} {h : jj_H} (hG : sy_G G X) (hdd : 2 ≤ d) (hs : Sy G X K o N h) : jj_Q l G y_ST_names d [.ref (X.2.2.1 9)] h (sy_F 1 false G X K o N) := by
  refine jj_Q.of (by decide +kernel) (Nat.le_of_ble_eq_true rfl) ?_
  refine jj_aload_n (j := 0) (by decide +kernel) rfl ?_
  obtain ⟨fp, hg⟩ := hs.st hG.2
  refine jj_getfield 1 ck_ST fl_ST_21 (by decide) (by decide +kernel) hg rfl ?_
  refine sy_ci (s_SP_size (d := d - 1) hG.1 (by omega) hs) (fun o1 h1 hC => jj_callV ok_SP_size ml_ST_105 im_SP_size se_SP_SP_size (by decide +kernel) hs.rcSP rfl (by omega) (Nat.le_of_ble_eq_true rfl) hC) (by decide) rfl (fun q => by cases q) (fun v h _ hs => ?_)
  refine jj_bipush (n := 57) (v := 57) (by decide +kernel) (by decide) ?_
  refine jj_isub (by decide +kernel) ?_
  exact jj_iret .int (by decide +kernel) rfl rfl ⟨Or.inl rfl, hs⟩
/-- an int, or a throw of one of these -/
def sy_T (Es : List String) (G : jj_G) (X : sy_X) (K o N : Nat) : jj_O → jj_H → Prop := fun out h' => (∃ v : Int32, out = .inl (some (.int v)) ∧ Sy G X K o N h') ∨ (∃ E ∈ Es, out = .inr E ∧ Sy G X (K + 1) o N h')
theorem s_ST_node_44 {l : Launch} {G : jj_G} {X : sy_X} {K o N d : Nat} {h : jj_H} {x1 x2 : Int32} (hG : sy_G G X) (hdd : 8 ≤ d) (hs : Sy G X K o N h) : jj_P l G y_ST_node d (sy_T ["java/lang/IndexOutOfBoundsException", "java/lang/IllegalArgumentException"] G X K o N) 44 [some (.ref (X.2.2.1 9)), some (.int x1), some (.int x2)] [] h := by
  refine jj_aload_n (j := 0) (by decide +kernel) rfl ?_
  obtain ⟨fp, hg⟩ := hs.st hG.2
  refine jj_getfield 2 ck_ST fl_ST_28 (by decide) (by decide +kernel) hg rfl ?_
  refine jj_iload_n (j := 1) (by decide +kernel) rfl ?_
  refine jj_iload_n (j := 2) (by decide +kernel) rfl ?_
  refine sy_ci (s_tab_at (d := d - 1) (t := 7) hG.1 hs (by decide) (by decide) (sy_o hG.2)) (fun o1 h1 hC => jj_callV ok_TB_at ml_ST_101 im_TB_at se_TB_TB_at (by decide +kernel) (hs.rcT (t := 7) (by decide) (by decide) (sy_o hG.2)) rfl (by omega) (Nat.le_of_ble_eq_true rfl) hC) (by decide) rfl (fun q => by cases q) (fun v h _ hs => ?_)
  exact jj_iret .int (by decide +kernel) rfl rfl (Or.inl ⟨v, rfl, hs⟩)
set_option maxRecDepth 100000 in
set_option maxHeartbeats 4000000 in
theorem s_ST_node {l : Launch} {G : jj_G} {X : sy_X} {K o N d : Nat} {h : jj_H} {x1 x2 : Int32} (hG : sy_G G X) (hdd : 8 ≤ d) (hs : Sy G X K o N h) : jj_Q l G y_ST_node d [.ref (X.2.2.1 9), .int x1, .int x2] h (sy_T ["java/lang/IndexOutOfBoundsException", "java/lang/IllegalArgumentException"] G X K o N) := by
  refine jj_Q.of (by decide +kernel) (Nat.le_of_ble_eq_true rfl) ?_
  refine jj_iload_n (j := 1) (by decide +kernel) rfl ?_
  refine jj_if_lt (off := 14) (tgt := 15) (by decide +kernel) (by decide) (fun c1 => ?_) (fun c1 => ?_)
  · exact jj_throwS (is := 96) (text := _) iob_ok ise_ok.2 (by decide) cl_ST_94 it_JX sr_ST_96 ta_ST_98 (by decide +kernel) (by decide +kernel) (by decide +kernel) (by decide +kernel) (by decide +kernel) rfl (by omega) (by decide) (Or.inr ⟨_, List.mem_cons_self, rfl, hs.thrown hG.2⟩)
  · refine jj_iload_n (j := 1) (by decide +kernel) rfl ?_
    refine jj_aload_n (j := 0) (by decide +kernel) rfl ?_
    obtain ⟨fp, hg⟩ := hs.st hG.2
    refine jj_getfield 2 ck_ST fl_ST_28 (by decide) (by decide +kernel) hg rfl ?_
    refine sy_ci (s_tab_size (d := d - 1) (t := 7) hs (by decide) (by decide) (sy_o hG.2)) (fun o1 h1 hC => jj_callV ok_TB_size ml_ST_93 im_TB_size se_TB_TB_size (by decide +kernel) (hs.rcT (t := 7) (by decide) (by decide) (sy_o hG.2)) rfl (by omega) (Nat.le_of_ble_eq_true rfl) hC) (by decide) rfl (fun q => by cases q) (fun v h _ hs => ?_)
    refine jj_icmp_lt (off := 13) (tgt := 25) (by decide +kernel) (by decide) (fun c2 => ?_) (fun c2 => ?_)
    · refine jj_iload_n (j := 2) (by decide +kernel) rfl ?_
      refine jj_if_lt (off := 8) (tgt := 34) (by decide +kernel) (by decide) (fun c3 => ?_) (fun c3 => ?_)
      · exact jj_throwS (is := 99) (text := _) iae_ok ise_ok.2 (by decide) cl_ST_68 it_JG sr_ST_99 ta_ST_72 (by decide +kernel) (by decide +kernel) (by decide +kernel) (by decide +kernel) (by decide +kernel) rfl (by omega) (by decide) (Or.inr ⟨_, List.mem_cons_of_mem _ List.mem_cons_self, rfl, hs.thrown hG.2⟩)
      · refine jj_iload_n (j := 2) (by decide +kernel) rfl ?_
        refine jj_iconst (n := 3) (v := 3) (by decide +kernel) (by decide) ?_
        refine jj_icmp_lt (off := 13) (tgt := 44) (by decide +kernel) (by decide) (fun c4 => ?_) (fun c4 => ?_)
        · exact s_ST_node_44 hG hdd hs
        · exact jj_throwS (is := 99) (text := _) iae_ok ise_ok.2 (by decide) cl_ST_68 it_JG sr_ST_99 ta_ST_72 (by decide +kernel) (by decide +kernel) (by decide +kernel) (by decide +kernel) (by decide +kernel) rfl (by omega) (by decide) (Or.inr ⟨_, List.mem_cons_of_mem _ List.mem_cons_self, rfl, hs.thrown hG.2⟩)
    · exact jj_throwS (is := 96) (text := _) iob_ok ise_ok.2 (by decide) cl_ST_94 it_JX sr_ST_96 ta_ST_98 (by decide +kernel) (by decide +kernel) (by decide +kernel) (by decide +kernel) (by decide +kernel) rfl (by omega) (by decide) (Or.inr ⟨_, List.mem_cons_self, rfl, hs.thrown hG.2⟩)
set_option maxRecDepth 100000 in
set_option maxHeartbeats 4000000 in
theorem s_ST_name {l : Launch} {G : jj_G} {X : sy_X} {K o N d : Nat} {h : jj_H} {x1 x2 : Int32} (hG : sy_G G X) (hdd : 8 ≤ d) (hs : Sy G X K o N h) : jj_Q l G y_ST_name d [.ref (X.2.2.1 9), .int x1, .int x2] h (sy_T ["java/lang/IndexOutOfBoundsException"] G X K o N) := by
  refine jj_Q.of (by decide +kernel) (Nat.le_of_ble_eq_true rfl) ?_
  refine jj_iload_n (j := 1) (by decide +kernel) rfl ?_
  refine jj_if_lt (off := 17) (tgt := 18) (by decide +kernel) (by decide) (fun c1 => ?_) (fun c1 => ?_)
  · exact jj_throwS (is := 106) (text := _) iob_ok ise_ok.2 (by decide) cl_ST_94 it_JX sr_ST_106 ta_ST_98 (by decide +kernel) (by decide +kernel) (by decide +kernel) (by decide +kernel) (by decide +kernel) rfl (by omega) (by decide) (Or.inr ⟨_, List.mem_cons_self, rfl, hs.thrown hG.2⟩)
  · refine jj_iload_n (j := 1) (by decide +kernel) rfl ?_
    refine jj_aload_n (j := 0) (by decide +kernel) rfl ?_
    obtain ⟨fp, hg⟩ := hs.st hG.2
    refine jj_getfield 1 ck_ST fl_ST_21 (by decide) (by decide +kernel) hg rfl ?_
    refine sy_ci (s_SP_size (d := d - 1) hG.1 (by omega) hs) (fun o1 h1 hC => jj_callV ok_SP_size ml_ST_105 im_SP_size se_SP_SP_size (by decide +kernel) hs.rcSP rfl (by omega) (Nat.le_of_ble_eq_true rfl) hC) (by decide) rfl (fun q => by cases q) (fun v h _ hs => ?_)
    refine jj_bipush (n := 57) (v := 57) (by decide +kernel) (by decide) ?_
    refine jj_isub (by decide +kernel) ?_
    refine jj_icmp_lt (off := 13) (tgt := 28) (by decide +kernel) (by decide) (fun c2 => ?_) (fun c2 => ?_)
    · refine jj_aload_n (j := 0) (by decide +kernel) rfl ?_
      obtain ⟨fp, hg⟩ := hs.st hG.2
      refine jj_getfield 1 ck_ST fl_ST_21 (by decide) (by decide +kernel) hg rfl ?_
      refine jj_bipush (n := 57) (v := 57) (by decide +kernel) (by decide) ?_
      refine jj_iload_n (j := 1) (by decide +kernel) rfl ?_
      refine jj_iadd (by decide +kernel) ?_
      refine jj_iload_n (j := 2) (by decide +kernel) rfl ?_
      refine sy_ci (s_SP_letterOf (d := d - 1) hG.1 (by omega) hs) (fun o1 h1 hC => jj_callV ok_SP_letterOf ml_ST_108 im_SP_letterOf se_SP_SP_letterOf (by decide +kernel) hs.rcSP rfl (by omega) (Nat.le_of_ble_eq_true rfl) hC) (by decide) rfl (fun q => by cases q) (fun v h _ hs => ?_)
      exact jj_iret .int (by decide +kernel) rfl rfl (Or.inl ⟨v, rfl, hs⟩)
    · exact jj_throwS (is := 106) (text := _) iob_ok ise_ok.2 (by decide) cl_ST_94 it_JX sr_ST_106 ta_ST_98 (by decide +kernel) (by decide +kernel) (by decide +kernel) (by decide +kernel) (by decide +kernel) rfl (by omega) (by decide) (Or.inr ⟨_, List.mem_cons_self, rfl, hs.thrown hG.2⟩)
set_option maxRecDepth 100000 in
set_option maxHeartbeats 4000000 in
theorem b_ST_read_42 {l : Launch} {G : jj_G} {X : sy_X} {K o N d : Nat} {h : jj_H} {F : jj_O → jj_H → Prop} (hG : sy_G G X) (hs : Sy G X K o N h) (hF : ∀ (v : Int32) (h' : jj_H), Sy G X K o N h' → F (.inl (some (.int v))) h') : jj_P l G y_ST_read d F 42 [some (.ref (X.2.2.1 9)), none] [] h := by
  refine jj_aload_n (j := 0) (by decide +kernel) rfl ?_
  refine jj_aload_n (j := 0) (by decide +kernel) rfl ?_
  obtain ⟨fp, hg⟩ := hs.st hG.2
  refine jj_getfield 4 ck_ST fl_ST_46 (by decide) (by decide +kernel) hg rfl ?_
  obtain ⟨ki, va, pl, fa, fp, ne, hg⟩ := hs.gr hG.2
  refine jj_getfield 7 ck_GR fl_ST_89 (by decide) (by decide +kernel) hg rfl ?_
  refine sy_putST hs hG.2 fl_ST_50 (by decide +kernel) (fun h hs => ?_)
  refine jj_aload_n (j := 0) (by decide +kernel) rfl ?_
  obtain ⟨fp, hg⟩ := hs.st hG.2
  refine jj_getfield 4 ck_ST fl_ST_46 (by decide) (by decide +kernel) hg rfl ?_
  obtain ⟨ki, va, pl, fa, fp, ne, hg⟩ := hs.gr hG.2
  refine jj_getfield 6 ck_GR fl_ST_90 (by decide) (by decide +kernel) hg rfl ?_
  exact jj_iret .int (by decide +kernel) rfl rfl (hF _ _ hs)
set_option maxRecDepth 100000 in
set_option maxHeartbeats 4000000 in
theorem b_ST_read_28 {l : Launch} {G : jj_G} {X : sy_X} {K o N d : Nat} {h : jj_H} {F : jj_O → jj_H → Prop} (hG : sy_G G X) (hdd : 12 ≤ d) (hs : Sy G X K o N h) (hF : ∀ (v : Int32) (h' : jj_H), Sy G X K o N h' → F (.inl (some (.int v))) h') : jj_P l G y_ST_read d F 28 [some (.ref (X.2.2.1 9)), none] [] h := by
  refine jj_aload_n (j := 0) (by decide +kernel) rfl ?_
  obtain ⟨fp, hg⟩ := hs.st hG.2
  refine jj_getfield 2 ck_ST fl_ST_28 (by decide) (by decide +kernel) hg rfl ?_
  refine sy_cv (s_tab_clear (d := d - 1) (t := 7) hs (by decide) (by decide) (sy_o hG.2)) (fun o1 h1 hC => jj_callV ok_TB_clear ml_ST_76 im_TB_clear se_TB_TB_clear (by decide +kernel) (hs.rcT (t := 7) (by decide) (by decide) (sy_o hG.2)) rfl (by omega) (Nat.le_of_ble_eq_true rfl) hC) (by decide +kernel) (fun q => by cases q) (fun h hs => ?_)
  refine jj_aload_n (j := 0) (by decide +kernel) rfl ?_
  obtain ⟨fp, hg⟩ := hs.st hG.2
  refine jj_getfield 1 ck_ST fl_ST_21 (by decide) (by decide +kernel) hg rfl ?_
  refine sy_cv (s_SP_reset (d := d - 1) hG.1 (by omega) hs) (fun o1 h1 hC => jj_callV ok_SP_reset ml_ST_86 im_SP_reset se_SP_SP_reset (by decide +kernel) hs.rcSP rfl (by omega) (Nat.le_of_ble_eq_true rfl) hC) (by decide +kernel) (fun q => by cases q) (fun h hs => ?_)
  exact b_ST_read_42 hG hs hF
set_option maxRecDepth 100000 in
set_option maxHeartbeats 4000000 in
theorem s_ST_read {l : Launch} {G : jj_G} {X : sy_X} {K o N d : Nat} {h : jj_H} (hG : sy_G G X) (hdd : 470 ≤ d) (hs : Sy G X K o N h) : jj_Q l G y_ST_read d [.ref (X.2.2.1 9)] h (fun out h' => ∃ (v : Int32) (K' o' : Nat), K ≤ K' ∧ K' ≤ K + 1 ∧ out = .inl (some (.int v)) ∧ Sy G X K' o' N h') := by
  refine jj_Q.of (by decide +kernel) (Nat.le_of_ble_eq_true rfl) ?_
  refine jj_aload_n (j := 0) (by decide +kernel) rfl ?_
  obtain ⟨fp, hg⟩ := hs.st hG.2
  refine jj_getfield 2 ck_ST fl_ST_28 (by decide) (by decide +kernel) hg rfl ?_
  refine sy_cv (s_tab_clear (d := d - 1) (t := 7) hs (by decide) (by decide) (sy_o hG.2)) (fun o1 h1 hC => jj_callV ok_TB_clear ml_ST_76 im_TB_clear se_TB_TB_clear (by decide +kernel) (hs.rcT (t := 7) (by decide) (by decide) (sy_o hG.2)) rfl (by omega) (Nat.le_of_ble_eq_true rfl) hC) (by decide +kernel) (fun q => by cases q) (fun h hs => ?_)
  refine jj_aload_n (j := 0) (by decide +kernel) rfl ?_
  obtain ⟨fp, hg⟩ := hs.st hG.2
  refine jj_getfield 3 ck_ST fl_ST_37 (by decide) (by decide +kernel) hg rfl ?_
  refine sy_cv (s_SC_scan (d := d - 1) hG (by omega) hs) (fun o1 h1 hC => jj_callV ok_SC_scan ml_ST_79 im_SC_scan se_SC_SC_scan (by decide +kernel) (hs.rcSC hG.2) rfl (by omega) (Nat.le_of_ble_eq_true rfl) hC) (by decide +kernel) (fun q => by cases q) (fun h hs => ?_)
  refine jj_aload_n (j := 0) (by decide +kernel) rfl ?_
  obtain ⟨fp, hg⟩ := hs.st hG.2
  refine jj_getfield 4 ck_ST fl_ST_46 (by decide) (by decide +kernel) hg rfl ?_
  refine jj_bipush (n := 12) (v := 12) (by decide +kernel) (by decide) ?_
  obtain ⟨o1, h1, hP, hC⟩ := s_GR_one_12 (l := l) (d := d - 1) hG (by omega) hs
  have hR : jj_R l G y_ST_read d [.ref (X.2.2.1 12), .int 12] h o1 h1 20 [.int 12, .ref (X.2.2.1 12)] [] := jj_callVN (index := 82) (host := "SourceTree") (As := [.int 12]) ok_GR_one (List.mem_of_getElem? (i := 4) rfl) im_GR_one se_GR_GR_one (by decide +kernel) (hs.rcGR hG.2) rfl (by omega) (Nat.le_of_ble_eq_true rfl) hC
  cases o1 with
  | inl v =>
    cases v with
    | none => exact absurd hP.1 (by decide)
    | some v =>
      cases v with
      | int v =>
        refine hR.ret hC.1 ?_
        refine jj_pop (v := .int v) (by decide +kernel) rfl ?_
        refine jj_goto (off := 18) (tgt := 42) (by decide +kernel) (by decide) ?_
        exact b_ST_read_42 hG hP.2 (fun v h' hs' => ⟨v, K, 0, Nat.le_refl _, Nat.le_succ _, rfl, hs'⟩)
      | _ => exact hP.elim
  | inr E =>
    obtain ⟨-, rfl, o', hS⟩ := hP
    refine hR.catchA [] _ [] rfl (by intro z hz; cases hz) (by decide +kernel) (by decide) cl_ST_58 cs_JI_JI (i := 1) (len := 1) (Or.inr ⟨1, rfl, (by decide +kernel), rfl⟩) (by decide) rfl hC.1 ?_
    exact b_ST_read_28 hG (by omega) hS (fun v h' hs' => ⟨v, K + 1, o', Nat.le_succ _, Nat.le_refl _, rfl, hs'⟩)
