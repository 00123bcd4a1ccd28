set_option maxRecDepth 100000 in
set_option maxHeartbeats 4000000 in
theorem b_GR_takeDirection_0 {l : Launch} {G : jj_G} {X : sy_X} {K o N d : Nat} {h : jj_H} (hG : sy_G G X) (hdd : 10 ≤ d) (hs : Sy G X K o N h) : jj_P l G y_GR_takeDirection d (sy_F 2 true G X K o N) 0 [some (.ref (X.2.2.1 12))] [] h := by
  refine jj_aload_n (j := 0) (by decide +kernel) rfl ?_
  refine jj_sipush (n := 264) (v := 264) (by decide +kernel) (by decide) ?_
  refine sy_ci (s_CU_accept (d := d - 1) hG (by omega) hs) (fun o1 h1 hC => jj_callU ok_CU_accept ml_GR_80 sm_GR_CU_accept rfl im_CU_accept se_GR_CU_accept_u (by decide +kernel) (hs.rcGR hG.2) rfl (by omega) (Nat.le_of_ble_eq_true rfl) hC) (by decide) rfl (fun _ _ _ q => ⟨rfl, rfl, _, q⟩) (fun v1 h _ hs => ?_)
  refine jj_if_eq (off := 5) (tgt := 12) (by decide +kernel) (by decide) (fun c2 => ?_) (fun c2 => ?_)
  · skip
    refine jj_aload_n (j := 0) (by decide +kernel) rfl ?_
    refine jj_sipush (n := 302) (v := 302) (by decide +kernel) (by decide) ?_
    refine sy_cv (s_CU_expect (d := d - 1) hG (by omega) hs) (fun o1 h1 hC => jj_callU ok_CU_expect ml_GR_102 sm_GR_CU_expect rfl im_CU_expect se_GR_CU_expect_u (by decide +kernel) (hs.rcGR hG.2) rfl (by omega) (Nat.le_of_ble_eq_true rfl) hC) rfl (fun _ _ _ q => ⟨rfl, rfl, _, q⟩) (fun h hs => ?_)
    refine jj_iconst (n := 0) (v := 0) (by decide +kernel) (by decide) ?_
    exact jj_iret .boolean (by decide +kernel) rfl rfl ⟨Or.inr (Or.inl ⟨rfl, Or.inl rfl⟩), hs⟩
  · skip
    refine jj_iconst (n := 1) (v := 1) (by decide +kernel) (by decide) ?_
    exact jj_iret .boolean (by decide +kernel) rfl rfl ⟨Or.inr (Or.inl ⟨rfl, Or.inr rfl⟩), hs⟩
theorem s_GR_takeDirection {l : Launch} {G : jj_G} {X : sy_X} {K o N d : Nat} {h : jj_H} (hG : sy_G G X) (hdd : 10 ≤ d) (hs : Sy G X K o N h) : jj_Q l G y_GR_takeDirection d [.ref (X.2.2.1 12)] h (sy_F 2 true G X K o N) :=
  jj_Q.of (by decide +kernel) (Nat.le_of_ble_eq_true rfl) (b_GR_takeDirection_0 hG hdd hs)
set_option maxRecDepth 100000 in
set_option maxHeartbeats 4000000 in
theorem b_GR_nameBehindEnd_0 {l : Launch} {G : jj_G} {X : sy_X} {K o N d : Nat} {x1 : Int32} {h : jj_H} (hG : sy_G G X) (hdd : 10 ≤ d) (hs : Sy G X K o N h) : jj_P l G y_GR_nameBehindEnd d (sy_F 0 true G X K o N) 0 [some (.ref (X.2.2.1 12)), some (.int x1)] [] h := by
  refine jj_aload_n (j := 0) (by decide +kernel) rfl ?_
  obtain ⟨ki, va, pl, fa, fp, ne, hg⟩ := hs.gr hG.2
  refine jj_getfield 3 ck_GR fl_GR_68 (by decide) (by decide +kernel) hg rfl ?_
  refine jj_sipush (n := 140) (v := 140) (by decide +kernel) (by decide) ?_
  refine jj_icmp_ne (off := 21) (tgt := 28) (by decide +kernel) (by decide) (fun c1 => ?_) (fun c1 => ?_)
  · skip
    exact jj_vret (by decide +kernel) rfl ⟨rfl, hs⟩
  · skip
    refine jj_aload_n (j := 0) (by decide +kernel) rfl ?_
    obtain ⟨ki, va, pl, fa, fp, ne, hg⟩ := hs.gr hG.2
    refine jj_getfield 4 ck_GR fl_GR_162 (by decide) (by decide +kernel) hg rfl ?_
    refine jj_iload_n (j := 1) (by decide +kernel) rfl ?_
    refine jj_icmp_eq (off := 9) (tgt := 24) (by decide +kernel) (by decide) (fun c2 => ?_) (fun c2 => ?_)
    · skip
      refine jj_aload_n (j := 0) (by decide +kernel) rfl ?_
      refine sy_cv (s_CU_take (d := d - 1) hG (by omega) hs) (fun o1 h1 hC => jj_callU ok_CU_take ml_GR_134 sm_GR_CU_take rfl im_CU_take se_GR_CU_take_u (by decide +kernel) (hs.rcGR hG.2) rfl (by omega) (Nat.le_of_ble_eq_true rfl) hC) rfl (fun _ _ _ q => ⟨rfl, rfl, _, q⟩) (fun h hs => ?_)
      exact jj_vret (by decide +kernel) rfl ⟨rfl, hs⟩
    · skip
      refine jj_aload_n (j := 0) (by decide +kernel) rfl ?_
      refine jj_bipush (n := 6) (v := 6) (by decide +kernel) (by decide) ?_
      exact sy_cx (s_CU_raise (d := d - 1) hG.2 hs (by omega)) (fun o1 h1 hC => jj_callU ok_CU_raise ml_GR_93 sm_GR_CU_raise rfl im_CU_raise se_GR_CU_raise_u (by decide +kernel) (hs.rcGR hG.2) rfl (by omega) (Nat.le_of_ble_eq_true rfl) hC) rfl (fun _ _ q => ⟨rfl, rfl, _, q⟩)
theorem s_GR_nameBehindEnd {l : Launch} {G : jj_G} {X : sy_X} {K o N d : Nat} {x1 : Int32} {h : jj_H} (hG : sy_G G X) (hdd : 10 ≤ d) (hs : Sy G X K o N h) : jj_Q l G y_GR_nameBehindEnd d [.ref (X.2.2.1 12), .int x1] h (sy_F 0 true G X K o N) :=
  jj_Q.of (by decide +kernel) (Nat.le_of_ble_eq_true rfl) (b_GR_nameBehindEnd_0 hG hdd hs)
set_option maxRecDepth 100000 in
set_option maxHeartbeats 4000000 in
theorem b_GR_declaredNames_54 {l : Launch} {G : jj_G} {X : sy_X} {K o N d : Nat} {h : jj_H} {x1 : Int32} (hG : sy_G G X) (hdd : 10 ≤ d) (hs : Sy G X K o N h) : jj_P l G y_GR_declaredNames d (sy_F 0 true G X K o N) 54 [some (.ref (X.2.2.1 12)), some (.int x1)] [] h := by
  refine jj_aload_n (j := 0) (by decide +kernel) rfl ?_
  refine jj_bipush (n := 58) (v := 58) (by decide +kernel) (by decide) ?_
  refine sy_cv (s_CU_expect (d := d - 1) hG (by omega) hs) (fun o1 h1 hC => jj_callU ok_CU_expect ml_GR_102 sm_GR_CU_expect rfl im_CU_expect se_GR_CU_expect_u (by decide +kernel) (hs.rcGR hG.2) rfl (by omega) (Nat.le_of_ble_eq_true rfl) hC) rfl (fun _ _ _ q => ⟨rfl, rfl, _, q⟩) (fun h hs => ?_)
  exact jj_vret (by decide +kernel) rfl ⟨rfl, hs⟩
set_option maxRecDepth 100000 in
set_option maxHeartbeats 4000000 in
theorem b_GR_declaredNames_21 {l : Launch} {G : jj_G} {X : sy_X} {K o N d : Nat} (hG : sy_G G X) (hdd : 10 ≤ d) : ∀ (n : Nat) (x1 : Int32) (h : jj_H), (2147483647 - x1.toInt).toNat < n → Sy G X K o N h → jj_P l G y_GR_declaredNames d (sy_F 0 true G X K o N) 21 [some (.ref (X.2.2.1 12)), some (.int x1)] [] h := by
  intro n
  induction n with
  | zero => intro x1 h hn; exact absurd hn (Nat.not_lt_zero _)
  | succ n ih =>
    intro x1 h hn hs
    refine jj_iload_n (j := 1) (by decide +kernel) rfl ?_
    refine jj_sipush (n := 16385) (v := 16385) (by decide +kernel) (by decide) ?_
    refine jj_icmp_ge (off := 29) (tgt := 54) (by decide +kernel) (by decide) (fun c1 => ?_) (fun c1 => ?_)
    · skip
      exact jj_wk (js_s (js_s js_0)) (b_GR_declaredNames_54 hG hdd hs)
    · skip
      have hdec := up_lt (Int32.not_le.mp c1) hn
      refine jj_aload_n (j := 0) (by decide +kernel) rfl ?_
      refine jj_bipush (n := 44) (v := 44) (by decide +kernel) (by decide) ?_
      refine sy_ci (s_CU_accept (d := d - 1) hG (by omega) hs) (fun o1 h1 hC => jj_callU ok_CU_accept ml_GR_80 sm_GR_CU_accept rfl im_CU_accept se_GR_CU_accept_u (by decide +kernel) (hs.rcGR hG.2) rfl (by omega) (Nat.le_of_ble_eq_true rfl) hC) (by decide) rfl (fun _ _ _ q => ⟨rfl, rfl, _, q⟩) (fun v2 h _ hs => ?_)
      refine jj_if_eq (off := 20) (tgt := 54) (by decide +kernel) (by decide) (fun c3 => ?_) (fun c3 => ?_)
      · skip
        exact jj_wk (js_s (js_s js_0)) (b_GR_declaredNames_54 hG hdd hs)
      · skip
        refine jj_aload_n (j := 0) (by decide +kernel) rfl ?_
        obtain ⟨ki, va, pl, fa, fp, ne, hg⟩ := hs.gr hG.2
        refine jj_getfield 1 ck_GR fl_GR_20 (by decide) (by decide +kernel) hg rfl ?_
        refine jj_aload_n (j := 0) (by decide +kernel) rfl ?_
        refine sy_ci (s_CU_takeName (d := d - 1) hG (by omega) hs) (fun o1 h1 hC => jj_callU ok_CU_takeName ml_GR_61 sm_GR_CU_takeName rfl im_CU_takeName se_GR_CU_takeName_u (by decide +kernel) (hs.rcGR hG.2) rfl (by omega) (Nat.le_of_ble_eq_true rfl) hC) (by decide) rfl (fun _ _ _ q => ⟨rfl, rfl, _, q⟩) (fun v4 h _ hs => ?_)
        refine sy_cv (s_row_add (d := d - 1) (t := 5) hG.1 hs (by decide) (sy_o hG.2) (by decide) (by omega)) (fun o1 h1 hC => jj_callV ok_IR_add ml_GR_137 im_IR_add se_IR_IR_add (by decide +kernel) (hs.rcR (t := 5) (by decide) (sy_o hG.2)) rfl (by omega) (Nat.le_of_ble_eq_true rfl) hC) rfl (fun q => by cases q) (fun h hs => ?_)
        refine jj_iinc (i := 1) (n := 1) (by decide +kernel) rfl rfl (by decide) rfl ?_
        refine jj_goto (off := (-30)) (tgt := 21) (by decide +kernel) (by decide) ?_
        exact jj_wk (js_s (js_s js_0)) (ih _ _ hdec hs)
set_option maxRecDepth 100000 in
set_option maxHeartbeats 4000000 in
theorem b_GR_declaredNames_0 {l : Launch} {G : jj_G} {X : sy_X} {K o N d : Nat} {h : jj_H} (hG : sy_G G X) (hdd : 10 ≤ d) (hs : Sy G X K o N h) : jj_P l G y_GR_declaredNames d (sy_F 0 true G X K o N) 0 [some (.ref (X.2.2.1 12)), none] [] h := by
  refine jj_aload_n (j := 0) (by decide +kernel) rfl ?_
  obtain ⟨ki, va, pl, fa, fp, ne, hg⟩ := hs.gr hG.2
  refine jj_getfield 1 ck_GR fl_GR_20 (by decide) (by decide +kernel) hg rfl ?_
  refine jj_iconst (n := 0) (v := 0) (by decide +kernel) (by decide) ?_
  refine sy_cv (s_row_cut (d := d - 1) (t := 5) hs (by decide) (sy_o hG.2) (by decide)) (fun o1 h1 hC => jj_callV ok_IR_cutTo ml_GR_87 im_IR_cutTo se_IR_IR_cutTo (by decide +kernel) (hs.rcR (t := 5) (by decide) (sy_o hG.2)) rfl (by omega) (Nat.le_of_ble_eq_true rfl) hC) rfl (fun q => by cases q) (fun h hs => ?_)
  refine jj_aload_n (j := 0) (by decide +kernel) rfl ?_
  obtain ⟨ki, va, pl, fa, fp, ne, hg⟩ := hs.gr hG.2
  refine jj_getfield 1 ck_GR fl_GR_20 (by decide) (by decide +kernel) hg rfl ?_
  refine jj_aload_n (j := 0) (by decide +kernel) rfl ?_
  refine sy_ci (s_CU_takeName (d := d - 1) hG (by omega) hs) (fun o1 h1 hC => jj_callU ok_CU_takeName ml_GR_61 sm_GR_CU_takeName rfl im_CU_takeName se_GR_CU_takeName_u (by decide +kernel) (hs.rcGR hG.2) rfl (by omega) (Nat.le_of_ble_eq_true rfl) hC) (by decide) rfl (fun _ _ _ q => ⟨rfl, rfl, _, q⟩) (fun v1 h _ hs => ?_)
  refine sy_cv (s_row_add (d := d - 1) (t := 5) hG.1 hs (by decide) (sy_o hG.2) (by decide) (by omega)) (fun o1 h1 hC => jj_callV ok_IR_add ml_GR_137 im_IR_add se_IR_IR_add (by decide +kernel) (hs.rcR (t := 5) (by decide) (sy_o hG.2)) rfl (by omega) (Nat.le_of_ble_eq_true rfl) hC) rfl (fun q => by cases q) (fun h hs => ?_)
  refine jj_iconst (n := 0) (v := 0) (by decide +kernel) (by decide) ?_
  refine jj_istore_n (j := 1) (by decide +kernel) (by decide) rfl ?_
  exact jj_wk (js_s (js_s js_0)) (b_GR_declaredNames_21 hG hdd _ _ _ (Nat.lt_succ_self _) hs)
theorem s_GR_declaredNames {l : Launch} {G : jj_G} {X : sy_X} {K o N d : Nat} {h : jj_H} (hG : sy_G G X) (hdd : 10 ≤ d) (hs : Sy G X K o N h) : jj_Q l G y_GR_declaredNames d [.ref (X.2.2.1 12)] h (sy_F 0 true G X K o N) :=
  jj_Q.of (by decide +kernel) (Nat.le_of_ble_eq_true rfl) (b_GR_declaredNames_0 hG hdd hs)
set_option maxRecDepth 100000 in
set_option maxHeartbeats 4000000 in
theorem b_GR_tellDeclared_23 {l : Launch} {G : jj_G} {X : sy_X} {K o N d : Nat} {x1 x2 x3 : Int32} (hG : sy_G G X) (hdd : 10 ≤ d) : ∀ (n : Nat) (x4 : Int32) (x5 : Int32) (h : jj_H), (2147483647 - x5.toInt).toNat < n → 0 ≤ x4 → Sy G X K o N h → jj_P l G y_GR_tellDeclared d (sy_F 1 true G X K o N) 23 [some (.ref (X.2.2.1 12)), some (.int x1), some (.int x2), some (.int x3), some (.int x4), some (.int x5)] [] h := by
  intro n
  induction n with
  | zero => intro x4 x5 h hn; exact absurd hn (Nat.not_lt_zero _)
  | succ n ih =>
    intro x4 x5 h hn hx4 hs
    refine jj_iload (i := 5) (by decide +kernel) rfl ?_
    refine jj_aload_n (j := 0) (by decide +kernel) rfl ?_
    obtain ⟨ki, va, pl, fa, fp, ne, hg⟩ := hs.gr hG.2
    refine jj_getfield 1 ck_GR fl_GR_20 (by decide) (by decide +kernel) hg rfl ?_
    refine sy_ci (s_row_size (d := d - 1) (t := 5) hs (by decide) (sy_o hG.2)) (fun o1 h1 hC => jj_callV ok_IR_size ml_GR_143 im_IR_size se_IR_IR_size (by decide +kernel) (hs.rcR (t := 5) (by decide) (sy_o hG.2)) rfl (by omega) (Nat.le_of_ble_eq_true rfl) hC) (by decide) rfl (fun q => by cases q) (fun v1 h hv1 hs => ?_)
    refine jj_icmp_ge (off := 31) (tgt := 63) (by decide +kernel) (by decide) (fun c2 => ?_) (fun c2 => ?_)
    · skip
      refine jj_aload_n (j := 0) (by decide +kernel) rfl ?_
      obtain ⟨ki, va, pl, fa, fp, ne, hg⟩ := hs.gr hG.2
      refine jj_getfield 1 ck_GR fl_GR_20 (by decide) (by decide +kernel) hg rfl ?_
      refine sy_ci (s_row_size (d := d - 1) (t := 5) hs (by decide) (sy_o hG.2)) (fun o1 h1 hC => jj_callV ok_IR_size ml_GR_143 im_IR_size se_IR_IR_size (by decide +kernel) (hs.rcR (t := 5) (by decide) (sy_o hG.2)) rfl (by omega) (Nat.le_of_ble_eq_true rfl) hC) (by decide) rfl (fun q => by cases q) (fun v3 h hv3 hs => ?_)
      exact jj_iret .int (by decide +kernel) rfl rfl ⟨Or.inl rfl, hs⟩
    · skip
      have hdec := up_lt (Int32.not_le.mp c2) hn
      refine jj_aload_n (j := 0) (by decide +kernel) rfl ?_
      refine jj_iload_n (j := 3) (by decide +kernel) rfl ?_
      refine jj_iload (i := 4) (by decide +kernel) rfl ?_
      refine sy_cv (s_CU_tellAgain (d := d - 1) hG (by omega) hs) (fun o1 h1 hC => jj_callU ok_CU_tellAgain ml_GR_146 sm_GR_CU_tellAgain rfl im_CU_tellAgain se_GR_CU_tellAgain_u (by decide +kernel) (hs.rcGR hG.2) rfl (by omega) (Nat.le_of_ble_eq_true rfl) hC) rfl (fun _ _ _ q => ⟨rfl, rfl, _, q⟩) (fun h hs => ?_)
      refine jj_aload_n (j := 0) (by decide +kernel) rfl ?_
      refine jj_iload_n (j := 1) (by decide +kernel) rfl ?_
      refine jj_aload_n (j := 0) (by decide +kernel) rfl ?_
      obtain ⟨ki, va, pl, fa, fp, ne, hg⟩ := hs.gr hG.2
      refine jj_getfield 1 ck_GR fl_GR_20 (by decide) (by decide +kernel) hg rfl ?_
      refine jj_iload (i := 5) (by decide +kernel) rfl ?_
      refine sy_ci (s_row_at (d := d - 1) (t := 5) hG.1 hs (by decide) (sy_o hG.2)) (fun o1 h1 hC => jj_callV ok_IR_at ml_GR_140 im_IR_at se_IR_IR_at (by decide +kernel) (hs.rcR (t := 5) (by decide) (sy_o hG.2)) rfl (by omega) (Nat.le_of_ble_eq_true rfl) hC) (by decide) rfl (fun q => by cases q) (fun v4 h _ hs => ?_)
      refine jj_iload_n (j := 2) (by decide +kernel) rfl ?_
      refine sy_cv (s_CU_tell (d := d - 1) hG (by omega) hs) (fun o1 h1 hC => jj_callU ok_CU_tell ml_GR_64 sm_GR_CU_tell rfl im_CU_tell se_GR_CU_tell_u (by decide +kernel) (hs.rcGR hG.2) rfl (by omega) (Nat.le_of_ble_eq_true rfl) hC) rfl (fun _ _ _ q => ⟨rfl, rfl, _, q⟩) (fun h hs => ?_)
      refine jj_iinc (i := 5) (n := 1) (by decide +kernel) rfl rfl (by decide) rfl ?_
      refine jj_goto (off := (-37)) (tgt := 23) (by decide +kernel) (by decide) ?_
      exact jj_wk (js_s (js_s (js_s (js_s (js_s (js_s js_0)))))) (ih _ _ _ hdec hx4 hs)
set_option maxRecDepth 100000 in
set_option maxHeartbeats 4000000 in
theorem b_GR_tellDeclared_0 {l : Launch} {G : jj_G} {X : sy_X} {K o N d : Nat} {x1 x2 x3 : Int32} {h : jj_H} (hG : sy_G G X) (hdd : 10 ≤ d) (hs : Sy G X K o N h) : jj_P l G y_GR_tellDeclared d (sy_F 1 true G X K o N) 0 [some (.ref (X.2.2.1 12)), some (.int x1), some (.int x2), some (.int x3), none, none] [] h := by
  refine jj_aload_n (j := 0) (by decide +kernel) rfl ?_
  refine sy_ci (s_CU_told (d := d - 1) hG (by omega) hs) (fun o1 h1 hC => jj_callU ok_CU_told ml_GR_121 sm_GR_CU_told rfl im_CU_told se_GR_CU_told_u (by decide +kernel) (hs.rcGR hG.2) rfl (by omega) (Nat.le_of_ble_eq_true rfl) hC) (by decide) rfl (fun q => by cases q) (fun v1 h hv1 hs => ?_)
  refine jj_istore (i := 4) (by decide +kernel) (by decide) rfl ?_
  refine jj_aload_n (j := 0) (by decide +kernel) rfl ?_
  refine jj_iload_n (j := 1) (by decide +kernel) rfl ?_
  refine jj_aload_n (j := 0) (by decide +kernel) rfl ?_
  obtain ⟨ki, va, pl, fa, fp, ne, hg⟩ := hs.gr hG.2
  refine jj_getfield 1 ck_GR fl_GR_20 (by decide) (by decide +kernel) hg rfl ?_
  refine jj_iconst (n := 0) (v := 0) (by decide +kernel) (by decide) ?_
  refine sy_ci (s_row_at (d := d - 1) (t := 5) hG.1 hs (by decide) (sy_o hG.2)) (fun o1 h1 hC => jj_callV ok_IR_at ml_GR_140 im_IR_at se_IR_IR_at (by decide +kernel) (hs.rcR (t := 5) (by decide) (sy_o hG.2)) rfl (by omega) (Nat.le_of_ble_eq_true rfl) hC) (by decide) rfl (fun q => by cases q) (fun v2 h _ hs => ?_)
  refine jj_iload_n (j := 2) (by decide +kernel) rfl ?_
  refine sy_cv (s_CU_tell (d := d - 1) hG (by omega) hs) (fun o1 h1 hC => jj_callU ok_CU_tell ml_GR_64 sm_GR_CU_tell rfl im_CU_tell se_GR_CU_tell_u (by decide +kernel) (hs.rcGR hG.2) rfl (by omega) (Nat.le_of_ble_eq_true rfl) hC) rfl (fun _ _ _ q => ⟨rfl, rfl, _, q⟩) (fun h hs => ?_)
  refine jj_iconst (n := 1) (v := 1) (by decide +kernel) (by decide) ?_
  refine jj_istore (i := 5) (by decide +kernel) (by decide) rfl ?_
  exact jj_wk (js_s (js_s (js_s (js_s (js_s (js_s js_0)))))) (b_GR_tellDeclared_23 hG hdd _ _ _ _ (Nat.lt_succ_self _) (hv1 rfl) hs)
theorem s_GR_tellDeclared {l : Launch} {G : jj_G} {X : sy_X} {K o N d : Nat} {x1 x2 x3 : Int32} {h : jj_H} (hG : sy_G G X) (hdd : 10 ≤ d) (hs : Sy G X K o N h) : jj_Q l G y_GR_tellDeclared d [.ref (X.2.2.1 12), .int x1, .int x2, .int x3] h (sy_F 1 true G X K o N) :=
  jj_Q.of (by decide +kernel) (Nat.le_of_ble_eq_true rfl) (b_GR_tellDeclared_0 hG hdd hs)
set_option maxRecDepth 100000 in
set_option maxHeartbeats 4000000 in
theorem b_GR_expressionBehind_0 {l : Launch} {G : jj_G} {X : sy_X} {K o N d : Nat} {m : Nat} {x1 : Int32} {h : jj_H} (hG : sy_G G X) (ho : o + m = 40) (hdd : 16 + 10 * m ≤ d) (hs : Sy G X K o N h) : jj_P l G y_GR_expressionBehind d (sy_F 0 true G X K o N) 0 [some (.ref (X.2.2.1 12)), some (.int x1)] [] h := by
  refine jj_aload_n (j := 0) (by decide +kernel) rfl ?_
  refine jj_iload_n (j := 1) (by decide +kernel) rfl ?_
  refine sy_ci (s_CU_accept (d := d - 1) hG (by omega) hs) (fun o1 h1 hC => jj_callU ok_CU_accept ml_GR_80 sm_GR_CU_accept rfl im_CU_accept se_GR_CU_accept_u (by decide +kernel) (hs.rcGR hG.2) rfl (by omega) (Nat.le_of_ble_eq_true rfl) hC) (by decide) rfl (fun _ _ _ q => ⟨rfl, rfl, _, q⟩) (fun v1 h _ hs => ?_)
  refine jj_if_eq (off := 10) (tgt := 15) (by decide +kernel) (by decide) (fun c2 => ?_) (fun c2 => ?_)
  · skip
    refine jj_aload_n (j := 0) (by decide +kernel) rfl ?_
    refine sy_cv (s_CU_tellNothing (d := d - 1) hG (by omega) hs) (fun o1 h1 hC => jj_callU ok_CU_tellNothing ml_GR_152 sm_GR_CU_tellNothing rfl im_CU_tellNothing se_GR_CU_tellNothing_u (by decide +kernel) (hs.rcGR hG.2) rfl (by omega) (Nat.le_of_ble_eq_true rfl) hC) rfl (fun _ _ _ q => ⟨rfl, rfl, _, q⟩) (fun h hs => ?_)
    exact jj_vret (by decide +kernel) rfl ⟨rfl, hs⟩
  · skip
    refine jj_aload_n (j := 0) (by decide +kernel) rfl ?_
    refine sy_cv (expr_all hG m _ _ _ (d - 1) (by omega) hs (by omega)) (fun o1 h1 hC => jj_callV ok_GR_expression ml_GR_149 im_GR_expression se_GR_GR_expression (by decide +kernel) (hs.rcGR hG.2) rfl (by omega) (Nat.le_of_ble_eq_true rfl) hC) rfl (fun _ _ _ q => ⟨rfl, rfl, _, q⟩) (fun h hs => ?_)
    refine jj_goto (off := 7) (tgt := 19) (by decide +kernel) (by decide) ?_
    exact jj_vret (by decide +kernel) rfl ⟨rfl, hs⟩
theorem s_GR_expressionBehind {l : Launch} {G : jj_G} {X : sy_X} {K o N d : Nat} {m : Nat} {x1 : Int32} {h : jj_H} (hG : sy_G G X) (ho : o + m = 40) (hdd : 16 + 10 * m ≤ d) (hs : Sy G X K o N h) : jj_Q l G y_GR_expressionBehind d [.ref (X.2.2.1 12), .int x1] h (sy_F 0 true G X K o N) :=
  jj_Q.of (by decide +kernel) (Nat.le_of_ble_eq_true rfl) (b_GR_expressionBehind_0 hG ho hdd hs)
set_option maxRecDepth 100000 in
set_option maxHeartbeats 4000000 in
theorem b_GR_type_95 {l : Launch} {G : jj_G} {X : sy_X} {K o N d : Nat} {m : Nat} {h : jj_H} {x1 : Int32} (hG : sy_G G X) (ho : o + m = 40) (hdd : 16 + 10 * m ≤ d) (hs : Sy G X K o N h) : jj_P l G y_GR_type d (sy_F 0 true G X K o N) 95 [some (.ref (X.2.2.1 12)), some (.int x1), none] [] h := by
  refine jj_aload_n (j := 0) (by decide +kernel) rfl ?_
  refine jj_bipush (n := 10) (v := 10) (by decide +kernel) (by decide) ?_
  refine jj_iload_n (j := 1) (by decide +kernel) rfl ?_
  refine jj_iconst (n := 0) (v := 0) (by decide +kernel) (by decide) ?_
  refine sy_cv (s_CU_tell (d := d - 1) hG (by omega) hs) (fun o1 h1 hC => jj_callU ok_CU_tell ml_GR_64 sm_GR_CU_tell rfl im_CU_tell se_GR_CU_tell_u (by decide +kernel) (hs.rcGR hG.2) rfl (by omega) (Nat.le_of_ble_eq_true rfl) hC) rfl (fun _ _ _ q => ⟨rfl, rfl, _, q⟩) (fun h hs => ?_)
  exact jj_vret (by decide +kernel) rfl ⟨rfl, hs⟩
set_option maxRecDepth 100000 in
set_option maxHeartbeats 4000000 in
theorem b_GR_type_47 {l : Launch} {G : jj_G} {X : sy_X} {K o N d : Nat} {m : Nat} {h : jj_H} {x1 x2 y1 : Int32} (hG : sy_G G X) (ho : o + m = 40) (hdd : 16 + 10 * m ≤ d) (hs : Sy G X K o N h) : jj_P l G y_GR_type d (sy_F 0 true G X K o N) 47 [some (.ref (X.2.2.1 12)), some (.int x1), some (.int x2)] [.int y1, .ref (X.2.2.1 12)] h := by
  refine jj_iconst (n := 5) (v := 5) (by decide +kernel) (by decide) ?_
  refine jj_iconst (n := 2) (v := 2) (by decide +kernel) (by decide) ?_
  refine sy_cv (s_CU_tell (d := d - 1) hG (by omega) hs) (fun o1 h1 hC => jj_callU ok_CU_tell ml_GR_64 sm_GR_CU_tell rfl im_CU_tell se_GR_CU_tell_u (by decide +kernel) (hs.rcGR hG.2) rfl (by omega) (Nat.le_of_ble_eq_true rfl) hC) rfl (fun _ _ _ q => ⟨rfl, rfl, _, q⟩) (fun h hs => ?_)
  refine jj_goto (off := 51) (tgt := 103) (by decide +kernel) (by decide) ?_
  exact jj_vret (by decide +kernel) rfl ⟨rfl, hs⟩
set_option maxRecDepth 100000 in
set_option maxHeartbeats 4000000 in
theorem b_GR_type_0 {l : Launch} {G : jj_G} {X : sy_X} {K o N d : Nat} {m : Nat} {h : jj_H} (hG : sy_G G X) (ho : o + m = 40) (hdd : 16 + 10 * m ≤ d) (hs : Sy G X K o N h) : jj_P l G y_GR_type d (sy_F 0 true G X K o N) 0 [some (.ref (X.2.2.1 12)), none, none] [] h := by
  refine jj_aload_n (j := 0) (by decide +kernel) rfl ?_
  refine sy_ci (s_CU_takeName (d := d - 1) hG (by omega) hs) (fun o1 h1 hC => jj_callU ok_CU_takeName ml_GR_61 sm_GR_CU_takeName rfl im_CU_takeName se_GR_CU_takeName_u (by decide +kernel) (hs.rcGR hG.2) rfl (by omega) (Nat.le_of_ble_eq_true rfl) hC) (by decide) rfl (fun _ _ _ q => ⟨rfl, rfl, _, q⟩) (fun v1 h _ hs => ?_)
  refine jj_istore_n (j := 1) (by decide +kernel) (by decide) rfl ?_
  refine jj_iload_n (j := 1) (by decide +kernel) rfl ?_
  refine jj_iconst (n := 5) (v := 5) (by decide +kernel) (by decide) ?_
  refine jj_icmp_ne (off := 48) (tgt := 55) (by decide +kernel) (by decide) (fun c2 => ?_) (fun c2 => ?_)
  · skip
    refine jj_iload_n (j := 1) (by decide +kernel) rfl ?_
    refine jj_if_ne (off := 39) (tgt := 95) (by decide +kernel) (by decide) (fun c3 => ?_) (fun c3 => ?_)
    · skip
      exact jj_wk (js_s (js_s (js_n js_0))) (b_GR_type_95 hG ho hdd hs)
    · skip
      refine jj_aload_n (j := 0) (by decide +kernel) rfl ?_
      refine jj_sipush (n := 293) (v := 293) (by decide +kernel) (by decide) ?_
      refine sy_ci (s_CU_accept (d := d - 1) hG (by omega) hs) (fun o1 h1 hC => jj_callU ok_CU_accept ml_GR_80 sm_GR_CU_accept rfl im_CU_accept se_GR_CU_accept_u (by decide +kernel) (hs.rcGR hG.2) rfl (by omega) (Nat.le_of_ble_eq_true rfl) hC) (by decide) rfl (fun _ _ _ q => ⟨rfl, rfl, _, q⟩) (fun v4 h _ hs => ?_)
      refine jj_if_eq (off := 29) (tgt := 95) (by decide +kernel) (by decide) (fun c5 => ?_) (fun c5 => ?_)
      · skip
        exact jj_wk (js_s (js_s (js_n js_0))) (b_GR_type_95 hG ho hdd hs)
      · skip
        refine jj_aload_n (j := 0) (by decide +kernel) rfl ?_
        refine sy_cv (expr_all hG m _ _ _ (d - 1) (by omega) hs (by omega)) (fun o1 h1 hC => jj_callV ok_GR_expression ml_GR_149 im_GR_expression se_GR_GR_expression (by decide +kernel) (hs.rcGR hG.2) rfl (by omega) (Nat.le_of_ble_eq_true rfl) hC) rfl (fun _ _ _ q => ⟨rfl, rfl, _, q⟩) (fun h hs => ?_)
        refine jj_aload_n (j := 0) (by decide +kernel) rfl ?_
        refine jj_sipush (n := 302) (v := 302) (by decide +kernel) (by decide) ?_
        refine sy_cv (s_CU_expect (d := d - 1) hG (by omega) hs) (fun o1 h1 hC => jj_callU ok_CU_expect ml_GR_102 sm_GR_CU_expect rfl im_CU_expect se_GR_CU_expect_u (by decide +kernel) (hs.rcGR hG.2) rfl (by omega) (Nat.le_of_ble_eq_true rfl) hC) rfl (fun _ _ _ q => ⟨rfl, rfl, _, q⟩) (fun h hs => ?_)
        refine jj_aload_n (j := 0) (by decide +kernel) rfl ?_
        refine sy_cv (expr_all hG m _ _ _ (d - 1) (by omega) hs (by omega)) (fun o1 h1 hC => jj_callV ok_GR_expression ml_GR_149 im_GR_expression se_GR_GR_expression (by decide +kernel) (hs.rcGR hG.2) rfl (by omega) (Nat.le_of_ble_eq_true rfl) hC) rfl (fun _ _ _ q => ⟨rfl, rfl, _, q⟩) (fun h hs => ?_)
        refine jj_aload_n (j := 0) (by decide +kernel) rfl ?_
        refine jj_bipush (n := 11) (v := 11) (by decide +kernel) (by decide) ?_
        refine jj_iconst (n := 0) (v := 0) (by decide +kernel) (by decide) ?_
        refine jj_iconst (n := 2) (v := 2) (by decide +kernel) (by decide) ?_
        refine sy_cv (s_CU_tell (d := d - 1) hG (by omega) hs) (fun o1 h1 hC => jj_callU ok_CU_tell ml_GR_64 sm_GR_CU_tell rfl im_CU_tell se_GR_CU_tell_u (by decide +kernel) (hs.rcGR hG.2) rfl (by omega) (Nat.le_of_ble_eq_true rfl) hC) rfl (fun _ _ _ q => ⟨rfl, rfl, _, q⟩) (fun h hs => ?_)
        refine jj_goto (off := 11) (tgt := 103) (by decide +kernel) (by decide) ?_
        exact jj_vret (by decide +kernel) rfl ⟨rfl, hs⟩
  · skip
    refine jj_aload_n (j := 0) (by decide +kernel) rfl ?_
    refine jj_bipush (n := 40) (v := 40) (by decide +kernel) (by decide) ?_
    refine sy_cv (s_CU_expect (d := d - 1) hG (by omega) hs) (fun o1 h1 hC => jj_callU ok_CU_expect ml_GR_102 sm_GR_CU_expect rfl im_CU_expect se_GR_CU_expect_u (by decide +kernel) (hs.rcGR hG.2) rfl (by omega) (Nat.le_of_ble_eq_true rfl) hC) rfl (fun _ _ _ q => ⟨rfl, rfl, _, q⟩) (fun h hs => ?_)
    refine jj_aload_n (j := 0) (by decide +kernel) rfl ?_
    refine sy_cv (expr_all hG m _ _ _ (d - 1) (by omega) hs (by omega)) (fun o1 h1 hC => jj_callV ok_GR_expression ml_GR_149 im_GR_expression se_GR_GR_expression (by decide +kernel) (hs.rcGR hG.2) rfl (by omega) (Nat.le_of_ble_eq_true rfl) hC) rfl (fun _ _ _ q => ⟨rfl, rfl, _, q⟩) (fun h hs => ?_)
    refine jj_aload_n (j := 0) (by decide +kernel) rfl ?_
    refine sy_ci (s_GR_takeDirection (d := d - 1) hG (by omega) hs) (fun o1 h1 hC => jj_callV ok_GR_takeDirection ml_GR_155 im_GR_takeDirection se_GR_GR_takeDirection (by decide +kernel) (hs.rcGR hG.2) rfl (by omega) (Nat.le_of_ble_eq_true rfl) hC) (by decide) rfl (fun _ _ _ q => ⟨rfl, rfl, _, q⟩) (fun v6 h _ hs => ?_)
    refine jj_istore_n (j := 2) (by decide +kernel) (by decide) rfl ?_
    refine jj_aload_n (j := 0) (by decide +kernel) rfl ?_
    refine sy_cv (expr_all hG m _ _ _ (d - 1) (by omega) hs (by omega)) (fun o1 h1 hC => jj_callV ok_GR_expression ml_GR_149 im_GR_expression se_GR_GR_expression (by decide +kernel) (hs.rcGR hG.2) rfl (by omega) (Nat.le_of_ble_eq_true rfl) hC) rfl (fun _ _ _ q => ⟨rfl, rfl, _, q⟩) (fun h hs => ?_)
    refine jj_aload_n (j := 0) (by decide +kernel) rfl ?_
    refine jj_bipush (n := 41) (v := 41) (by decide +kernel) (by decide) ?_
    refine sy_cv (s_CU_expect (d := d - 1) hG (by omega) hs) (fun o1 h1 hC => jj_callU ok_CU_expect ml_GR_102 sm_GR_CU_expect rfl im_CU_expect se_GR_CU_expect_u (by decide +kernel) (hs.rcGR hG.2) rfl (by omega) (Nat.le_of_ble_eq_true rfl) hC) rfl (fun _ _ _ q => ⟨rfl, rfl, _, q⟩) (fun h hs => ?_)
    refine jj_aload_n (j := 0) (by decide +kernel) rfl ?_
    refine jj_iload_n (j := 2) (by decide +kernel) rfl ?_
    refine jj_if_eq (off := 8) (tgt := 45) (by decide +kernel) (by decide) (fun c7 => ?_) (fun c7 => ?_)
    · skip
      refine jj_bipush (n := 12) (v := 12) (by decide +kernel) (by decide) ?_
      exact jj_wk (js_s (js_s (js_s js_0))) (b_GR_type_47 hG ho hdd hs)
    · skip
      refine jj_bipush (n := 13) (v := 13) (by decide +kernel) (by decide) ?_
      refine jj_goto (off := 5) (tgt := 47) (by decide +kernel) (by decide) ?_
      exact jj_wk (js_s (js_s (js_s js_0))) (b_GR_type_47 hG ho hdd hs)
theorem s_GR_type {l : Launch} {G : jj_G} {X : sy_X} {K o N d : Nat} {m : Nat} {h : jj_H} (hG : sy_G G X) (ho : o + m = 40) (hdd : 16 + 10 * m ≤ d) (hs : Sy G X K o N h) : jj_Q l G y_GR_type d [.ref (X.2.2.1 12)] h (sy_F 0 true G X K o N) :=
  jj_Q.of (by decide +kernel) (Nat.le_of_ble_eq_true rfl) (b_GR_type_0 hG ho hdd hs)
set_option maxRecDepth 100000 in
set_option maxHeartbeats 4000000 in
theorem b_GR_listOfAny_33 {l : Launch} {G : jj_G} {X : sy_X} {K o N d : Nat} {m : Nat} {x1 : Int32} {h : jj_H} {x2 x3 : Int32} (hG : sy_G G X) (ho : o + m = 40) {D : Nat} (hone : sy_One l G X N x1 D m) (hD : 20 ≤ D) (hdd : D + 2 + 10 * m ≤ d) (hs : Sy G X K o N h) : jj_P l G y_GR_listOfAny d (sy_F 0 true G X K o N) 33 [some (.ref (X.2.2.1 12)), some (.int x1), some (.int x2), some (.int x3)] [] h := by
  refine jj_aload_n (j := 0) (by decide +kernel) rfl ?_
  refine jj_bipush (n := 48) (v := 48) (by decide +kernel) (by decide) ?_
  refine jj_iconst (n := 0) (v := 0) (by decide +kernel) (by decide) ?_
  refine jj_iload_n (j := 2) (by decide +kernel) rfl ?_
  refine sy_cv (s_CU_tell (d := d - 1) hG (by omega) hs) (fun o1 h1 hC => jj_callU ok_CU_tell ml_GR_64 sm_GR_CU_tell rfl im_CU_tell se_GR_CU_tell_u (by decide +kernel) (hs.rcGR hG.2) rfl (by omega) (Nat.le_of_ble_eq_true rfl) hC) rfl (fun _ _ _ q => ⟨rfl, rfl, _, q⟩) (fun h hs => ?_)
  exact jj_vret (by decide +kernel) rfl ⟨rfl, hs⟩
set_option maxRecDepth 100000 in
set_option maxHeartbeats 4000000 in
theorem b_GR_listOfAny_4 {l : Launch} {G : jj_G} {X : sy_X} {K o N d : Nat} {m : Nat} {x1 : Int32} (hG : sy_G G X) (ho : o + m = 40) {D : Nat} (hone : sy_One l G X N x1 D m) (hD : 20 ≤ D) (hdd : D + 2 + 10 * m ≤ d) : ∀ (n : Nat) (x2 : Int32) (x3 : Int32) (h : jj_H), (2147483647 - x3.toInt).toNat < n → Sy G X K o N h → jj_P l G y_GR_listOfAny d (sy_F 0 true G X K o N) 4 [some (.ref (X.2.2.1 12)), some (.int x1), some (.int x2), some (.int x3)] [] h := by
  intro n
  induction n with
  | zero => intro x2 x3 h hn; exact absurd hn (Nat.not_lt_zero _)
  | succ n ih =>
    intro x2 x3 h hn hs
    refine jj_iload_n (j := 3) (by decide +kernel) rfl ?_
    refine jj_sipush (n := 16385) (v := 16385) (by decide +kernel) (by decide) ?_
    refine jj_icmp_ge (off := 25) (tgt := 33) (by decide +kernel) (by decide) (fun c1 => ?_) (fun c1 => ?_)
    · skip
      exact jj_wk (js_s (js_s (js_s (js_s js_0)))) (b_GR_listOfAny_33 hG ho hone hD hdd hs)
    · skip
      have hdec := up_lt (Int32.not_le.mp c1) hn
      refine jj_aload_n (j := 0) (by decide +kernel) rfl ?_
      refine jj_iload_n (j := 1) (by decide +kernel) rfl ?_
      refine sy_ci (s_GR_canBegin (d := d - 1) hG (by omega) hs) (fun o1 h1 hC => jj_callV ok_GR_canBegin ml_GR_72 im_GR_canBegin se_GR_GR_canBegin (by decide +kernel) (hs.rcGR hG.2) rfl (by omega) (Nat.le_of_ble_eq_true rfl) hC) (by decide) rfl (fun q => by cases q) (fun v2 h _ hs => ?_)
      refine jj_if_eq (off := 17) (tgt := 33) (by decide +kernel) (by decide) (fun c3 => ?_) (fun c3 => ?_)
      · skip
        exact jj_wk (js_s (js_s (js_s (js_s js_0)))) (b_GR_listOfAny_33 hG ho hone hD hdd hs)
      · skip
        refine jj_iload_n (j := 2) (by decide +kernel) rfl ?_
        refine jj_aload_n (j := 0) (by decide +kernel) rfl ?_
        refine jj_iload_n (j := 1) (by decide +kernel) rfl ?_
        refine sy_ci (hone _ _ _ (d - 1) (by omega) hs (by omega)) (fun o1 h1 hC => jj_callV ok_GR_one ml_GR_76 im_GR_one se_GR_GR_one (by decide +kernel) (hs.rcGR hG.2) rfl (by omega) (Nat.le_of_ble_eq_true rfl) hC) (by decide) rfl (fun _ _ _ q => ⟨rfl, rfl, _, q⟩) (fun v4 h _ hs => ?_)
        refine jj_iadd (by decide +kernel) ?_
        refine jj_istore_n (j := 2) (by decide +kernel) (by decide) rfl ?_
        refine jj_iinc (i := 3) (n := 1) (by decide +kernel) rfl rfl (by decide) rfl ?_
        refine jj_goto (off := (-26)) (tgt := 4) (by decide +kernel) (by decide) ?_
        exact jj_wk (js_s (js_s (js_s (js_s js_0)))) (ih _ _ _ hdec hs)
set_option maxRecDepth 100000 in
set_option maxHeartbeats 4000000 in
theorem b_GR_listOfAny_0 {l : Launch} {G : jj_G} {X : sy_X} {K o N d : Nat} {m : Nat} {x1 : Int32} {h : jj_H} (hG : sy_G G X) (ho : o + m = 40) {D : Nat} (hone : sy_One l G X N x1 D m) (hD : 20 ≤ D) (hdd : D + 2 + 10 * m ≤ d) (hs : Sy G X K o N h) : jj_P l G y_GR_listOfAny d (sy_F 0 true G X K o N) 0 [some (.ref (X.2.2.1 12)), some (.int x1), none, none] [] h := by
  refine jj_iconst (n := 0) (v := 0) (by decide +kernel) (by decide) ?_
  refine jj_istore_n (j := 2) (by decide +kernel) (by decide) rfl ?_
  refine jj_iconst (n := 0) (v := 0) (by decide +kernel) (by decide) ?_
  refine jj_istore_n (j := 3) (by decide +kernel) (by decide) rfl ?_
  exact jj_wk (js_s (js_s (js_s (js_s js_0)))) (b_GR_listOfAny_4 hG ho hone hD hdd _ _ _ _ (Nat.lt_succ_self _) hs)
theorem s_GR_listOfAny {l : Launch} {G : jj_G} {X : sy_X} {K o N d : Nat} {m : Nat} {x1 : Int32} {h : jj_H} (hG : sy_G G X) (ho : o + m = 40) {D : Nat} (hone : sy_One l G X N x1 D m) (hD : 20 ≤ D) (hdd : D + 2 + 10 * m ≤ d) (hs : Sy G X K o N h) : jj_Q l G y_GR_listOfAny d [.ref (X.2.2.1 12), .int x1] h (sy_F 0 true G X K o N) :=
  jj_Q.of (by decide +kernel) (Nat.le_of_ble_eq_true rfl) (b_GR_listOfAny_0 hG ho hone hD hdd hs)
set_option maxRecDepth 100000 in
set_option maxHeartbeats 4000000 in
theorem b_GR_oneOrMore_9 {l : Launch} {G : jj_G} {X : sy_X} {K o N d : Nat} {m : Nat} {x1 x2 : Int32} (hG : sy_G G X) (ho : o + m = 40) {D : Nat} (hone : sy_One l G X N x1 D m) (hD : 20 ≤ D) (hdd : D + 2 + 10 * m ≤ d) : ∀ (n : Nat) (x3 : Int32) (x4 : Int32) (h : jj_H), (2147483647 - x4.toInt).toNat < n → Sy G X K o N h → jj_P l G y_GR_oneOrMore d (sy_F 1 true G X K o N) 9 [some (.ref (X.2.2.1 12)), some (.int x1), some (.int x2), some (.int x3), some (.int x4)] [] h := by
  intro n
  induction n with
  | zero => intro x3 x4 h hn; exact absurd hn (Nat.not_lt_zero _)
  | succ n ih =>
    intro x3 x4 h hn hs
    refine jj_iload (i := 4) (by decide +kernel) rfl ?_
    refine jj_sipush (n := 16385) (v := 16385) (by decide +kernel) (by decide) ?_
    refine jj_icmp_ge (off := 25) (tgt := 39) (by decide +kernel) (by decide) (fun c1 => ?_) (fun c1 => ?_)
    · skip
      refine jj_iload_n (j := 3) (by decide +kernel) rfl ?_
      exact jj_iret .int (by decide +kernel) rfl rfl ⟨Or.inl rfl, hs⟩
    · skip
      have hdec := up_lt (Int32.not_le.mp c1) hn
      refine jj_aload_n (j := 0) (by decide +kernel) rfl ?_
      refine jj_iload_n (j := 2) (by decide +kernel) rfl ?_
      refine sy_ci (s_CU_accept (d := d - 1) hG (by omega) hs) (fun o1 h1 hC => jj_callU ok_CU_accept ml_GR_80 sm_GR_CU_accept rfl im_CU_accept se_GR_CU_accept_u (by decide +kernel) (hs.rcGR hG.2) rfl (by omega) (Nat.le_of_ble_eq_true rfl) hC) (by decide) rfl (fun _ _ _ q => ⟨rfl, rfl, _, q⟩) (fun v2 h _ hs => ?_)
      refine jj_if_eq (off := 17) (tgt := 39) (by decide +kernel) (by decide) (fun c3 => ?_) (fun c3 => ?_)
      · skip
        refine jj_iload_n (j := 3) (by decide +kernel) rfl ?_
        exact jj_iret .int (by decide +kernel) rfl rfl ⟨Or.inl rfl, hs⟩
      · skip
        refine jj_iload_n (j := 3) (by decide +kernel) rfl ?_
        refine jj_aload_n (j := 0) (by decide +kernel) rfl ?_
        refine jj_iload_n (j := 1) (by decide +kernel) rfl ?_
        refine sy_ci (hone _ _ _ (d - 1) (by omega) hs (by omega)) (fun o1 h1 hC => jj_callV ok_GR_one ml_GR_76 im_GR_one se_GR_GR_one (by decide +kernel) (hs.rcGR hG.2) rfl (by omega) (Nat.le_of_ble_eq_true rfl) hC) (by decide) rfl (fun _ _ _ q => ⟨rfl, rfl, _, q⟩) (fun v4 h _ hs => ?_)
        refine jj_iadd (by decide +kernel) ?_
        refine jj_istore_n (j := 3) (by decide +kernel) (by decide) rfl ?_
        refine jj_iinc (i := 4) (n := 1) (by decide +kernel) rfl rfl (by decide) rfl ?_
        refine jj_goto (off := (-27)) (tgt := 9) (by decide +kernel) (by decide) ?_
        exact jj_wk (js_s (js_s (js_s (js_s (js_s js_0))))) (ih _ _ _ hdec hs)
set_option maxRecDepth 100000 in
set_option maxHeartbeats 4000000 in
theorem b_GR_oneOrMore_0 {l : Launch} {G : jj_G} {X : sy_X} {K o N d : Nat} {m : Nat} {x1 x2 : Int32} {h : jj_H} (hG : sy_G G X) (ho : o + m = 40) {D : Nat} (hone : sy_One l G X N x1 D m) (hD : 20 ≤ D) (hdd : D + 2 + 10 * m ≤ d) (hs : Sy G X K o N h) : jj_P l G y_GR_oneOrMore d (sy_F 1 true G X K o N) 0 [some (.ref (X.2.2.1 12)), some (.int x1), some (.int x2), none, none] [] h := by
  refine jj_aload_n (j := 0) (by decide +kernel) rfl ?_
  refine jj_iload_n (j := 1) (by decide +kernel) rfl ?_
  refine sy_ci (hone _ _ _ (d - 1) (by omega) hs (by omega)) (fun o1 h1 hC => jj_callV ok_GR_one ml_GR_76 im_GR_one se_GR_GR_one (by decide +kernel) (hs.rcGR hG.2) rfl (by omega) (Nat.le_of_ble_eq_true rfl) hC) (by decide) rfl (fun _ _ _ q => ⟨rfl, rfl, _, q⟩) (fun v1 h _ hs => ?_)
  refine jj_istore_n (j := 3) (by decide +kernel) (by decide) rfl ?_
  refine jj_iconst (n := 0) (v := 0) (by decide +kernel) (by decide) ?_
  refine jj_istore (i := 4) (by decide +kernel) (by decide) rfl ?_
  exact jj_wk (js_s (js_s (js_s (js_s (js_s js_0))))) (b_GR_oneOrMore_9 hG ho hone hD hdd _ _ _ _ (Nat.lt_succ_self _) hs)
theorem s_GR_oneOrMore {l : Launch} {G : jj_G} {X : sy_X} {K o N d : Nat} {m : Nat} {x1 x2 : Int32} {h : jj_H} (hG : sy_G G X) (ho : o + m = 40) {D : Nat} (hone : sy_One l G X N x1 D m) (hD : 20 ≤ D) (hdd : D + 2 + 10 * m ≤ d) (hs : Sy G X K o N h) : jj_Q l G y_GR_oneOrMore d [.ref (X.2.2.1 12), .int x1, .int x2] h (sy_F 1 true G X K o N) :=
  jj_Q.of (by decide +kernel) (Nat.le_of_ble_eq_true rfl) (b_GR_oneOrMore_0 hG ho hone hD hdd hs)
set_option maxRecDepth 100000 in
set_option maxHeartbeats 4000000 in
theorem b_GR_listOfSome_0 {l : Launch} {G : jj_G} {X : sy_X} {K o N d : Nat} {m : Nat} {x1 x2 : Int32} {h : jj_H} (hG : sy_G G X) (ho : o + m = 40) {D : Nat} (hone : sy_One l G X N x1 D m) (hD : 20 ≤ D) (hdd : D + 3 + 10 * m ≤ d) (hs : Sy G X K o N h) : jj_P l G y_GR_listOfSome d (sy_F 0 true G X K o N) 0 [some (.ref (X.2.2.1 12)), some (.int x1), some (.int x2)] [] h := by
  refine jj_aload_n (j := 0) (by decide +kernel) rfl ?_
  refine jj_bipush (n := 48) (v := 48) (by decide +kernel) (by decide) ?_
  refine jj_iconst (n := 0) (v := 0) (by decide +kernel) (by decide) ?_
  refine jj_aload_n (j := 0) (by decide +kernel) rfl ?_
  refine jj_iload_n (j := 1) (by decide +kernel) rfl ?_
  refine jj_iload_n (j := 2) (by decide +kernel) rfl ?_
  refine sy_ci (s_GR_oneOrMore (d := d - 1) (m := m) hG (by omega) hone hD (by omega) hs) (fun o1 h1 hC => jj_callV ok_GR_oneOrMore ml_GR_83 im_GR_oneOrMore se_GR_GR_oneOrMore (by decide +kernel) (hs.rcGR hG.2) rfl (by omega) (Nat.le_of_ble_eq_true rfl) hC) (by decide) rfl (fun _ _ _ q => ⟨rfl, rfl, _, q⟩) (fun v1 h _ hs => ?_)
  refine sy_cv (s_CU_tell (d := d - 1) hG (by omega) hs) (fun o1 h1 hC => jj_callU ok_CU_tell ml_GR_64 sm_GR_CU_tell rfl im_CU_tell se_GR_CU_tell_u (by decide +kernel) (hs.rcGR hG.2) rfl (by omega) (Nat.le_of_ble_eq_true rfl) hC) rfl (fun _ _ _ q => ⟨rfl, rfl, _, q⟩) (fun h hs => ?_)
  exact jj_vret (by decide +kernel) rfl ⟨rfl, hs⟩
theorem s_GR_listOfSome {l : Launch} {G : jj_G} {X : sy_X} {K o N d : Nat} {m : Nat} {x1 x2 : Int32} {h : jj_H} (hG : sy_G G X) (ho : o + m = 40) {D : Nat} (hone : sy_One l G X N x1 D m) (hD : 20 ≤ D) (hdd : D + 3 + 10 * m ≤ d) (hs : Sy G X K o N h) : jj_Q l G y_GR_listOfSome d [.ref (X.2.2.1 12), .int x1, .int x2] h (sy_F 0 true G X K o N) :=
  jj_Q.of (by decide +kernel) (Nat.le_of_ble_eq_true rfl) (b_GR_listOfSome_0 hG ho hone hD hdd hs)
set_option maxRecDepth 100000 in
set_option maxHeartbeats 4000000 in
theorem b_GR_interfaceList_0 {l : Launch} {G : jj_G} {X : sy_X} {K o N d : Nat} {m : Nat} {x1 x2 : Int32} {h : jj_H} (hG : sy_G G X) (ho : o + m = 40) {D : Nat} (hone : sy_One l G X N x2 D m) (hD : 20 ≤ D) (hdd : D + 4 + 10 * m ≤ d) (hs : Sy G X K o N h) : jj_P l G y_GR_interfaceList d (sy_F 0 true G X K o N) 0 [some (.ref (X.2.2.1 12)), some (.int x1), some (.int x2)] [] h := by
  refine jj_aload_n (j := 0) (by decide +kernel) rfl ?_
  refine jj_iload_n (j := 1) (by decide +kernel) rfl ?_
  refine sy_ci (s_CU_accept (d := d - 1) hG (by omega) hs) (fun o1 h1 hC => jj_callU ok_CU_accept ml_GR_80 sm_GR_CU_accept rfl im_CU_accept se_GR_CU_accept_u (by decide +kernel) (hs.rcGR hG.2) rfl (by omega) (Nat.le_of_ble_eq_true rfl) hC) (by decide) rfl (fun _ _ _ q => ⟨rfl, rfl, _, q⟩) (fun v1 h _ hs => ?_)
  refine jj_if_eq (off := 31) (tgt := 36) (by decide +kernel) (by decide) (fun c2 => ?_) (fun c2 => ?_)
  · skip
    refine jj_aload_n (j := 0) (by decide +kernel) rfl ?_
    refine sy_cv (s_GR_emptyList (d := d - 1) hG (by omega) hs) (fun o1 h1 hC => jj_callV ok_GR_emptyList ml_GR_115 im_GR_emptyList se_GR_GR_emptyList (by decide +kernel) (hs.rcGR hG.2) rfl (by omega) (Nat.le_of_ble_eq_true rfl) hC) rfl (fun _ _ _ q => ⟨rfl, rfl, _, q⟩) (fun h hs => ?_)
    exact jj_vret (by decide +kernel) rfl ⟨rfl, hs⟩
  · skip
    refine jj_aload_n (j := 0) (by decide +kernel) rfl ?_
    refine jj_bipush (n := 40) (v := 40) (by decide +kernel) (by decide) ?_
    refine sy_cv (s_CU_expect (d := d - 1) hG (by omega) hs) (fun o1 h1 hC => jj_callU ok_CU_expect ml_GR_102 sm_GR_CU_expect rfl im_CU_expect se_GR_CU_expect_u (by decide +kernel) (hs.rcGR hG.2) rfl (by omega) (Nat.le_of_ble_eq_true rfl) hC) rfl (fun _ _ _ q => ⟨rfl, rfl, _, q⟩) (fun h hs => ?_)
    refine jj_aload_n (j := 0) (by decide +kernel) rfl ?_
    refine jj_iload_n (j := 2) (by decide +kernel) rfl ?_
    refine jj_bipush (n := 59) (v := 59) (by decide +kernel) (by decide) ?_
    refine sy_cv (s_GR_listOfSome (d := d - 1) (m := m) hG (by omega) hone hD (by omega) hs) (fun o1 h1 hC => jj_callV ok_GR_listOfSome ml_GR_112 im_GR_listOfSome se_GR_GR_listOfSome (by decide +kernel) (hs.rcGR hG.2) rfl (by omega) (Nat.le_of_ble_eq_true rfl) hC) rfl (fun _ _ _ q => ⟨rfl, rfl, _, q⟩) (fun h hs => ?_)
    refine jj_aload_n (j := 0) (by decide +kernel) rfl ?_
    refine jj_bipush (n := 41) (v := 41) (by decide +kernel) (by decide) ?_
    refine sy_cv (s_CU_expect (d := d - 1) hG (by omega) hs) (fun o1 h1 hC => jj_callU ok_CU_expect ml_GR_102 sm_GR_CU_expect rfl im_CU_expect se_GR_CU_expect_u (by decide +kernel) (hs.rcGR hG.2) rfl (by omega) (Nat.le_of_ble_eq_true rfl) hC) rfl (fun _ _ _ q => ⟨rfl, rfl, _, q⟩) (fun h hs => ?_)
    refine jj_aload_n (j := 0) (by decide +kernel) rfl ?_
    refine jj_bipush (n := 59) (v := 59) (by decide +kernel) (by decide) ?_
    refine sy_cv (s_CU_expect (d := d - 1) hG (by omega) hs) (fun o1 h1 hC => jj_callU ok_CU_expect ml_GR_102 sm_GR_CU_expect rfl im_CU_expect se_GR_CU_expect_u (by decide +kernel) (hs.rcGR hG.2) rfl (by omega) (Nat.le_of_ble_eq_true rfl) hC) rfl (fun _ _ _ q => ⟨rfl, rfl, _, q⟩) (fun h hs => ?_)
    refine jj_goto (off := 7) (tgt := 40) (by decide +kernel) (by decide) ?_
    exact jj_vret (by decide +kernel) rfl ⟨rfl, hs⟩
theorem s_GR_interfaceList {l : Launch} {G : jj_G} {X : sy_X} {K o N d : Nat} {m : Nat} {x1 x2 : Int32} {h : jj_H} (hG : sy_G G X) (ho : o + m = 40) {D : Nat} (hone : sy_One l G X N x2 D m) (hD : 20 ≤ D) (hdd : D + 4 + 10 * m ≤ d) (hs : Sy G X K o N h) : jj_Q l G y_GR_interfaceList d [.ref (X.2.2.1 12), .int x1, .int x2] h (sy_F 0 true G X K o N) :=
  jj_Q.of (by decide +kernel) (Nat.le_of_ble_eq_true rfl) (b_GR_interfaceList_0 hG ho hone hD hdd hs)
set_option maxRecDepth 100000 in
set_option maxHeartbeats 4000000 in
theorem b_GR_generic_0 {l : Launch} {G : jj_G} {X : sy_X} {K o N d : Nat} {m : Nat} {h : jj_H} (hG : sy_G G X) (ho : o + m = 40) (hdd : 17 + 10 * m ≤ d) (hs : Sy G X K o N h) : jj_P l G y_GR_generic d (sy_F 1 true G X K o N) 0 [some (.ref (X.2.2.1 12)), none] [] h := by
  refine jj_aload_n (j := 0) (by decide +kernel) rfl ?_
  refine sy_cv (s_GR_declaredNames (d := d - 1) hG (by omega) hs) (fun o1 h1 hC => jj_callV ok_GR_declaredNames ml_GR_118 im_GR_declaredNames se_GR_GR_declaredNames (by decide +kernel) (hs.rcGR hG.2) rfl (by omega) (Nat.le_of_ble_eq_true rfl) hC) rfl (fun _ _ _ q => ⟨rfl, rfl, _, q⟩) (fun h hs => ?_)
  refine jj_aload_n (j := 0) (by decide +kernel) rfl ?_
  refine sy_ci (s_CU_told (d := d - 1) hG (by omega) hs) (fun o1 h1 hC => jj_callU ok_CU_told ml_GR_121 sm_GR_CU_told rfl im_CU_told se_GR_CU_told_u (by decide +kernel) (hs.rcGR hG.2) rfl (by omega) (Nat.le_of_ble_eq_true rfl) hC) (by decide) rfl (fun q => by cases q) (fun v1 h hv1 hs => ?_)
  refine jj_istore_n (j := 1) (by decide +kernel) (by decide) rfl ?_
  refine jj_aload_n (j := 0) (by decide +kernel) rfl ?_
  refine sy_cv (s_GR_type (d := d - 1) (m := m) hG (by omega) (by omega) hs) (fun o1 h1 hC => jj_callV ok_GR_type ml_GR_124 im_GR_type se_GR_GR_type (by decide +kernel) (hs.rcGR hG.2) rfl (by omega) (Nat.le_of_ble_eq_true rfl) hC) rfl (fun _ _ _ q => ⟨rfl, rfl, _, q⟩) (fun h hs => ?_)
  refine jj_aload_n (j := 0) (by decide +kernel) rfl ?_
  refine jj_sipush (n := 128) (v := 128) (by decide +kernel) (by decide) ?_
  refine sy_cv (s_GR_expressionBehind (d := d - 1) (m := m) hG (by omega) (by omega) hs) (fun o1 h1 hC => jj_callV ok_GR_expressionBehind ml_GR_127 im_GR_expressionBehind se_GR_GR_expressionBehind (by decide +kernel) (hs.rcGR hG.2) rfl (by omega) (Nat.le_of_ble_eq_true rfl) hC) rfl (fun _ _ _ q => ⟨rfl, rfl, _, q⟩) (fun h hs => ?_)
  refine jj_aload_n (j := 0) (by decide +kernel) rfl ?_
  refine jj_bipush (n := 71) (v := 71) (by decide +kernel) (by decide) ?_
  refine jj_iconst (n := 2) (v := 2) (by decide +kernel) (by decide) ?_
  refine jj_iload_n (j := 1) (by decide +kernel) rfl ?_
  refine sy_ci (s_GR_tellDeclared (d := d - 1) hG (by omega) hs) (fun o1 h1 hC => jj_callV ok_GR_tellDeclared ml_GR_130 im_GR_tellDeclared se_GR_GR_tellDeclared (by decide +kernel) (hs.rcGR hG.2) rfl (by omega) (Nat.le_of_ble_eq_true rfl) hC) (by decide) rfl (fun _ _ _ q => ⟨rfl, rfl, _, q⟩) (fun v2 h _ hs => ?_)
  exact jj_iret .int (by decide +kernel) rfl rfl ⟨Or.inl rfl, hs⟩
theorem s_GR_generic {l : Launch} {G : jj_G} {X : sy_X} {K o N d : Nat} {m : Nat} {h : jj_H} (hG : sy_G G X) (ho : o + m = 40) (hdd : 17 + 10 * m ≤ d) (hs : Sy G X K o N h) : jj_Q l G y_GR_generic d [.ref (X.2.2.1 12)] h (sy_F 1 true G X K o N) :=
  jj_Q.of (by decide +kernel) (Nat.le_of_ble_eq_true rfl) (b_GR_generic_0 hG ho hdd hs)
set_option maxRecDepth 100000 in
set_option maxHeartbeats 4000000 in
theorem b_GR_port_52 {l : Launch} {G : jj_G} {X : sy_X} {K o N d : Nat} {m : Nat} {h : jj_H} {x1 y0 : Int32} (hG : sy_G G X) (ho : o + m = 40) (hdd : 17 + 10 * m ≤ d) (hx1 : 0 ≤ x1) (hs : Sy G X K o N h) : jj_P l G y_GR_port d (sy_F 1 true G X K o N) 52 [some (.ref (X.2.2.1 12)), some (.int x1), none] [.int y0] h := by
  refine jj_istore_n (j := 2) (by decide +kernel) (by decide) rfl ?_
  refine jj_iload_n (j := 2) (by decide +kernel) rfl ?_
  refine jj_iconst (n := (-1)) (v := (-1)) (by decide +kernel) (by decide) ?_
  refine jj_icmp_ne (off := 8) (tgt := 63) (by decide +kernel) (by decide) (fun c1 => ?_) (fun c1 => ?_)
  · skip
    refine jj_aload_n (j := 0) (by decide +kernel) rfl ?_
    refine sy_cv (s_CU_take (d := d - 1) hG (by omega) hs) (fun o1 h1 hC => jj_callU ok_CU_take ml_GR_134 sm_GR_CU_take rfl im_CU_take se_GR_CU_take_u (by decide +kernel) (hs.rcGR hG.2) rfl (by omega) (Nat.le_of_ble_eq_true rfl) hC) rfl (fun _ _ _ q => ⟨rfl, rfl, _, q⟩) (fun h hs => ?_)
    refine jj_aload_n (j := 0) (by decide +kernel) rfl ?_
    refine jj_iconst (n := 2) (v := 2) (by decide +kernel) (by decide) ?_
    refine jj_iload_n (j := 2) (by decide +kernel) rfl ?_
    refine jj_iconst (n := 0) (v := 0) (by decide +kernel) (by decide) ?_
    refine sy_cv (s_CU_tell (d := d - 1) hG (by omega) hs) (fun o1 h1 hC => jj_callU ok_CU_tell ml_GR_64 sm_GR_CU_tell rfl im_CU_tell se_GR_CU_tell_u (by decide +kernel) (hs.rcGR hG.2) rfl (by omega) (Nat.le_of_ble_eq_true rfl) hC) rfl (fun _ _ _ q => ⟨rfl, rfl, _, q⟩) (fun h hs => ?_)
    refine jj_aload_n (j := 0) (by decide +kernel) rfl ?_
    refine sy_cv (s_GR_type (d := d - 1) (m := m) hG (by omega) (by omega) hs) (fun o1 h1 hC => jj_callV ok_GR_type ml_GR_124 im_GR_type se_GR_GR_type (by decide +kernel) (hs.rcGR hG.2) rfl (by omega) (Nat.le_of_ble_eq_true rfl) hC) rfl (fun _ _ _ q => ⟨rfl, rfl, _, q⟩) (fun h hs => ?_)
    refine jj_aload_n (j := 0) (by decide +kernel) rfl ?_
    refine jj_sipush (n := 128) (v := 128) (by decide +kernel) (by decide) ?_
    refine sy_cv (s_GR_expressionBehind (d := d - 1) (m := m) hG (by omega) (by omega) hs) (fun o1 h1 hC => jj_callV ok_GR_expressionBehind ml_GR_127 im_GR_expressionBehind se_GR_GR_expressionBehind (by decide +kernel) (hs.rcGR hG.2) rfl (by omega) (Nat.le_of_ble_eq_true rfl) hC) rfl (fun _ _ _ q => ⟨rfl, rfl, _, q⟩) (fun h hs => ?_)
    refine jj_aload_n (j := 0) (by decide +kernel) rfl ?_
    refine jj_bipush (n := 72) (v := 72) (by decide +kernel) (by decide) ?_
    refine jj_iconst (n := 3) (v := 3) (by decide +kernel) (by decide) ?_
    refine jj_iload_n (j := 1) (by decide +kernel) rfl ?_
    refine sy_ci (s_GR_tellDeclared (d := d - 1) hG (by omega) hs) (fun o1 h1 hC => jj_callV ok_GR_tellDeclared ml_GR_130 im_GR_tellDeclared se_GR_GR_tellDeclared (by decide +kernel) (hs.rcGR hG.2) rfl (by omega) (Nat.le_of_ble_eq_true rfl) hC) (by decide) rfl (fun _ _ _ q => ⟨rfl, rfl, _, q⟩) (fun v2 h _ hs => ?_)
    exact jj_iret .int (by decide +kernel) rfl rfl ⟨Or.inl rfl, hs⟩
  · skip
    refine jj_aload_n (j := 0) (by decide +kernel) rfl ?_
    refine jj_iconst (n := 3) (v := 3) (by decide +kernel) (by decide) ?_
    exact sy_cx (s_CU_raise (d := d - 1) hG.2 hs (by omega)) (fun o1 h1 hC => jj_callU ok_CU_raise ml_GR_93 sm_GR_CU_raise rfl im_CU_raise se_GR_CU_raise_u (by decide +kernel) (hs.rcGR hG.2) rfl (by omega) (Nat.le_of_ble_eq_true rfl) hC) rfl (fun _ _ q => ⟨rfl, rfl, _, q⟩)
set_option maxRecDepth 100000 in
set_option maxHeartbeats 4000000 in
theorem b_GR_port_0 {l : Launch} {G : jj_G} {X : sy_X} {K o N d : Nat} {m : Nat} {h : jj_H} (hG : sy_G G X) (ho : o + m = 40) (hdd : 17 + 10 * m ≤ d) (hs : Sy G X K o N h) : jj_P l G y_GR_port d (sy_F 1 true G X K o N) 0 [some (.ref (X.2.2.1 12)), none, none] [] h := by
  refine jj_aload_n (j := 0) (by decide +kernel) rfl ?_
  refine sy_cv (s_GR_declaredNames (d := d - 1) hG (by omega) hs) (fun o1 h1 hC => jj_callV ok_GR_declaredNames ml_GR_118 im_GR_declaredNames se_GR_GR_declaredNames (by decide +kernel) (hs.rcGR hG.2) rfl (by omega) (Nat.le_of_ble_eq_true rfl) hC) rfl (fun _ _ _ q => ⟨rfl, rfl, _, q⟩) (fun h hs => ?_)
  refine jj_aload_n (j := 0) (by decide +kernel) rfl ?_
  refine sy_ci (s_CU_told (d := d - 1) hG (by omega) hs) (fun o1 h1 hC => jj_callU ok_CU_told ml_GR_121 sm_GR_CU_told rfl im_CU_told se_GR_CU_told_u (by decide +kernel) (hs.rcGR hG.2) rfl (by omega) (Nat.le_of_ble_eq_true rfl) hC) (by decide) rfl (fun q => by cases q) (fun v1 h hv1 hs => ?_)
  refine jj_istore_n (j := 1) (by decide +kernel) (by decide) rfl ?_
  refine jj_aload_n (j := 0) (by decide +kernel) rfl ?_
  obtain ⟨ki, va, pl, fa, fp, ne, hg⟩ := hs.gr hG.2
  refine jj_getfield 3 ck_GR fl_GR_68 (by decide) (by decide +kernel) hg rfl ?_
  refine jj_sipush (n := 273) (v := 273) (by decide +kernel) (by decide) ?_
  refine jj_icmp_ne (off := 7) (tgt := 23) (by decide +kernel) (by decide) (fun c2 => ?_) (fun c2 => ?_)
  · skip
    refine jj_aload_n (j := 0) (by decide +kernel) rfl ?_
    obtain ⟨ki, va, pl, fa, fp, ne, hg⟩ := hs.gr hG.2
    refine jj_getfield 3 ck_GR fl_GR_68 (by decide) (by decide +kernel) hg rfl ?_
    refine jj_sipush (n := 290) (v := 290) (by decide +kernel) (by decide) ?_
    refine jj_icmp_ne (off := 7) (tgt := 37) (by decide +kernel) (by decide) (fun c3 => ?_) (fun c3 => ?_)
    · skip
      refine jj_aload_n (j := 0) (by decide +kernel) rfl ?_
      obtain ⟨ki, va, pl, fa, fp, ne, hg⟩ := hs.gr hG.2
      refine jj_getfield 3 ck_GR fl_GR_68 (by decide) (by decide +kernel) hg rfl ?_
      refine jj_sipush (n := 275) (v := 275) (by decide +kernel) (by decide) ?_
      refine jj_icmp_ne (off := 7) (tgt := 51) (by decide +kernel) (by decide) (fun c4 => ?_) (fun c4 => ?_)
      · skip
        refine jj_iconst (n := (-1)) (v := (-1)) (by decide +kernel) (by decide) ?_
        exact jj_wk (js_s (js_s (js_n js_0))) (b_GR_port_52 hG ho hdd (hv1 rfl) hs)
      · skip
        refine jj_iconst (n := 2) (v := 2) (by decide +kernel) (by decide) ?_
        refine jj_goto (off := 4) (tgt := 52) (by decide +kernel) (by decide) ?_
        exact jj_wk (js_s (js_s (js_n js_0))) (b_GR_port_52 hG ho hdd (hv1 rfl) hs)
    · skip
      refine jj_iconst (n := 1) (v := 1) (by decide +kernel) (by decide) ?_
      refine jj_goto (off := 18) (tgt := 52) (by decide +kernel) (by decide) ?_
      exact jj_wk (js_s (js_s (js_n js_0))) (b_GR_port_52 hG ho hdd (hv1 rfl) hs)
  · skip
    refine jj_iconst (n := 0) (v := 0) (by decide +kernel) (by decide) ?_
    refine jj_goto (off := 32) (tgt := 52) (by decide +kernel) (by decide) ?_
    exact jj_wk (js_s (js_s (js_n js_0))) (b_GR_port_52 hG ho hdd (hv1 rfl) hs)
theorem s_GR_port {l : Launch} {G : jj_G} {X : sy_X} {K o N d : Nat} {m : Nat} {h : jj_H} (hG : sy_G G X) (ho : o + m = 40) (hdd : 17 + 10 * m ≤ d) (hs : Sy G X K o N h) : jj_Q l G y_GR_port d [.ref (X.2.2.1 12)] h (sy_F 1 true G X K o N) :=
  jj_Q.of (by decide +kernel) (Nat.le_of_ble_eq_true rfl) (b_GR_port_0 hG ho hdd hs)
set_option maxRecDepth 100000 in
set_option maxHeartbeats 4000000 in
theorem b_GR_objects_44 {l : Launch} {G : jj_G} {X : sy_X} {K o N d : Nat} {m : Nat} {x1 : Int32} {h : jj_H} {x2 : Int32} (hG : sy_G G X) (ho : o + m = 40) (hdd : 17 + 10 * m ≤ d) (hx2 : 0 ≤ x2) (hs : Sy G X K o N h) : jj_P l G y_GR_objects d (sy_F 1 true G X K o N) 44 [some (.ref (X.2.2.1 12)), some (.int x1), some (.int x2)] [] h := by
  refine jj_aload_n (j := 0) (by decide +kernel) rfl ?_
  refine jj_bipush (n := 59) (v := 59) (by decide +kernel) (by decide) ?_
  refine sy_cv (s_CU_expect (d := d - 1) hG (by omega) hs) (fun o1 h1 hC => jj_callU ok_CU_expect ml_GR_102 sm_GR_CU_expect rfl im_CU_expect se_GR_CU_expect_u (by decide +kernel) (hs.rcGR hG.2) rfl (by omega) (Nat.le_of_ble_eq_true rfl) hC) rfl (fun _ _ _ q => ⟨rfl, rfl, _, q⟩) (fun h hs => ?_)
  refine jj_aload_n (j := 0) (by decide +kernel) rfl ?_
  refine jj_iload_n (j := 1) (by decide +kernel) rfl ?_
  refine jj_iconst (n := 2) (v := 2) (by decide +kernel) (by decide) ?_
  refine jj_iload_n (j := 2) (by decide +kernel) rfl ?_
  refine sy_ci (s_GR_tellDeclared (d := d - 1) hG (by omega) hs) (fun o1 h1 hC => jj_callV ok_GR_tellDeclared ml_GR_130 im_GR_tellDeclared se_GR_GR_tellDeclared (by decide +kernel) (hs.rcGR hG.2) rfl (by omega) (Nat.le_of_ble_eq_true rfl) hC) (by decide) rfl (fun _ _ _ q => ⟨rfl, rfl, _, q⟩) (fun v1 h _ hs => ?_)
  exact jj_iret .int (by decide +kernel) rfl rfl ⟨Or.inl rfl, hs⟩
set_option maxRecDepth 100000 in
set_option maxHeartbeats 4000000 in
theorem b_GR_objects_0 {l : Launch} {G : jj_G} {X : sy_X} {K o N d : Nat} {m : Nat} {x1 : Int32} {h : jj_H} (hG : sy_G G X) (ho : o + m = 40) (hdd : 17 + 10 * m ≤ d) (hs : Sy G X K o N h) : jj_P l G y_GR_objects d (sy_F 1 true G X K o N) 0 [some (.ref (X.2.2.1 12)), some (.int x1), none] [] h := by
  refine jj_aload_n (j := 0) (by decide +kernel) rfl ?_
  refine sy_cv (s_CU_take (d := d - 1) hG (by omega) hs) (fun o1 h1 hC => jj_callU ok_CU_take ml_GR_134 sm_GR_CU_take rfl im_CU_take se_GR_CU_take_u (by decide +kernel) (hs.rcGR hG.2) rfl (by omega) (Nat.le_of_ble_eq_true rfl) hC) rfl (fun _ _ _ q => ⟨rfl, rfl, _, q⟩) (fun h hs => ?_)
  refine jj_aload_n (j := 0) (by decide +kernel) rfl ?_
  refine sy_cv (s_GR_declaredNames (d := d - 1) hG (by omega) hs) (fun o1 h1 hC => jj_callV ok_GR_declaredNames ml_GR_118 im_GR_declaredNames se_GR_GR_declaredNames (by decide +kernel) (hs.rcGR hG.2) rfl (by omega) (Nat.le_of_ble_eq_true rfl) hC) rfl (fun _ _ _ q => ⟨rfl, rfl, _, q⟩) (fun h hs => ?_)
  refine jj_aload_n (j := 0) (by decide +kernel) rfl ?_
  refine sy_ci (s_CU_told (d := d - 1) hG (by omega) hs) (fun o1 h1 hC => jj_callU ok_CU_told ml_GR_121 sm_GR_CU_told rfl im_CU_told se_GR_CU_told_u (by decide +kernel) (hs.rcGR hG.2) rfl (by omega) (Nat.le_of_ble_eq_true rfl) hC) (by decide) rfl (fun q => by cases q) (fun v1 h hv1 hs => ?_)
  refine jj_istore_n (j := 2) (by decide +kernel) (by decide) rfl ?_
  refine jj_aload_n (j := 0) (by decide +kernel) rfl ?_
  refine sy_cv (s_GR_type (d := d - 1) (m := m) hG (by omega) (by omega) hs) (fun o1 h1 hC => jj_callV ok_GR_type ml_GR_124 im_GR_type se_GR_GR_type (by decide +kernel) (hs.rcGR hG.2) rfl (by omega) (Nat.le_of_ble_eq_true rfl) hC) rfl (fun _ _ _ q => ⟨rfl, rfl, _, q⟩) (fun h hs => ?_)
  refine jj_iload_n (j := 1) (by decide +kernel) rfl ?_
  refine jj_bipush (n := 51) (v := 51) (by decide +kernel) (by decide) ?_
  refine jj_icmp_ne (off := 17) (tgt := 37) (by decide +kernel) (by decide) (fun c2 => ?_) (fun c2 => ?_)
  · skip
    refine jj_aload_n (j := 0) (by decide +kernel) rfl ?_
    refine jj_sipush (n := 128) (v := 128) (by decide +kernel) (by decide) ?_
    refine sy_cv (s_GR_expressionBehind (d := d - 1) (m := m) hG (by omega) (by omega) hs) (fun o1 h1 hC => jj_callV ok_GR_expressionBehind ml_GR_127 im_GR_expressionBehind se_GR_GR_expressionBehind (by decide +kernel) (hs.rcGR hG.2) rfl (by omega) (Nat.le_of_ble_eq_true rfl) hC) rfl (fun _ _ _ q => ⟨rfl, rfl, _, q⟩) (fun h hs => ?_)
    exact jj_wk (js_s (js_s (js_s js_0))) (b_GR_objects_44 hG ho hdd (hv1 rfl) hs)
  · skip
    refine jj_aload_n (j := 0) (by decide +kernel) rfl ?_
    refine jj_sipush (n := 128) (v := 128) (by decide +kernel) (by decide) ?_
    refine sy_cv (s_CU_expect (d := d - 1) hG (by omega) hs) (fun o1 h1 hC => jj_callU ok_CU_expect ml_GR_102 sm_GR_CU_expect rfl im_CU_expect se_GR_CU_expect_u (by decide +kernel) (hs.rcGR hG.2) rfl (by omega) (Nat.le_of_ble_eq_true rfl) hC) rfl (fun _ _ _ q => ⟨rfl, rfl, _, q⟩) (fun h hs => ?_)
    refine jj_aload_n (j := 0) (by decide +kernel) rfl ?_
    refine sy_cv (expr_all hG m _ _ _ (d - 1) (by omega) hs (by omega)) (fun o1 h1 hC => jj_callV ok_GR_expression ml_GR_149 im_GR_expression se_GR_GR_expression (by decide +kernel) (hs.rcGR hG.2) rfl (by omega) (Nat.le_of_ble_eq_true rfl) hC) rfl (fun _ _ _ q => ⟨rfl, rfl, _, q⟩) (fun h hs => ?_)
    refine jj_goto (off := 10) (tgt := 44) (by decide +kernel) (by decide) ?_
    exact jj_wk (js_s (js_s (js_s js_0))) (b_GR_objects_44 hG ho hdd (hv1 rfl) hs)
theorem s_GR_objects {l : Launch} {G : jj_G} {X : sy_X} {K o N d : Nat} {m : Nat} {x1 : Int32} {h : jj_H} (hG : sy_G G X) (ho : o + m = 40) (hdd : 17 + 10 * m ≤ d) (hs : Sy G X K o N h) : jj_Q l G y_GR_objects d [.ref (X.2.2.1 12), .int x1] h (sy_F 1 true G X K o N) :=
  jj_Q.of (by decide +kernel) (Nat.le_of_ble_eq_true rfl) (b_GR_objects_0 hG ho hdd hs)
set_option maxRecDepth 100000 in
set_option maxHeartbeats 4000000 in
theorem b_GR_one_1_0 {l : Launch} {G : jj_G} {X : sy_X} {K o N d : Nat} {m : Nat} {h : jj_H} (hG : sy_G G X) (ho : o + m = 40) (hdd : 20 + 10 * m ≤ d) (hs : Sy G X K o N h) : jj_P l G y_GR_one d (sy_F 1 true G X K o N) 0 [some (.ref (X.2.2.1 12)), some (.int 1)] [] h := by
  refine jj_iload_n (j := 1) (by decide +kernel) rfl ?_
  refine jj_tableIn (dflt := 130) (lo := 0) (hi := 12) (offs := #[73, 79, 84, 89, 89, 94, 100, 106, 112, 118, 124, 130, 67]) (len := 67) (off := 79) (tgt := 80) (by decide +kernel) (by decide) (by decide) (by decide) (by decide) ?_
  refine jj_aload_n (j := 0) (by decide +kernel) rfl ?_
  refine sy_ci (s_GR_generic (d := d - 1) (m := m) hG (by omega) (by omega) hs) (fun o1 h1 hC => jj_callV ok_GR_generic ml_GR_33 im_GR_generic se_GR_GR_generic (by decide +kernel) (hs.rcGR hG.2) rfl (by omega) (Nat.le_of_ble_eq_true rfl) hC) (by decide) rfl (fun _ _ _ q => ⟨rfl, rfl, _, q⟩) (fun v1 h _ hs => ?_)
  exact jj_iret .int (by decide +kernel) rfl rfl ⟨Or.inl rfl, hs⟩
theorem s_GR_one_1 {l : Launch} {G : jj_G} {X : sy_X} {K o N d : Nat} {m : Nat} {h : jj_H} (hG : sy_G G X) (ho : o + m = 40) (hdd : 20 + 10 * m ≤ d) (hs : Sy G X K o N h) : jj_Q l G y_GR_one d [.ref (X.2.2.1 12), .int 1] h (sy_F 1 true G X K o N) :=
  jj_Q.of (by decide +kernel) (Nat.le_of_ble_eq_true rfl) (b_GR_one_1_0 hG ho hdd hs)
theorem one1_all {l : Launch} {G : jj_G} {X : sy_X} {N : Nat} (hG : sy_G G X) (m : Nat) : sy_One l G X N 1 20 m := fun K o h d ho hs hdd => s_GR_one_1 hG ho hdd hs
set_option maxRecDepth 100000 in
set_option maxHeartbeats 4000000 in
theorem b_GR_one_2_0 {l : Launch} {G : jj_G} {X : sy_X} {K o N d : Nat} {m : Nat} {h : jj_H} (hG : sy_G G X) (ho : o + m = 40) (hdd : 20 + 10 * m ≤ d) (hs : Sy G X K o N h) : jj_P l G y_GR_one d (sy_F 1 true G X K o N) 0 [some (.ref (X.2.2.1 12)), some (.int 2)] [] h := by
  refine jj_iload_n (j := 1) (by decide +kernel) rfl ?_
  refine jj_tableIn (dflt := 130) (lo := 0) (hi := 12) (offs := #[73, 79, 84, 89, 89, 94, 100, 106, 112, 118, 124, 130, 67]) (len := 67) (off := 84) (tgt := 85) (by decide +kernel) (by decide) (by decide) (by decide) (by decide) ?_
  refine jj_aload_n (j := 0) (by decide +kernel) rfl ?_
  refine sy_ci (s_GR_port (d := d - 1) (m := m) hG (by omega) (by omega) hs) (fun o1 h1 hC => jj_callV ok_GR_port ml_GR_37 im_GR_port se_GR_GR_port (by decide +kernel) (hs.rcGR hG.2) rfl (by omega) (Nat.le_of_ble_eq_true rfl) hC) (by decide) rfl (fun _ _ _ q => ⟨rfl, rfl, _, q⟩) (fun v1 h _ hs => ?_)
  exact jj_iret .int (by decide +kernel) rfl rfl ⟨Or.inl rfl, hs⟩
theorem s_GR_one_2 {l : Launch} {G : jj_G} {X : sy_X} {K o N d : Nat} {m : Nat} {h : jj_H} (hG : sy_G G X) (ho : o + m = 40) (hdd : 20 + 10 * m ≤ d) (hs : Sy G X K o N h) : jj_Q l G y_GR_one d [.ref (X.2.2.1 12), .int 2] h (sy_F 1 true G X K o N) :=
  jj_Q.of (by decide +kernel) (Nat.le_of_ble_eq_true rfl) (b_GR_one_2_0 hG ho hdd hs)
theorem one2_all {l : Launch} {G : jj_G} {X : sy_X} {N : Nat} (hG : sy_G G X) (m : Nat) : sy_One l G X N 2 20 m := fun K o h d ho hs hdd => s_GR_one_2 hG ho hdd hs
set_option maxRecDepth 100000 in
set_option maxHeartbeats 4000000 in
theorem b_GR_one_11_0 {l : Launch} {G : jj_G} {X : sy_X} {K o N d : Nat} {m : Nat} {h : jj_H} (hG : sy_G G X) (ho : o + m = 40) (hdd : 20 + 10 * m ≤ d) (hs : Sy G X K o N h) : jj_P l G y_GR_one d (sy_F 1 true G X K o N) 0 [some (.ref (X.2.2.1 12)), some (.int 11)] [] h := by
  refine jj_iload_n (j := 1) (by decide +kernel) rfl ?_
  refine jj_tableIn (dflt := 130) (lo := 0) (hi := 12) (offs := #[73, 79, 84, 89, 89, 94, 100, 106, 112, 118, 124, 130, 67]) (len := 67) (off := 130) (tgt := 131) (by decide +kernel) (by decide) (by decide) (by decide) (by decide) ?_
  refine jj_aload_n (j := 0) (by decide +kernel) rfl ?_
  refine jj_iconst (n := 1) (v := 1) (by decide +kernel) (by decide) ?_
  refine jj_aload_n (j := 0) (by decide +kernel) rfl ?_
  refine sy_ci (s_CU_takeName (d := d - 1) hG (by omega) hs) (fun o1 h1 hC => jj_callU ok_CU_takeName ml_GR_61 sm_GR_CU_takeName rfl im_CU_takeName se_GR_CU_takeName_u (by decide +kernel) (hs.rcGR hG.2) rfl (by omega) (Nat.le_of_ble_eq_true rfl) hC) (by decide) rfl (fun _ _ _ q => ⟨rfl, rfl, _, q⟩) (fun v1 h _ hs => ?_)
  refine jj_iconst (n := 0) (v := 0) (by decide +kernel) (by decide) ?_
  refine sy_cv (s_CU_tell (d := d - 1) hG (by omega) hs) (fun o1 h1 hC => jj_callU ok_CU_tell ml_GR_64 sm_GR_CU_tell rfl im_CU_tell se_GR_CU_tell_u (by decide +kernel) (hs.rcGR hG.2) rfl (by omega) (Nat.le_of_ble_eq_true rfl) hC) rfl (fun _ _ _ q => ⟨rfl, rfl, _, q⟩) (fun h hs => ?_)
  refine jj_iconst (n := 1) (v := 1) (by decide +kernel) (by decide) ?_
  exact jj_iret .int (by decide +kernel) rfl rfl ⟨Or.inl rfl, hs⟩
theorem s_GR_one_11 {l : Launch} {G : jj_G} {X : sy_X} {K o N d : Nat} {m : Nat} {h : jj_H} (hG : sy_G G X) (ho : o + m = 40) (hdd : 20 + 10 * m ≤ d) (hs : Sy G X K o N h) : jj_Q l G y_GR_one d [.ref (X.2.2.1 12), .int 11] h (sy_F 1 true G X K o N) :=
  jj_Q.of (by decide +kernel) (Nat.le_of_ble_eq_true rfl) (b_GR_one_11_0 hG ho hdd hs)
theorem one11_all {l : Launch} {G : jj_G} {X : sy_X} {N : Nat} (hG : sy_G G X) (m : Nat) : sy_One l G X N 11 20 m := fun K o h d ho hs hdd => s_GR_one_11 hG ho hdd hs
set_option maxRecDepth 100000 in
set_option maxHeartbeats 4000000 in
theorem b_GR_typeDeclaration_0 {l : Launch} {G : jj_G} {X : sy_X} {K o N d : Nat} {m : Nat} {h : jj_H} (hG : sy_G G X) (ho : o + m = 40) (hdd : 24 + 10 * m ≤ d) (hs : Sy G X K o N h) : jj_P l G y_GR_typeDeclaration d (sy_F 0 true G X K o N) 0 [some (.ref (X.2.2.1 12)), none, none] [] h := by
  refine jj_aload_n (j := 0) (by decide +kernel) rfl ?_
  refine jj_sipush (n := 304) (v := 304) (by decide +kernel) (by decide) ?_
  refine sy_cv (s_CU_expect (d := d - 1) hG (by omega) hs) (fun o1 h1 hC => jj_callU ok_CU_expect ml_GR_102 sm_GR_CU_expect rfl im_CU_expect se_GR_CU_expect_u (by decide +kernel) (hs.rcGR hG.2) rfl (by omega) (Nat.le_of_ble_eq_true rfl) hC) rfl (fun _ _ _ q => ⟨rfl, rfl, _, q⟩) (fun h hs => ?_)
  refine jj_aload_n (j := 0) (by decide +kernel) rfl ?_
  refine sy_ci (s_CU_takeName (d := d - 1) hG (by omega) hs) (fun o1 h1 hC => jj_callU ok_CU_takeName ml_GR_61 sm_GR_CU_takeName rfl im_CU_takeName se_GR_CU_takeName_u (by decide +kernel) (hs.rcGR hG.2) rfl (by omega) (Nat.le_of_ble_eq_true rfl) hC) (by decide) rfl (fun _ _ _ q => ⟨rfl, rfl, _, q⟩) (fun v1 h _ hs => ?_)
  refine jj_istore_n (j := 1) (by decide +kernel) (by decide) rfl ?_
  refine jj_aload_n (j := 0) (by decide +kernel) rfl ?_
  refine jj_sipush (n := 276) (v := 276) (by decide +kernel) (by decide) ?_
  refine sy_cv (s_CU_expect (d := d - 1) hG (by omega) hs) (fun o1 h1 hC => jj_callU ok_CU_expect ml_GR_102 sm_GR_CU_expect rfl im_CU_expect se_GR_CU_expect_u (by decide +kernel) (hs.rcGR hG.2) rfl (by omega) (Nat.le_of_ble_eq_true rfl) hC) rfl (fun _ _ _ q => ⟨rfl, rfl, _, q⟩) (fun h hs => ?_)
  refine jj_aload_n (j := 0) (by decide +kernel) rfl ?_
  refine jj_bipush (n := 40) (v := 40) (by decide +kernel) (by decide) ?_
  refine sy_cv (s_CU_expect (d := d - 1) hG (by omega) hs) (fun o1 h1 hC => jj_callU ok_CU_expect ml_GR_102 sm_GR_CU_expect rfl im_CU_expect se_GR_CU_expect_u (by decide +kernel) (hs.rcGR hG.2) rfl (by omega) (Nat.le_of_ble_eq_true rfl) hC) rfl (fun _ _ _ q => ⟨rfl, rfl, _, q⟩) (fun h hs => ?_)
  refine jj_aload_n (j := 0) (by decide +kernel) rfl ?_
  refine jj_bipush (n := 11) (v := 11) (by decide +kernel) (by decide) ?_
  refine jj_bipush (n := 44) (v := 44) (by decide +kernel) (by decide) ?_
  refine sy_ci (s_GR_oneOrMore (d := d - 1) (m := m) hG (by omega) (one11_all hG m) (by decide) (by omega) hs) (fun o1 h1 hC => jj_callV ok_GR_oneOrMore ml_GR_83 im_GR_oneOrMore se_GR_GR_oneOrMore (by decide +kernel) (hs.rcGR hG.2) rfl (by omega) (Nat.le_of_ble_eq_true rfl) hC) (by decide) rfl (fun _ _ _ q => ⟨rfl, rfl, _, q⟩) (fun v2 h _ hs => ?_)
  refine jj_istore_n (j := 2) (by decide +kernel) (by decide) rfl ?_
  refine jj_aload_n (j := 0) (by decide +kernel) rfl ?_
  refine jj_bipush (n := 41) (v := 41) (by decide +kernel) (by decide) ?_
  refine sy_cv (s_CU_expect (d := d - 1) hG (by omega) hs) (fun o1 h1 hC => jj_callU ok_CU_expect ml_GR_102 sm_GR_CU_expect rfl im_CU_expect se_GR_CU_expect_u (by decide +kernel) (hs.rcGR hG.2) rfl (by omega) (Nat.le_of_ble_eq_true rfl) hC) rfl (fun _ _ _ q => ⟨rfl, rfl, _, q⟩) (fun h hs => ?_)
  refine jj_aload_n (j := 0) (by decide +kernel) rfl ?_
  refine jj_bipush (n := 59) (v := 59) (by decide +kernel) (by decide) ?_
  refine sy_cv (s_CU_expect (d := d - 1) hG (by omega) hs) (fun o1 h1 hC => jj_callU ok_CU_expect ml_GR_102 sm_GR_CU_expect rfl im_CU_expect se_GR_CU_expect_u (by decide +kernel) (hs.rcGR hG.2) rfl (by omega) (Nat.le_of_ble_eq_true rfl) hC) rfl (fun _ _ _ q => ⟨rfl, rfl, _, q⟩) (fun h hs => ?_)
  refine jj_aload_n (j := 0) (by decide +kernel) rfl ?_
  refine jj_bipush (n := 53) (v := 53) (by decide +kernel) (by decide) ?_
  refine jj_iload_n (j := 1) (by decide +kernel) rfl ?_
  refine jj_iload_n (j := 2) (by decide +kernel) rfl ?_
  refine sy_cv (s_CU_tell (d := d - 1) hG (by omega) hs) (fun o1 h1 hC => jj_callU ok_CU_tell ml_GR_64 sm_GR_CU_tell rfl im_CU_tell se_GR_CU_tell_u (by decide +kernel) (hs.rcGR hG.2) rfl (by omega) (Nat.le_of_ble_eq_true rfl) hC) rfl (fun _ _ _ q => ⟨rfl, rfl, _, q⟩) (fun h hs => ?_)
  exact jj_vret (by decide +kernel) rfl ⟨rfl, hs⟩
theorem s_GR_typeDeclaration {l : Launch} {G : jj_G} {X : sy_X} {K o N d : Nat} {m : Nat} {h : jj_H} (hG : sy_G G X) (ho : o + m = 40) (hdd : 24 + 10 * m ≤ d) (hs : Sy G X K o N h) : jj_Q l G y_GR_typeDeclaration d [.ref (X.2.2.1 12)] h (sy_F 0 true G X K o N) :=
  jj_Q.of (by decide +kernel) (Nat.le_of_ble_eq_true rfl) (b_GR_typeDeclaration_0 hG ho hdd hs)
set_option maxRecDepth 100000 in
set_option maxHeartbeats 4000000 in
theorem b_GR_subtypeDeclaration_0 {l : Launch} {G : jj_G} {X : sy_X} {K o N d : Nat} {m : Nat} {h : jj_H} (hG : sy_G G X) (ho : o + m = 40) (hdd : 17 + 10 * m ≤ d) (hs : Sy G X K o N h) : jj_P l G y_GR_subtypeDeclaration d (sy_F 0 true G X K o N) 0 [some (.ref (X.2.2.1 12)), none] [] h := by
  refine jj_aload_n (j := 0) (by decide +kernel) rfl ?_
  refine jj_sipush (n := 300) (v := 300) (by decide +kernel) (by decide) ?_
  refine sy_cv (s_CU_expect (d := d - 1) hG (by omega) hs) (fun o1 h1 hC => jj_callU ok_CU_expect ml_GR_102 sm_GR_CU_expect rfl im_CU_expect se_GR_CU_expect_u (by decide +kernel) (hs.rcGR hG.2) rfl (by omega) (Nat.le_of_ble_eq_true rfl) hC) rfl (fun _ _ _ q => ⟨rfl, rfl, _, q⟩) (fun h hs => ?_)
  refine jj_aload_n (j := 0) (by decide +kernel) rfl ?_
  refine sy_ci (s_CU_takeName (d := d - 1) hG (by omega) hs) (fun o1 h1 hC => jj_callU ok_CU_takeName ml_GR_61 sm_GR_CU_takeName rfl im_CU_takeName se_GR_CU_takeName_u (by decide +kernel) (hs.rcGR hG.2) rfl (by omega) (Nat.le_of_ble_eq_true rfl) hC) (by decide) rfl (fun _ _ _ q => ⟨rfl, rfl, _, q⟩) (fun v1 h _ hs => ?_)
  refine jj_istore_n (j := 1) (by decide +kernel) (by decide) rfl ?_
  refine jj_aload_n (j := 0) (by decide +kernel) rfl ?_
  refine jj_sipush (n := 276) (v := 276) (by decide +kernel) (by decide) ?_
  refine sy_cv (s_CU_expect (d := d - 1) hG (by omega) hs) (fun o1 h1 hC => jj_callU ok_CU_expect ml_GR_102 sm_GR_CU_expect rfl im_CU_expect se_GR_CU_expect_u (by decide +kernel) (hs.rcGR hG.2) rfl (by omega) (Nat.le_of_ble_eq_true rfl) hC) rfl (fun _ _ _ q => ⟨rfl, rfl, _, q⟩) (fun h hs => ?_)
  refine jj_aload_n (j := 0) (by decide +kernel) rfl ?_
  refine sy_cv (s_GR_type (d := d - 1) (m := m) hG (by omega) (by omega) hs) (fun o1 h1 hC => jj_callV ok_GR_type ml_GR_124 im_GR_type se_GR_GR_type (by decide +kernel) (hs.rcGR hG.2) rfl (by omega) (Nat.le_of_ble_eq_true rfl) hC) rfl (fun _ _ _ q => ⟨rfl, rfl, _, q⟩) (fun h hs => ?_)
  refine jj_aload_n (j := 0) (by decide +kernel) rfl ?_
  refine jj_bipush (n := 59) (v := 59) (by decide +kernel) (by decide) ?_
  refine sy_cv (s_CU_expect (d := d - 1) hG (by omega) hs) (fun o1 h1 hC => jj_callU ok_CU_expect ml_GR_102 sm_GR_CU_expect rfl im_CU_expect se_GR_CU_expect_u (by decide +kernel) (hs.rcGR hG.2) rfl (by omega) (Nat.le_of_ble_eq_true rfl) hC) rfl (fun _ _ _ q => ⟨rfl, rfl, _, q⟩) (fun h hs => ?_)
  refine jj_aload_n (j := 0) (by decide +kernel) rfl ?_
  refine jj_bipush (n := 54) (v := 54) (by decide +kernel) (by decide) ?_
  refine jj_iload_n (j := 1) (by decide +kernel) rfl ?_
  refine jj_iconst (n := 1) (v := 1) (by decide +kernel) (by decide) ?_
  refine sy_cv (s_CU_tell (d := d - 1) hG (by omega) hs) (fun o1 h1 hC => jj_callU ok_CU_tell ml_GR_64 sm_GR_CU_tell rfl im_CU_tell se_GR_CU_tell_u (by decide +kernel) (hs.rcGR hG.2) rfl (by omega) (Nat.le_of_ble_eq_true rfl) hC) rfl (fun _ _ _ q => ⟨rfl, rfl, _, q⟩) (fun h hs => ?_)
  exact jj_vret (by decide +kernel) rfl ⟨rfl, hs⟩
theorem s_GR_subtypeDeclaration {l : Launch} {G : jj_G} {X : sy_X} {K o N d : Nat} {m : Nat} {h : jj_H} (hG : sy_G G X) (ho : o + m = 40) (hdd : 17 + 10 * m ≤ d) (hs : Sy G X K o N h) : jj_Q l G y_GR_subtypeDeclaration d [.ref (X.2.2.1 12)] h (sy_F 0 true G X K o N) :=
  jj_Q.of (by decide +kernel) (Nat.le_of_ble_eq_true rfl) (b_GR_subtypeDeclaration_0 hG ho hdd hs)
set_option maxRecDepth 100000 in
set_option maxHeartbeats 4000000 in
theorem b_GR_declaration_0 {l : Launch} {G : jj_G} {X : sy_X} {K o N d : Nat} {m : Nat} {h : jj_H} (hG : sy_G G X) (ho : o + m = 40) (hdd : 25 + 10 * m ≤ d) (hs : Sy G X K o N h) : jj_P l G y_GR_declaration d (sy_F 1 true G X K o N) 0 [some (.ref (X.2.2.1 12))] [] h := by
  refine jj_aload_n (j := 0) (by decide +kernel) rfl ?_
  obtain ⟨ki, va, pl, fa, fp, ne, hg⟩ := hs.gr hG.2
  refine jj_getfield 3 ck_GR fl_GR_68 (by decide) (by decide +kernel) hg rfl ?_
  refine jj_lookupAny (dflt := 71) (ps := #[(263, 51), (297, 44), (304, 65), (307, 58)]) (len := 44) (ts := [48, 55, 62, 69, 75]) (by decide +kernel) (by decide) (by decide +kernel) (jt_c ?_ (jt_c ?_ (jt_c ?_ (jt_c ?_ (jt_c ?_ jt_0)))))
  · skip
    refine jj_aload_n (j := 0) (by decide +kernel) rfl ?_
    refine jj_bipush (n := 50) (v := 50) (by decide +kernel) (by decide) ?_
    refine sy_ci (s_GR_objects (d := d - 1) (m := m) hG (by omega) (by omega) hs) (fun o1 h1 hC => jj_callV ok_GR_objects ml_GR_165 im_GR_objects se_GR_GR_objects (by decide +kernel) (hs.rcGR hG.2) rfl (by omega) (Nat.le_of_ble_eq_true rfl) hC) (by decide) rfl (fun _ _ _ q => ⟨rfl, rfl, _, q⟩) (fun v1 h _ hs => ?_)
    exact jj_iret .int (by decide +kernel) rfl rfl ⟨Or.inl rfl, hs⟩
  · skip
    refine jj_aload_n (j := 0) (by decide +kernel) rfl ?_
    refine jj_bipush (n := 51) (v := 51) (by decide +kernel) (by decide) ?_
    refine sy_ci (s_GR_objects (d := d - 1) (m := m) hG (by omega) (by omega) hs) (fun o1 h1 hC => jj_callV ok_GR_objects ml_GR_165 im_GR_objects se_GR_GR_objects (by decide +kernel) (hs.rcGR hG.2) rfl (by omega) (Nat.le_of_ble_eq_true rfl) hC) (by decide) rfl (fun _ _ _ q => ⟨rfl, rfl, _, q⟩) (fun v2 h _ hs => ?_)
    exact jj_iret .int (by decide +kernel) rfl rfl ⟨Or.inl rfl, hs⟩
  · skip
    refine jj_aload_n (j := 0) (by decide +kernel) rfl ?_
    refine jj_bipush (n := 52) (v := 52) (by decide +kernel) (by decide) ?_
    refine sy_ci (s_GR_objects (d := d - 1) (m := m) hG (by omega) (by omega) hs) (fun o1 h1 hC => jj_callV ok_GR_objects ml_GR_165 im_GR_objects se_GR_GR_objects (by decide +kernel) (hs.rcGR hG.2) rfl (by omega) (Nat.le_of_ble_eq_true rfl) hC) (by decide) rfl (fun _ _ _ q => ⟨rfl, rfl, _, q⟩) (fun v3 h _ hs => ?_)
    exact jj_iret .int (by decide +kernel) rfl rfl ⟨Or.inl rfl, hs⟩
  · skip
    refine jj_aload_n (j := 0) (by decide +kernel) rfl ?_
    refine sy_cv (s_GR_typeDeclaration (d := d - 1) (m := m) hG (by omega) (by omega) hs) (fun o1 h1 hC => jj_callV ok_GR_typeDeclaration ml_GR_168 im_GR_typeDeclaration se_GR_GR_typeDeclaration (by decide +kernel) (hs.rcGR hG.2) rfl (by omega) (Nat.le_of_ble_eq_true rfl) hC) rfl (fun _ _ _ q => ⟨rfl, rfl, _, q⟩) (fun h hs => ?_)
    refine jj_iconst (n := 1) (v := 1) (by decide +kernel) (by decide) ?_
    exact jj_iret .int (by decide +kernel) rfl rfl ⟨Or.inl rfl, hs⟩
  · skip
    refine jj_aload_n (j := 0) (by decide +kernel) rfl ?_
    refine sy_cv (s_GR_subtypeDeclaration (d := d - 1) (m := m) hG (by omega) (by omega) hs) (fun o1 h1 hC => jj_callV ok_GR_subtypeDeclaration ml_GR_171 im_GR_subtypeDeclaration se_GR_GR_subtypeDeclaration (by decide +kernel) (hs.rcGR hG.2) rfl (by omega) (Nat.le_of_ble_eq_true rfl) hC) rfl (fun _ _ _ q => ⟨rfl, rfl, _, q⟩) (fun h hs => ?_)
    refine jj_iconst (n := 1) (v := 1) (by decide +kernel) (by decide) ?_
    exact jj_iret .int (by decide +kernel) rfl rfl ⟨Or.inl rfl, hs⟩
theorem s_GR_declaration {l : Launch} {G : jj_G} {X : sy_X} {K o N d : Nat} {m : Nat} {h : jj_H} (hG : sy_G G X) (ho : o + m = 40) (hdd : 25 + 10 * m ≤ d) (hs : Sy G X K o N h) : jj_Q l G y_GR_declaration d [.ref (X.2.2.1 12)] h (sy_F 1 true G X K o N) :=
  jj_Q.of (by decide +kernel) (Nat.le_of_ble_eq_true rfl) (b_GR_declaration_0 hG ho hdd hs)
set_option maxRecDepth 100000 in
set_option maxHeartbeats 4000000 in
theorem b_GR_one_3_0 {l : Launch} {G : jj_G} {X : sy_X} {K o N d : Nat} {m : Nat} {h : jj_H} (hG : sy_G G X) (ho : o + m = 40) (hdd : 26 + 10 * m ≤ d) (hs : Sy G X K o N h) : jj_P l G y_GR_one d (sy_F 1 true G X K o N) 0 [some (.ref (X.2.2.1 12)), some (.int 3)] [] h := by
  refine jj_iload_n (j := 1) (by decide +kernel) rfl ?_
  refine jj_tableIn (dflt := 130) (lo := 0) (hi := 12) (offs := #[73, 79, 84, 89, 89, 94, 100, 106, 112, 118, 124, 130, 67]) (len := 67) (off := 89) (tgt := 90) (by decide +kernel) (by decide) (by decide) (by decide) (by decide) ?_
  refine jj_aload_n (j := 0) (by decide +kernel) rfl ?_
  refine sy_ci (s_GR_declaration (d := d - 1) (m := m) hG (by omega) (by omega) hs) (fun o1 h1 hC => jj_callV ok_GR_declaration ml_GR_40 im_GR_declaration se_GR_GR_declaration (by decide +kernel) (hs.rcGR hG.2) rfl (by omega) (Nat.le_of_ble_eq_true rfl) hC) (by decide) rfl (fun _ _ _ q => ⟨rfl, rfl, _, q⟩) (fun v1 h _ hs => ?_)
  exact jj_iret .int (by decide +kernel) rfl rfl ⟨Or.inl rfl, hs⟩
theorem s_GR_one_3 {l : Launch} {G : jj_G} {X : sy_X} {K o N d : Nat} {m : Nat} {h : jj_H} (hG : sy_G G X) (ho : o + m = 40) (hdd : 26 + 10 * m ≤ d) (hs : Sy G X K o N h) : jj_Q l G y_GR_one d [.ref (X.2.2.1 12), .int 3] h (sy_F 1 true G X K o N) :=
  jj_Q.of (by decide +kernel) (Nat.le_of_ble_eq_true rfl) (b_GR_one_3_0 hG ho hdd hs)
theorem one3_all {l : Launch} {G : jj_G} {X : sy_X} {N : Nat} (hG : sy_G G X) (m : Nat) : sy_One l G X N 3 26 m := fun K o h d ho hs hdd => s_GR_one_3 hG ho hdd hs
set_option maxRecDepth 100000 in
set_option maxHeartbeats 4000000 in
theorem b_GR_one_4_0 {l : Launch} {G : jj_G} {X : sy_X} {K o N d : Nat} {m : Nat} {h : jj_H} (hG : sy_G G X) (ho : o + m = 40) (hdd : 26 + 10 * m ≤ d) (hs : Sy G X K o N h) : jj_P l G y_GR_one d (sy_F 1 true G X K o N) 0 [some (.ref (X.2.2.1 12)), some (.int 4)] [] h := by
  refine jj_iload_n (j := 1) (by decide +kernel) rfl ?_
  refine jj_tableIn (dflt := 130) (lo := 0) (hi := 12) (offs := #[73, 79, 84, 89, 89, 94, 100, 106, 112, 118, 124, 130, 67]) (len := 67) (off := 89) (tgt := 90) (by decide +kernel) (by decide) (by decide) (by decide) (by decide) ?_
  refine jj_aload_n (j := 0) (by decide +kernel) rfl ?_
  refine sy_ci (s_GR_declaration (d := d - 1) (m := m) hG (by omega) (by omega) hs) (fun o1 h1 hC => jj_callV ok_GR_declaration ml_GR_40 im_GR_declaration se_GR_GR_declaration (by decide +kernel) (hs.rcGR hG.2) rfl (by omega) (Nat.le_of_ble_eq_true rfl) hC) (by decide) rfl (fun _ _ _ q => ⟨rfl, rfl, _, q⟩) (fun v1 h _ hs => ?_)
  exact jj_iret .int (by decide +kernel) rfl rfl ⟨Or.inl rfl, hs⟩
theorem s_GR_one_4 {l : Launch} {G : jj_G} {X : sy_X} {K o N d : Nat} {m : Nat} {h : jj_H} (hG : sy_G G X) (ho : o + m = 40) (hdd : 26 + 10 * m ≤ d) (hs : Sy G X K o N h) : jj_Q l G y_GR_one d [.ref (X.2.2.1 12), .int 4] h (sy_F 1 true G X K o N) :=
  jj_Q.of (by decide +kernel) (Nat.le_of_ble_eq_true rfl) (b_GR_one_4_0 hG ho hdd hs)
theorem one4_all {l : Launch} {G : jj_G} {X : sy_X} {N : Nat} (hG : sy_G G X) (m : Nat) : sy_One l G X N 4 26 m := fun K o h d ho hs hdd => s_GR_one_4 hG ho hdd hs
set_option maxRecDepth 100000 in
set_option maxHeartbeats 4000000 in
theorem b_GR_time_32 {l : Launch} {G : jj_G} {X : sy_X} {K o N d : Nat} {m : Nat} {h : jj_H} (hG : sy_G G X) (ho : o + m = 40) (hdd : 14 + 10 * m ≤ d) (hs : Sy G X K o N h) : jj_P l G y_GR_time d (sy_F 0 true G X K o N) 32 [some (.ref (X.2.2.1 12))] [] h := by
  refine jj_aload_n (j := 0) (by decide +kernel) rfl ?_
  refine jj_iconst (n := 3) (v := 3) (by decide +kernel) (by decide) ?_
  exact sy_cx (s_CU_raise (d := d - 1) hG.2 hs (by omega)) (fun o1 h1 hC => jj_callU ok_CU_raise ml_GR_93 sm_GR_CU_raise rfl im_CU_raise se_GR_CU_raise_u (by decide +kernel) (hs.rcGR hG.2) rfl (by omega) (Nat.le_of_ble_eq_true rfl) hC) rfl (fun _ _ q => ⟨rfl, rfl, _, q⟩)
set_option maxRecDepth 100000 in
set_option maxHeartbeats 4000000 in
theorem b_GR_time_0 {l : Launch} {G : jj_G} {X : sy_X} {K o N d : Nat} {m : Nat} {h : jj_H} (hG : sy_G G X) (ho : o + m = 40) (hdd : 14 + 10 * m ≤ d) (hs : Sy G X K o N h) : jj_P l G y_GR_time d (sy_F 0 true G X K o N) 0 [some (.ref (X.2.2.1 12))] [] h := by
  refine jj_aload_n (j := 0) (by decide +kernel) rfl ?_
  refine sy_cv (s_GR_primary (d := d - 1) (m := m) hG (by omega) (fun _ => expr_all hG _) (by omega) hs) (fun o1 h1 hC => jj_callV ok_GR_primary ml_GR_196 im_GR_primary se_GR_GR_primary (by decide +kernel) (hs.rcGR hG.2) rfl (by omega) (Nat.le_of_ble_eq_true rfl) hC) rfl (fun _ _ _ q => ⟨rfl, rfl, _, q⟩) (fun h hs => ?_)
  refine jj_aload_n (j := 0) (by decide +kernel) rfl ?_
  obtain ⟨ki, va, pl, fa, fp, ne, hg⟩ := hs.gr hG.2
  refine jj_getfield 3 ck_GR fl_GR_68 (by decide) (by decide +kernel) hg rfl ?_
  refine jj_sipush (n := 140) (v := 140) (by decide +kernel) (by decide) ?_
  refine jj_icmp_ne (off := 21) (tgt := 32) (by decide +kernel) (by decide) (fun c1 => ?_) (fun c1 => ?_)
  · skip
    exact jj_wk (js_s js_0) (b_GR_time_32 hG ho hdd hs)
  · skip
    refine jj_aload_n (j := 0) (by decide +kernel) rfl ?_
    obtain ⟨ki, va, pl, fa, fp, ne, hg⟩ := hs.gr hG.2
    refine jj_getfield 4 ck_GR fl_GR_162 (by decide) (by decide +kernel) hg rfl ?_
    refine jj_bipush (n := 12) (v := 12) (by decide +kernel) (by decide) ?_
    refine jj_icmp_lt (off := 12) (tgt := 32) (by decide +kernel) (by decide) (fun c2 => ?_) (fun c2 => ?_)
    · skip
      exact jj_wk (js_s js_0) (b_GR_time_32 hG ho hdd hs)
    · skip
      refine jj_aload_n (j := 0) (by decide +kernel) rfl ?_
      obtain ⟨ki, va, pl, fa, fp, ne, hg⟩ := hs.gr hG.2
      refine jj_getfield 4 ck_GR fl_GR_162 (by decide) (by decide +kernel) hg rfl ?_
      refine jj_bipush (n := 14) (v := 14) (by decide +kernel) (by decide) ?_
      refine jj_icmp_le (off := 8) (tgt := 37) (by decide +kernel) (by decide) (fun c3 => ?_) (fun c3 => ?_)
      · skip
        refine jj_aload_n (j := 0) (by decide +kernel) rfl ?_
        refine jj_bipush (n := 32) (v := 32) (by decide +kernel) (by decide) ?_
        refine jj_aload_n (j := 0) (by decide +kernel) rfl ?_
        refine sy_ci (s_CU_takeName (d := d - 1) hG (by omega) hs) (fun o1 h1 hC => jj_callU ok_CU_takeName ml_GR_61 sm_GR_CU_takeName rfl im_CU_takeName se_GR_CU_takeName_u (by decide +kernel) (hs.rcGR hG.2) rfl (by omega) (Nat.le_of_ble_eq_true rfl) hC) (by decide) rfl (fun _ _ _ q => ⟨rfl, rfl, _, q⟩) (fun v4 h _ hs => ?_)
        refine jj_iconst (n := 1) (v := 1) (by decide +kernel) (by decide) ?_
        refine sy_cv (s_CU_tell (d := d - 1) hG (by omega) hs) (fun o1 h1 hC => jj_callU ok_CU_tell ml_GR_64 sm_GR_CU_tell rfl im_CU_tell se_GR_CU_tell_u (by decide +kernel) (hs.rcGR hG.2) rfl (by omega) (Nat.le_of_ble_eq_true rfl) hC) rfl (fun _ _ _ q => ⟨rfl, rfl, _, q⟩) (fun h hs => ?_)
        exact jj_vret (by decide +kernel) rfl ⟨rfl, hs⟩
      · skip
        exact jj_wk (js_s js_0) (b_GR_time_32 hG ho hdd hs)
theorem s_GR_time {l : Launch} {G : jj_G} {X : sy_X} {K o N d : Nat} {m : Nat} {h : jj_H} (hG : sy_G G X) (ho : o + m = 40) (hdd : 14 + 10 * m ≤ d) (hs : Sy G X K o N h) : jj_Q l G y_GR_time d [.ref (X.2.2.1 12)] h (sy_F 0 true G X K o N) :=
  jj_Q.of (by decide +kernel) (Nat.le_of_ble_eq_true rfl) (b_GR_time_0 hG ho hdd hs)
set_option maxRecDepth 100000 in
set_option maxHeartbeats 4000000 in
theorem b_GR_one_9_0 {l : Launch} {G : jj_G} {X : sy_X} {K o N d : Nat} {m : Nat} {h : jj_H} (hG : sy_G G X) (ho : o + m = 40) (hdd : 20 + 10 * m ≤ d) (hs : Sy G X K o N h) : jj_P l G y_GR_one d (sy_F 1 true G X K o N) 0 [some (.ref (X.2.2.1 12)), some (.int 9)] [] h := by
  refine jj_iload_n (j := 1) (by decide +kernel) rfl ?_
  refine jj_tableIn (dflt := 130) (lo := 0) (hi := 12) (offs := #[73, 79, 84, 89, 89, 94, 100, 106, 112, 118, 124, 130, 67]) (len := 67) (off := 118) (tgt := 119) (by decide +kernel) (by decide) (by decide) (by decide) (by decide) ?_
  refine jj_aload_n (j := 0) (by decide +kernel) rfl ?_
  refine sy_cv (s_GR_time (d := d - 1) (m := m) hG (by omega) (by omega) hs) (fun o1 h1 hC => jj_callV ok_GR_time ml_GR_55 im_GR_time se_GR_GR_time (by decide +kernel) (hs.rcGR hG.2) rfl (by omega) (Nat.le_of_ble_eq_true rfl) hC) rfl (fun _ _ _ q => ⟨rfl, rfl, _, q⟩) (fun h hs => ?_)
  refine jj_iconst (n := 1) (v := 1) (by decide +kernel) (by decide) ?_
  exact jj_iret .int (by decide +kernel) rfl rfl ⟨Or.inl rfl, hs⟩
theorem s_GR_one_9 {l : Launch} {G : jj_G} {X : sy_X} {K o N d : Nat} {m : Nat} {h : jj_H} (hG : sy_G G X) (ho : o + m = 40) (hdd : 20 + 10 * m ≤ d) (hs : Sy G X K o N h) : jj_Q l G y_GR_one d [.ref (X.2.2.1 12), .int 9] h (sy_F 1 true G X K o N) :=
  jj_Q.of (by decide +kernel) (Nat.le_of_ble_eq_true rfl) (b_GR_one_9_0 hG ho hdd hs)
theorem one9_all {l : Launch} {G : jj_G} {X : sy_X} {N : Nat} (hG : sy_G G X) (m : Nat) : sy_One l G X N 9 20 m := fun K o h d ho hs hdd => s_GR_one_9 hG ho hdd hs
set_option maxRecDepth 100000 in
set_option maxHeartbeats 4000000 in
theorem b_GR_mode_0 {l : Launch} {G : jj_G} {X : sy_X} {K o N d : Nat} {m : Nat} {h : jj_H} (hG : sy_G G X) (ho : o + m = 40) (hdd : 21 + 10 * m ≤ d) (hs : Sy G X K o N h) : jj_P l G y_GR_mode d (sy_F 1 true G X K o N) 0 [some (.ref (X.2.2.1 12))] [] h := by
  refine jj_aload_n (j := 0) (by decide +kernel) rfl ?_
  refine jj_sipush (n := 294) (v := 294) (by decide +kernel) (by decide) ?_
  refine sy_ci (s_CU_accept (d := d - 1) hG (by omega) hs) (fun o1 h1 hC => jj_callU ok_CU_accept ml_GR_80 sm_GR_CU_accept rfl im_CU_accept se_GR_CU_accept_u (by decide +kernel) (hs.rcGR hG.2) rfl (by omega) (Nat.le_of_ble_eq_true rfl) hC) (by decide) rfl (fun _ _ _ q => ⟨rfl, rfl, _, q⟩) (fun v1 h _ hs => ?_)
  refine jj_if_eq (off := 19) (tgt := 26) (by decide +kernel) (by decide) (fun c2 => ?_) (fun c2 => ?_)
  · skip
    refine jj_aload_n (j := 0) (by decide +kernel) rfl ?_
    refine jj_sipush (n := 303) (v := 303) (by decide +kernel) (by decide) ?_
    refine sy_ci (s_CU_accept (d := d - 1) hG (by omega) hs) (fun o1 h1 hC => jj_callU ok_CU_accept ml_GR_80 sm_GR_CU_accept rfl im_CU_accept se_GR_CU_accept_u (by decide +kernel) (hs.rcGR hG.2) rfl (by omega) (Nat.le_of_ble_eq_true rfl) hC) (by decide) rfl (fun _ _ _ q => ⟨rfl, rfl, _, q⟩) (fun v3 h _ hs => ?_)
    refine jj_if_eq (off := 5) (tgt := 38) (by decide +kernel) (by decide) (fun c4 => ?_) (fun c4 => ?_)
    · skip
      refine jj_aload_n (j := 0) (by decide +kernel) rfl ?_
      refine jj_sipush (n := 274) (v := 274) (by decide +kernel) (by decide) ?_
      refine sy_ci (s_CU_accept (d := d - 1) hG (by omega) hs) (fun o1 h1 hC => jj_callU ok_CU_accept ml_GR_80 sm_GR_CU_accept rfl im_CU_accept se_GR_CU_accept_u (by decide +kernel) (hs.rcGR hG.2) rfl (by omega) (Nat.le_of_ble_eq_true rfl) hC) (by decide) rfl (fun _ _ _ q => ⟨rfl, rfl, _, q⟩) (fun v5 h _ hs => ?_)
      refine jj_pop (by decide +kernel) rfl ?_
      refine jj_iconst (n := 0) (v := 0) (by decide +kernel) (by decide) ?_
      exact jj_iret .int (by decide +kernel) rfl rfl ⟨Or.inl rfl, hs⟩
    · skip
      refine jj_iconst (n := 1) (v := 1) (by decide +kernel) (by decide) ?_
      exact jj_iret .int (by decide +kernel) rfl rfl ⟨Or.inl rfl, hs⟩
  · skip
    refine jj_aload_n (j := 0) (by decide +kernel) rfl ?_
    refine jj_bipush (n := 9) (v := 9) (by decide +kernel) (by decide) ?_
    refine sy_ci ((one9_all hG m) _ _ _ (d - 1) (by omega) hs (by omega)) (fun o1 h1 hC => jj_callV ok_GR_one ml_GR_76 im_GR_one se_GR_GR_one (by decide +kernel) (hs.rcGR hG.2) rfl (by omega) (Nat.le_of_ble_eq_true rfl) hC) (by decide) rfl (fun _ _ _ q => ⟨rfl, rfl, _, q⟩) (fun v6 h _ hs => ?_)
    refine jj_pop (by decide +kernel) rfl ?_
    refine jj_aload_n (j := 0) (by decide +kernel) rfl ?_
    refine jj_sipush (n := 274) (v := 274) (by decide +kernel) (by decide) ?_
    refine sy_cv (s_CU_expect (d := d - 1) hG (by omega) hs) (fun o1 h1 hC => jj_callU ok_CU_expect ml_GR_102 sm_GR_CU_expect rfl im_CU_expect se_GR_CU_expect_u (by decide +kernel) (hs.rcGR hG.2) rfl (by omega) (Nat.le_of_ble_eq_true rfl) hC) rfl (fun _ _ _ q => ⟨rfl, rfl, _, q⟩) (fun h hs => ?_)
    refine jj_iconst (n := 2) (v := 2) (by decide +kernel) (by decide) ?_
    exact jj_iret .int (by decide +kernel) rfl rfl ⟨Or.inl rfl, hs⟩
theorem s_GR_mode {l : Launch} {G : jj_G} {X : sy_X} {K o N d : Nat} {m : Nat} {h : jj_H} (hG : sy_G G X) (ho : o + m = 40) (hdd : 21 + 10 * m ≤ d) (hs : Sy G X K o N h) : jj_Q l G y_GR_mode d [.ref (X.2.2.1 12)] h (sy_F 1 true G X K o N) :=
  jj_Q.of (by decide +kernel) (Nat.le_of_ble_eq_true rfl) (b_GR_mode_0 hG ho hdd hs)
set_option maxRecDepth 100000 in
set_option maxHeartbeats 4000000 in
theorem b_GR_timeBehind_0 {l : Launch} {G : jj_G} {X : sy_X} {K o N d : Nat} {m : Nat} {x1 : Int32} {h : jj_H} (hG : sy_G G X) (ho : o + m = 40) (hdd : 21 + 10 * m ≤ d) (hs : Sy G X K o N h) : jj_P l G y_GR_timeBehind d (sy_F 0 true G X K o N) 0 [some (.ref (X.2.2.1 12)), some (.int x1)] [] h := by
  refine jj_aload_n (j := 0) (by decide +kernel) rfl ?_
  refine jj_iload_n (j := 1) (by decide +kernel) rfl ?_
  refine sy_ci (s_CU_accept (d := d - 1) hG (by omega) hs) (fun o1 h1 hC => jj_callU ok_CU_accept ml_GR_80 sm_GR_CU_accept rfl im_CU_accept se_GR_CU_accept_u (by decide +kernel) (hs.rcGR hG.2) rfl (by omega) (Nat.le_of_ble_eq_true rfl) hC) (by decide) rfl (fun _ _ _ q => ⟨rfl, rfl, _, q⟩) (fun v1 h _ hs => ?_)
  refine jj_if_eq (off := 13) (tgt := 18) (by decide +kernel) (by decide) (fun c2 => ?_) (fun c2 => ?_)
  · skip
    refine jj_aload_n (j := 0) (by decide +kernel) rfl ?_
    refine sy_cv (s_CU_tellNothing (d := d - 1) hG (by omega) hs) (fun o1 h1 hC => jj_callU ok_CU_tellNothing ml_GR_152 sm_GR_CU_tellNothing rfl im_CU_tellNothing se_GR_CU_tellNothing_u (by decide +kernel) (hs.rcGR hG.2) rfl (by omega) (Nat.le_of_ble_eq_true rfl) hC) rfl (fun _ _ _ q => ⟨rfl, rfl, _, q⟩) (fun h hs => ?_)
    exact jj_vret (by decide +kernel) rfl ⟨rfl, hs⟩
  · skip
    refine jj_aload_n (j := 0) (by decide +kernel) rfl ?_
    refine jj_bipush (n := 9) (v := 9) (by decide +kernel) (by decide) ?_
    refine sy_ci ((one9_all hG m) _ _ _ (d - 1) (by omega) hs (by omega)) (fun o1 h1 hC => jj_callV ok_GR_one ml_GR_76 im_GR_one se_GR_GR_one (by decide +kernel) (hs.rcGR hG.2) rfl (by omega) (Nat.le_of_ble_eq_true rfl) hC) (by decide) rfl (fun _ _ _ q => ⟨rfl, rfl, _, q⟩) (fun v3 h _ hs => ?_)
    refine jj_pop (by decide +kernel) rfl ?_
    refine jj_goto (off := 7) (tgt := 22) (by decide +kernel) (by decide) ?_
    exact jj_vret (by decide +kernel) rfl ⟨rfl, hs⟩
theorem s_GR_timeBehind {l : Launch} {G : jj_G} {X : sy_X} {K o N d : Nat} {m : Nat} {x1 : Int32} {h : jj_H} (hG : sy_G G X) (ho : o + m = 40) (hdd : 21 + 10 * m ≤ d) (hs : Sy G X K o N h) : jj_Q l G y_GR_timeBehind d [.ref (X.2.2.1 12), .int x1] h (sy_F 0 true G X K o N) :=
  jj_Q.of (by decide +kernel) (Nat.le_of_ble_eq_true rfl) (b_GR_timeBehind_0 hG ho hdd hs)
set_option maxRecDepth 100000 in
set_option maxHeartbeats 4000000 in
theorem b_GR_element_0 {l : Launch} {G : jj_G} {X : sy_X} {K o N d : Nat} {m : Nat} {h : jj_H} (hG : sy_G G X) (ho : o + m = 40) (hdd : 22 + 10 * m ≤ d) (hs : Sy G X K o N h) : jj_P l G y_GR_element d (sy_F 0 true G X K o N) 0 [some (.ref (X.2.2.1 12))] [] h := by
  refine jj_aload_n (j := 0) (by decide +kernel) rfl ?_
  refine sy_cv (expr_all hG m _ _ _ (d - 1) (by omega) hs (by omega)) (fun o1 h1 hC => jj_callV ok_GR_expression ml_GR_149 im_GR_expression se_GR_GR_expression (by decide +kernel) (hs.rcGR hG.2) rfl (by omega) (Nat.le_of_ble_eq_true rfl) hC) rfl (fun _ _ _ q => ⟨rfl, rfl, _, q⟩) (fun h hs => ?_)
  refine jj_aload_n (j := 0) (by decide +kernel) rfl ?_
  refine jj_sipush (n := 257) (v := 257) (by decide +kernel) (by decide) ?_
  refine sy_cv (s_GR_timeBehind (d := d - 1) (m := m) hG (by omega) (by omega) hs) (fun o1 h1 hC => jj_callV ok_GR_timeBehind ml_GR_193 im_GR_timeBehind se_GR_GR_timeBehind (by decide +kernel) (hs.rcGR hG.2) rfl (by omega) (Nat.le_of_ble_eq_true rfl) hC) rfl (fun _ _ _ q => ⟨rfl, rfl, _, q⟩) (fun h hs => ?_)
  refine jj_aload_n (j := 0) (by decide +kernel) rfl ?_
  refine jj_bipush (n := 31) (v := 31) (by decide +kernel) (by decide) ?_
  refine jj_iconst (n := 0) (v := 0) (by decide +kernel) (by decide) ?_
  refine jj_iconst (n := 2) (v := 2) (by decide +kernel) (by decide) ?_
  refine sy_cv (s_CU_tell (d := d - 1) hG (by omega) hs) (fun o1 h1 hC => jj_callU ok_CU_tell ml_GR_64 sm_GR_CU_tell rfl im_CU_tell se_GR_CU_tell_u (by decide +kernel) (hs.rcGR hG.2) rfl (by omega) (Nat.le_of_ble_eq_true rfl) hC) rfl (fun _ _ _ q => ⟨rfl, rfl, _, q⟩) (fun h hs => ?_)
  exact jj_vret (by decide +kernel) rfl ⟨rfl, hs⟩
theorem s_GR_element {l : Launch} {G : jj_G} {X : sy_X} {K o N d : Nat} {m : Nat} {h : jj_H} (hG : sy_G G X) (ho : o + m = 40) (hdd : 22 + 10 * m ≤ d) (hs : Sy G X K o N h) : jj_Q l G y_GR_element d [.ref (X.2.2.1 12)] h (sy_F 0 true G X K o N) :=
  jj_Q.of (by decide +kernel) (Nat.le_of_ble_eq_true rfl) (b_GR_element_0 hG ho hdd hs)
set_option maxRecDepth 100000 in
set_option maxHeartbeats 4000000 in
theorem b_GR_one_8_0 {l : Launch} {G : jj_G} {X : sy_X} {K o N d : Nat} {m : Nat} {h : jj_H} (hG : sy_G G X) (ho : o + m = 40) (hdd : 23 + 10 * m ≤ d) (hs : Sy G X K o N h) : jj_P l G y_GR_one d (sy_F 1 true G X K o N) 0 [some (.ref (X.2.2.1 12)), some (.int 8)] [] h := by
  refine jj_iload_n (j := 1) (by decide +kernel) rfl ?_
  refine jj_tableIn (dflt := 130) (lo := 0) (hi := 12) (offs := #[73, 79, 84, 89, 89, 94, 100, 106, 112, 118, 124, 130, 67]) (len := 67) (off := 112) (tgt := 113) (by decide +kernel) (by decide) (by decide) (by decide) (by decide) ?_
  refine jj_aload_n (j := 0) (by decide +kernel) rfl ?_
  refine sy_cv (s_GR_element (d := d - 1) (m := m) hG (by omega) (by omega) hs) (fun o1 h1 hC => jj_callV ok_GR_element ml_GR_52 im_GR_element se_GR_GR_element (by decide +kernel) (hs.rcGR hG.2) rfl (by omega) (Nat.le_of_ble_eq_true rfl) hC) rfl (fun _ _ _ q => ⟨rfl, rfl, _, q⟩) (fun h hs => ?_)
  refine jj_iconst (n := 1) (v := 1) (by decide +kernel) (by decide) ?_
  exact jj_iret .int (by decide +kernel) rfl rfl ⟨Or.inl rfl, hs⟩
theorem s_GR_one_8 {l : Launch} {G : jj_G} {X : sy_X} {K o N d : Nat} {m : Nat} {h : jj_H} (hG : sy_G G X) (ho : o + m = 40) (hdd : 23 + 10 * m ≤ d) (hs : Sy G X K o N h) : jj_Q l G y_GR_one d [.ref (X.2.2.1 12), .int 8] h (sy_F 1 true G X K o N) :=
  jj_Q.of (by decide +kernel) (Nat.le_of_ble_eq_true rfl) (b_GR_one_8_0 hG ho hdd hs)
theorem one8_all {l : Launch} {G : jj_G} {X : sy_X} {N : Nat} (hG : sy_G G X) (m : Nat) : sy_One l G X N 8 23 m := fun K o h d ho hs hdd => s_GR_one_8 hG ho hdd hs
set_option maxRecDepth 100000 in
set_option maxHeartbeats 4000000 in
theorem b_GR_choice_0 {l : Launch} {G : jj_G} {X : sy_X} {K o N d : Nat} {m : Nat} {h : jj_H} (hG : sy_G G X) (ho : o + m = 40) (hdd : 16 + 10 * m ≤ d) (hs : Sy G X K o N h) : jj_P l G y_GR_choice d (sy_F 0 true G X K o N) 0 [some (.ref (X.2.2.1 12))] [] h := by
  refine jj_aload_n (j := 0) (by decide +kernel) rfl ?_
  refine jj_sipush (n := 289) (v := 289) (by decide +kernel) (by decide) ?_
  refine sy_ci (s_CU_accept (d := d - 1) hG (by omega) hs) (fun o1 h1 hC => jj_callU ok_CU_accept ml_GR_80 sm_GR_CU_accept rfl im_CU_accept se_GR_CU_accept_u (by decide +kernel) (hs.rcGR hG.2) rfl (by omega) (Nat.le_of_ble_eq_true rfl) hC) (by decide) rfl (fun _ _ _ q => ⟨rfl, rfl, _, q⟩) (fun v1 h _ hs => ?_)
  refine jj_if_eq (off := 14) (tgt := 21) (by decide +kernel) (by decide) (fun c2 => ?_) (fun c2 => ?_)
  · skip
    refine jj_aload_n (j := 0) (by decide +kernel) rfl ?_
    refine sy_cv (expr_all hG m _ _ _ (d - 1) (by omega) hs (by omega)) (fun o1 h1 hC => jj_callV ok_GR_expression ml_GR_149 im_GR_expression se_GR_GR_expression (by decide +kernel) (hs.rcGR hG.2) rfl (by omega) (Nat.le_of_ble_eq_true rfl) hC) rfl (fun _ _ _ q => ⟨rfl, rfl, _, q⟩) (fun h hs => ?_)
    exact jj_vret (by decide +kernel) rfl ⟨rfl, hs⟩
  · skip
    refine jj_aload_n (j := 0) (by decide +kernel) rfl ?_
    refine jj_bipush (n := 37) (v := 37) (by decide +kernel) (by decide) ?_
    refine jj_iconst (n := 0) (v := 0) (by decide +kernel) (by decide) ?_
    refine jj_iconst (n := 0) (v := 0) (by decide +kernel) (by decide) ?_
    refine sy_cv (s_CU_tell (d := d - 1) hG (by omega) hs) (fun o1 h1 hC => jj_callU ok_CU_tell ml_GR_64 sm_GR_CU_tell rfl im_CU_tell se_GR_CU_tell_u (by decide +kernel) (hs.rcGR hG.2) rfl (by omega) (Nat.le_of_ble_eq_true rfl) hC) rfl (fun _ _ _ q => ⟨rfl, rfl, _, q⟩) (fun h hs => ?_)
    refine jj_goto (off := 7) (tgt := 25) (by decide +kernel) (by decide) ?_
    exact jj_vret (by decide +kernel) rfl ⟨rfl, hs⟩
theorem s_GR_choice {l : Launch} {G : jj_G} {X : sy_X} {K o N d : Nat} {m : Nat} {h : jj_H} (hG : sy_G G X) (ho : o + m = 40) (hdd : 16 + 10 * m ≤ d) (hs : Sy G X K o N h) : jj_Q l G y_GR_choice d [.ref (X.2.2.1 12)] h (sy_F 0 true G X K o N) :=
  jj_Q.of (by decide +kernel) (Nat.le_of_ble_eq_true rfl) (b_GR_choice_0 hG ho hdd hs)
set_option maxRecDepth 100000 in
set_option maxHeartbeats 4000000 in
theorem b_GR_one_10_0 {l : Launch} {G : jj_G} {X : sy_X} {K o N d : Nat} {m : Nat} {h : jj_H} (hG : sy_G G X) (ho : o + m = 40) (hdd : 20 + 10 * m ≤ d) (hs : Sy G X K o N h) : jj_P l G y_GR_one d (sy_F 1 true G X K o N) 0 [some (.ref (X.2.2.1 12)), some (.int 10)] [] h := by
  refine jj_iload_n (j := 1) (by decide +kernel) rfl ?_
  refine jj_tableIn (dflt := 130) (lo := 0) (hi := 12) (offs := #[73, 79, 84, 89, 89, 94, 100, 106, 112, 118, 124, 130, 67]) (len := 67) (off := 124) (tgt := 125) (by decide +kernel) (by decide) (by decide) (by decide) (by decide) ?_
  refine jj_aload_n (j := 0) (by decide +kernel) rfl ?_
  refine sy_cv (s_GR_choice (d := d - 1) (m := m) hG (by omega) (by omega) hs) (fun o1 h1 hC => jj_callV ok_GR_choice ml_GR_58 im_GR_choice se_GR_GR_choice (by decide +kernel) (hs.rcGR hG.2) rfl (by omega) (Nat.le_of_ble_eq_true rfl) hC) rfl (fun _ _ _ q => ⟨rfl, rfl, _, q⟩) (fun h hs => ?_)
  refine jj_iconst (n := 1) (v := 1) (by decide +kernel) (by decide) ?_
  exact jj_iret .int (by decide +kernel) rfl rfl ⟨Or.inl rfl, hs⟩
theorem s_GR_one_10 {l : Launch} {G : jj_G} {X : sy_X} {K o N d : Nat} {m : Nat} {h : jj_H} (hG : sy_G G X) (ho : o + m = 40) (hdd : 20 + 10 * m ≤ d) (hs : Sy G X K o N h) : jj_Q l G y_GR_one d [.ref (X.2.2.1 12), .int 10] h (sy_F 1 true G X K o N) :=
  jj_Q.of (by decide +kernel) (Nat.le_of_ble_eq_true rfl) (b_GR_one_10_0 hG ho hdd hs)
theorem one10_all {l : Launch} {G : jj_G} {X : sy_X} {N : Nat} (hG : sy_G G X) (m : Nat) : sy_One l G X N 10 20 m := fun K o h d ho hs hdd => s_GR_one_10 hG ho hdd hs
set_option maxRecDepth 100000 in
set_option maxHeartbeats 4000000 in
theorem b_GR_map_37 {l : Launch} {G : jj_G} {X : sy_X} {K o N d : Nat} {m : Nat} {h : jj_H} {x1 : Int32} (hG : sy_G G X) (ho : o + m = 40) (hdd : 16 + 10 * m ≤ d) (hs : Sy G X K o N h) : jj_P l G y_GR_map d (sy_F 0 true G X K o N) 37 [some (.ref (X.2.2.1 12)), some (.int x1)] [] h := by
  refine jj_aload_n (j := 0) (by decide +kernel) rfl ?_
  refine jj_bipush (n := 63) (v := 63) (by decide +kernel) (by decide) ?_
  refine jj_iload_n (j := 1) (by decide +kernel) rfl ?_
  refine jj_iconst (n := 1) (v := 1) (by decide +kernel) (by decide) ?_
  refine sy_cv (s_CU_tell (d := d - 1) hG (by omega) hs) (fun o1 h1 hC => jj_callU ok_CU_tell ml_GR_64 sm_GR_CU_tell rfl im_CU_tell se_GR_CU_tell_u (by decide +kernel) (hs.rcGR hG.2) rfl (by omega) (Nat.le_of_ble_eq_true rfl) hC) rfl (fun _ _ _ q => ⟨rfl, rfl, _, q⟩) (fun h hs => ?_)
  exact jj_vret (by decide +kernel) rfl ⟨rfl, hs⟩
set_option maxRecDepth 100000 in
set_option maxHeartbeats 4000000 in
theorem b_GR_map_0 {l : Launch} {G : jj_G} {X : sy_X} {K o N d : Nat} {m : Nat} {h : jj_H} (hG : sy_G G X) (ho : o + m = 40) (hdd : 16 + 10 * m ≤ d) (hs : Sy G X K o N h) : jj_P l G y_GR_map d (sy_F 0 true G X K o N) 0 [some (.ref (X.2.2.1 12)), none] [] h := by
  refine jj_aload_n (j := 0) (by decide +kernel) rfl ?_
  refine sy_ci (s_CU_takeName (d := d - 1) hG (by omega) hs) (fun o1 h1 hC => jj_callU ok_CU_takeName ml_GR_61 sm_GR_CU_takeName rfl im_CU_takeName se_GR_CU_takeName_u (by decide +kernel) (hs.rcGR hG.2) rfl (by omega) (Nat.le_of_ble_eq_true rfl) hC) (by decide) rfl (fun _ _ _ q => ⟨rfl, rfl, _, q⟩) (fun v1 h _ hs => ?_)
  refine jj_istore_n (j := 1) (by decide +kernel) (by decide) rfl ?_
  refine jj_aload_n (j := 0) (by decide +kernel) rfl ?_
  refine jj_sipush (n := 130) (v := 130) (by decide +kernel) (by decide) ?_
  refine sy_cv (s_CU_expect (d := d - 1) hG (by omega) hs) (fun o1 h1 hC => jj_callU ok_CU_expect ml_GR_102 sm_GR_CU_expect rfl im_CU_expect se_GR_CU_expect_u (by decide +kernel) (hs.rcGR hG.2) rfl (by omega) (Nat.le_of_ble_eq_true rfl) hC) rfl (fun _ _ _ q => ⟨rfl, rfl, _, q⟩) (fun h hs => ?_)
  refine jj_aload_n (j := 0) (by decide +kernel) rfl ?_
  obtain ⟨ki, va, pl, fa, fp, ne, hg⟩ := hs.gr hG.2
  refine jj_getfield 3 ck_GR fl_GR_68 (by decide) (by decide +kernel) hg rfl ?_
  refine jj_sipush (n := 287) (v := 287) (by decide +kernel) (by decide) ?_
  refine jj_icmp_ne (off := 14) (tgt := 33) (by decide +kernel) (by decide) (fun c2 => ?_) (fun c2 => ?_)
  · skip
    refine jj_aload_n (j := 0) (by decide +kernel) rfl ?_
    refine sy_cv (expr_all hG m _ _ _ (d - 1) (by omega) hs (by omega)) (fun o1 h1 hC => jj_callV ok_GR_expression ml_GR_149 im_GR_expression se_GR_GR_expression (by decide +kernel) (hs.rcGR hG.2) rfl (by omega) (Nat.le_of_ble_eq_true rfl) hC) rfl (fun _ _ _ q => ⟨rfl, rfl, _, q⟩) (fun h hs => ?_)
    exact jj_wk (js_s (js_s js_0)) (b_GR_map_37 hG ho hdd hs)
  · skip
    refine jj_aload_n (j := 0) (by decide +kernel) rfl ?_
    refine sy_cv (s_CU_tellNothing (d := d - 1) hG (by omega) hs) (fun o1 h1 hC => jj_callU ok_CU_tellNothing ml_GR_152 sm_GR_CU_tellNothing rfl im_CU_tellNothing se_GR_CU_tellNothing_u (by decide +kernel) (hs.rcGR hG.2) rfl (by omega) (Nat.le_of_ble_eq_true rfl) hC) rfl (fun _ _ _ q => ⟨rfl, rfl, _, q⟩) (fun h hs => ?_)
    refine jj_aload_n (j := 0) (by decide +kernel) rfl ?_
    refine sy_cv (s_CU_take (d := d - 1) hG (by omega) hs) (fun o1 h1 hC => jj_callU ok_CU_take ml_GR_134 sm_GR_CU_take rfl im_CU_take se_GR_CU_take_u (by decide +kernel) (hs.rcGR hG.2) rfl (by omega) (Nat.le_of_ble_eq_true rfl) hC) rfl (fun _ _ _ q => ⟨rfl, rfl, _, q⟩) (fun h hs => ?_)
    refine jj_goto (off := 7) (tgt := 37) (by decide +kernel) (by decide) ?_
    exact jj_wk (js_s (js_s js_0)) (b_GR_map_37 hG ho hdd hs)
theorem s_GR_map {l : Launch} {G : jj_G} {X : sy_X} {K o N d : Nat} {m : Nat} {h : jj_H} (hG : sy_G G X) (ho : o + m = 40) (hdd : 16 + 10 * m ≤ d) (hs : Sy G X K o N h) : jj_Q l G y_GR_map d [.ref (X.2.2.1 12)] h (sy_F 0 true G X K o N) :=
  jj_Q.of (by decide +kernel) (Nat.le_of_ble_eq_true rfl) (b_GR_map_0 hG ho hdd hs)
set_option maxRecDepth 100000 in
set_option maxHeartbeats 4000000 in
theorem b_GR_one_6_0 {l : Launch} {G : jj_G} {X : sy_X} {K o N d : Nat} {m : Nat} {h : jj_H} (hG : sy_G G X) (ho : o + m = 40) (hdd : 20 + 10 * m ≤ d) (hs : Sy G X K o N h) : jj_P l G y_GR_one d (sy_F 1 true G X K o N) 0 [some (.ref (X.2.2.1 12)), some (.int 6)] [] h := by
  refine jj_iload_n (j := 1) (by decide +kernel) rfl ?_
  refine jj_tableIn (dflt := 130) (lo := 0) (hi := 12) (offs := #[73, 79, 84, 89, 89, 94, 100, 106, 112, 118, 124, 130, 67]) (len := 67) (off := 100) (tgt := 101) (by decide +kernel) (by decide) (by decide) (by decide) (by decide) ?_
  refine jj_aload_n (j := 0) (by decide +kernel) rfl ?_
  refine sy_cv (s_GR_map (d := d - 1) (m := m) hG (by omega) (by omega) hs) (fun o1 h1 hC => jj_callV ok_GR_map ml_GR_46 im_GR_map se_GR_GR_map (by decide +kernel) (hs.rcGR hG.2) rfl (by omega) (Nat.le_of_ble_eq_true rfl) hC) rfl (fun _ _ _ q => ⟨rfl, rfl, _, q⟩) (fun h hs => ?_)
  refine jj_iconst (n := 1) (v := 1) (by decide +kernel) (by decide) ?_
  exact jj_iret .int (by decide +kernel) rfl rfl ⟨Or.inl rfl, hs⟩
theorem s_GR_one_6 {l : Launch} {G : jj_G} {X : sy_X} {K o N d : Nat} {m : Nat} {h : jj_H} (hG : sy_G G X) (ho : o + m = 40) (hdd : 20 + 10 * m ≤ d) (hs : Sy G X K o N h) : jj_Q l G y_GR_one d [.ref (X.2.2.1 12), .int 6] h (sy_F 1 true G X K o N) :=
  jj_Q.of (by decide +kernel) (Nat.le_of_ble_eq_true rfl) (b_GR_one_6_0 hG ho hdd hs)
theorem one6_all {l : Launch} {G : jj_G} {X : sy_X} {N : Nat} (hG : sy_G G X) (m : Nat) : sy_One l G X N 6 20 m := fun K o h d ho hs hdd => s_GR_one_6 hG ho hdd hs
set_option maxRecDepth 100000 in
set_option maxHeartbeats 4000000 in
theorem b_GR_mapList_0 {l : Launch} {G : jj_G} {X : sy_X} {K o N d : Nat} {m : Nat} {x1 : Int32} {h : jj_H} (hG : sy_G G X) (ho : o + m = 40) (hdd : 24 + 10 * m ≤ d) (hs : Sy G X K o N h) : jj_P l G y_GR_mapList d (sy_F 0 true G X K o N) 0 [some (.ref (X.2.2.1 12)), some (.int x1)] [] h := by
  refine jj_aload_n (j := 0) (by decide +kernel) rfl ?_
  refine jj_iload_n (j := 1) (by decide +kernel) rfl ?_
  refine sy_ci (s_CU_accept (d := d - 1) hG (by omega) hs) (fun o1 h1 hC => jj_callU ok_CU_accept ml_GR_80 sm_GR_CU_accept rfl im_CU_accept se_GR_CU_accept_u (by decide +kernel) (hs.rcGR hG.2) rfl (by omega) (Nat.le_of_ble_eq_true rfl) hC) (by decide) rfl (fun _ _ _ q => ⟨rfl, rfl, _, q⟩) (fun v1 h _ hs => ?_)
  refine jj_if_eq (off := 33) (tgt := 38) (by decide +kernel) (by decide) (fun c2 => ?_) (fun c2 => ?_)
  · skip
    refine jj_aload_n (j := 0) (by decide +kernel) rfl ?_
    refine sy_cv (s_GR_emptyList (d := d - 1) hG (by omega) hs) (fun o1 h1 hC => jj_callV ok_GR_emptyList ml_GR_115 im_GR_emptyList se_GR_GR_emptyList (by decide +kernel) (hs.rcGR hG.2) rfl (by omega) (Nat.le_of_ble_eq_true rfl) hC) rfl (fun _ _ _ q => ⟨rfl, rfl, _, q⟩) (fun h hs => ?_)
    exact jj_vret (by decide +kernel) rfl ⟨rfl, hs⟩
  · skip
    refine jj_aload_n (j := 0) (by decide +kernel) rfl ?_
    refine jj_sipush (n := 278) (v := 278) (by decide +kernel) (by decide) ?_
    refine sy_cv (s_CU_expect (d := d - 1) hG (by omega) hs) (fun o1 h1 hC => jj_callU ok_CU_expect ml_GR_102 sm_GR_CU_expect rfl im_CU_expect se_GR_CU_expect_u (by decide +kernel) (hs.rcGR hG.2) rfl (by omega) (Nat.le_of_ble_eq_true rfl) hC) rfl (fun _ _ _ q => ⟨rfl, rfl, _, q⟩) (fun h hs => ?_)
    refine jj_aload_n (j := 0) (by decide +kernel) rfl ?_
    refine jj_bipush (n := 40) (v := 40) (by decide +kernel) (by decide) ?_
    refine sy_cv (s_CU_expect (d := d - 1) hG (by omega) hs) (fun o1 h1 hC => jj_callU ok_CU_expect ml_GR_102 sm_GR_CU_expect rfl im_CU_expect se_GR_CU_expect_u (by decide +kernel) (hs.rcGR hG.2) rfl (by omega) (Nat.le_of_ble_eq_true rfl) hC) rfl (fun _ _ _ q => ⟨rfl, rfl, _, q⟩) (fun h hs => ?_)
    refine jj_aload_n (j := 0) (by decide +kernel) rfl ?_
    refine jj_bipush (n := 6) (v := 6) (by decide +kernel) (by decide) ?_
    refine jj_bipush (n := 44) (v := 44) (by decide +kernel) (by decide) ?_
    refine sy_cv (s_GR_listOfSome (d := d - 1) (m := m) hG (by omega) (one6_all hG m) (by decide) (by omega) hs) (fun o1 h1 hC => jj_callV ok_GR_listOfSome ml_GR_112 im_GR_listOfSome se_GR_GR_listOfSome (by decide +kernel) (hs.rcGR hG.2) rfl (by omega) (Nat.le_of_ble_eq_true rfl) hC) rfl (fun _ _ _ q => ⟨rfl, rfl, _, q⟩) (fun h hs => ?_)
    refine jj_aload_n (j := 0) (by decide +kernel) rfl ?_
    refine jj_bipush (n := 41) (v := 41) (by decide +kernel) (by decide) ?_
    refine sy_cv (s_CU_expect (d := d - 1) hG (by omega) hs) (fun o1 h1 hC => jj_callU ok_CU_expect ml_GR_102 sm_GR_CU_expect rfl im_CU_expect se_GR_CU_expect_u (by decide +kernel) (hs.rcGR hG.2) rfl (by omega) (Nat.le_of_ble_eq_true rfl) hC) rfl (fun _ _ _ q => ⟨rfl, rfl, _, q⟩) (fun h hs => ?_)
    refine jj_goto (off := 7) (tgt := 42) (by decide +kernel) (by decide) ?_
    exact jj_vret (by decide +kernel) rfl ⟨rfl, hs⟩
theorem s_GR_mapList {l : Launch} {G : jj_G} {X : sy_X} {K o N d : Nat} {m : Nat} {x1 : Int32} {h : jj_H} (hG : sy_G G X) (ho : o + m = 40) (hdd : 24 + 10 * m ≤ d) (hs : Sy G X K o N h) : jj_Q l G y_GR_mapList d [.ref (X.2.2.1 12), .int x1] h (sy_F 0 true G X K o N) :=
  jj_Q.of (by decide +kernel) (Nat.le_of_ble_eq_true rfl) (b_GR_mapList_0 hG ho hdd hs)
set_option maxRecDepth 100000 in
set_option maxHeartbeats 4000000 in
theorem b_GR_instance_0 {l : Launch} {G : jj_G} {X : sy_X} {K o N d : Nat} {m : Nat} {x1 : Int32} {h : jj_H} (hG : sy_G G X) (ho : o + m = 40) (hdd : 25 + 10 * m ≤ d) (hs : Sy G X K o N h) : jj_P l G y_GR_instance d (sy_F 0 true G X K o N) 0 [some (.ref (X.2.2.1 12)), some (.int x1)] [] h := by
  refine jj_aload_n (j := 0) (by decide +kernel) rfl ?_
  refine jj_sipush (n := 305) (v := 305) (by decide +kernel) (by decide) ?_
  refine sy_cv (s_CU_expect (d := d - 1) hG (by omega) hs) (fun o1 h1 hC => jj_callU ok_CU_expect ml_GR_102 sm_GR_CU_expect rfl im_CU_expect se_GR_CU_expect_u (by decide +kernel) (hs.rcGR hG.2) rfl (by omega) (Nat.le_of_ble_eq_true rfl) hC) rfl (fun _ _ _ q => ⟨rfl, rfl, _, q⟩) (fun h hs => ?_)
  refine jj_aload_n (j := 0) (by decide +kernel) rfl ?_
  refine jj_iconst (n := 1) (v := 1) (by decide +kernel) (by decide) ?_
  refine jj_aload_n (j := 0) (by decide +kernel) rfl ?_
  refine sy_ci (s_CU_takeName (d := d - 1) hG (by omega) hs) (fun o1 h1 hC => jj_callU ok_CU_takeName ml_GR_61 sm_GR_CU_takeName rfl im_CU_takeName se_GR_CU_takeName_u (by decide +kernel) (hs.rcGR hG.2) rfl (by omega) (Nat.le_of_ble_eq_true rfl) hC) (by decide) rfl (fun _ _ _ q => ⟨rfl, rfl, _, q⟩) (fun v1 h _ hs => ?_)
  refine jj_iconst (n := 0) (v := 0) (by decide +kernel) (by decide) ?_
  refine sy_cv (s_CU_tell (d := d - 1) hG (by omega) hs) (fun o1 h1 hC => jj_callU ok_CU_tell ml_GR_64 sm_GR_CU_tell rfl im_CU_tell se_GR_CU_tell_u (by decide +kernel) (hs.rcGR hG.2) rfl (by omega) (Nat.le_of_ble_eq_true rfl) hC) rfl (fun _ _ _ q => ⟨rfl, rfl, _, q⟩) (fun h hs => ?_)
  refine jj_aload_n (j := 0) (by decide +kernel) rfl ?_
  refine jj_sipush (n := 271) (v := 271) (by decide +kernel) (by decide) ?_
  refine sy_cv (s_GR_mapList (d := d - 1) (m := m) hG (by omega) (by omega) hs) (fun o1 h1 hC => jj_callV ok_GR_mapList ml_GR_199 im_GR_mapList se_GR_GR_mapList (by decide +kernel) (hs.rcGR hG.2) rfl (by omega) (Nat.le_of_ble_eq_true rfl) hC) rfl (fun _ _ _ q => ⟨rfl, rfl, _, q⟩) (fun h hs => ?_)
  refine jj_aload_n (j := 0) (by decide +kernel) rfl ?_
  refine jj_sipush (n := 291) (v := 291) (by decide +kernel) (by decide) ?_
  refine sy_cv (s_GR_mapList (d := d - 1) (m := m) hG (by omega) (by omega) hs) (fun o1 h1 hC => jj_callV ok_GR_mapList ml_GR_199 im_GR_mapList se_GR_GR_mapList (by decide +kernel) (hs.rcGR hG.2) rfl (by omega) (Nat.le_of_ble_eq_true rfl) hC) rfl (fun _ _ _ q => ⟨rfl, rfl, _, q⟩) (fun h hs => ?_)
  refine jj_aload_n (j := 0) (by decide +kernel) rfl ?_
  refine jj_bipush (n := 59) (v := 59) (by decide +kernel) (by decide) ?_
  refine sy_cv (s_CU_expect (d := d - 1) hG (by omega) hs) (fun o1 h1 hC => jj_callU ok_CU_expect ml_GR_102 sm_GR_CU_expect rfl im_CU_expect se_GR_CU_expect_u (by decide +kernel) (hs.rcGR hG.2) rfl (by omega) (Nat.le_of_ble_eq_true rfl) hC) rfl (fun _ _ _ q => ⟨rfl, rfl, _, q⟩) (fun h hs => ?_)
  refine jj_aload_n (j := 0) (by decide +kernel) rfl ?_
  refine jj_bipush (n := 62) (v := 62) (by decide +kernel) (by decide) ?_
  refine jj_iload_n (j := 1) (by decide +kernel) rfl ?_
  refine jj_iconst (n := 3) (v := 3) (by decide +kernel) (by decide) ?_
  refine sy_cv (s_CU_tell (d := d - 1) hG (by omega) hs) (fun o1 h1 hC => jj_callU ok_CU_tell ml_GR_64 sm_GR_CU_tell rfl im_CU_tell se_GR_CU_tell_u (by decide +kernel) (hs.rcGR hG.2) rfl (by omega) (Nat.le_of_ble_eq_true rfl) hC) rfl (fun _ _ _ q => ⟨rfl, rfl, _, q⟩) (fun h hs => ?_)
  exact jj_vret (by decide +kernel) rfl ⟨rfl, hs⟩
theorem s_GR_instance {l : Launch} {G : jj_G} {X : sy_X} {K o N d : Nat} {m : Nat} {x1 : Int32} {h : jj_H} (hG : sy_G G X) (ho : o + m = 40) (hdd : 25 + 10 * m ≤ d) (hs : Sy G X K o N h) : jj_Q l G y_GR_instance d [.ref (X.2.2.1 12), .int x1] h (sy_F 0 true G X K o N) :=
  jj_Q.of (by decide +kernel) (Nat.le_of_ble_eq_true rfl) (b_GR_instance_0 hG ho hdd hs)
