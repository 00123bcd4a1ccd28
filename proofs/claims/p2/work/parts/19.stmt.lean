set_option maxRecDepth 100000 in
set_option maxHeartbeats 4000000 in
theorem b_GR_assignment_60 {l : Launch} {G : jj_G} {X : sy_X} {K o N d : Nat} {m : Nat} {h : jj_H} {x1 y0 : Int32} (hG : sy_G G X) (ho : o + m = 40) (hdd : 26 + 10 * m ≤ d) (hs : Sy G X K o N h) : jj_P l G y_GR_assignment d (sy_F 0 true G X K o N) 60 [some (.ref (X.2.2.1 12)), some (.int x1), none] [.int y0] h := by
  refine jj_istore_n (j := 2) (by decide +kernel) (by decide) rfl ?_
  refine jj_iload_n (j := 2) (by decide +kernel) rfl ?_
  refine jj_aload_n (j := 0) (by decide +kernel) rfl ?_
  refine jj_bipush (n := 8) (v := 8) (by decide +kernel) (by decide) ?_
  refine jj_bipush (n := 44) (v := 44) (by decide +kernel) (by decide) ?_
  refine sy_ci (s_GR_oneOrMore (d := d - 1) (m := m) hG (by omega) (one8_all hG m) (by decide) (by omega) hs) (fun o1 h1 hC => jj_callV ok_GR_oneOrMore ml_GR_83 im_GR_oneOrMore se_GR_GR_oneOrMore (by decide +kernel) (hs.rcGR hG.2) rfl (by omega) (Nat.le_of_ble_eq_true rfl) hC) (by decide) rfl (fun _ _ _ q => ⟨rfl, rfl, _, q⟩) (fun v1 h _ hs => ?_)
  refine jj_iadd (by decide +kernel) ?_
  refine jj_istore_n (j := 2) (by decide +kernel) (by decide) rfl ?_
  refine jj_aload_n (j := 0) (by decide +kernel) rfl ?_
  refine jj_bipush (n := 59) (v := 59) (by decide +kernel) (by decide) ?_
  refine sy_cv (s_CU_expect (d := d - 1) hG (by omega) hs) (fun o1 h1 hC => jj_callU ok_CU_expect ml_GR_102 sm_GR_CU_expect rfl im_CU_expect se_GR_CU_expect_u (by decide +kernel) (hs.rcGR hG.2) rfl (by omega) (Nat.le_of_ble_eq_true rfl) hC) rfl (fun _ _ _ q => ⟨rfl, rfl, _, q⟩) (fun h hs => ?_)
  refine jj_aload_n (j := 0) (by decide +kernel) rfl ?_
  refine jj_bipush (n := 30) (v := 30) (by decide +kernel) (by decide) ?_
  refine jj_iload_n (j := 1) (by decide +kernel) rfl ?_
  refine jj_iload_n (j := 2) (by decide +kernel) rfl ?_
  refine sy_cv (s_CU_tell (d := d - 1) hG (by omega) hs) (fun o1 h1 hC => jj_callU ok_CU_tell ml_GR_64 sm_GR_CU_tell rfl im_CU_tell se_GR_CU_tell_u (by decide +kernel) (hs.rcGR hG.2) rfl (by omega) (Nat.le_of_ble_eq_true rfl) hC) rfl (fun _ _ _ q => ⟨rfl, rfl, _, q⟩) (fun h hs => ?_)
  exact jj_vret (by decide +kernel) rfl ⟨rfl, hs⟩
set_option maxRecDepth 100000 in
set_option maxHeartbeats 4000000 in
theorem b_GR_assignment_0 {l : Launch} {G : jj_G} {X : sy_X} {K o N d : Nat} {m : Nat} {h : jj_H} (hG : sy_G G X) (ho : o + m = 40) (hdd : 26 + 10 * m ≤ d) (hs : Sy G X K o N h) : jj_P l G y_GR_assignment d (sy_F 0 true G X K o N) 0 [some (.ref (X.2.2.1 12)), none, none] [] h := by
  refine jj_aload_n (j := 0) (by decide +kernel) rfl ?_
  refine jj_aload_n (j := 0) (by decide +kernel) rfl ?_
  refine sy_ci (s_CU_takeName (d := d - 1) hG (by omega) hs) (fun o1 h1 hC => jj_callU ok_CU_takeName ml_GR_61 sm_GR_CU_takeName rfl im_CU_takeName se_GR_CU_takeName_u (by decide +kernel) (hs.rcGR hG.2) rfl (by omega) (Nat.le_of_ble_eq_true rfl) hC) (by decide) rfl (fun _ _ _ q => ⟨rfl, rfl, _, q⟩) (fun v1 h _ hs => ?_)
  refine jj_iconst (n := 0) (v := 0) (by decide +kernel) (by decide) ?_
  refine sy_cv (s_GR_behindName (d := d - 1) (m := m) hG (by omega) (fun _ => expr_all hG _) (by omega) hs) (fun o1 h1 hC => jj_callV ok_GR_behindName ml_GR_186 im_GR_behindName se_GR_GR_behindName (by decide +kernel) (hs.rcGR hG.2) rfl (by omega) (Nat.le_of_ble_eq_true rfl) hC) rfl (fun _ _ _ q => ⟨rfl, rfl, _, q⟩) (fun h hs => ?_)
  refine jj_aload_n (j := 0) (by decide +kernel) rfl ?_
  refine jj_sipush (n := 128) (v := 128) (by decide +kernel) (by decide) ?_
  refine sy_ci (s_CU_accept (d := d - 1) hG (by omega) hs) (fun o1 h1 hC => jj_callU ok_CU_accept ml_GR_80 sm_GR_CU_accept rfl im_CU_accept se_GR_CU_accept_u (by decide +kernel) (hs.rcGR hG.2) rfl (by omega) (Nat.le_of_ble_eq_true rfl) hC) (by decide) rfl (fun _ _ _ q => ⟨rfl, rfl, _, q⟩) (fun v2 h _ hs => ?_)
  refine jj_if_eq (off := 22) (tgt := 38) (by decide +kernel) (by decide) (fun c3 => ?_) (fun c3 => ?_)
  · skip
    refine jj_aload_n (j := 0) (by decide +kernel) rfl ?_
    refine jj_sipush (n := 129) (v := 129) (by decide +kernel) (by decide) ?_
    refine sy_cv (s_CU_expect (d := d - 1) hG (by omega) hs) (fun o1 h1 hC => jj_callU ok_CU_expect ml_GR_102 sm_GR_CU_expect rfl im_CU_expect se_GR_CU_expect_u (by decide +kernel) (hs.rcGR hG.2) rfl (by omega) (Nat.le_of_ble_eq_true rfl) hC) rfl (fun _ _ _ q => ⟨rfl, rfl, _, q⟩) (fun h hs => ?_)
    refine jj_aload_n (j := 0) (by decide +kernel) rfl ?_
    refine sy_ci (s_GR_mode (d := d - 1) (m := m) hG (by omega) (by omega) hs) (fun o1 h1 hC => jj_callV ok_GR_mode ml_GR_190 im_GR_mode se_GR_GR_mode (by decide +kernel) (hs.rcGR hG.2) rfl (by omega) (Nat.le_of_ble_eq_true rfl) hC) (by decide) rfl (fun _ _ _ q => ⟨rfl, rfl, _, q⟩) (fun v4 h _ hs => ?_)
    refine jj_istore_n (j := 1) (by decide +kernel) (by decide) rfl ?_
    refine jj_iload_n (j := 1) (by decide +kernel) rfl ?_
    refine jj_iconst (n := 2) (v := 2) (by decide +kernel) (by decide) ?_
    refine jj_icmp_ne (off := 7) (tgt := 59) (by decide +kernel) (by decide) (fun c5 => ?_) (fun c5 => ?_)
    · skip
      refine jj_iconst (n := 1) (v := 1) (by decide +kernel) (by decide) ?_
      exact jj_wk (js_s (js_s (js_n js_0))) (b_GR_assignment_60 hG ho hdd hs)
    · skip
      refine jj_iconst (n := 2) (v := 2) (by decide +kernel) (by decide) ?_
      refine jj_goto (off := 4) (tgt := 60) (by decide +kernel) (by decide) ?_
      exact jj_wk (js_s (js_s (js_n js_0))) (b_GR_assignment_60 hG ho hdd hs)
  · skip
    refine jj_aload_n (j := 0) (by decide +kernel) rfl ?_
    refine sy_cv (expr_all hG m _ _ _ (d - 1) (by omega) hs (by omega)) (fun o1 h1 hC => jj_callV ok_GR_expression ml_GR_149 im_GR_expression se_GR_GR_expression (by decide +kernel) (hs.rcGR hG.2) rfl (by omega) (Nat.le_of_ble_eq_true rfl) hC) rfl (fun _ _ _ q => ⟨rfl, rfl, _, q⟩) (fun h hs => ?_)
    refine jj_aload_n (j := 0) (by decide +kernel) rfl ?_
    refine jj_bipush (n := 59) (v := 59) (by decide +kernel) (by decide) ?_
    refine sy_cv (s_CU_expect (d := d - 1) hG (by omega) hs) (fun o1 h1 hC => jj_callU ok_CU_expect ml_GR_102 sm_GR_CU_expect rfl im_CU_expect se_GR_CU_expect_u (by decide +kernel) (hs.rcGR hG.2) rfl (by omega) (Nat.le_of_ble_eq_true rfl) hC) rfl (fun _ _ _ q => ⟨rfl, rfl, _, q⟩) (fun h hs => ?_)
    refine jj_aload_n (j := 0) (by decide +kernel) rfl ?_
    refine jj_bipush (n := 33) (v := 33) (by decide +kernel) (by decide) ?_
    refine jj_iconst (n := 0) (v := 0) (by decide +kernel) (by decide) ?_
    refine jj_iconst (n := 2) (v := 2) (by decide +kernel) (by decide) ?_
    refine sy_cv (s_CU_tell (d := d - 1) hG (by omega) hs) (fun o1 h1 hC => jj_callU ok_CU_tell ml_GR_64 sm_GR_CU_tell rfl im_CU_tell se_GR_CU_tell_u (by decide +kernel) (hs.rcGR hG.2) rfl (by omega) (Nat.le_of_ble_eq_true rfl) hC) rfl (fun _ _ _ q => ⟨rfl, rfl, _, q⟩) (fun h hs => ?_)
    exact jj_vret (by decide +kernel) rfl ⟨rfl, hs⟩
theorem s_GR_assignment {l : Launch} {G : jj_G} {X : sy_X} {K o N d : Nat} {m : Nat} {h : jj_H} (hG : sy_G G X) (ho : o + m = 40) (hdd : 26 + 10 * m ≤ d) (hs : Sy G X K o N h) : jj_Q l G y_GR_assignment d [.ref (X.2.2.1 12)] h (sy_F 0 true G X K o N) :=
  jj_Q.of (by decide +kernel) (Nat.le_of_ble_eq_true rfl) (b_GR_assignment_0 hG ho hdd hs)
set_option maxRecDepth 100000 in
set_option maxHeartbeats 4000000 in
theorem b_GR_leaveOrRepeat_0 {l : Launch} {G : jj_G} {X : sy_X} {K o N d : Nat} {m : Nat} {x1 : Int32} {h : jj_H} (hG : sy_G G X) (ho : o + m = 40) (hdd : 17 + 10 * m ≤ d) (hs : Sy G X K o N h) : jj_P l G y_GR_leaveOrRepeat d (sy_F 0 true G X K o N) 0 [some (.ref (X.2.2.1 12)), some (.int x1)] [] h := by
  refine jj_aload_n (j := 0) (by decide +kernel) rfl ?_
  refine sy_cv (s_CU_take (d := d - 1) hG (by omega) hs) (fun o1 h1 hC => jj_callU ok_CU_take ml_GR_134 sm_GR_CU_take rfl im_CU_take se_GR_CU_take_u (by decide +kernel) (hs.rcGR hG.2) rfl (by omega) (Nat.le_of_ble_eq_true rfl) hC) rfl (fun _ _ _ q => ⟨rfl, rfl, _, q⟩) (fun h hs => ?_)
  refine jj_aload_n (j := 0) (by decide +kernel) rfl ?_
  refine jj_sipush (n := 309) (v := 309) (by decide +kernel) (by decide) ?_
  refine sy_cv (s_GR_expressionBehind (d := d - 1) (m := m) hG (by omega) (by omega) hs) (fun o1 h1 hC => jj_callV ok_GR_expressionBehind ml_GR_127 im_GR_expressionBehind se_GR_GR_expressionBehind (by decide +kernel) (hs.rcGR hG.2) rfl (by omega) (Nat.le_of_ble_eq_true rfl) hC) rfl (fun _ _ _ q => ⟨rfl, rfl, _, q⟩) (fun h hs => ?_)
  refine jj_aload_n (j := 0) (by decide +kernel) rfl ?_
  refine jj_bipush (n := 59) (v := 59) (by decide +kernel) (by decide) ?_
  refine sy_cv (s_CU_expect (d := d - 1) hG (by omega) hs) (fun o1 h1 hC => jj_callU ok_CU_expect ml_GR_102 sm_GR_CU_expect rfl im_CU_expect se_GR_CU_expect_u (by decide +kernel) (hs.rcGR hG.2) rfl (by omega) (Nat.le_of_ble_eq_true rfl) hC) rfl (fun _ _ _ q => ⟨rfl, rfl, _, q⟩) (fun h hs => ?_)
  refine jj_aload_n (j := 0) (by decide +kernel) rfl ?_
  refine jj_iload_n (j := 1) (by decide +kernel) rfl ?_
  refine jj_iconst (n := 0) (v := 0) (by decide +kernel) (by decide) ?_
  refine jj_iconst (n := 1) (v := 1) (by decide +kernel) (by decide) ?_
  refine sy_cv (s_CU_tell (d := d - 1) hG (by omega) hs) (fun o1 h1 hC => jj_callU ok_CU_tell ml_GR_64 sm_GR_CU_tell rfl im_CU_tell se_GR_CU_tell_u (by decide +kernel) (hs.rcGR hG.2) rfl (by omega) (Nat.le_of_ble_eq_true rfl) hC) rfl (fun _ _ _ q => ⟨rfl, rfl, _, q⟩) (fun h hs => ?_)
  exact jj_vret (by decide +kernel) rfl ⟨rfl, hs⟩
theorem s_GR_leaveOrRepeat {l : Launch} {G : jj_G} {X : sy_X} {K o N d : Nat} {m : Nat} {x1 : Int32} {h : jj_H} (hG : sy_G G X) (ho : o + m = 40) (hdd : 17 + 10 * m ≤ d) (hs : Sy G X K o N h) : jj_Q l G y_GR_leaveOrRepeat d [.ref (X.2.2.1 12), .int x1] h (sy_F 0 true G X K o N) :=
  jj_Q.of (by decide +kernel) (Nat.le_of_ble_eq_true rfl) (b_GR_leaveOrRepeat_0 hG ho hdd hs)
set_option maxRecDepth 100000 in
set_option maxHeartbeats 4000000 in
theorem b_GR_waitStatement_32 {l : Launch} {G : jj_G} {X : sy_X} {K o N d : Nat} {m : Nat} {h : jj_H} (hG : sy_G G X) (ho : o + m = 40) (hdd : 24 + 10 * m ≤ d) (hs : Sy G X K o N h) : jj_P l G y_GR_waitStatement d (sy_F 0 true G X K o N) 32 [some (.ref (X.2.2.1 12))] [] h := by
  refine jj_aload_n (j := 0) (by decide +kernel) rfl ?_
  refine jj_sipush (n := 306) (v := 306) (by decide +kernel) (by decide) ?_
  refine sy_cv (s_GR_expressionBehind (d := d - 1) (m := m) hG (by omega) (by omega) hs) (fun o1 h1 hC => jj_callV ok_GR_expressionBehind ml_GR_127 im_GR_expressionBehind se_GR_GR_expressionBehind (by decide +kernel) (hs.rcGR hG.2) rfl (by omega) (Nat.le_of_ble_eq_true rfl) hC) rfl (fun _ _ _ q => ⟨rfl, rfl, _, q⟩) (fun h hs => ?_)
  refine jj_aload_n (j := 0) (by decide +kernel) rfl ?_
  refine jj_sipush (n := 269) (v := 269) (by decide +kernel) (by decide) ?_
  refine sy_cv (s_GR_timeBehind (d := d - 1) (m := m) hG (by omega) (by omega) hs) (fun o1 h1 hC => jj_callV ok_GR_timeBehind ml_GR_193 im_GR_timeBehind se_GR_GR_timeBehind (by decide +kernel) (hs.rcGR hG.2) rfl (by omega) (Nat.le_of_ble_eq_true rfl) hC) rfl (fun _ _ _ q => ⟨rfl, rfl, _, q⟩) (fun h hs => ?_)
  refine jj_aload_n (j := 0) (by decide +kernel) rfl ?_
  refine jj_bipush (n := 59) (v := 59) (by decide +kernel) (by decide) ?_
  refine sy_cv (s_CU_expect (d := d - 1) hG (by omega) hs) (fun o1 h1 hC => jj_callU ok_CU_expect ml_GR_102 sm_GR_CU_expect rfl im_CU_expect se_GR_CU_expect_u (by decide +kernel) (hs.rcGR hG.2) rfl (by omega) (Nat.le_of_ble_eq_true rfl) hC) rfl (fun _ _ _ q => ⟨rfl, rfl, _, q⟩) (fun h hs => ?_)
  refine jj_aload_n (j := 0) (by decide +kernel) rfl ?_
  refine jj_bipush (n := 44) (v := 44) (by decide +kernel) (by decide) ?_
  refine jj_iconst (n := 0) (v := 0) (by decide +kernel) (by decide) ?_
  refine jj_iconst (n := 3) (v := 3) (by decide +kernel) (by decide) ?_
  refine sy_cv (s_CU_tell (d := d - 1) hG (by omega) hs) (fun o1 h1 hC => jj_callU ok_CU_tell ml_GR_64 sm_GR_CU_tell rfl im_CU_tell se_GR_CU_tell_u (by decide +kernel) (hs.rcGR hG.2) rfl (by omega) (Nat.le_of_ble_eq_true rfl) hC) rfl (fun _ _ _ q => ⟨rfl, rfl, _, q⟩) (fun h hs => ?_)
  exact jj_vret (by decide +kernel) rfl ⟨rfl, hs⟩
set_option maxRecDepth 100000 in
set_option maxHeartbeats 4000000 in
theorem b_GR_waitStatement_0 {l : Launch} {G : jj_G} {X : sy_X} {K o N d : Nat} {m : Nat} {h : jj_H} (hG : sy_G G X) (ho : o + m = 40) (hdd : 24 + 10 * m ≤ d) (hs : Sy G X K o N h) : jj_P l G y_GR_waitStatement d (sy_F 0 true G X K o N) 0 [some (.ref (X.2.2.1 12))] [] h := by
  refine jj_aload_n (j := 0) (by decide +kernel) rfl ?_
  refine jj_sipush (n := 308) (v := 308) (by decide +kernel) (by decide) ?_
  refine sy_cv (s_CU_expect (d := d - 1) hG (by omega) hs) (fun o1 h1 hC => jj_callU ok_CU_expect ml_GR_102 sm_GR_CU_expect rfl im_CU_expect se_GR_CU_expect_u (by decide +kernel) (hs.rcGR hG.2) rfl (by omega) (Nat.le_of_ble_eq_true rfl) hC) rfl (fun _ _ _ q => ⟨rfl, rfl, _, q⟩) (fun h hs => ?_)
  refine jj_aload_n (j := 0) (by decide +kernel) rfl ?_
  refine jj_sipush (n := 286) (v := 286) (by decide +kernel) (by decide) ?_
  refine sy_ci (s_CU_accept (d := d - 1) hG (by omega) hs) (fun o1 h1 hC => jj_callU ok_CU_accept ml_GR_80 sm_GR_CU_accept rfl im_CU_accept se_GR_CU_accept_u (by decide +kernel) (hs.rcGR hG.2) rfl (by omega) (Nat.le_of_ble_eq_true rfl) hC) (by decide) rfl (fun _ _ _ q => ⟨rfl, rfl, _, q⟩) (fun v1 h _ hs => ?_)
  refine jj_if_eq (off := 14) (tgt := 28) (by decide +kernel) (by decide) (fun c2 => ?_) (fun c2 => ?_)
  · skip
    refine jj_aload_n (j := 0) (by decide +kernel) rfl ?_
    refine sy_cv (s_GR_emptyList (d := d - 1) hG (by omega) hs) (fun o1 h1 hC => jj_callV ok_GR_emptyList ml_GR_115 im_GR_emptyList se_GR_GR_emptyList (by decide +kernel) (hs.rcGR hG.2) rfl (by omega) (Nat.le_of_ble_eq_true rfl) hC) rfl (fun _ _ _ q => ⟨rfl, rfl, _, q⟩) (fun h hs => ?_)
    exact jj_wk (js_s js_0) (b_GR_waitStatement_32 hG ho hdd hs)
  · skip
    refine jj_aload_n (j := 0) (by decide +kernel) rfl ?_
    refine jj_bipush (n := 11) (v := 11) (by decide +kernel) (by decide) ?_
    refine jj_bipush (n := 44) (v := 44) (by decide +kernel) (by decide) ?_
    refine sy_cv (s_GR_listOfSome (d := d - 1) (m := m) hG (by omega) (one11_all hG m) (by decide) (by omega) hs) (fun o1 h1 hC => jj_callV ok_GR_listOfSome ml_GR_112 im_GR_listOfSome se_GR_GR_listOfSome (by decide +kernel) (hs.rcGR hG.2) rfl (by omega) (Nat.le_of_ble_eq_true rfl) hC) rfl (fun _ _ _ q => ⟨rfl, rfl, _, q⟩) (fun h hs => ?_)
    refine jj_goto (off := 7) (tgt := 32) (by decide +kernel) (by decide) ?_
    exact jj_wk (js_s js_0) (b_GR_waitStatement_32 hG ho hdd hs)
theorem s_GR_waitStatement {l : Launch} {G : jj_G} {X : sy_X} {K o N d : Nat} {m : Nat} {h : jj_H} (hG : sy_G G X) (ho : o + m = 40) (hdd : 24 + 10 * m ≤ d) (hs : Sy G X K o N h) : jj_Q l G y_GR_waitStatement d [.ref (X.2.2.1 12)] h (sy_F 0 true G X K o N) :=
  jj_Q.of (by decide +kernel) (Nat.le_of_ble_eq_true rfl) (b_GR_waitStatement_0 hG ho hdd hs)
set_option maxRecDepth 100000 in
set_option maxHeartbeats 4000000 in
theorem b_GR_reportStatement_55 {l : Launch} {G : jj_G} {X : sy_X} {K o N d : Nat} {m : Nat} {h : jj_H} {x1 y1 y3 : Int32} (hG : sy_G G X) (ho : o + m = 40) (hdd : 16 + 10 * m ≤ d) (hs : Sy G X K o N h) : jj_P l G y_GR_reportStatement d (sy_F 0 true G X K o N) 55 [some (.ref (X.2.2.1 12)), some (.int x1)] [.int y3, .int 0, .int y1, .ref (X.2.2.1 12)] h := by
  refine sy_cv (s_CU_tell (d := d - 1) hG (by omega) hs) (fun o1 h1 hC => jj_callU ok_CU_tell ml_GR_64 sm_GR_CU_tell rfl im_CU_tell se_GR_CU_tell_u (by decide +kernel) (hs.rcGR hG.2) rfl (by omega) (Nat.le_of_ble_eq_true rfl) hC) rfl (fun _ _ _ q => ⟨rfl, rfl, _, q⟩) (fun h hs => ?_)
  exact jj_vret (by decide +kernel) rfl ⟨rfl, hs⟩
set_option maxRecDepth 100000 in
set_option maxHeartbeats 4000000 in
theorem b_GR_reportStatement_45 {l : Launch} {G : jj_G} {X : sy_X} {K o N d : Nat} {m : Nat} {h : jj_H} {x1 y1 : Int32} (hG : sy_G G X) (ho : o + m = 40) (hdd : 16 + 10 * m ≤ d) (hs : Sy G X K o N h) : jj_P l G y_GR_reportStatement d (sy_F 0 true G X K o N) 45 [some (.ref (X.2.2.1 12)), some (.int x1)] [.int y1, .ref (X.2.2.1 12)] h := by
  refine jj_iconst (n := 0) (v := 0) (by decide +kernel) (by decide) ?_
  refine jj_iload_n (j := 1) (by decide +kernel) rfl ?_
  refine jj_if_eq (off := 7) (tgt := 54) (by decide +kernel) (by decide) (fun c1 => ?_) (fun c1 => ?_)
  · skip
    refine jj_iconst (n := 1) (v := 1) (by decide +kernel) (by decide) ?_
    exact jj_wk (js_s (js_s js_0)) (b_GR_reportStatement_55 hG ho hdd hs)
  · skip
    refine jj_iconst (n := 2) (v := 2) (by decide +kernel) (by decide) ?_
    refine jj_goto (off := 4) (tgt := 55) (by decide +kernel) (by decide) ?_
    exact jj_wk (js_s (js_s js_0)) (b_GR_reportStatement_55 hG ho hdd hs)
set_option maxRecDepth 100000 in
set_option maxHeartbeats 4000000 in
theorem b_GR_reportStatement_16 {l : Launch} {G : jj_G} {X : sy_X} {K o N d : Nat} {m : Nat} {h : jj_H} {x1 : Int32} (hG : sy_G G X) (ho : o + m = 40) (hdd : 16 + 10 * m ≤ d) (hs : Sy G X K o N h) : jj_P l G y_GR_reportStatement d (sy_F 0 true G X K o N) 16 [some (.ref (X.2.2.1 12)), some (.int x1)] [] h := by
  refine jj_aload_n (j := 0) (by decide +kernel) rfl ?_
  refine jj_sipush (n := 296) (v := 296) (by decide +kernel) (by decide) ?_
  refine sy_cv (s_CU_expect (d := d - 1) hG (by omega) hs) (fun o1 h1 hC => jj_callU ok_CU_expect ml_GR_102 sm_GR_CU_expect rfl im_CU_expect se_GR_CU_expect_u (by decide +kernel) (hs.rcGR hG.2) rfl (by omega) (Nat.le_of_ble_eq_true rfl) hC) rfl (fun _ _ _ q => ⟨rfl, rfl, _, q⟩) (fun h hs => ?_)
  refine jj_aload_n (j := 0) (by decide +kernel) rfl ?_
  refine sy_cv (expr_all hG m _ _ _ (d - 1) (by omega) hs (by omega)) (fun o1 h1 hC => jj_callV ok_GR_expression ml_GR_149 im_GR_expression se_GR_GR_expression (by decide +kernel) (hs.rcGR hG.2) rfl (by omega) (Nat.le_of_ble_eq_true rfl) hC) rfl (fun _ _ _ q => ⟨rfl, rfl, _, q⟩) (fun h hs => ?_)
  refine jj_aload_n (j := 0) (by decide +kernel) rfl ?_
  refine jj_bipush (n := 59) (v := 59) (by decide +kernel) (by decide) ?_
  refine sy_cv (s_CU_expect (d := d - 1) hG (by omega) hs) (fun o1 h1 hC => jj_callU ok_CU_expect ml_GR_102 sm_GR_CU_expect rfl im_CU_expect se_GR_CU_expect_u (by decide +kernel) (hs.rcGR hG.2) rfl (by omega) (Nat.le_of_ble_eq_true rfl) hC) rfl (fun _ _ _ q => ⟨rfl, rfl, _, q⟩) (fun h hs => ?_)
  refine jj_aload_n (j := 0) (by decide +kernel) rfl ?_
  refine jj_iload_n (j := 1) (by decide +kernel) rfl ?_
  refine jj_if_eq (off := 8) (tgt := 43) (by decide +kernel) (by decide) (fun c1 => ?_) (fun c1 => ?_)
  · skip
    refine jj_bipush (n := 46) (v := 46) (by decide +kernel) (by decide) ?_
    exact jj_wk (js_s (js_s js_0)) (b_GR_reportStatement_45 hG ho hdd hs)
  · skip
    refine jj_bipush (n := 47) (v := 47) (by decide +kernel) (by decide) ?_
    refine jj_goto (off := 5) (tgt := 45) (by decide +kernel) (by decide) ?_
    exact jj_wk (js_s (js_s js_0)) (b_GR_reportStatement_45 hG ho hdd hs)
set_option maxRecDepth 100000 in
set_option maxHeartbeats 4000000 in
theorem b_GR_reportStatement_0 {l : Launch} {G : jj_G} {X : sy_X} {K o N d : Nat} {m : Nat} {h : jj_H} (hG : sy_G G X) (ho : o + m = 40) (hdd : 16 + 10 * m ≤ d) (hs : Sy G X K o N h) : jj_P l G y_GR_reportStatement d (sy_F 0 true G X K o N) 0 [some (.ref (X.2.2.1 12)), none] [] h := by
  refine jj_aload_n (j := 0) (by decide +kernel) rfl ?_
  refine jj_sipush (n := 259) (v := 259) (by decide +kernel) (by decide) ?_
  refine sy_ci (s_CU_accept (d := d - 1) hG (by omega) hs) (fun o1 h1 hC => jj_callU ok_CU_accept ml_GR_80 sm_GR_CU_accept rfl im_CU_accept se_GR_CU_accept_u (by decide +kernel) (hs.rcGR hG.2) rfl (by omega) (Nat.le_of_ble_eq_true rfl) hC) (by decide) rfl (fun _ _ _ q => ⟨rfl, rfl, _, q⟩) (fun v1 h _ hs => ?_)
  refine jj_istore_n (j := 1) (by decide +kernel) (by decide) rfl ?_
  refine jj_iload_n (j := 1) (by decide +kernel) rfl ?_
  refine jj_if_eq (off := 7) (tgt := 16) (by decide +kernel) (by decide) (fun c2 => ?_) (fun c2 => ?_)
  · skip
    exact jj_wk (js_s (js_s js_0)) (b_GR_reportStatement_16 hG ho hdd hs)
  · skip
    refine jj_aload_n (j := 0) (by decide +kernel) rfl ?_
    refine sy_cv (expr_all hG m _ _ _ (d - 1) (by omega) hs (by omega)) (fun o1 h1 hC => jj_callV ok_GR_expression ml_GR_149 im_GR_expression se_GR_GR_expression (by decide +kernel) (hs.rcGR hG.2) rfl (by omega) (Nat.le_of_ble_eq_true rfl) hC) rfl (fun _ _ _ q => ⟨rfl, rfl, _, q⟩) (fun h hs => ?_)
    exact jj_wk (js_s (js_s js_0)) (b_GR_reportStatement_16 hG ho hdd hs)
theorem s_GR_reportStatement {l : Launch} {G : jj_G} {X : sy_X} {K o N d : Nat} {m : Nat} {h : jj_H} (hG : sy_G G X) (ho : o + m = 40) (hdd : 16 + 10 * m ≤ d) (hs : Sy G X K o N h) : jj_Q l G y_GR_reportStatement d [.ref (X.2.2.1 12)] h (sy_F 0 true G X K o N) :=
  jj_Q.of (by decide +kernel) (Nat.le_of_ble_eq_true rfl) (b_GR_reportStatement_0 hG ho hdd hs)
set_option maxRecDepth 100000 in
set_option maxHeartbeats 4000000 in
theorem b_GR_ifStatement_85 {l : Launch} {G : jj_G} {X : sy_X} {K o N d : Nat} {m : Nat} {h : jj_H} {x1 x2 : Int32} (hG : sy_G G X) (ho : o + m = 40) (hS : 0 < m → sy_One l G X N 7 28 (m - 1)) (hdd : 26 + 10 * m ≤ d) (hm : 0 < m) (hs : Sy G X K (o + 1) N h) : jj_P l G y_GR_ifStatement d (sy_F 0 true G X K o N) 85 [some (.ref (X.2.2.1 12)), some (.int x1), some (.int x2)] [] h := by
  refine jj_aload_n (j := 0) (by decide +kernel) rfl ?_
  refine jj_sipush (n := 267) (v := 267) (by decide +kernel) (by decide) ?_
  refine sy_cv (s_CU_expect (d := d - 1) hG (by omega) hs) (fun o1 h1 hC => jj_callU ok_CU_expect ml_GR_102 sm_GR_CU_expect rfl im_CU_expect se_GR_CU_expect_u (by decide +kernel) (hs.rcGR hG.2) rfl (by omega) (Nat.le_of_ble_eq_true rfl) hC) rfl (fun _ _ _ q => ⟨rfl, rfl, _, q⟩) (fun h hs => ?_)
  refine jj_aload_n (j := 0) (by decide +kernel) rfl ?_
  refine jj_sipush (n := 272) (v := 272) (by decide +kernel) (by decide) ?_
  refine sy_cv (s_CU_expect (d := d - 1) hG (by omega) hs) (fun o1 h1 hC => jj_callU ok_CU_expect ml_GR_102 sm_GR_CU_expect rfl im_CU_expect se_GR_CU_expect_u (by decide +kernel) (hs.rcGR hG.2) rfl (by omega) (Nat.le_of_ble_eq_true rfl) hC) rfl (fun _ _ _ q => ⟨rfl, rfl, _, q⟩) (fun h hs => ?_)
  refine jj_aload_n (j := 0) (by decide +kernel) rfl ?_
  refine jj_bipush (n := 59) (v := 59) (by decide +kernel) (by decide) ?_
  refine sy_cv (s_CU_expect (d := d - 1) hG (by omega) hs) (fun o1 h1 hC => jj_callU ok_CU_expect ml_GR_102 sm_GR_CU_expect rfl im_CU_expect se_GR_CU_expect_u (by decide +kernel) (hs.rcGR hG.2) rfl (by omega) (Nat.le_of_ble_eq_true rfl) hC) rfl (fun _ _ _ q => ⟨rfl, rfl, _, q⟩) (fun h hs => ?_)
  refine jj_aload_n (j := 0) (by decide +kernel) rfl ?_
  refine sy_cv (s_CU_leave (d := d - 1) hG.2 hs) (fun o1 h1 hC => jj_callU ok_CU_leave ml_GR_205 sm_GR_CU_leave rfl im_CU_leave se_GR_CU_leave_u (by decide +kernel) (hs.rcGR hG.2) rfl (by omega) (Nat.le_of_ble_eq_true rfl) hC) rfl (fun q => by cases q) (fun h hs => ?_)
  refine jj_aload_n (j := 0) (by decide +kernel) rfl ?_
  refine jj_bipush (n := 34) (v := 34) (by decide +kernel) (by decide) ?_
  refine jj_iconst (n := 0) (v := 0) (by decide +kernel) (by decide) ?_
  refine jj_iload_n (j := 1) (by decide +kernel) rfl ?_
  refine jj_iconst (n := 1) (v := 1) (by decide +kernel) (by decide) ?_
  refine jj_iadd (by decide +kernel) ?_
  refine sy_cv (s_CU_tell (d := d - 1) hG (by omega) hs) (fun o1 h1 hC => jj_callU ok_CU_tell ml_GR_64 sm_GR_CU_tell rfl im_CU_tell se_GR_CU_tell_u (by decide +kernel) (hs.rcGR hG.2) rfl (by omega) (Nat.le_of_ble_eq_true rfl) hC) rfl (fun _ _ _ q => ⟨rfl, rfl, _, q⟩) (fun h hs => ?_)
  exact jj_vret (by decide +kernel) rfl ⟨rfl, hs⟩
set_option maxRecDepth 100000 in
set_option maxHeartbeats 4000000 in
theorem b_GR_ifStatement_62 {l : Launch} {G : jj_G} {X : sy_X} {K o N d : Nat} {m : Nat} {h : jj_H} {x1 x2 : Int32} (hG : sy_G G X) (ho : o + m = 40) (hS : 0 < m → sy_One l G X N 7 28 (m - 1)) (hdd : 26 + 10 * m ≤ d) (hm : 0 < m) (hs : Sy G X K (o + 1) N h) : jj_P l G y_GR_ifStatement d (sy_F 0 true G X K o N) 62 [some (.ref (X.2.2.1 12)), some (.int x1), some (.int x2)] [] h := by
  refine jj_aload_n (j := 0) (by decide +kernel) rfl ?_
  refine jj_sipush (n := 265) (v := 265) (by decide +kernel) (by decide) ?_
  refine sy_ci (s_CU_accept (d := d - 1) hG (by omega) hs) (fun o1 h1 hC => jj_callU ok_CU_accept ml_GR_80 sm_GR_CU_accept rfl im_CU_accept se_GR_CU_accept_u (by decide +kernel) (hs.rcGR hG.2) rfl (by omega) (Nat.le_of_ble_eq_true rfl) hC) (by decide) rfl (fun _ _ _ q => ⟨rfl, rfl, _, q⟩) (fun v1 h _ hs => ?_)
  refine jj_if_eq (off := 12) (tgt := 81) (by decide +kernel) (by decide) (fun c2 => ?_) (fun c2 => ?_)
  · skip
    refine jj_aload_n (j := 0) (by decide +kernel) rfl ?_
    refine sy_cv (s_GR_emptyList (d := d - 1) hG (by omega) hs) (fun o1 h1 hC => jj_callV ok_GR_emptyList ml_GR_115 im_GR_emptyList se_GR_GR_emptyList (by decide +kernel) (hs.rcGR hG.2) rfl (by omega) (Nat.le_of_ble_eq_true rfl) hC) rfl (fun _ _ _ q => ⟨rfl, rfl, _, q⟩) (fun h hs => ?_)
    exact jj_wk (js_s (js_s (js_s js_0))) (b_GR_ifStatement_85 hG ho hS hdd hm hs)
  · skip
    refine jj_aload_n (j := 0) (by decide +kernel) rfl ?_
    refine jj_bipush (n := 7) (v := 7) (by decide +kernel) (by decide) ?_
    refine sy_cv (s_GR_listOfAny (d := d - 1) (m := (m - 1)) hG (by omega) (hS hm) (by decide) (by omega) hs) (fun o1 h1 hC => jj_callV ok_GR_listOfAny ml_GR_159 im_GR_listOfAny se_GR_GR_listOfAny (by decide +kernel) (hs.rcGR hG.2) rfl (by omega) (Nat.le_of_ble_eq_true rfl) hC) rfl (fun _ _ _ q => ⟨rfl, rfl, _, q⟩) (fun h hs => ?_)
    refine jj_goto (off := 7) (tgt := 85) (by decide +kernel) (by decide) ?_
    exact jj_wk (js_s (js_s (js_s js_0))) (b_GR_ifStatement_85 hG ho hS hdd hm hs)
set_option maxRecDepth 100000 in
set_option maxHeartbeats 4000000 in
theorem b_GR_ifStatement_36 {l : Launch} {G : jj_G} {X : sy_X} {K o N d : Nat} {m : Nat} {h : jj_H} {x1 x2 : Int32} (hG : sy_G G X) (ho : o + m = 40) (hS : 0 < m → sy_One l G X N 7 28 (m - 1)) (hdd : 26 + 10 * m ≤ d) (hm : 0 < m) {n : Nat} (ih : ∀ (x1 : Int32) (x2 : Int32) (h : jj_H), (2147483647 - x2.toInt).toNat < n → Sy G X K (o + 1) N h → jj_P l G y_GR_ifStatement d (sy_F 0 true G X K o N) 15 [some (.ref (X.2.2.1 12)), some (.int x1), some (.int x2)] [] h) (hdec : (2147483647 - (x2 + Int32.ofInt 1).toInt).toNat < n) (hs : Sy G X K (o + 1) N h) : jj_P l G y_GR_ifStatement d (sy_F 0 true G X K o N) 36 [some (.ref (X.2.2.1 12)), some (.int x1), some (.int x2)] [] h := by
  refine jj_aload_n (j := 0) (by decide +kernel) rfl ?_
  refine sy_cv (expr_all hG (m - 1) _ _ _ (d - 1) (by omega) hs (by omega)) (fun o1 h1 hC => jj_callV ok_GR_expression ml_GR_149 im_GR_expression se_GR_GR_expression (by decide +kernel) (hs.rcGR hG.2) rfl (by omega) (Nat.le_of_ble_eq_true rfl) hC) rfl (fun _ _ _ q => ⟨rfl, rfl, _, q⟩) (fun h hs => ?_)
  refine jj_aload_n (j := 0) (by decide +kernel) rfl ?_
  refine jj_sipush (n := 301) (v := 301) (by decide +kernel) (by decide) ?_
  refine sy_cv (s_CU_expect (d := d - 1) hG (by omega) hs) (fun o1 h1 hC => jj_callU ok_CU_expect ml_GR_102 sm_GR_CU_expect rfl im_CU_expect se_GR_CU_expect_u (by decide +kernel) (hs.rcGR hG.2) rfl (by omega) (Nat.le_of_ble_eq_true rfl) hC) rfl (fun _ _ _ q => ⟨rfl, rfl, _, q⟩) (fun h hs => ?_)
  refine jj_aload_n (j := 0) (by decide +kernel) rfl ?_
  refine jj_bipush (n := 7) (v := 7) (by decide +kernel) (by decide) ?_
  refine sy_cv (s_GR_listOfAny (d := d - 1) (m := (m - 1)) hG (by omega) (hS hm) (by decide) (by omega) hs) (fun o1 h1 hC => jj_callV ok_GR_listOfAny ml_GR_159 im_GR_listOfAny se_GR_GR_listOfAny (by decide +kernel) (hs.rcGR hG.2) rfl (by omega) (Nat.le_of_ble_eq_true rfl) hC) rfl (fun _ _ _ q => ⟨rfl, rfl, _, q⟩) (fun h hs => ?_)
  refine jj_iinc (i := 1) (n := 2) (by decide +kernel) rfl rfl (by decide) rfl ?_
  refine jj_iinc (i := 2) (n := 1) (by decide +kernel) rfl rfl (by decide) rfl ?_
  refine jj_goto (off := (-44)) (tgt := 15) (by decide +kernel) (by decide) ?_
  exact jj_wk (js_s (js_s (js_s js_0))) (ih _ _ _ hdec hs)
set_option maxRecDepth 100000 in
set_option maxHeartbeats 4000000 in
theorem b_GR_ifStatement_15 {l : Launch} {G : jj_G} {X : sy_X} {K o N d : Nat} {m : Nat} (hG : sy_G G X) (ho : o + m = 40) (hS : 0 < m → sy_One l G X N 7 28 (m - 1)) (hdd : 26 + 10 * m ≤ d) (hm : 0 < m) : ∀ (n : Nat) (x1 : Int32) (x2 : Int32) (h : jj_H), (2147483647 - x2.toInt).toNat < n → Sy G X K (o + 1) N h → jj_P l G y_GR_ifStatement d (sy_F 0 true G X K o N) 15 [some (.ref (X.2.2.1 12)), some (.int x1), some (.int x2)] [] h := by
  intro n
  induction n with
  | zero => intro x1 x2 h hn; exact absurd hn (Nat.not_lt_zero _)
  | succ n ih =>
    intro x1 x2 h hn hs
    refine jj_iload_n (j := 2) (by decide +kernel) rfl ?_
    refine jj_sipush (n := 16385) (v := 16385) (by decide +kernel) (by decide) ?_
    refine jj_icmp_ge (off := 43) (tgt := 62) (by decide +kernel) (by decide) (fun c1 => ?_) (fun c1 => ?_)
    · skip
      exact jj_wk (js_s (js_s (js_s js_0))) (b_GR_ifStatement_62 hG ho hS hdd hm hs)
    · skip
      have hdec := up_lt (Int32.not_le.mp c1) hn
      refine jj_iload_n (j := 2) (by decide +kernel) rfl ?_
      refine jj_if_eq (off := 13) (tgt := 36) (by decide +kernel) (by decide) (fun c2 => ?_) (fun c2 => ?_)
      · skip
        exact jj_wk (js_s (js_s (js_s js_0))) (b_GR_ifStatement_36 hG ho hS hdd hm ih hdec hs)
      · skip
        refine jj_aload_n (j := 0) (by decide +kernel) rfl ?_
        refine jj_sipush (n := 266) (v := 266) (by decide +kernel) (by decide) ?_
        refine sy_ci (s_CU_accept (d := d - 1) hG (by omega) hs) (fun o1 h1 hC => jj_callU ok_CU_accept ml_GR_80 sm_GR_CU_accept rfl im_CU_accept se_GR_CU_accept_u (by decide +kernel) (hs.rcGR hG.2) rfl (by omega) (Nat.le_of_ble_eq_true rfl) hC) (by decide) rfl (fun _ _ _ q => ⟨rfl, rfl, _, q⟩) (fun v3 h _ hs => ?_)
        refine jj_if_eq (off := 29) (tgt := 62) (by decide +kernel) (by decide) (fun c4 => ?_) (fun c4 => ?_)
        · skip
          exact jj_wk (js_s (js_s (js_s js_0))) (b_GR_ifStatement_62 hG ho hS hdd hm hs)
        · skip
          exact jj_wk (js_s (js_s (js_s js_0))) (b_GR_ifStatement_36 hG ho hS hdd hm ih hdec hs)
set_option maxRecDepth 100000 in
set_option maxHeartbeats 4000000 in
theorem b_GR_ifStatement_0 {l : Launch} {G : jj_G} {X : sy_X} {K o N d : Nat} {m : Nat} {h : jj_H} (hG : sy_G G X) (ho : o + m = 40) (hS : 0 < m → sy_One l G X N 7 28 (m - 1)) (hdd : 26 + 10 * m ≤ d) (hs : Sy G X K o N h) : jj_P l G y_GR_ifStatement d (sy_F 0 true G X K o N) 0 [some (.ref (X.2.2.1 12)), none, none] [] h := by
  refine jj_aload_n (j := 0) (by decide +kernel) rfl ?_
  refine sy_ce (s_CU_enter (d := d - 1) (m := m) hG.2 (by omega) hs (by omega)) (fun o1 h1 hC => jj_callU ok_CU_enter ml_GR_202 sm_GR_CU_enter rfl im_CU_enter se_GR_CU_enter_u (by decide +kernel) (hs.rcGR hG.2) rfl (by omega) (Nat.le_of_ble_eq_true rfl) hC) rfl (fun _ _ q => ⟨rfl, rfl, _, q⟩) (fun h hm hs => ?_)
  refine jj_aload_n (j := 0) (by decide +kernel) rfl ?_
  refine jj_sipush (n := 272) (v := 272) (by decide +kernel) (by decide) ?_
  refine sy_cv (s_CU_expect (d := d - 1) hG (by omega) hs) (fun o1 h1 hC => jj_callU ok_CU_expect ml_GR_102 sm_GR_CU_expect rfl im_CU_expect se_GR_CU_expect_u (by decide +kernel) (hs.rcGR hG.2) rfl (by omega) (Nat.le_of_ble_eq_true rfl) hC) rfl (fun _ _ _ q => ⟨rfl, rfl, _, q⟩) (fun h hs => ?_)
  refine jj_iconst (n := 0) (v := 0) (by decide +kernel) (by decide) ?_
  refine jj_istore_n (j := 1) (by decide +kernel) (by decide) rfl ?_
  refine jj_iconst (n := 0) (v := 0) (by decide +kernel) (by decide) ?_
  refine jj_istore_n (j := 2) (by decide +kernel) (by decide) rfl ?_
  exact jj_wk (js_s (js_s (js_s js_0))) (b_GR_ifStatement_15 hG ho hS hdd hm _ _ _ _ (Nat.lt_succ_self _) hs)
theorem s_GR_ifStatement {l : Launch} {G : jj_G} {X : sy_X} {K o N d : Nat} {m : Nat} {h : jj_H} (hG : sy_G G X) (ho : o + m = 40) (hS : 0 < m → sy_One l G X N 7 28 (m - 1)) (hdd : 26 + 10 * m ≤ d) (hs : Sy G X K o N h) : jj_Q l G y_GR_ifStatement d [.ref (X.2.2.1 12)] h (sy_F 0 true G X K o N) :=
  jj_Q.of (by decide +kernel) (Nat.le_of_ble_eq_true rfl) (b_GR_ifStatement_0 hG ho hS hdd hs)
set_option maxRecDepth 100000 in
set_option maxHeartbeats 4000000 in
theorem b_GR_caseStatement_96 {l : Launch} {G : jj_G} {X : sy_X} {K o N d : Nat} {m : Nat} {h : jj_H} {x1 x2 : Int32} (hG : sy_G G X) (ho : o + m = 40) (hS : 0 < m → sy_One l G X N 7 28 (m - 1)) (hdd : 26 + 10 * m ≤ d) (hm : 0 < m) (hs : Sy G X K (o + 1) N h) : jj_P l G y_GR_caseStatement d (sy_F 0 true G X K o N) 96 [some (.ref (X.2.2.1 12)), some (.int x1), some (.int x2)] [] h := by
  refine jj_aload_n (j := 0) (by decide +kernel) rfl ?_
  refine jj_sipush (n := 267) (v := 267) (by decide +kernel) (by decide) ?_
  refine sy_cv (s_CU_expect (d := d - 1) hG (by omega) hs) (fun o1 h1 hC => jj_callU ok_CU_expect ml_GR_102 sm_GR_CU_expect rfl im_CU_expect se_GR_CU_expect_u (by decide +kernel) (hs.rcGR hG.2) rfl (by omega) (Nat.le_of_ble_eq_true rfl) hC) rfl (fun _ _ _ q => ⟨rfl, rfl, _, q⟩) (fun h hs => ?_)
  refine jj_aload_n (j := 0) (by decide +kernel) rfl ?_
  refine jj_sipush (n := 262) (v := 262) (by decide +kernel) (by decide) ?_
  refine sy_cv (s_CU_expect (d := d - 1) hG (by omega) hs) (fun o1 h1 hC => jj_callU ok_CU_expect ml_GR_102 sm_GR_CU_expect rfl im_CU_expect se_GR_CU_expect_u (by decide +kernel) (hs.rcGR hG.2) rfl (by omega) (Nat.le_of_ble_eq_true rfl) hC) rfl (fun _ _ _ q => ⟨rfl, rfl, _, q⟩) (fun h hs => ?_)
  refine jj_aload_n (j := 0) (by decide +kernel) rfl ?_
  refine jj_bipush (n := 59) (v := 59) (by decide +kernel) (by decide) ?_
  refine sy_cv (s_CU_expect (d := d - 1) hG (by omega) hs) (fun o1 h1 hC => jj_callU ok_CU_expect ml_GR_102 sm_GR_CU_expect rfl im_CU_expect se_GR_CU_expect_u (by decide +kernel) (hs.rcGR hG.2) rfl (by omega) (Nat.le_of_ble_eq_true rfl) hC) rfl (fun _ _ _ q => ⟨rfl, rfl, _, q⟩) (fun h hs => ?_)
  refine jj_aload_n (j := 0) (by decide +kernel) rfl ?_
  refine sy_cv (s_CU_leave (d := d - 1) hG.2 hs) (fun o1 h1 hC => jj_callU ok_CU_leave ml_GR_205 sm_GR_CU_leave rfl im_CU_leave se_GR_CU_leave_u (by decide +kernel) (hs.rcGR hG.2) rfl (by omega) (Nat.le_of_ble_eq_true rfl) hC) rfl (fun q => by cases q) (fun h hs => ?_)
  refine jj_aload_n (j := 0) (by decide +kernel) rfl ?_
  refine jj_bipush (n := 35) (v := 35) (by decide +kernel) (by decide) ?_
  refine jj_iconst (n := 0) (v := 0) (by decide +kernel) (by decide) ?_
  refine jj_iload_n (j := 1) (by decide +kernel) rfl ?_
  refine sy_cv (s_CU_tell (d := d - 1) hG (by omega) hs) (fun o1 h1 hC => jj_callU ok_CU_tell ml_GR_64 sm_GR_CU_tell rfl im_CU_tell se_GR_CU_tell_u (by decide +kernel) (hs.rcGR hG.2) rfl (by omega) (Nat.le_of_ble_eq_true rfl) hC) rfl (fun _ _ _ q => ⟨rfl, rfl, _, q⟩) (fun h hs => ?_)
  exact jj_vret (by decide +kernel) rfl ⟨rfl, hs⟩
set_option maxRecDepth 100000 in
set_option maxHeartbeats 4000000 in
theorem b_GR_caseStatement_41 {l : Launch} {G : jj_G} {X : sy_X} {K o N d : Nat} {m : Nat} (hG : sy_G G X) (ho : o + m = 40) (hS : 0 < m → sy_One l G X N 7 28 (m - 1)) (hdd : 26 + 10 * m ≤ d) (hm : 0 < m) : ∀ (n : Nat) (x1 : Int32) (x2 : Int32) (h : jj_H), (2147483647 - x2.toInt).toNat < n → Sy G X K (o + 1) N h → jj_P l G y_GR_caseStatement d (sy_F 0 true G X K o N) 41 [some (.ref (X.2.2.1 12)), some (.int x1), some (.int x2)] [] h := by
  intro n
  induction n with
  | zero => intro x1 x2 h hn; exact absurd hn (Nat.not_lt_zero _)
  | succ n ih =>
    intro x1 x2 h hn hs
    refine jj_iload_n (j := 2) (by decide +kernel) rfl ?_
    refine jj_sipush (n := 16385) (v := 16385) (by decide +kernel) (by decide) ?_
    refine jj_icmp_ge (off := 51) (tgt := 96) (by decide +kernel) (by decide) (fun c1 => ?_) (fun c1 => ?_)
    · skip
      exact jj_wk (js_s (js_s (js_s js_0))) (b_GR_caseStatement_96 hG ho hS hdd hm hs)
    · skip
      have hdec := up_lt (Int32.not_le.mp c1) hn
      refine jj_aload_n (j := 0) (by decide +kernel) rfl ?_
      refine jj_sipush (n := 309) (v := 309) (by decide +kernel) (by decide) ?_
      refine sy_ci (s_CU_accept (d := d - 1) hG (by omega) hs) (fun o1 h1 hC => jj_callU ok_CU_accept ml_GR_80 sm_GR_CU_accept rfl im_CU_accept se_GR_CU_accept_u (by decide +kernel) (hs.rcGR hG.2) rfl (by omega) (Nat.le_of_ble_eq_true rfl) hC) (by decide) rfl (fun _ _ _ q => ⟨rfl, rfl, _, q⟩) (fun v2 h _ hs => ?_)
      refine jj_if_eq (off := 41) (tgt := 96) (by decide +kernel) (by decide) (fun c3 => ?_) (fun c3 => ?_)
      · skip
        exact jj_wk (js_s (js_s (js_s js_0))) (b_GR_caseStatement_96 hG ho hS hdd hm hs)
      · skip
        refine jj_aload_n (j := 0) (by decide +kernel) rfl ?_
        refine jj_bipush (n := 10) (v := 10) (by decide +kernel) (by decide) ?_
        refine jj_bipush (n := 124) (v := 124) (by decide +kernel) (by decide) ?_
        refine sy_cv (s_GR_listOfSome (d := d - 1) (m := (m - 1)) hG (by omega) (one10_all hG (m - 1)) (by decide) (by omega) hs) (fun o1 h1 hC => jj_callV ok_GR_listOfSome ml_GR_112 im_GR_listOfSome se_GR_GR_listOfSome (by decide +kernel) (hs.rcGR hG.2) rfl (by omega) (Nat.le_of_ble_eq_true rfl) hC) rfl (fun _ _ _ q => ⟨rfl, rfl, _, q⟩) (fun h hs => ?_)
        refine jj_aload_n (j := 0) (by decide +kernel) rfl ?_
        refine jj_sipush (n := 130) (v := 130) (by decide +kernel) (by decide) ?_
        refine sy_cv (s_CU_expect (d := d - 1) hG (by omega) hs) (fun o1 h1 hC => jj_callU ok_CU_expect ml_GR_102 sm_GR_CU_expect rfl im_CU_expect se_GR_CU_expect_u (by decide +kernel) (hs.rcGR hG.2) rfl (by omega) (Nat.le_of_ble_eq_true rfl) hC) rfl (fun _ _ _ q => ⟨rfl, rfl, _, q⟩) (fun h hs => ?_)
        refine jj_aload_n (j := 0) (by decide +kernel) rfl ?_
        refine jj_bipush (n := 7) (v := 7) (by decide +kernel) (by decide) ?_
        refine sy_cv (s_GR_listOfAny (d := d - 1) (m := (m - 1)) hG (by omega) (hS hm) (by decide) (by omega) hs) (fun o1 h1 hC => jj_callV ok_GR_listOfAny ml_GR_159 im_GR_listOfAny se_GR_GR_listOfAny (by decide +kernel) (hs.rcGR hG.2) rfl (by omega) (Nat.le_of_ble_eq_true rfl) hC) rfl (fun _ _ _ q => ⟨rfl, rfl, _, q⟩) (fun h hs => ?_)
        refine jj_aload_n (j := 0) (by decide +kernel) rfl ?_
        refine jj_bipush (n := 36) (v := 36) (by decide +kernel) (by decide) ?_
        refine jj_iconst (n := 0) (v := 0) (by decide +kernel) (by decide) ?_
        refine jj_iconst (n := 2) (v := 2) (by decide +kernel) (by decide) ?_
        refine sy_cv (s_CU_tell (d := d - 1) hG (by omega) hs) (fun o1 h1 hC => jj_callU ok_CU_tell ml_GR_64 sm_GR_CU_tell rfl im_CU_tell se_GR_CU_tell_u (by decide +kernel) (hs.rcGR hG.2) rfl (by omega) (Nat.le_of_ble_eq_true rfl) hC) rfl (fun _ _ _ q => ⟨rfl, rfl, _, q⟩) (fun h hs => ?_)
        refine jj_iinc (i := 1) (n := 1) (by decide +kernel) rfl rfl (by decide) rfl ?_
        refine jj_iinc (i := 2) (n := 1) (by decide +kernel) rfl rfl (by decide) rfl ?_
        refine jj_goto (off := (-52)) (tgt := 41) (by decide +kernel) (by decide) ?_
        exact jj_wk (js_s (js_s (js_s js_0))) (ih _ _ _ hdec hs)
set_option maxRecDepth 100000 in
set_option maxHeartbeats 4000000 in
theorem b_GR_caseStatement_0 {l : Launch} {G : jj_G} {X : sy_X} {K o N d : Nat} {m : Nat} {h : jj_H} (hG : sy_G G X) (ho : o + m = 40) (hS : 0 < m → sy_One l G X N 7 28 (m - 1)) (hdd : 26 + 10 * m ≤ d) (hs : Sy G X K o N h) : jj_P l G y_GR_caseStatement d (sy_F 0 true G X K o N) 0 [some (.ref (X.2.2.1 12)), none, none] [] h := by
  refine jj_aload_n (j := 0) (by decide +kernel) rfl ?_
  refine sy_ce (s_CU_enter (d := d - 1) (m := m) hG.2 (by omega) hs (by omega)) (fun o1 h1 hC => jj_callU ok_CU_enter ml_GR_202 sm_GR_CU_enter rfl im_CU_enter se_GR_CU_enter_u (by decide +kernel) (hs.rcGR hG.2) rfl (by omega) (Nat.le_of_ble_eq_true rfl) hC) rfl (fun _ _ q => ⟨rfl, rfl, _, q⟩) (fun h hm hs => ?_)
  refine jj_aload_n (j := 0) (by decide +kernel) rfl ?_
  refine jj_sipush (n := 262) (v := 262) (by decide +kernel) (by decide) ?_
  refine sy_cv (s_CU_expect (d := d - 1) hG (by omega) hs) (fun o1 h1 hC => jj_callU ok_CU_expect ml_GR_102 sm_GR_CU_expect rfl im_CU_expect se_GR_CU_expect_u (by decide +kernel) (hs.rcGR hG.2) rfl (by omega) (Nat.le_of_ble_eq_true rfl) hC) rfl (fun _ _ _ q => ⟨rfl, rfl, _, q⟩) (fun h hs => ?_)
  refine jj_aload_n (j := 0) (by decide +kernel) rfl ?_
  refine sy_cv (expr_all hG (m - 1) _ _ _ (d - 1) (by omega) hs (by omega)) (fun o1 h1 hC => jj_callV ok_GR_expression ml_GR_149 im_GR_expression se_GR_GR_expression (by decide +kernel) (hs.rcGR hG.2) rfl (by omega) (Nat.le_of_ble_eq_true rfl) hC) rfl (fun _ _ _ q => ⟨rfl, rfl, _, q⟩) (fun h hs => ?_)
  refine jj_aload_n (j := 0) (by decide +kernel) rfl ?_
  refine jj_sipush (n := 276) (v := 276) (by decide +kernel) (by decide) ?_
  refine sy_cv (s_CU_expect (d := d - 1) hG (by omega) hs) (fun o1 h1 hC => jj_callU ok_CU_expect ml_GR_102 sm_GR_CU_expect rfl im_CU_expect se_GR_CU_expect_u (by decide +kernel) (hs.rcGR hG.2) rfl (by omega) (Nat.le_of_ble_eq_true rfl) hC) rfl (fun _ _ _ q => ⟨rfl, rfl, _, q⟩) (fun h hs => ?_)
  refine jj_aload_n (j := 0) (by decide +kernel) rfl ?_
  obtain ⟨ki, va, pl, fa, fp, ne, hg⟩ := hs.gr hG.2
  refine jj_getfield 3 ck_GR fl_GR_68 (by decide) (by decide +kernel) hg rfl ?_
  refine jj_sipush (n := 309) (v := 309) (by decide +kernel) (by decide) ?_
  refine jj_icmp_eq (off := 8) (tgt := 37) (by decide +kernel) (by decide) (fun c1 => ?_) (fun c1 => ?_)
  · skip
    refine jj_iconst (n := 1) (v := 1) (by decide +kernel) (by decide) ?_
    refine jj_istore_n (j := 1) (by decide +kernel) (by decide) rfl ?_
    refine jj_iconst (n := 0) (v := 0) (by decide +kernel) (by decide) ?_
    refine jj_istore_n (j := 2) (by decide +kernel) (by decide) rfl ?_
    exact jj_wk (js_s (js_s (js_s js_0))) (b_GR_caseStatement_41 hG ho hS hdd hm _ _ _ _ (Nat.lt_succ_self _) hs)
  · skip
    refine jj_aload_n (j := 0) (by decide +kernel) rfl ?_
    refine jj_iconst (n := 3) (v := 3) (by decide +kernel) (by decide) ?_
    exact sy_cx (s_CU_raise (d := d - 1) hG.2 hs (by omega)) (fun o1 h1 hC => jj_callU ok_CU_raise ml_GR_93 sm_GR_CU_raise rfl im_CU_raise se_GR_CU_raise_u (by decide +kernel) (hs.rcGR hG.2) rfl (by omega) (Nat.le_of_ble_eq_true rfl) hC) rfl (fun _ _ q => ⟨rfl, rfl, _, q⟩)
theorem s_GR_caseStatement {l : Launch} {G : jj_G} {X : sy_X} {K o N d : Nat} {m : Nat} {h : jj_H} (hG : sy_G G X) (ho : o + m = 40) (hS : 0 < m → sy_One l G X N 7 28 (m - 1)) (hdd : 26 + 10 * m ≤ d) (hs : Sy G X K o N h) : jj_Q l G y_GR_caseStatement d [.ref (X.2.2.1 12)] h (sy_F 0 true G X K o N) :=
  jj_Q.of (by decide +kernel) (Nat.le_of_ble_eq_true rfl) (b_GR_caseStatement_0 hG ho hS hdd hs)
set_option maxRecDepth 100000 in
set_option maxHeartbeats 4000000 in
theorem b_GR_loopStatement_80 {l : Launch} {G : jj_G} {X : sy_X} {K o N d : Nat} {m : Nat} {h : jj_H} {x1 x2 x3 : Int32} (hG : sy_G G X) (ho : o + m = 40) (hS : 0 < m → sy_One l G X N 7 28 (m - 1)) (hdd : 26 + 10 * m ≤ d) (hm : 0 < m) (hs : Sy G X K (o + 1) N h) : jj_P l G y_GR_loopStatement d (sy_F 0 true G X K o N) 80 [some (.ref (X.2.2.1 12)), some (.int x1), some (.int x2), some (.int x3)] [] h := by
  refine jj_aload_n (j := 0) (by decide +kernel) rfl ?_
  refine jj_sipush (n := 277) (v := 277) (by decide +kernel) (by decide) ?_
  refine sy_cv (s_CU_expect (d := d - 1) hG (by omega) hs) (fun o1 h1 hC => jj_callU ok_CU_expect ml_GR_102 sm_GR_CU_expect rfl im_CU_expect se_GR_CU_expect_u (by decide +kernel) (hs.rcGR hG.2) rfl (by omega) (Nat.le_of_ble_eq_true rfl) hC) rfl (fun _ _ _ q => ⟨rfl, rfl, _, q⟩) (fun h hs => ?_)
  refine jj_aload_n (j := 0) (by decide +kernel) rfl ?_
  refine jj_bipush (n := 7) (v := 7) (by decide +kernel) (by decide) ?_
  refine sy_cv (s_GR_listOfAny (d := d - 1) (m := (m - 1)) hG (by omega) (hS hm) (by decide) (by omega) hs) (fun o1 h1 hC => jj_callV ok_GR_listOfAny ml_GR_159 im_GR_listOfAny se_GR_GR_listOfAny (by decide +kernel) (hs.rcGR hG.2) rfl (by omega) (Nat.le_of_ble_eq_true rfl) hC) rfl (fun _ _ _ q => ⟨rfl, rfl, _, q⟩) (fun h hs => ?_)
  refine jj_aload_n (j := 0) (by decide +kernel) rfl ?_
  refine jj_sipush (n := 267) (v := 267) (by decide +kernel) (by decide) ?_
  refine sy_cv (s_CU_expect (d := d - 1) hG (by omega) hs) (fun o1 h1 hC => jj_callU ok_CU_expect ml_GR_102 sm_GR_CU_expect rfl im_CU_expect se_GR_CU_expect_u (by decide +kernel) (hs.rcGR hG.2) rfl (by omega) (Nat.le_of_ble_eq_true rfl) hC) rfl (fun _ _ _ q => ⟨rfl, rfl, _, q⟩) (fun h hs => ?_)
  refine jj_aload_n (j := 0) (by decide +kernel) rfl ?_
  refine jj_sipush (n := 277) (v := 277) (by decide +kernel) (by decide) ?_
  refine sy_cv (s_CU_expect (d := d - 1) hG (by omega) hs) (fun o1 h1 hC => jj_callU ok_CU_expect ml_GR_102 sm_GR_CU_expect rfl im_CU_expect se_GR_CU_expect_u (by decide +kernel) (hs.rcGR hG.2) rfl (by omega) (Nat.le_of_ble_eq_true rfl) hC) rfl (fun _ _ _ q => ⟨rfl, rfl, _, q⟩) (fun h hs => ?_)
  refine jj_aload_n (j := 0) (by decide +kernel) rfl ?_
  refine jj_bipush (n := 59) (v := 59) (by decide +kernel) (by decide) ?_
  refine sy_cv (s_CU_expect (d := d - 1) hG (by omega) hs) (fun o1 h1 hC => jj_callU ok_CU_expect ml_GR_102 sm_GR_CU_expect rfl im_CU_expect se_GR_CU_expect_u (by decide +kernel) (hs.rcGR hG.2) rfl (by omega) (Nat.le_of_ble_eq_true rfl) hC) rfl (fun _ _ _ q => ⟨rfl, rfl, _, q⟩) (fun h hs => ?_)
  refine jj_aload_n (j := 0) (by decide +kernel) rfl ?_
  refine sy_cv (s_CU_leave (d := d - 1) hG.2 hs) (fun o1 h1 hC => jj_callU ok_CU_leave ml_GR_205 sm_GR_CU_leave rfl im_CU_leave se_GR_CU_leave_u (by decide +kernel) (hs.rcGR hG.2) rfl (by omega) (Nat.le_of_ble_eq_true rfl) hC) rfl (fun q => by cases q) (fun h hs => ?_)
  refine jj_aload_n (j := 0) (by decide +kernel) rfl ?_
  refine jj_iload_n (j := 1) (by decide +kernel) rfl ?_
  refine jj_iload_n (j := 2) (by decide +kernel) rfl ?_
  refine jj_iload_n (j := 3) (by decide +kernel) rfl ?_
  refine sy_cv (s_CU_tell (d := d - 1) hG (by omega) hs) (fun o1 h1 hC => jj_callU ok_CU_tell ml_GR_64 sm_GR_CU_tell rfl im_CU_tell se_GR_CU_tell_u (by decide +kernel) (hs.rcGR hG.2) rfl (by omega) (Nat.le_of_ble_eq_true rfl) hC) rfl (fun _ _ _ q => ⟨rfl, rfl, _, q⟩) (fun h hs => ?_)
  exact jj_vret (by decide +kernel) rfl ⟨rfl, hs⟩
set_option maxRecDepth 100000 in
set_option maxHeartbeats 4000000 in
theorem b_GR_loopStatement_51 {l : Launch} {G : jj_G} {X : sy_X} {K o N d : Nat} {m : Nat} {h : jj_H} {x2 y0 : Int32} (hG : sy_G G X) (ho : o + m = 40) (hS : 0 < m → sy_One l G X N 7 28 (m - 1)) (hdd : 26 + 10 * m ≤ d) (hm : 0 < m) (hs : Sy G X K (o + 1) N h) : jj_P l G y_GR_loopStatement d (sy_F 0 true G X K o N) 51 [some (.ref (X.2.2.1 12)), some (.int 41), some (.int x2), some (.int 1)] [.int y0] h := by
  refine jj_istore_n (j := 1) (by decide +kernel) (by decide) rfl ?_
  refine jj_aload_n (j := 0) (by decide +kernel) rfl ?_
  refine sy_cv (expr_all hG (m - 1) _ _ _ (d - 1) (by omega) hs (by omega)) (fun o1 h1 hC => jj_callV ok_GR_expression ml_GR_149 im_GR_expression se_GR_GR_expression (by decide +kernel) (hs.rcGR hG.2) rfl (by omega) (Nat.le_of_ble_eq_true rfl) hC) rfl (fun _ _ _ q => ⟨rfl, rfl, _, q⟩) (fun h hs => ?_)
  refine jj_iconst (n := 3) (v := 3) (by decide +kernel) (by decide) ?_
  refine jj_istore_n (j := 3) (by decide +kernel) (by decide) rfl ?_
  refine jj_goto (off := 22) (tgt := 80) (by decide +kernel) (by decide) ?_
  exact jj_wk (js_s (js_s (js_s (js_s js_0)))) (b_GR_loopStatement_80 hG ho hS hdd hm hs)
set_option maxRecDepth 100000 in
set_option maxHeartbeats 4000000 in
theorem b_GR_loopStatement_0 {l : Launch} {G : jj_G} {X : sy_X} {K o N d : Nat} {m : Nat} {h : jj_H} (hG : sy_G G X) (ho : o + m = 40) (hS : 0 < m → sy_One l G X N 7 28 (m - 1)) (hdd : 26 + 10 * m ≤ d) (hs : Sy G X K o N h) : jj_P l G y_GR_loopStatement d (sy_F 0 true G X K o N) 0 [some (.ref (X.2.2.1 12)), none, none, none] [] h := by
  refine jj_aload_n (j := 0) (by decide +kernel) rfl ?_
  refine sy_ce (s_CU_enter (d := d - 1) (m := m) hG.2 (by omega) hs (by omega)) (fun o1 h1 hC => jj_callU ok_CU_enter ml_GR_202 sm_GR_CU_enter rfl im_CU_enter se_GR_CU_enter_u (by decide +kernel) (hs.rcGR hG.2) rfl (by omega) (Nat.le_of_ble_eq_true rfl) hC) rfl (fun _ _ q => ⟨rfl, rfl, _, q⟩) (fun h hm hs => ?_)
  refine jj_bipush (n := 41) (v := 41) (by decide +kernel) (by decide) ?_
  refine jj_istore_n (j := 1) (by decide +kernel) (by decide) rfl ?_
  refine jj_iconst (n := 0) (v := 0) (by decide +kernel) (by decide) ?_
  refine jj_istore_n (j := 2) (by decide +kernel) (by decide) rfl ?_
  refine jj_iconst (n := 1) (v := 1) (by decide +kernel) (by decide) ?_
  refine jj_istore_n (j := 3) (by decide +kernel) (by decide) rfl ?_
  refine jj_aload_n (j := 0) (by decide +kernel) rfl ?_
  refine jj_sipush (n := 269) (v := 269) (by decide +kernel) (by decide) ?_
  refine sy_ci (s_CU_accept (d := d - 1) hG (by omega) hs) (fun o1 h1 hC => jj_callU ok_CU_accept ml_GR_80 sm_GR_CU_accept rfl im_CU_accept se_GR_CU_accept_u (by decide +kernel) (hs.rcGR hG.2) rfl (by omega) (Nat.le_of_ble_eq_true rfl) hC) (by decide) rfl (fun _ _ _ q => ⟨rfl, rfl, _, q⟩) (fun v1 h _ hs => ?_)
  refine jj_if_eq (off := 43) (tgt := 61) (by decide +kernel) (by decide) (fun c2 => ?_) (fun c2 => ?_)
  · skip
    refine jj_aload_n (j := 0) (by decide +kernel) rfl ?_
    refine jj_sipush (n := 310) (v := 310) (by decide +kernel) (by decide) ?_
    refine sy_ci (s_CU_accept (d := d - 1) hG (by omega) hs) (fun o1 h1 hC => jj_callU ok_CU_accept ml_GR_80 sm_GR_CU_accept rfl im_CU_accept se_GR_CU_accept_u (by decide +kernel) (hs.rcGR hG.2) rfl (by omega) (Nat.le_of_ble_eq_true rfl) hC) (by decide) rfl (fun _ _ _ q => ⟨rfl, rfl, _, q⟩) (fun v3 h _ hs => ?_)
    refine jj_if_eq (off := 12) (tgt := 80) (by decide +kernel) (by decide) (fun c4 => ?_) (fun c4 => ?_)
    · skip
      exact jj_wk (js_s (js_s (js_s (js_s js_0)))) (b_GR_loopStatement_80 hG ho hS hdd hm hs)
    · skip
      refine jj_aload_n (j := 0) (by decide +kernel) rfl ?_
      refine sy_cv (expr_all hG (m - 1) _ _ _ (d - 1) (by omega) hs (by omega)) (fun o1 h1 hC => jj_callV ok_GR_expression ml_GR_149 im_GR_expression se_GR_GR_expression (by decide +kernel) (hs.rcGR hG.2) rfl (by omega) (Nat.le_of_ble_eq_true rfl) hC) rfl (fun _ _ _ q => ⟨rfl, rfl, _, q⟩) (fun h hs => ?_)
      refine jj_bipush (n := 40) (v := 40) (by decide +kernel) (by decide) ?_
      refine jj_istore_n (j := 1) (by decide +kernel) (by decide) rfl ?_
      refine jj_iconst (n := 2) (v := 2) (by decide +kernel) (by decide) ?_
      refine jj_istore_n (j := 3) (by decide +kernel) (by decide) rfl ?_
      exact jj_wk (js_s (js_s (js_s (js_s js_0)))) (b_GR_loopStatement_80 hG ho hS hdd hm hs)
  · skip
    refine jj_aload_n (j := 0) (by decide +kernel) rfl ?_
    refine sy_ci (s_CU_takeName (d := d - 1) hG (by omega) hs) (fun o1 h1 hC => jj_callU ok_CU_takeName ml_GR_61 sm_GR_CU_takeName rfl im_CU_takeName se_GR_CU_takeName_u (by decide +kernel) (hs.rcGR hG.2) rfl (by omega) (Nat.le_of_ble_eq_true rfl) hC) (by decide) rfl (fun _ _ _ q => ⟨rfl, rfl, _, q⟩) (fun v5 h _ hs => ?_)
    refine jj_istore_n (j := 2) (by decide +kernel) (by decide) rfl ?_
    refine jj_aload_n (j := 0) (by decide +kernel) rfl ?_
    refine jj_sipush (n := 273) (v := 273) (by decide +kernel) (by decide) ?_
    refine sy_cv (s_CU_expect (d := d - 1) hG (by omega) hs) (fun o1 h1 hC => jj_callU ok_CU_expect ml_GR_102 sm_GR_CU_expect rfl im_CU_expect se_GR_CU_expect_u (by decide +kernel) (hs.rcGR hG.2) rfl (by omega) (Nat.le_of_ble_eq_true rfl) hC) rfl (fun _ _ _ q => ⟨rfl, rfl, _, q⟩) (fun h hs => ?_)
    refine jj_aload_n (j := 0) (by decide +kernel) rfl ?_
    refine sy_cv (expr_all hG (m - 1) _ _ _ (d - 1) (by omega) hs (by omega)) (fun o1 h1 hC => jj_callV ok_GR_expression ml_GR_149 im_GR_expression se_GR_GR_expression (by decide +kernel) (hs.rcGR hG.2) rfl (by omega) (Nat.le_of_ble_eq_true rfl) hC) rfl (fun _ _ _ q => ⟨rfl, rfl, _, q⟩) (fun h hs => ?_)
    refine jj_aload_n (j := 0) (by decide +kernel) rfl ?_
    refine sy_ci (s_GR_takeDirection (d := d - 1) hG (by omega) hs) (fun o1 h1 hC => jj_callV ok_GR_takeDirection ml_GR_155 im_GR_takeDirection se_GR_GR_takeDirection (by decide +kernel) (hs.rcGR hG.2) rfl (by omega) (Nat.le_of_ble_eq_true rfl) hC) (by decide) rfl (fun _ _ _ q => ⟨rfl, rfl, _, q⟩) (fun v6 h _ hs => ?_)
    refine jj_if_eq (off := 8) (tgt := 49) (by decide +kernel) (by decide) (fun c7 => ?_) (fun c7 => ?_)
    · skip
      refine jj_bipush (n := 38) (v := 38) (by decide +kernel) (by decide) ?_
      exact jj_wk (js_s (js_s (js_s (js_s js_0)))) (b_GR_loopStatement_51 hG ho hS hdd hm hs)
    · skip
      refine jj_bipush (n := 39) (v := 39) (by decide +kernel) (by decide) ?_
      refine jj_goto (off := 5) (tgt := 51) (by decide +kernel) (by decide) ?_
      exact jj_wk (js_s (js_s (js_s (js_s js_0)))) (b_GR_loopStatement_51 hG ho hS hdd hm hs)
theorem s_GR_loopStatement {l : Launch} {G : jj_G} {X : sy_X} {K o N d : Nat} {m : Nat} {h : jj_H} (hG : sy_G G X) (ho : o + m = 40) (hS : 0 < m → sy_One l G X N 7 28 (m - 1)) (hdd : 26 + 10 * m ≤ d) (hs : Sy G X K o N h) : jj_Q l G y_GR_loopStatement d [.ref (X.2.2.1 12)] h (sy_F 0 true G X K o N) :=
  jj_Q.of (by decide +kernel) (Nat.le_of_ble_eq_true rfl) (b_GR_loopStatement_0 hG ho hS hdd hs)
set_option maxRecDepth 100000 in
set_option maxHeartbeats 4000000 in
theorem b_GR_statement_0 {l : Launch} {G : jj_G} {X : sy_X} {K o N d : Nat} {m : Nat} {h : jj_H} (hG : sy_G G X) (ho : o + m = 40) (hS : 0 < m → sy_One l G X N 7 28 (m - 1)) (hdd : 27 + 10 * m ≤ d) (hs : Sy G X K o N h) : jj_P l G y_GR_statement d (sy_F 0 true G X K o N) 0 [some (.ref (X.2.2.1 12))] [] h := by
  refine jj_aload_n (j := 0) (by decide +kernel) rfl ?_
  obtain ⟨ki, va, pl, fa, fp, ne, hg⟩ := hs.gr hG.2
  refine jj_getfield 3 ck_GR fl_GR_68 (by decide) (by decide +kernel) hg rfl ?_
  refine jj_lookupAny (dflt := 174) (ps := #[(259, 167), (262, 107), (268, 121), (269, 114), (272, 100), (277, 114), (281, 130), (284, 146), (296, 167), (308, 139), (310, 114)]) (len := 100) (ts := [104, 111, 118, 125, 134, 143, 150, 171, 178]) (by decide +kernel) (by decide) (by decide +kernel) (jt_c ?_ (jt_c ?_ (jt_c ?_ (jt_c ?_ (jt_c ?_ (jt_c ?_ (jt_c ?_ (jt_c ?_ (jt_c ?_ jt_0)))))))))
  · skip
    refine jj_aload_n (j := 0) (by decide +kernel) rfl ?_
    refine sy_cv (s_GR_ifStatement (d := d - 1) (m := m) hG (by omega) hS (by omega) hs) (fun o1 h1 hC => jj_callV ok_GR_ifStatement ml_GR_208 im_GR_ifStatement se_GR_GR_ifStatement (by decide +kernel) (hs.rcGR hG.2) rfl (by omega) (Nat.le_of_ble_eq_true rfl) hC) rfl (fun _ _ _ q => ⟨rfl, rfl, _, q⟩) (fun h hs => ?_)
    refine jj_goto (off := 74) (tgt := 182) (by decide +kernel) (by decide) ?_
    exact jj_vret (by decide +kernel) rfl ⟨rfl, hs⟩
  · skip
    refine jj_aload_n (j := 0) (by decide +kernel) rfl ?_
    refine sy_cv (s_GR_caseStatement (d := d - 1) (m := m) hG (by omega) hS (by omega) hs) (fun o1 h1 hC => jj_callV ok_GR_caseStatement ml_GR_211 im_GR_caseStatement se_GR_GR_caseStatement (by decide +kernel) (hs.rcGR hG.2) rfl (by omega) (Nat.le_of_ble_eq_true rfl) hC) rfl (fun _ _ _ q => ⟨rfl, rfl, _, q⟩) (fun h hs => ?_)
    refine jj_goto (off := 67) (tgt := 182) (by decide +kernel) (by decide) ?_
    exact jj_vret (by decide +kernel) rfl ⟨rfl, hs⟩
  · skip
    refine jj_aload_n (j := 0) (by decide +kernel) rfl ?_
    refine sy_cv (s_GR_loopStatement (d := d - 1) (m := m) hG (by omega) hS (by omega) hs) (fun o1 h1 hC => jj_callV ok_GR_loopStatement ml_GR_214 im_GR_loopStatement se_GR_GR_loopStatement (by decide +kernel) (hs.rcGR hG.2) rfl (by omega) (Nat.le_of_ble_eq_true rfl) hC) rfl (fun _ _ _ q => ⟨rfl, rfl, _, q⟩) (fun h hs => ?_)
    refine jj_goto (off := 60) (tgt := 182) (by decide +kernel) (by decide) ?_
    exact jj_vret (by decide +kernel) rfl ⟨rfl, hs⟩
  · skip
    refine jj_aload_n (j := 0) (by decide +kernel) rfl ?_
    refine jj_bipush (n := 42) (v := 42) (by decide +kernel) (by decide) ?_
    refine sy_cv (s_GR_leaveOrRepeat (d := d - 1) (m := m) hG (by omega) (by omega) hs) (fun o1 h1 hC => jj_callV ok_GR_leaveOrRepeat ml_GR_217 im_GR_leaveOrRepeat se_GR_GR_leaveOrRepeat (by decide +kernel) (hs.rcGR hG.2) rfl (by omega) (Nat.le_of_ble_eq_true rfl) hC) rfl (fun _ _ _ q => ⟨rfl, rfl, _, q⟩) (fun h hs => ?_)
    refine jj_goto (off := 51) (tgt := 182) (by decide +kernel) (by decide) ?_
    exact jj_vret (by decide +kernel) rfl ⟨rfl, hs⟩
  · skip
    refine jj_aload_n (j := 0) (by decide +kernel) rfl ?_
    refine jj_bipush (n := 43) (v := 43) (by decide +kernel) (by decide) ?_
    refine sy_cv (s_GR_leaveOrRepeat (d := d - 1) (m := m) hG (by omega) (by omega) hs) (fun o1 h1 hC => jj_callV ok_GR_leaveOrRepeat ml_GR_217 im_GR_leaveOrRepeat se_GR_GR_leaveOrRepeat (by decide +kernel) (hs.rcGR hG.2) rfl (by omega) (Nat.le_of_ble_eq_true rfl) hC) rfl (fun _ _ _ q => ⟨rfl, rfl, _, q⟩) (fun h hs => ?_)
    refine jj_goto (off := 42) (tgt := 182) (by decide +kernel) (by decide) ?_
    exact jj_vret (by decide +kernel) rfl ⟨rfl, hs⟩
  · skip
    refine jj_aload_n (j := 0) (by decide +kernel) rfl ?_
    refine sy_cv (s_GR_waitStatement (d := d - 1) (m := m) hG (by omega) (by omega) hs) (fun o1 h1 hC => jj_callV ok_GR_waitStatement ml_GR_220 im_GR_waitStatement se_GR_GR_waitStatement (by decide +kernel) (hs.rcGR hG.2) rfl (by omega) (Nat.le_of_ble_eq_true rfl) hC) rfl (fun _ _ _ q => ⟨rfl, rfl, _, q⟩) (fun h hs => ?_)
    refine jj_goto (off := 35) (tgt := 182) (by decide +kernel) (by decide) ?_
    exact jj_vret (by decide +kernel) rfl ⟨rfl, hs⟩
  · skip
    refine jj_aload_n (j := 0) (by decide +kernel) rfl ?_
    refine sy_cv (s_CU_take (d := d - 1) hG (by omega) hs) (fun o1 h1 hC => jj_callU ok_CU_take ml_GR_134 sm_GR_CU_take rfl im_CU_take se_GR_CU_take_u (by decide +kernel) (hs.rcGR hG.2) rfl (by omega) (Nat.le_of_ble_eq_true rfl) hC) rfl (fun _ _ _ q => ⟨rfl, rfl, _, q⟩) (fun h hs => ?_)
    refine jj_aload_n (j := 0) (by decide +kernel) rfl ?_
    refine jj_bipush (n := 59) (v := 59) (by decide +kernel) (by decide) ?_
    refine sy_cv (s_CU_expect (d := d - 1) hG (by omega) hs) (fun o1 h1 hC => jj_callU ok_CU_expect ml_GR_102 sm_GR_CU_expect rfl im_CU_expect se_GR_CU_expect_u (by decide +kernel) (hs.rcGR hG.2) rfl (by omega) (Nat.le_of_ble_eq_true rfl) hC) rfl (fun _ _ _ q => ⟨rfl, rfl, _, q⟩) (fun h hs => ?_)
    refine jj_aload_n (j := 0) (by decide +kernel) rfl ?_
    refine jj_bipush (n := 45) (v := 45) (by decide +kernel) (by decide) ?_
    refine jj_iconst (n := 0) (v := 0) (by decide +kernel) (by decide) ?_
    refine jj_iconst (n := 0) (v := 0) (by decide +kernel) (by decide) ?_
    refine sy_cv (s_CU_tell (d := d - 1) hG (by omega) hs) (fun o1 h1 hC => jj_callU ok_CU_tell ml_GR_64 sm_GR_CU_tell rfl im_CU_tell se_GR_CU_tell_u (by decide +kernel) (hs.rcGR hG.2) rfl (by omega) (Nat.le_of_ble_eq_true rfl) hC) rfl (fun _ _ _ q => ⟨rfl, rfl, _, q⟩) (fun h hs => ?_)
    refine jj_goto (off := 14) (tgt := 182) (by decide +kernel) (by decide) ?_
    exact jj_vret (by decide +kernel) rfl ⟨rfl, hs⟩
  · skip
    refine jj_aload_n (j := 0) (by decide +kernel) rfl ?_
    refine sy_cv (s_GR_reportStatement (d := d - 1) (m := m) hG (by omega) (by omega) hs) (fun o1 h1 hC => jj_callV ok_GR_reportStatement ml_GR_223 im_GR_reportStatement se_GR_GR_reportStatement (by decide +kernel) (hs.rcGR hG.2) rfl (by omega) (Nat.le_of_ble_eq_true rfl) hC) rfl (fun _ _ _ q => ⟨rfl, rfl, _, q⟩) (fun h hs => ?_)
    refine jj_goto (off := 7) (tgt := 182) (by decide +kernel) (by decide) ?_
    exact jj_vret (by decide +kernel) rfl ⟨rfl, hs⟩
  · skip
    refine jj_aload_n (j := 0) (by decide +kernel) rfl ?_
    refine sy_cv (s_GR_assignment (d := d - 1) (m := m) hG (by omega) (by omega) hs) (fun o1 h1 hC => jj_callV ok_GR_assignment ml_GR_226 im_GR_assignment se_GR_GR_assignment (by decide +kernel) (hs.rcGR hG.2) rfl (by omega) (Nat.le_of_ble_eq_true rfl) hC) rfl (fun _ _ _ q => ⟨rfl, rfl, _, q⟩) (fun h hs => ?_)
    exact jj_vret (by decide +kernel) rfl ⟨rfl, hs⟩
theorem s_GR_statement {l : Launch} {G : jj_G} {X : sy_X} {K o N d : Nat} {m : Nat} {h : jj_H} (hG : sy_G G X) (ho : o + m = 40) (hS : 0 < m → sy_One l G X N 7 28 (m - 1)) (hdd : 27 + 10 * m ≤ d) (hs : Sy G X K o N h) : jj_Q l G y_GR_statement d [.ref (X.2.2.1 12)] h (sy_F 0 true G X K o N) :=
  jj_Q.of (by decide +kernel) (Nat.le_of_ble_eq_true rfl) (b_GR_statement_0 hG ho hS hdd hs)
set_option maxRecDepth 100000 in
set_option maxHeartbeats 4000000 in
theorem b_GR_one_7_0 {l : Launch} {G : jj_G} {X : sy_X} {K o N d : Nat} {m : Nat} {h : jj_H} (hG : sy_G G X) (ho : o + m = 40) (hS : 0 < m → sy_One l G X N 7 28 (m - 1)) (hdd : 28 + 10 * m ≤ d) (hs : Sy G X K o N h) : jj_P l G y_GR_one d (sy_F 1 true G X K o N) 0 [some (.ref (X.2.2.1 12)), some (.int 7)] [] h := by
  refine jj_iload_n (j := 1) (by decide +kernel) rfl ?_
  refine jj_tableIn (dflt := 130) (lo := 0) (hi := 12) (offs := #[73, 79, 84, 89, 89, 94, 100, 106, 112, 118, 124, 130, 67]) (len := 67) (off := 106) (tgt := 107) (by decide +kernel) (by decide) (by decide) (by decide) (by decide) ?_
  refine jj_aload_n (j := 0) (by decide +kernel) rfl ?_
  refine sy_cv (s_GR_statement (d := d - 1) (m := m) hG (by omega) hS (by omega) hs) (fun o1 h1 hC => jj_callV ok_GR_statement ml_GR_49 im_GR_statement se_GR_GR_statement (by decide +kernel) (hs.rcGR hG.2) rfl (by omega) (Nat.le_of_ble_eq_true rfl) hC) rfl (fun _ _ _ q => ⟨rfl, rfl, _, q⟩) (fun h hs => ?_)
  refine jj_iconst (n := 1) (v := 1) (by decide +kernel) (by decide) ?_
  exact jj_iret .int (by decide +kernel) rfl rfl ⟨Or.inl rfl, hs⟩
theorem s_GR_one_7 {l : Launch} {G : jj_G} {X : sy_X} {K o N d : Nat} {m : Nat} {h : jj_H} (hG : sy_G G X) (ho : o + m = 40) (hS : 0 < m → sy_One l G X N 7 28 (m - 1)) (hdd : 28 + 10 * m ≤ d) (hs : Sy G X K o N h) : jj_Q l G y_GR_one d [.ref (X.2.2.1 12), .int 7] h (sy_F 1 true G X K o N) :=
  jj_Q.of (by decide +kernel) (Nat.le_of_ble_eq_true rfl) (b_GR_one_7_0 hG ho hS hdd hs)
theorem one7_all {l : Launch} {G : jj_G} {X : sy_X} {N : Nat} (hG : sy_G G X) : ∀ m, sy_One l G X N 7 28 m := by
  intro m
  induction m with
  | zero => exact fun K o h d ho hs hdd => s_GR_one_7 hG ho (fun q => absurd q (by decide)) hdd hs
  | succ m ih => exact fun K o h d ho hs hdd => s_GR_one_7 hG ho (fun _ => ih) hdd hs
