set_option maxRecDepth 100000 in
set_option maxHeartbeats 4000000 in
theorem b_GR_process_87 {l : Launch} {G : jj_G} {X : sy_X} {K o N d : Nat} {m : Nat} {x1 : Int32} {h : jj_H} (hG : sy_G G X) (ho : o + m = 40) (hdd : 31 + 10 * m ≤ d) (hs : Sy G X K o N h) : jj_P l G y_GR_process d (sy_F 0 true G X K o N) 87 [some (.ref (X.2.2.1 12)), some (.int x1)] [] h := by
  refine jj_aload_n (j := 0) (by decide +kernel) rfl ?_
  refine jj_bipush (n := 59) (v := 59) (by decide +kernel) (by decide) ?_
  refine sy_cv (s_CU_expect (d := d - 1) hG (by omega) hs) (fun o1 h1 hC => jj_callU ok_CU_expect ml_GR_102 sm_GR_CU_expect rfl im_CU_expect se_GR_CU_expect_u (by decide +kernel) (hs.rcGR hG.2) rfl (by omega) (Nat.le_of_ble_eq_true rfl) hC) rfl (fun _ _ _ q => ⟨rfl, rfl, _, q⟩) (fun h hs => ?_)
  refine jj_aload_n (j := 0) (by decide +kernel) rfl ?_
  refine jj_bipush (n := 60) (v := 60) (by decide +kernel) (by decide) ?_
  refine jj_iload_n (j := 1) (by decide +kernel) rfl ?_
  refine jj_iconst (n := 3) (v := 3) (by decide +kernel) (by decide) ?_
  refine sy_cv (s_CU_tell (d := d - 1) hG (by omega) hs) (fun o1 h1 hC => jj_callU ok_CU_tell ml_GR_64 sm_GR_CU_tell rfl im_CU_tell se_GR_CU_tell_u (by decide +kernel) (hs.rcGR hG.2) rfl (by omega) (Nat.le_of_ble_eq_true rfl) hC) rfl (fun _ _ _ q => ⟨rfl, rfl, _, q⟩) (fun h hs => ?_)
  exact jj_vret (by decide +kernel) rfl ⟨rfl, hs⟩
set_option maxRecDepth 100000 in
set_option maxHeartbeats 4000000 in
theorem b_GR_process_37 {l : Launch} {G : jj_G} {X : sy_X} {K o N d : Nat} {m : Nat} {x1 : Int32} {h : jj_H} (hG : sy_G G X) (ho : o + m = 40) (hdd : 31 + 10 * m ≤ d) (hs : Sy G X K o N h) : jj_P l G y_GR_process d (sy_F 0 true G X K o N) 37 [some (.ref (X.2.2.1 12)), some (.int x1)] [] h := by
  refine jj_aload_n (j := 0) (by decide +kernel) rfl ?_
  refine jj_sipush (n := 276) (v := 276) (by decide +kernel) (by decide) ?_
  refine sy_ci (s_CU_accept (d := d - 1) hG (by omega) hs) (fun o1 h1 hC => jj_callU ok_CU_accept ml_GR_80 sm_GR_CU_accept rfl im_CU_accept se_GR_CU_accept_u (by decide +kernel) (hs.rcGR hG.2) rfl (by omega) (Nat.le_of_ble_eq_true rfl) hC) (by decide) rfl (fun _ _ _ q => ⟨rfl, rfl, _, q⟩) (fun v1 h _ hs => ?_)
  refine jj_pop (by decide +kernel) rfl ?_
  refine jj_aload_n (j := 0) (by decide +kernel) rfl ?_
  refine jj_iconst (n := 4) (v := 4) (by decide +kernel) (by decide) ?_
  refine sy_cv (s_GR_listOfAny (d := d - 1) (m := m) hG (by omega) (one4_all hG m) (by decide) (by omega) hs) (fun o1 h1 hC => jj_callV ok_GR_listOfAny ml_GR_159 im_GR_listOfAny se_GR_GR_listOfAny (by decide +kernel) (hs.rcGR hG.2) rfl (by omega) (Nat.le_of_ble_eq_true rfl) hC) rfl (fun _ _ _ q => ⟨rfl, rfl, _, q⟩) (fun h hs => ?_)
  refine jj_aload_n (j := 0) (by decide +kernel) rfl ?_
  refine jj_sipush (n := 260) (v := 260) (by decide +kernel) (by decide) ?_
  refine sy_cv (s_CU_expect (d := d - 1) hG (by omega) hs) (fun o1 h1 hC => jj_callU ok_CU_expect ml_GR_102 sm_GR_CU_expect rfl im_CU_expect se_GR_CU_expect_u (by decide +kernel) (hs.rcGR hG.2) rfl (by omega) (Nat.le_of_ble_eq_true rfl) hC) rfl (fun _ _ _ q => ⟨rfl, rfl, _, q⟩) (fun h hs => ?_)
  refine jj_aload_n (j := 0) (by decide +kernel) rfl ?_
  refine jj_bipush (n := 7) (v := 7) (by decide +kernel) (by decide) ?_
  refine sy_cv (s_GR_listOfAny (d := d - 1) (m := m) hG (by omega) (one7_all hG m) (by decide) (by omega) hs) (fun o1 h1 hC => jj_callV ok_GR_listOfAny ml_GR_159 im_GR_listOfAny se_GR_GR_listOfAny (by decide +kernel) (hs.rcGR hG.2) rfl (by omega) (Nat.le_of_ble_eq_true rfl) hC) rfl (fun _ _ _ q => ⟨rfl, rfl, _, q⟩) (fun h hs => ?_)
  refine jj_aload_n (j := 0) (by decide +kernel) rfl ?_
  refine jj_sipush (n := 267) (v := 267) (by decide +kernel) (by decide) ?_
  refine sy_cv (s_CU_expect (d := d - 1) hG (by omega) hs) (fun o1 h1 hC => jj_callU ok_CU_expect ml_GR_102 sm_GR_CU_expect rfl im_CU_expect se_GR_CU_expect_u (by decide +kernel) (hs.rcGR hG.2) rfl (by omega) (Nat.le_of_ble_eq_true rfl) hC) rfl (fun _ _ _ q => ⟨rfl, rfl, _, q⟩) (fun h hs => ?_)
  refine jj_aload_n (j := 0) (by decide +kernel) rfl ?_
  refine jj_sipush (n := 292) (v := 292) (by decide +kernel) (by decide) ?_
  refine sy_cv (s_CU_expect (d := d - 1) hG (by omega) hs) (fun o1 h1 hC => jj_callU ok_CU_expect ml_GR_102 sm_GR_CU_expect rfl im_CU_expect se_GR_CU_expect_u (by decide +kernel) (hs.rcGR hG.2) rfl (by omega) (Nat.le_of_ble_eq_true rfl) hC) rfl (fun _ _ _ q => ⟨rfl, rfl, _, q⟩) (fun h hs => ?_)
  refine jj_iload_n (j := 1) (by decide +kernel) rfl ?_
  refine jj_iconst (n := (-1)) (v := (-1)) (by decide +kernel) (by decide) ?_
  refine jj_icmp_eq (off := 8) (tgt := 87) (by decide +kernel) (by decide) (fun c2 => ?_) (fun c2 => ?_)
  · skip
    exact jj_wk (js_s (js_s js_0)) (b_GR_process_87 (o := o) hG ho hdd hs)
  · skip
    refine jj_aload_n (j := 0) (by decide +kernel) rfl ?_
    refine jj_iload_n (j := 1) (by decide +kernel) rfl ?_
    refine sy_cv (s_GR_nameBehindEnd (d := d - 1) hG (by omega) hs) (fun o1 h1 hC => jj_callV ok_GR_nameBehindEnd ml_GR_109 im_GR_nameBehindEnd se_GR_GR_nameBehindEnd (by decide +kernel) (hs.rcGR hG.2) rfl (by omega) (Nat.le_of_ble_eq_true rfl) hC) rfl (fun _ _ _ q => ⟨rfl, rfl, _, q⟩) (fun h hs => ?_)
    exact jj_wk (js_s (js_s js_0)) (b_GR_process_87 (o := o) hG ho hdd hs)
set_option maxRecDepth 100000 in
set_option maxHeartbeats 4000000 in
theorem b_GR_process_0 {l : Launch} {G : jj_G} {X : sy_X} {K o N d : Nat} {m : Nat} {x1 : Int32} {h : jj_H} (hG : sy_G G X) (ho : o + m = 40) (hdd : 31 + 10 * m ≤ d) (hs : Sy G X K o N h) : jj_P l G y_GR_process d (sy_F 0 true G X K o N) 0 [some (.ref (X.2.2.1 12)), some (.int x1)] [] h := by
  refine jj_aload_n (j := 0) (by decide +kernel) rfl ?_
  refine jj_sipush (n := 292) (v := 292) (by decide +kernel) (by decide) ?_
  refine sy_cv (s_CU_expect (d := d - 1) hG (by omega) hs) (fun o1 h1 hC => jj_callU ok_CU_expect ml_GR_102 sm_GR_CU_expect rfl im_CU_expect se_GR_CU_expect_u (by decide +kernel) (hs.rcGR hG.2) rfl (by omega) (Nat.le_of_ble_eq_true rfl) hC) rfl (fun _ _ _ q => ⟨rfl, rfl, _, q⟩) (fun h hs => ?_)
  refine jj_aload_n (j := 0) (by decide +kernel) rfl ?_
  refine jj_bipush (n := 40) (v := 40) (by decide +kernel) (by decide) ?_
  refine sy_ci (s_CU_accept (d := d - 1) hG (by omega) hs) (fun o1 h1 hC => jj_callU ok_CU_accept ml_GR_80 sm_GR_CU_accept rfl im_CU_accept se_GR_CU_accept_u (by decide +kernel) (hs.rcGR hG.2) rfl (by omega) (Nat.le_of_ble_eq_true rfl) hC) (by decide) rfl (fun _ _ _ q => ⟨rfl, rfl, _, q⟩) (fun v1 h _ hs => ?_)
  refine jj_if_eq (off := 20) (tgt := 33) (by decide +kernel) (by decide) (fun c2 => ?_) (fun c2 => ?_)
  · skip
    refine jj_aload_n (j := 0) (by decide +kernel) rfl ?_
    refine sy_cv (s_CU_tellNothing (d := d - 1) hG (by omega) hs) (fun o1 h1 hC => jj_callU ok_CU_tellNothing ml_GR_152 sm_GR_CU_tellNothing rfl im_CU_tellNothing se_GR_CU_tellNothing_u (by decide +kernel) (hs.rcGR hG.2) rfl (by omega) (Nat.le_of_ble_eq_true rfl) hC) rfl (fun _ _ _ q => ⟨rfl, rfl, _, q⟩) (fun h hs => ?_)
    exact jj_wk (js_s (js_s js_0)) (b_GR_process_37 (o := o) hG ho hdd hs)
  · skip
    refine jj_aload_n (j := 0) (by decide +kernel) rfl ?_
    refine jj_bipush (n := 11) (v := 11) (by decide +kernel) (by decide) ?_
    refine jj_bipush (n := 44) (v := 44) (by decide +kernel) (by decide) ?_
    refine sy_cv (s_GR_listOfSome (d := d - 1) (m := m) hG (by omega) (one11_all hG m) (by decide) (by omega) hs) (fun o1 h1 hC => jj_callV ok_GR_listOfSome ml_GR_112 im_GR_listOfSome se_GR_GR_listOfSome (by decide +kernel) (hs.rcGR hG.2) rfl (by omega) (Nat.le_of_ble_eq_true rfl) hC) rfl (fun _ _ _ q => ⟨rfl, rfl, _, q⟩) (fun h hs => ?_)
    refine jj_aload_n (j := 0) (by decide +kernel) rfl ?_
    refine jj_bipush (n := 41) (v := 41) (by decide +kernel) (by decide) ?_
    refine sy_cv (s_CU_expect (d := d - 1) hG (by omega) hs) (fun o1 h1 hC => jj_callU ok_CU_expect ml_GR_102 sm_GR_CU_expect rfl im_CU_expect se_GR_CU_expect_u (by decide +kernel) (hs.rcGR hG.2) rfl (by omega) (Nat.le_of_ble_eq_true rfl) hC) rfl (fun _ _ _ q => ⟨rfl, rfl, _, q⟩) (fun h hs => ?_)
    refine jj_goto (off := 7) (tgt := 37) (by decide +kernel) (by decide) ?_
    exact jj_wk (js_s (js_s js_0)) (b_GR_process_37 (o := o) hG ho hdd hs)
theorem s_GR_process {l : Launch} {G : jj_G} {X : sy_X} {K o N d : Nat} {m : Nat} {x1 : Int32} {h : jj_H} (hG : sy_G G X) (ho : o + m = 40) (hdd : 31 + 10 * m ≤ d) (hs : Sy G X K o N h) : jj_Q l G y_GR_process d [.ref (X.2.2.1 12), .int x1] h (sy_F 0 true G X K o N) :=
  jj_Q.of (by decide +kernel) (Nat.le_of_ble_eq_true rfl) (b_GR_process_0 hG ho hdd hs)
set_option maxRecDepth 100000 in
set_option maxHeartbeats 4000000 in
theorem b_GR_concurrentAssignment_91 {l : Launch} {G : jj_G} {X : sy_X} {K o N d : Nat} {m : Nat} {x1 : Int32} {h : jj_H} {x2 x3 x4 : Int32} (hG : sy_G G X) (ho : o + m = 40) (hdd : 27 + 10 * m ≤ d) (hs : Sy G X K o N h) : jj_P l G y_GR_concurrentAssignment d (sy_F 0 true G X K o N) 91 [some (.ref (X.2.2.1 12)), some (.int x1), some (.int x2), some (.int x3), some (.int x4)] [] h := by
  refine jj_aload_n (j := 0) (by decide +kernel) rfl ?_
  refine jj_bipush (n := 59) (v := 59) (by decide +kernel) (by decide) ?_
  refine sy_cv (s_CU_expect (d := d - 1) hG (by omega) hs) (fun o1 h1 hC => jj_callU ok_CU_expect ml_GR_102 sm_GR_CU_expect rfl im_CU_expect se_GR_CU_expect_u (by decide +kernel) (hs.rcGR hG.2) rfl (by omega) (Nat.le_of_ble_eq_true rfl) hC) rfl (fun _ _ _ q => ⟨rfl, rfl, _, q⟩) (fun h hs => ?_)
  refine jj_aload_n (j := 0) (by decide +kernel) rfl ?_
  refine jj_bipush (n := 61) (v := 61) (by decide +kernel) (by decide) ?_
  refine jj_iload_n (j := 2) (by decide +kernel) rfl ?_
  refine jj_iload_n (j := 3) (by decide +kernel) rfl ?_
  refine sy_cv (s_CU_tell (d := d - 1) hG (by omega) hs) (fun o1 h1 hC => jj_callU ok_CU_tell ml_GR_64 sm_GR_CU_tell rfl im_CU_tell se_GR_CU_tell_u (by decide +kernel) (hs.rcGR hG.2) rfl (by omega) (Nat.le_of_ble_eq_true rfl) hC) rfl (fun _ _ _ q => ⟨rfl, rfl, _, q⟩) (fun h hs => ?_)
  exact jj_vret (by decide +kernel) rfl ⟨rfl, hs⟩
set_option maxRecDepth 100000 in
set_option maxHeartbeats 4000000 in
theorem b_GR_concurrentAssignment_45 {l : Launch} {G : jj_G} {X : sy_X} {K o N d : Nat} {m : Nat} {x1 : Int32} (hG : sy_G G X) (ho : o + m = 40) (hdd : 27 + 10 * m ≤ d) : ∀ (n : Nat) (x2 : Int32) (x3 : Int32) (x4 : Int32) (h : jj_H), (2147483647 - x4.toInt).toNat < n → Sy G X K o N h → jj_P l G y_GR_concurrentAssignment d (sy_F 0 true G X K o N) 45 [some (.ref (X.2.2.1 12)), some (.int x1), some (.int x2), some (.int x3), some (.int x4)] [] h := by
  intro n
  induction n with
  | zero => intro x2 x3 x4 h hn; exact absurd hn (Nat.not_lt_zero _)
  | succ n ih =>
    intro x2 x3 x4 h hn hs
    refine jj_iload (i := 4) (by decide +kernel) rfl ?_
    refine jj_sipush (n := 16385) (v := 16385) (by decide +kernel) (by decide) ?_
    refine jj_icmp_ge (off := 41) (tgt := 91) (by decide +kernel) (by decide) (fun c1 => ?_) (fun c1 => ?_)
    · skip
      exact jj_wk (js_s (js_s (js_s (js_s (js_s js_0))))) (b_GR_concurrentAssignment_91 (o := o) hG ho hdd hs)
    · skip
      have hdec := up_lt (Int32.not_le.mp c1) hn
      refine jj_aload_n (j := 0) (by decide +kernel) rfl ?_
      refine jj_sipush (n := 309) (v := 309) (by decide +kernel) (by decide) ?_
      refine sy_ci (s_CU_accept (d := d - 1) hG (by omega) hs) (fun o1 h1 hC => jj_callU ok_CU_accept ml_GR_80 sm_GR_CU_accept rfl im_CU_accept se_GR_CU_accept_u (by decide +kernel) (hs.rcGR hG.2) rfl (by omega) (Nat.le_of_ble_eq_true rfl) hC) (by decide) rfl (fun _ _ _ q => ⟨rfl, rfl, _, q⟩) (fun v2 h _ hs => ?_)
      refine jj_if_eq (off := 31) (tgt := 91) (by decide +kernel) (by decide) (fun c3 => ?_) (fun c3 => ?_)
      · skip
        exact jj_wk (js_s (js_s (js_s (js_s (js_s js_0))))) (b_GR_concurrentAssignment_91 (o := o) hG ho hdd hs)
      · skip
        refine jj_aload_n (j := 0) (by decide +kernel) rfl ?_
        refine sy_cv (expr_all hG m _ _ _ (d - 1) (by omega) hs (by omega)) (fun o1 h1 hC => jj_callV ok_GR_expression ml_GR_149 im_GR_expression se_GR_GR_expression (by decide +kernel) (hs.rcGR hG.2) rfl (by omega) (Nat.le_of_ble_eq_true rfl) hC) rfl (fun _ _ _ q => ⟨rfl, rfl, _, q⟩) (fun h hs => ?_)
        refine jj_aload_n (j := 0) (by decide +kernel) rfl ?_
        refine jj_sipush (n := 265) (v := 265) (by decide +kernel) (by decide) ?_
        refine sy_cv (s_CU_expect (d := d - 1) hG (by omega) hs) (fun o1 h1 hC => jj_callU ok_CU_expect ml_GR_102 sm_GR_CU_expect rfl im_CU_expect se_GR_CU_expect_u (by decide +kernel) (hs.rcGR hG.2) rfl (by omega) (Nat.le_of_ble_eq_true rfl) hC) rfl (fun _ _ _ q => ⟨rfl, rfl, _, q⟩) (fun h hs => ?_)
        refine jj_aload_n (j := 0) (by decide +kernel) rfl ?_
        refine jj_bipush (n := 8) (v := 8) (by decide +kernel) (by decide) ?_
        refine jj_bipush (n := 44) (v := 44) (by decide +kernel) (by decide) ?_
        refine sy_cv (s_GR_listOfSome (d := d - 1) (m := m) hG (by omega) (one8_all hG m) (by decide) (by omega) hs) (fun o1 h1 hC => jj_callV ok_GR_listOfSome ml_GR_112 im_GR_listOfSome se_GR_GR_listOfSome (by decide +kernel) (hs.rcGR hG.2) rfl (by omega) (Nat.le_of_ble_eq_true rfl) hC) rfl (fun _ _ _ q => ⟨rfl, rfl, _, q⟩) (fun h hs => ?_)
        refine jj_iinc (i := 3) (n := 2) (by decide +kernel) rfl rfl (by decide) rfl ?_
        refine jj_iinc (i := 4) (n := 1) (by decide +kernel) rfl rfl (by decide) rfl ?_
        refine jj_goto (off := (-43)) (tgt := 45) (by decide +kernel) (by decide) ?_
        exact jj_wk (js_s (js_s (js_s (js_s (js_s js_0))))) (ih _ _ _ _ hdec hs)
set_option maxRecDepth 100000 in
set_option maxHeartbeats 4000000 in
theorem b_GR_concurrentAssignment_27 {l : Launch} {G : jj_G} {X : sy_X} {K o N d : Nat} {m : Nat} {x1 : Int32} {h : jj_H} (hG : sy_G G X) (ho : o + m = 40) (hdd : 27 + 10 * m ≤ d) (hs : Sy G X K o N h) : jj_P l G y_GR_concurrentAssignment d (sy_F 0 true G X K o N) 27 [some (.ref (X.2.2.1 12)), some (.int x1), none, none, none] [] h := by
  refine jj_aload_n (j := 0) (by decide +kernel) rfl ?_
  refine sy_ci (s_GR_mode (d := d - 1) (m := m) hG (by omega) (by omega) hs) (fun o1 h1 hC => jj_callV ok_GR_mode ml_GR_190 im_GR_mode se_GR_GR_mode (by decide +kernel) (hs.rcGR hG.2) rfl (by omega) (Nat.le_of_ble_eq_true rfl) hC) (by decide) rfl (fun _ _ _ q => ⟨rfl, rfl, _, q⟩) (fun v1 h _ hs => ?_)
  refine jj_istore_n (j := 2) (by decide +kernel) (by decide) rfl ?_
  refine jj_aload_n (j := 0) (by decide +kernel) rfl ?_
  refine jj_bipush (n := 8) (v := 8) (by decide +kernel) (by decide) ?_
  refine jj_bipush (n := 44) (v := 44) (by decide +kernel) (by decide) ?_
  refine sy_cv (s_GR_listOfSome (d := d - 1) (m := m) hG (by omega) (one8_all hG m) (by decide) (by omega) hs) (fun o1 h1 hC => jj_callV ok_GR_listOfSome ml_GR_112 im_GR_listOfSome se_GR_GR_listOfSome (by decide +kernel) (hs.rcGR hG.2) rfl (by omega) (Nat.le_of_ble_eq_true rfl) hC) rfl (fun _ _ _ q => ⟨rfl, rfl, _, q⟩) (fun h hs => ?_)
  refine jj_iconst (n := 3) (v := 3) (by decide +kernel) (by decide) ?_
  refine jj_istore_n (j := 3) (by decide +kernel) (by decide) rfl ?_
  refine jj_iconst (n := 0) (v := 0) (by decide +kernel) (by decide) ?_
  refine jj_istore (i := 4) (by decide +kernel) (by decide) rfl ?_
  exact jj_wk (js_s (js_s (js_s (js_s (js_s js_0))))) (b_GR_concurrentAssignment_45 (o := o) hG ho hdd _ _ _ _ _ (Nat.lt_succ_self _) hs)
set_option maxRecDepth 100000 in
set_option maxHeartbeats 4000000 in
theorem b_GR_concurrentAssignment_0 {l : Launch} {G : jj_G} {X : sy_X} {K o N d : Nat} {m : Nat} {x1 : Int32} {h : jj_H} (hG : sy_G G X) (ho : o + m = 40) (hdd : 27 + 10 * m ≤ d) (hs : Sy G X K o N h) : jj_P l G y_GR_concurrentAssignment d (sy_F 0 true G X K o N) 0 [some (.ref (X.2.2.1 12)), some (.int x1), none, none, none] [] h := by
  refine jj_aload_n (j := 0) (by decide +kernel) rfl ?_
  refine jj_iload_n (j := 1) (by decide +kernel) rfl ?_
  refine jj_iconst (n := 0) (v := 0) (by decide +kernel) (by decide) ?_
  refine sy_cv (s_GR_behindName (d := d - 1) (m := m) hG (by omega) (fun _ => expr_all hG _) (by omega) hs) (fun o1 h1 hC => jj_callV ok_GR_behindName ml_GR_186 im_GR_behindName se_GR_GR_behindName (by decide +kernel) (hs.rcGR hG.2) rfl (by omega) (Nat.le_of_ble_eq_true rfl) hC) rfl (fun _ _ _ q => ⟨rfl, rfl, _, q⟩) (fun h hs => ?_)
  refine jj_aload_n (j := 0) (by decide +kernel) rfl ?_
  refine jj_sipush (n := 129) (v := 129) (by decide +kernel) (by decide) ?_
  refine sy_cv (s_CU_expect (d := d - 1) hG (by omega) hs) (fun o1 h1 hC => jj_callU ok_CU_expect ml_GR_102 sm_GR_CU_expect rfl im_CU_expect se_GR_CU_expect_u (by decide +kernel) (hs.rcGR hG.2) rfl (by omega) (Nat.le_of_ble_eq_true rfl) hC) rfl (fun _ _ _ q => ⟨rfl, rfl, _, q⟩) (fun h hs => ?_)
  refine jj_aload_n (j := 0) (by decide +kernel) rfl ?_
  obtain ⟨ki, va, pl, fa, fp, ne, hg⟩ := hs.gr hG.2
  refine jj_getfield 3 ck_GR fl_GR_68 (by decide) (by decide +kernel) hg rfl ?_
  refine jj_sipush (n := 294) (v := 294) (by decide +kernel) (by decide) ?_
  refine jj_icmp_eq (off := 7) (tgt := 27) (by decide +kernel) (by decide) (fun c1 => ?_) (fun c1 => ?_)
  · skip
    exact jj_wk (js_s (js_s (js_n (js_n (js_n js_0))))) (b_GR_concurrentAssignment_27 (o := o) hG ho hdd hs)
  · skip
    refine jj_aload_n (j := 0) (by decide +kernel) rfl ?_
    refine sy_cv (s_CU_tellNothing (d := d - 1) hG (by omega) hs) (fun o1 h1 hC => jj_callU ok_CU_tellNothing ml_GR_152 sm_GR_CU_tellNothing rfl im_CU_tellNothing se_GR_CU_tellNothing_u (by decide +kernel) (hs.rcGR hG.2) rfl (by omega) (Nat.le_of_ble_eq_true rfl) hC) rfl (fun _ _ _ q => ⟨rfl, rfl, _, q⟩) (fun h hs => ?_)
    exact jj_wk (js_s (js_s (js_n (js_n (js_n js_0))))) (b_GR_concurrentAssignment_27 (o := o) hG ho hdd hs)
theorem s_GR_concurrentAssignment {l : Launch} {G : jj_G} {X : sy_X} {K o N d : Nat} {m : Nat} {x1 : Int32} {h : jj_H} (hG : sy_G G X) (ho : o + m = 40) (hdd : 27 + 10 * m ≤ d) (hs : Sy G X K o N h) : jj_Q l G y_GR_concurrentAssignment d [.ref (X.2.2.1 12), .int x1] h (sy_F 0 true G X K o N) :=
  jj_Q.of (by decide +kernel) (Nat.le_of_ble_eq_true rfl) (b_GR_concurrentAssignment_0 hG ho hdd hs)
set_option maxRecDepth 100000 in
set_option maxHeartbeats 4000000 in
theorem b_GR_generate_125 {l : Launch} {G : jj_G} {X : sy_X} {K o N d : Nat} {m : Nat} {x1 : Int32} {h : jj_H} {x2 y1 y2 y3 : Int32} (hG : sy_G G X) (ho : o + m = 40) (hC : 0 < m → sy_One l G X N 5 34 (m - 1)) (hdd : 30 + 10 * m ≤ d) (hs : Sy G X K o N h) : jj_P l G y_GR_generate d (sy_F 0 true G X K o N) 125 [some (.ref (X.2.2.1 12)), some (.int x1), some (.int x2)] [.int y3, .int y2, .int y1, .ref (X.2.2.1 12)] h := by
  refine sy_cv (s_CU_tell (d := d - 1) hG (by omega) hs) (fun o1 h1 hC => jj_callU ok_CU_tell ml_GR_64 sm_GR_CU_tell rfl im_CU_tell se_GR_CU_tell_u (by decide +kernel) (hs.rcGR hG.2) rfl (by omega) (Nat.le_of_ble_eq_true rfl) hC) rfl (fun _ _ _ q => ⟨rfl, rfl, _, q⟩) (fun h hs => ?_)
  exact jj_vret (by decide +kernel) rfl ⟨rfl, hs⟩
set_option maxRecDepth 100000 in
set_option maxHeartbeats 4000000 in
theorem b_GR_generate_115 {l : Launch} {G : jj_G} {X : sy_X} {K o N d : Nat} {m : Nat} {x1 : Int32} {h : jj_H} {x2 y1 : Int32} (hG : sy_G G X) (ho : o + m = 40) (hC : 0 < m → sy_One l G X N 5 34 (m - 1)) (hdd : 30 + 10 * m ≤ d) (hs : Sy G X K o N h) : jj_P l G y_GR_generate d (sy_F 0 true G X K o N) 115 [some (.ref (X.2.2.1 12)), some (.int x1), some (.int x2)] [.int y1, .ref (X.2.2.1 12)] h := by
  refine jj_iload_n (j := 1) (by decide +kernel) rfl ?_
  refine jj_iload_n (j := 2) (by decide +kernel) rfl ?_
  refine jj_if_eq (off := 7) (tgt := 124) (by decide +kernel) (by decide) (fun c1 => ?_) (fun c1 => ?_)
  · skip
    refine jj_iconst (n := 2) (v := 2) (by decide +kernel) (by decide) ?_
    exact jj_wk (js_s (js_s (js_s js_0))) (b_GR_generate_125 (o := o) hG ho hC hdd hs)
  · skip
    refine jj_iconst (n := 4) (v := 4) (by decide +kernel) (by decide) ?_
    refine jj_goto (off := 4) (tgt := 125) (by decide +kernel) (by decide) ?_
    exact jj_wk (js_s (js_s (js_s js_0))) (b_GR_generate_125 (o := o) hG ho hC hdd hs)
set_option maxRecDepth 100000 in
set_option maxHeartbeats 4000000 in
theorem b_GR_generate_62 {l : Launch} {G : jj_G} {X : sy_X} {K o N d : Nat} {m : Nat} {x1 : Int32} {h : jj_H} {x2 : Int32} (hG : sy_G G X) (ho : o + m = 40) (hC : 0 < m → sy_One l G X N 5 34 (m - 1)) (hdd : 30 + 10 * m ≤ d) (hm : 0 < m) (hs : Sy G X K (o + 1) N h) : jj_P l G y_GR_generate d (sy_F 0 true G X K o N) 62 [some (.ref (X.2.2.1 12)), some (.int x1), some (.int x2)] [] h := by
  refine jj_aload_n (j := 0) (by decide +kernel) rfl ?_
  refine jj_sipush (n := 270) (v := 270) (by decide +kernel) (by decide) ?_
  refine sy_cv (s_CU_expect (d := d - 1) hG (by omega) hs) (fun o1 h1 hC => jj_callU ok_CU_expect ml_GR_102 sm_GR_CU_expect rfl im_CU_expect se_GR_CU_expect_u (by decide +kernel) (hs.rcGR hG.2) rfl (by omega) (Nat.le_of_ble_eq_true rfl) hC) rfl (fun _ _ _ q => ⟨rfl, rfl, _, q⟩) (fun h hs => ?_)
  refine jj_aload_n (j := 0) (by decide +kernel) rfl ?_
  refine jj_iconst (n := 5) (v := 5) (by decide +kernel) (by decide) ?_
  refine sy_cv (s_GR_listOfAny (d := d - 1) (m := (m - 1)) hG (by omega) (hC hm) (by decide) (by omega) hs) (fun o1 h1 hC => jj_callV ok_GR_listOfAny ml_GR_159 im_GR_listOfAny se_GR_GR_listOfAny (by decide +kernel) (hs.rcGR hG.2) rfl (by omega) (Nat.le_of_ble_eq_true rfl) hC) rfl (fun _ _ _ q => ⟨rfl, rfl, _, q⟩) (fun h hs => ?_)
  refine jj_aload_n (j := 0) (by decide +kernel) rfl ?_
  refine jj_sipush (n := 267) (v := 267) (by decide +kernel) (by decide) ?_
  refine sy_cv (s_CU_expect (d := d - 1) hG (by omega) hs) (fun o1 h1 hC => jj_callU ok_CU_expect ml_GR_102 sm_GR_CU_expect rfl im_CU_expect se_GR_CU_expect_u (by decide +kernel) (hs.rcGR hG.2) rfl (by omega) (Nat.le_of_ble_eq_true rfl) hC) rfl (fun _ _ _ q => ⟨rfl, rfl, _, q⟩) (fun h hs => ?_)
  refine jj_aload_n (j := 0) (by decide +kernel) rfl ?_
  refine jj_sipush (n := 270) (v := 270) (by decide +kernel) (by decide) ?_
  refine sy_cv (s_CU_expect (d := d - 1) hG (by omega) hs) (fun o1 h1 hC => jj_callU ok_CU_expect ml_GR_102 sm_GR_CU_expect rfl im_CU_expect se_GR_CU_expect_u (by decide +kernel) (hs.rcGR hG.2) rfl (by omega) (Nat.le_of_ble_eq_true rfl) hC) rfl (fun _ _ _ q => ⟨rfl, rfl, _, q⟩) (fun h hs => ?_)
  refine jj_aload_n (j := 0) (by decide +kernel) rfl ?_
  refine jj_iload_n (j := 1) (by decide +kernel) rfl ?_
  refine sy_cv (s_GR_nameBehindEnd (d := d - 1) hG (by omega) hs) (fun o1 h1 hC => jj_callV ok_GR_nameBehindEnd ml_GR_109 im_GR_nameBehindEnd se_GR_GR_nameBehindEnd (by decide +kernel) (hs.rcGR hG.2) rfl (by omega) (Nat.le_of_ble_eq_true rfl) hC) rfl (fun _ _ _ q => ⟨rfl, rfl, _, q⟩) (fun h hs => ?_)
  refine jj_aload_n (j := 0) (by decide +kernel) rfl ?_
  refine jj_bipush (n := 59) (v := 59) (by decide +kernel) (by decide) ?_
  refine sy_cv (s_CU_expect (d := d - 1) hG (by omega) hs) (fun o1 h1 hC => jj_callU ok_CU_expect ml_GR_102 sm_GR_CU_expect rfl im_CU_expect se_GR_CU_expect_u (by decide +kernel) (hs.rcGR hG.2) rfl (by omega) (Nat.le_of_ble_eq_true rfl) hC) rfl (fun _ _ _ q => ⟨rfl, rfl, _, q⟩) (fun h hs => ?_)
  refine jj_aload_n (j := 0) (by decide +kernel) rfl ?_
  refine sy_cv (s_CU_leave (d := d - 1) hG.2 hs) (fun o1 h1 hC => jj_callU ok_CU_leave ml_GR_205 sm_GR_CU_leave rfl im_CU_leave se_GR_CU_leave_u (by decide +kernel) (hs.rcGR hG.2) rfl (by omega) (Nat.le_of_ble_eq_true rfl) hC) rfl (fun q => by cases q) (fun h hs => ?_)
  refine jj_aload_n (j := 0) (by decide +kernel) rfl ?_
  refine jj_iload_n (j := 2) (by decide +kernel) rfl ?_
  refine jj_if_eq (off := 8) (tgt := 113) (by decide +kernel) (by decide) (fun c1 => ?_) (fun c1 => ?_)
  · skip
    refine jj_bipush (n := 65) (v := 65) (by decide +kernel) (by decide) ?_
    exact jj_wk (js_s (js_s (js_s js_0))) (b_GR_generate_115 (o := o) hG ho hC hdd hs)
  · skip
    refine jj_bipush (n := 64) (v := 64) (by decide +kernel) (by decide) ?_
    refine jj_goto (off := 5) (tgt := 115) (by decide +kernel) (by decide) ?_
    exact jj_wk (js_s (js_s (js_s js_0))) (b_GR_generate_115 (o := o) hG ho hC hdd hs)
set_option maxRecDepth 100000 in
set_option maxHeartbeats 4000000 in
theorem b_GR_generate_0 {l : Launch} {G : jj_G} {X : sy_X} {K o N d : Nat} {m : Nat} {x1 : Int32} {h : jj_H} (hG : sy_G G X) (ho : o + m = 40) (hC : 0 < m → sy_One l G X N 5 34 (m - 1)) (hdd : 30 + 10 * m ≤ d) (hs : Sy G X K o N h) : jj_P l G y_GR_generate d (sy_F 0 true G X K o N) 0 [some (.ref (X.2.2.1 12)), some (.int x1), none] [] h := by
  refine jj_aload_n (j := 0) (by decide +kernel) rfl ?_
  refine sy_ce (s_CU_enter (d := d - 1) (m := m) hG.2 (by omega) hs (by omega)) (fun o1 h1 hC => jj_callU ok_CU_enter ml_GR_202 sm_GR_CU_enter rfl im_CU_enter se_GR_CU_enter_u (by decide +kernel) (hs.rcGR hG.2) rfl (by omega) (Nat.le_of_ble_eq_true rfl) hC) rfl (fun _ _ q => ⟨rfl, rfl, _, q⟩) (fun h hm hs => ?_)
  refine jj_aload_n (j := 0) (by decide +kernel) rfl ?_
  refine jj_sipush (n := 269) (v := 269) (by decide +kernel) (by decide) ?_
  refine sy_ci (s_CU_accept (d := d - 1) hG (by omega) hs) (fun o1 h1 hC => jj_callU ok_CU_accept ml_GR_80 sm_GR_CU_accept rfl im_CU_accept se_GR_CU_accept_u (by decide +kernel) (hs.rcGR hG.2) rfl (by omega) (Nat.le_of_ble_eq_true rfl) hC) (by decide) rfl (fun _ _ _ q => ⟨rfl, rfl, _, q⟩) (fun v1 h _ hs => ?_)
  refine jj_istore_n (j := 2) (by decide +kernel) (by decide) rfl ?_
  refine jj_iload_n (j := 2) (by decide +kernel) rfl ?_
  refine jj_if_eq (off := 38) (tgt := 51) (by decide +kernel) (by decide) (fun c2 => ?_) (fun c2 => ?_)
  · skip
    refine jj_aload_n (j := 0) (by decide +kernel) rfl ?_
    refine jj_sipush (n := 272) (v := 272) (by decide +kernel) (by decide) ?_
    refine sy_cv (s_CU_expect (d := d - 1) hG (by omega) hs) (fun o1 h1 hC => jj_callU ok_CU_expect ml_GR_102 sm_GR_CU_expect rfl im_CU_expect se_GR_CU_expect_u (by decide +kernel) (hs.rcGR hG.2) rfl (by omega) (Nat.le_of_ble_eq_true rfl) hC) rfl (fun _ _ _ q => ⟨rfl, rfl, _, q⟩) (fun h hs => ?_)
    refine jj_aload_n (j := 0) (by decide +kernel) rfl ?_
    refine sy_cv (expr_all hG (m - 1) _ _ _ (d - 1) (by omega) hs (by omega)) (fun o1 h1 hC => jj_callV ok_GR_expression ml_GR_149 im_GR_expression se_GR_GR_expression (by decide +kernel) (hs.rcGR hG.2) rfl (by omega) (Nat.le_of_ble_eq_true rfl) hC) rfl (fun _ _ _ q => ⟨rfl, rfl, _, q⟩) (fun h hs => ?_)
    exact jj_wk (js_s (js_s (js_s js_0))) (b_GR_generate_62 (o := o) hG ho hC hdd hm hs)
  · skip
    refine jj_aload_n (j := 0) (by decide +kernel) rfl ?_
    refine jj_iconst (n := 1) (v := 1) (by decide +kernel) (by decide) ?_
    refine jj_aload_n (j := 0) (by decide +kernel) rfl ?_
    refine sy_ci (s_CU_takeName (d := d - 1) hG (by omega) hs) (fun o1 h1 hC => jj_callU ok_CU_takeName ml_GR_61 sm_GR_CU_takeName rfl im_CU_takeName se_GR_CU_takeName_u (by decide +kernel) (hs.rcGR hG.2) rfl (by omega) (Nat.le_of_ble_eq_true rfl) hC) (by decide) rfl (fun _ _ _ q => ⟨rfl, rfl, _, q⟩) (fun v3 h _ hs => ?_)
    refine jj_iconst (n := 0) (v := 0) (by decide +kernel) (by decide) ?_
    refine sy_cv (s_CU_tell (d := d - 1) hG (by omega) hs) (fun o1 h1 hC => jj_callU ok_CU_tell ml_GR_64 sm_GR_CU_tell rfl im_CU_tell se_GR_CU_tell_u (by decide +kernel) (hs.rcGR hG.2) rfl (by omega) (Nat.le_of_ble_eq_true rfl) hC) rfl (fun _ _ _ q => ⟨rfl, rfl, _, q⟩) (fun h hs => ?_)
    refine jj_aload_n (j := 0) (by decide +kernel) rfl ?_
    refine jj_sipush (n := 273) (v := 273) (by decide +kernel) (by decide) ?_
    refine sy_cv (s_CU_expect (d := d - 1) hG (by omega) hs) (fun o1 h1 hC => jj_callU ok_CU_expect ml_GR_102 sm_GR_CU_expect rfl im_CU_expect se_GR_CU_expect_u (by decide +kernel) (hs.rcGR hG.2) rfl (by omega) (Nat.le_of_ble_eq_true rfl) hC) rfl (fun _ _ _ q => ⟨rfl, rfl, _, q⟩) (fun h hs => ?_)
    refine jj_aload_n (j := 0) (by decide +kernel) rfl ?_
    refine sy_cv (expr_all hG (m - 1) _ _ _ (d - 1) (by omega) hs (by omega)) (fun o1 h1 hC => jj_callV ok_GR_expression ml_GR_149 im_GR_expression se_GR_GR_expression (by decide +kernel) (hs.rcGR hG.2) rfl (by omega) (Nat.le_of_ble_eq_true rfl) hC) rfl (fun _ _ _ q => ⟨rfl, rfl, _, q⟩) (fun h hs => ?_)
    refine jj_aload_n (j := 0) (by decide +kernel) rfl ?_
    refine jj_sipush (n := 302) (v := 302) (by decide +kernel) (by decide) ?_
    refine sy_cv (s_CU_expect (d := d - 1) hG (by omega) hs) (fun o1 h1 hC => jj_callU ok_CU_expect ml_GR_102 sm_GR_CU_expect rfl im_CU_expect se_GR_CU_expect_u (by decide +kernel) (hs.rcGR hG.2) rfl (by omega) (Nat.le_of_ble_eq_true rfl) hC) rfl (fun _ _ _ q => ⟨rfl, rfl, _, q⟩) (fun h hs => ?_)
    refine jj_aload_n (j := 0) (by decide +kernel) rfl ?_
    refine sy_cv (expr_all hG (m - 1) _ _ _ (d - 1) (by omega) hs (by omega)) (fun o1 h1 hC => jj_callV ok_GR_expression ml_GR_149 im_GR_expression se_GR_GR_expression (by decide +kernel) (hs.rcGR hG.2) rfl (by omega) (Nat.le_of_ble_eq_true rfl) hC) rfl (fun _ _ _ q => ⟨rfl, rfl, _, q⟩) (fun h hs => ?_)
    refine jj_goto (off := 14) (tgt := 62) (by decide +kernel) (by decide) ?_
    exact jj_wk (js_s (js_s (js_s js_0))) (b_GR_generate_62 (o := o) hG ho hC hdd hm hs)
theorem s_GR_generate {l : Launch} {G : jj_G} {X : sy_X} {K o N d : Nat} {m : Nat} {x1 : Int32} {h : jj_H} (hG : sy_G G X) (ho : o + m = 40) (hC : 0 < m → sy_One l G X N 5 34 (m - 1)) (hdd : 30 + 10 * m ≤ d) (hs : Sy G X K o N h) : jj_Q l G y_GR_generate d [.ref (X.2.2.1 12), .int x1] h (sy_F 0 true G X K o N) :=
  jj_Q.of (by decide +kernel) (Nat.le_of_ble_eq_true rfl) (b_GR_generate_0 hG ho hC hdd hs)
set_option maxRecDepth 100000 in
set_option maxHeartbeats 4000000 in
theorem b_GR_concurrent_0 {l : Launch} {G : jj_G} {X : sy_X} {K o N d : Nat} {m : Nat} {h : jj_H} (hG : sy_G G X) (ho : o + m = 40) (hC : 0 < m → sy_One l G X N 5 34 (m - 1)) (hdd : 33 + 10 * m ≤ d) (hs : Sy G X K o N h) : jj_P l G y_GR_concurrent d (sy_F 0 true G X K o N) 0 [some (.ref (X.2.2.1 12)), none] [] h := by
  refine jj_aload_n (j := 0) (by decide +kernel) rfl ?_
  obtain ⟨ki, va, pl, fa, fp, ne, hg⟩ := hs.gr hG.2
  refine jj_getfield 3 ck_GR fl_GR_68 (by decide) (by decide +kernel) hg rfl ?_
  refine jj_sipush (n := 292) (v := 292) (by decide +kernel) (by decide) ?_
  refine jj_icmp_ne (off := 9) (tgt := 16) (by decide +kernel) (by decide) (fun c1 => ?_) (fun c1 => ?_)
  · skip
    refine jj_aload_n (j := 0) (by decide +kernel) rfl ?_
    refine sy_ci (s_CU_takeName (d := d - 1) hG (by omega) hs) (fun o1 h1 hC => jj_callU ok_CU_takeName ml_GR_61 sm_GR_CU_takeName rfl im_CU_takeName se_GR_CU_takeName_u (by decide +kernel) (hs.rcGR hG.2) rfl (by omega) (Nat.le_of_ble_eq_true rfl) hC) (by decide) rfl (fun _ _ _ q => ⟨rfl, rfl, _, q⟩) (fun v2 h _ hs => ?_)
    refine jj_istore_n (j := 1) (by decide +kernel) (by decide) rfl ?_
    refine jj_aload_n (j := 0) (by decide +kernel) rfl ?_
    refine jj_bipush (n := 58) (v := 58) (by decide +kernel) (by decide) ?_
    refine sy_ci (s_CU_accept (d := d - 1) hG (by omega) hs) (fun o1 h1 hC => jj_callU ok_CU_accept ml_GR_80 sm_GR_CU_accept rfl im_CU_accept se_GR_CU_accept_u (by decide +kernel) (hs.rcGR hG.2) rfl (by omega) (Nat.le_of_ble_eq_true rfl) hC) (by decide) rfl (fun _ _ _ q => ⟨rfl, rfl, _, q⟩) (fun v3 h _ hs => ?_)
    refine jj_if_ne (off := 9) (tgt := 36) (by decide +kernel) (by decide) (fun c4 => ?_) (fun c4 => ?_)
    · skip
      refine jj_aload_n (j := 0) (by decide +kernel) rfl ?_
      obtain ⟨ki, va, pl, fa, fp, ne, hg⟩ := hs.gr hG.2
      refine jj_getfield 3 ck_GR fl_GR_68 (by decide) (by decide +kernel) hg rfl ?_
      refine jj_lookupAny (dflt := 68) (ps := #[(269, 60), (272, 60), (292, 44), (305, 52)]) (len := 44) (ts := [84, 92, 100, 108]) (by decide +kernel) (by decide) (by decide +kernel) (jt_c ?_ (jt_c ?_ (jt_c ?_ (jt_c ?_ jt_0))))
      · skip
        refine jj_aload_n (j := 0) (by decide +kernel) rfl ?_
        refine jj_iload_n (j := 1) (by decide +kernel) rfl ?_
        refine sy_cv (s_GR_process (d := d - 1) (m := m) hG (by omega) (by omega) hs) (fun o1 h1 hC => jj_callV ok_GR_process ml_GR_174 im_GR_process se_GR_GR_process (by decide +kernel) (hs.rcGR hG.2) rfl (by omega) (Nat.le_of_ble_eq_true rfl) hC) rfl (fun _ _ _ q => ⟨rfl, rfl, _, q⟩) (fun h hs => ?_)
        refine jj_goto (off := 27) (tgt := 116) (by decide +kernel) (by decide) ?_
        exact jj_vret (by decide +kernel) rfl ⟨rfl, hs⟩
      · skip
        refine jj_aload_n (j := 0) (by decide +kernel) rfl ?_
        refine jj_iload_n (j := 1) (by decide +kernel) rfl ?_
        refine sy_cv (s_GR_instance (d := d - 1) (m := m) hG (by omega) (by omega) hs) (fun o1 h1 hC => jj_callV ok_GR_instance ml_GR_180 im_GR_instance se_GR_GR_instance (by decide +kernel) (hs.rcGR hG.2) rfl (by omega) (Nat.le_of_ble_eq_true rfl) hC) rfl (fun _ _ _ q => ⟨rfl, rfl, _, q⟩) (fun h hs => ?_)
        refine jj_goto (off := 19) (tgt := 116) (by decide +kernel) (by decide) ?_
        exact jj_vret (by decide +kernel) rfl ⟨rfl, hs⟩
      · skip
        refine jj_aload_n (j := 0) (by decide +kernel) rfl ?_
        refine jj_iload_n (j := 1) (by decide +kernel) rfl ?_
        refine sy_cv (s_GR_generate (d := d - 1) (m := m) hG (by omega) hC (by omega) hs) (fun o1 h1 hC => jj_callV ok_GR_generate ml_GR_183 im_GR_generate se_GR_GR_generate (by decide +kernel) (hs.rcGR hG.2) rfl (by omega) (Nat.le_of_ble_eq_true rfl) hC) rfl (fun _ _ _ q => ⟨rfl, rfl, _, q⟩) (fun h hs => ?_)
        refine jj_goto (off := 11) (tgt := 116) (by decide +kernel) (by decide) ?_
        exact jj_vret (by decide +kernel) rfl ⟨rfl, hs⟩
      · skip
        refine jj_aload_n (j := 0) (by decide +kernel) rfl ?_
        refine jj_aload_n (j := 0) (by decide +kernel) rfl ?_
        refine sy_ci (s_CU_takeName (d := d - 1) hG (by omega) hs) (fun o1 h1 hC => jj_callU ok_CU_takeName ml_GR_61 sm_GR_CU_takeName rfl im_CU_takeName se_GR_CU_takeName_u (by decide +kernel) (hs.rcGR hG.2) rfl (by omega) (Nat.le_of_ble_eq_true rfl) hC) (by decide) rfl (fun _ _ _ q => ⟨rfl, rfl, _, q⟩) (fun v5 h _ hs => ?_)
        refine sy_cv (s_GR_concurrentAssignment (d := d - 1) (m := m) hG (by omega) (by omega) hs) (fun o1 h1 hC => jj_callV ok_GR_concurrentAssignment ml_GR_177 im_GR_concurrentAssignment se_GR_GR_concurrentAssignment (by decide +kernel) (hs.rcGR hG.2) rfl (by omega) (Nat.le_of_ble_eq_true rfl) hC) rfl (fun _ _ _ q => ⟨rfl, rfl, _, q⟩) (fun h hs => ?_)
        exact jj_vret (by decide +kernel) rfl ⟨rfl, hs⟩
    · skip
      refine jj_aload_n (j := 0) (by decide +kernel) rfl ?_
      refine jj_iload_n (j := 1) (by decide +kernel) rfl ?_
      refine sy_cv (s_GR_concurrentAssignment (d := d - 1) (m := m) hG (by omega) (by omega) hs) (fun o1 h1 hC => jj_callV ok_GR_concurrentAssignment ml_GR_177 im_GR_concurrentAssignment se_GR_GR_concurrentAssignment (by decide +kernel) (hs.rcGR hG.2) rfl (by omega) (Nat.le_of_ble_eq_true rfl) hC) rfl (fun _ _ _ q => ⟨rfl, rfl, _, q⟩) (fun h hs => ?_)
      exact jj_vret (by decide +kernel) rfl ⟨rfl, hs⟩
  · skip
    refine jj_aload_n (j := 0) (by decide +kernel) rfl ?_
    refine jj_iconst (n := (-1)) (v := (-1)) (by decide +kernel) (by decide) ?_
    refine sy_cv (s_GR_process (d := d - 1) (m := m) hG (by omega) (by omega) hs) (fun o1 h1 hC => jj_callV ok_GR_process ml_GR_174 im_GR_process se_GR_GR_process (by decide +kernel) (hs.rcGR hG.2) rfl (by omega) (Nat.le_of_ble_eq_true rfl) hC) rfl (fun _ _ _ q => ⟨rfl, rfl, _, q⟩) (fun h hs => ?_)
    exact jj_vret (by decide +kernel) rfl ⟨rfl, hs⟩
theorem s_GR_concurrent {l : Launch} {G : jj_G} {X : sy_X} {K o N d : Nat} {m : Nat} {h : jj_H} (hG : sy_G G X) (ho : o + m = 40) (hC : 0 < m → sy_One l G X N 5 34 (m - 1)) (hdd : 33 + 10 * m ≤ d) (hs : Sy G X K o N h) : jj_Q l G y_GR_concurrent d [.ref (X.2.2.1 12)] h (sy_F 0 true G X K o N) :=
  jj_Q.of (by decide +kernel) (Nat.le_of_ble_eq_true rfl) (b_GR_concurrent_0 hG ho hC hdd hs)
set_option maxRecDepth 100000 in
set_option maxHeartbeats 4000000 in
theorem b_GR_one_5_0 {l : Launch} {G : jj_G} {X : sy_X} {K o N d : Nat} {m : Nat} {h : jj_H} (hG : sy_G G X) (ho : o + m = 40) (hC : 0 < m → sy_One l G X N 5 34 (m - 1)) (hdd : 34 + 10 * m ≤ d) (hs : Sy G X K o N h) : jj_P l G y_GR_one d (sy_F 1 true G X K o N) 0 [some (.ref (X.2.2.1 12)), some (.int 5)] [] h := by
  refine jj_iload_n (j := 1) (by decide +kernel) rfl ?_
  refine jj_tableIn (dflt := 130) (lo := 0) (hi := 12) (offs := #[73, 79, 84, 89, 89, 94, 100, 106, 112, 118, 124, 130, 67]) (len := 67) (off := 94) (tgt := 95) (by decide +kernel) (by decide) (by decide) (by decide) (by decide) ?_
  refine jj_aload_n (j := 0) (by decide +kernel) rfl ?_
  refine sy_cv (s_GR_concurrent (d := d - 1) (m := m) hG (by omega) hC (by omega) hs) (fun o1 h1 hC => jj_callV ok_GR_concurrent ml_GR_43 im_GR_concurrent se_GR_GR_concurrent (by decide +kernel) (hs.rcGR hG.2) rfl (by omega) (Nat.le_of_ble_eq_true rfl) hC) rfl (fun _ _ _ q => ⟨rfl, rfl, _, q⟩) (fun h hs => ?_)
  refine jj_iconst (n := 1) (v := 1) (by decide +kernel) (by decide) ?_
  exact jj_iret .int (by decide +kernel) rfl rfl ⟨Or.inl rfl, hs⟩
theorem s_GR_one_5 {l : Launch} {G : jj_G} {X : sy_X} {K o N d : Nat} {m : Nat} {h : jj_H} (hG : sy_G G X) (ho : o + m = 40) (hC : 0 < m → sy_One l G X N 5 34 (m - 1)) (hdd : 34 + 10 * m ≤ d) (hs : Sy G X K o N h) : jj_Q l G y_GR_one d [.ref (X.2.2.1 12), .int 5] h (sy_F 1 true G X K o N) :=
  jj_Q.of (by decide +kernel) (Nat.le_of_ble_eq_true rfl) (b_GR_one_5_0 hG ho hC hdd hs)
theorem one5_all {l : Launch} {G : jj_G} {X : sy_X} {N : Nat} (hG : sy_G G X) : ∀ m, sy_One l G X N 5 34 m := by
  intro m
  induction m with
  | zero => exact fun K o h d ho hs hdd => s_GR_one_5 hG ho (fun q => absurd q (by decide)) hdd hs
  | succ m ih => exact fun K o h d ho hs hdd => s_GR_one_5 hG ho (fun _ => ih) hdd hs
set_option maxRecDepth 100000 in
set_option maxHeartbeats 4000000 in
theorem b_GR_body_0 {l : Launch} {G : jj_G} {X : sy_X} {K o N d : Nat} {m : Nat} {h : jj_H} (hG : sy_G G X) (ho : o + m = 40) (hdd : 37 + 10 * m ≤ d) (hs : Sy G X K o N h) : jj_P l G y_GR_body d (sy_F 0 true G X K o N) 0 [some (.ref (X.2.2.1 12)), none] [] h := by
  refine jj_aload_n (j := 0) (by decide +kernel) rfl ?_
  refine jj_sipush (n := 261) (v := 261) (by decide +kernel) (by decide) ?_
  refine sy_cv (s_CU_expect (d := d - 1) hG (by omega) hs) (fun o1 h1 hC => jj_callU ok_CU_expect ml_GR_102 sm_GR_CU_expect rfl im_CU_expect se_GR_CU_expect_u (by decide +kernel) (hs.rcGR hG.2) rfl (by omega) (Nat.le_of_ble_eq_true rfl) hC) rfl (fun _ _ _ q => ⟨rfl, rfl, _, q⟩) (fun h hs => ?_)
  refine jj_aload_n (j := 0) (by decide +kernel) rfl ?_
  refine sy_ci (s_CU_takeName (d := d - 1) hG (by omega) hs) (fun o1 h1 hC => jj_callU ok_CU_takeName ml_GR_61 sm_GR_CU_takeName rfl im_CU_takeName se_GR_CU_takeName_u (by decide +kernel) (hs.rcGR hG.2) rfl (by omega) (Nat.le_of_ble_eq_true rfl) hC) (by decide) rfl (fun _ _ _ q => ⟨rfl, rfl, _, q⟩) (fun v1 h _ hs => ?_)
  refine jj_istore_n (j := 1) (by decide +kernel) (by decide) rfl ?_
  refine jj_aload_n (j := 0) (by decide +kernel) rfl ?_
  refine jj_sipush (n := 285) (v := 285) (by decide +kernel) (by decide) ?_
  refine sy_cv (s_CU_expect (d := d - 1) hG (by omega) hs) (fun o1 h1 hC => jj_callU ok_CU_expect ml_GR_102 sm_GR_CU_expect rfl im_CU_expect se_GR_CU_expect_u (by decide +kernel) (hs.rcGR hG.2) rfl (by omega) (Nat.le_of_ble_eq_true rfl) hC) rfl (fun _ _ _ q => ⟨rfl, rfl, _, q⟩) (fun h hs => ?_)
  refine jj_aload_n (j := 0) (by decide +kernel) rfl ?_
  refine jj_iconst (n := 1) (v := 1) (by decide +kernel) (by decide) ?_
  refine jj_aload_n (j := 0) (by decide +kernel) rfl ?_
  refine sy_ci (s_CU_takeName (d := d - 1) hG (by omega) hs) (fun o1 h1 hC => jj_callU ok_CU_takeName ml_GR_61 sm_GR_CU_takeName rfl im_CU_takeName se_GR_CU_takeName_u (by decide +kernel) (hs.rcGR hG.2) rfl (by omega) (Nat.le_of_ble_eq_true rfl) hC) (by decide) rfl (fun _ _ _ q => ⟨rfl, rfl, _, q⟩) (fun v2 h _ hs => ?_)
  refine jj_iconst (n := 0) (v := 0) (by decide +kernel) (by decide) ?_
  refine sy_cv (s_CU_tell (d := d - 1) hG (by omega) hs) (fun o1 h1 hC => jj_callU ok_CU_tell ml_GR_64 sm_GR_CU_tell rfl im_CU_tell se_GR_CU_tell_u (by decide +kernel) (hs.rcGR hG.2) rfl (by omega) (Nat.le_of_ble_eq_true rfl) hC) rfl (fun _ _ _ q => ⟨rfl, rfl, _, q⟩) (fun h hs => ?_)
  refine jj_aload_n (j := 0) (by decide +kernel) rfl ?_
  refine jj_sipush (n := 276) (v := 276) (by decide +kernel) (by decide) ?_
  refine sy_cv (s_CU_expect (d := d - 1) hG (by omega) hs) (fun o1 h1 hC => jj_callU ok_CU_expect ml_GR_102 sm_GR_CU_expect rfl im_CU_expect se_GR_CU_expect_u (by decide +kernel) (hs.rcGR hG.2) rfl (by omega) (Nat.le_of_ble_eq_true rfl) hC) rfl (fun _ _ _ q => ⟨rfl, rfl, _, q⟩) (fun h hs => ?_)
  refine jj_aload_n (j := 0) (by decide +kernel) rfl ?_
  refine jj_iconst (n := 3) (v := 3) (by decide +kernel) (by decide) ?_
  refine sy_cv (s_GR_listOfAny (d := d - 1) (m := m) hG (by omega) (one3_all hG m) (by decide) (by omega) hs) (fun o1 h1 hC => jj_callV ok_GR_listOfAny ml_GR_159 im_GR_listOfAny se_GR_GR_listOfAny (by decide +kernel) (hs.rcGR hG.2) rfl (by omega) (Nat.le_of_ble_eq_true rfl) hC) rfl (fun _ _ _ q => ⟨rfl, rfl, _, q⟩) (fun h hs => ?_)
  refine jj_aload_n (j := 0) (by decide +kernel) rfl ?_
  refine jj_sipush (n := 260) (v := 260) (by decide +kernel) (by decide) ?_
  refine sy_cv (s_CU_expect (d := d - 1) hG (by omega) hs) (fun o1 h1 hC => jj_callU ok_CU_expect ml_GR_102 sm_GR_CU_expect rfl im_CU_expect se_GR_CU_expect_u (by decide +kernel) (hs.rcGR hG.2) rfl (by omega) (Nat.le_of_ble_eq_true rfl) hC) rfl (fun _ _ _ q => ⟨rfl, rfl, _, q⟩) (fun h hs => ?_)
  refine jj_aload_n (j := 0) (by decide +kernel) rfl ?_
  refine jj_iconst (n := 5) (v := 5) (by decide +kernel) (by decide) ?_
  refine sy_cv (s_GR_listOfAny (d := d - 1) (m := m) hG (by omega) (one5_all hG m) (by decide) (by omega) hs) (fun o1 h1 hC => jj_callV ok_GR_listOfAny ml_GR_159 im_GR_listOfAny se_GR_GR_listOfAny (by decide +kernel) (hs.rcGR hG.2) rfl (by omega) (Nat.le_of_ble_eq_true rfl) hC) rfl (fun _ _ _ q => ⟨rfl, rfl, _, q⟩) (fun h hs => ?_)
  refine jj_aload_n (j := 0) (by decide +kernel) rfl ?_
  refine jj_sipush (n := 267) (v := 267) (by decide +kernel) (by decide) ?_
  refine sy_cv (s_CU_expect (d := d - 1) hG (by omega) hs) (fun o1 h1 hC => jj_callU ok_CU_expect ml_GR_102 sm_GR_CU_expect rfl im_CU_expect se_GR_CU_expect_u (by decide +kernel) (hs.rcGR hG.2) rfl (by omega) (Nat.le_of_ble_eq_true rfl) hC) rfl (fun _ _ _ q => ⟨rfl, rfl, _, q⟩) (fun h hs => ?_)
  refine jj_aload_n (j := 0) (by decide +kernel) rfl ?_
  refine jj_sipush (n := 261) (v := 261) (by decide +kernel) (by decide) ?_
  refine sy_ci (s_CU_accept (d := d - 1) hG (by omega) hs) (fun o1 h1 hC => jj_callU ok_CU_accept ml_GR_80 sm_GR_CU_accept rfl im_CU_accept se_GR_CU_accept_u (by decide +kernel) (hs.rcGR hG.2) rfl (by omega) (Nat.le_of_ble_eq_true rfl) hC) (by decide) rfl (fun _ _ _ q => ⟨rfl, rfl, _, q⟩) (fun v3 h _ hs => ?_)
  refine jj_pop (by decide +kernel) rfl ?_
  refine jj_aload_n (j := 0) (by decide +kernel) rfl ?_
  refine jj_iload_n (j := 1) (by decide +kernel) rfl ?_
  refine sy_cv (s_GR_nameBehindEnd (d := d - 1) hG (by omega) hs) (fun o1 h1 hC => jj_callV ok_GR_nameBehindEnd ml_GR_109 im_GR_nameBehindEnd se_GR_GR_nameBehindEnd (by decide +kernel) (hs.rcGR hG.2) rfl (by omega) (Nat.le_of_ble_eq_true rfl) hC) rfl (fun _ _ _ q => ⟨rfl, rfl, _, q⟩) (fun h hs => ?_)
  refine jj_aload_n (j := 0) (by decide +kernel) rfl ?_
  refine jj_bipush (n := 59) (v := 59) (by decide +kernel) (by decide) ?_
  refine sy_cv (s_CU_expect (d := d - 1) hG (by omega) hs) (fun o1 h1 hC => jj_callU ok_CU_expect ml_GR_102 sm_GR_CU_expect rfl im_CU_expect se_GR_CU_expect_u (by decide +kernel) (hs.rcGR hG.2) rfl (by omega) (Nat.le_of_ble_eq_true rfl) hC) rfl (fun _ _ _ q => ⟨rfl, rfl, _, q⟩) (fun h hs => ?_)
  refine jj_aload_n (j := 0) (by decide +kernel) rfl ?_
  refine jj_bipush (n := 73) (v := 73) (by decide +kernel) (by decide) ?_
  refine jj_iload_n (j := 1) (by decide +kernel) rfl ?_
  refine jj_iconst (n := 3) (v := 3) (by decide +kernel) (by decide) ?_
  refine sy_cv (s_CU_tell (d := d - 1) hG (by omega) hs) (fun o1 h1 hC => jj_callU ok_CU_tell ml_GR_64 sm_GR_CU_tell rfl im_CU_tell se_GR_CU_tell_u (by decide +kernel) (hs.rcGR hG.2) rfl (by omega) (Nat.le_of_ble_eq_true rfl) hC) rfl (fun _ _ _ q => ⟨rfl, rfl, _, q⟩) (fun h hs => ?_)
  exact jj_vret (by decide +kernel) rfl ⟨rfl, hs⟩
theorem s_GR_body {l : Launch} {G : jj_G} {X : sy_X} {K o N d : Nat} {m : Nat} {h : jj_H} (hG : sy_G G X) (ho : o + m = 40) (hdd : 37 + 10 * m ≤ d) (hs : Sy G X K o N h) : jj_Q l G y_GR_body d [.ref (X.2.2.1 12)] h (sy_F 0 true G X K o N) :=
  jj_Q.of (by decide +kernel) (Nat.le_of_ble_eq_true rfl) (b_GR_body_0 hG ho hdd hs)
set_option maxRecDepth 100000 in
set_option maxHeartbeats 4000000 in
theorem b_GR_unit_0 {l : Launch} {G : jj_G} {X : sy_X} {K o N d : Nat} {m : Nat} {h : jj_H} (hG : sy_G G X) (ho : o + m = 40) (hdd : 26 + 10 * m ≤ d) (hs : Sy G X K o N h) : jj_P l G y_GR_unit d (sy_F 0 true G X K o N) 0 [some (.ref (X.2.2.1 12)), none] [] h := by
  refine jj_aload_n (j := 0) (by decide +kernel) rfl ?_
  refine jj_sipush (n := 305) (v := 305) (by decide +kernel) (by decide) ?_
  refine sy_cv (s_CU_expect (d := d - 1) hG (by omega) hs) (fun o1 h1 hC => jj_callU ok_CU_expect ml_GR_102 sm_GR_CU_expect rfl im_CU_expect se_GR_CU_expect_u (by decide +kernel) (hs.rcGR hG.2) rfl (by omega) (Nat.le_of_ble_eq_true rfl) hC) rfl (fun _ _ _ q => ⟨rfl, rfl, _, q⟩) (fun h hs => ?_)
  refine jj_aload_n (j := 0) (by decide +kernel) rfl ?_
  refine sy_ci (s_CU_takeName (d := d - 1) hG (by omega) hs) (fun o1 h1 hC => jj_callU ok_CU_takeName ml_GR_61 sm_GR_CU_takeName rfl im_CU_takeName se_GR_CU_takeName_u (by decide +kernel) (hs.rcGR hG.2) rfl (by omega) (Nat.le_of_ble_eq_true rfl) hC) (by decide) rfl (fun _ _ _ q => ⟨rfl, rfl, _, q⟩) (fun v1 h _ hs => ?_)
  refine jj_istore_n (j := 1) (by decide +kernel) (by decide) rfl ?_
  refine jj_aload_n (j := 0) (by decide +kernel) rfl ?_
  refine jj_sipush (n := 276) (v := 276) (by decide +kernel) (by decide) ?_
  refine sy_cv (s_CU_expect (d := d - 1) hG (by omega) hs) (fun o1 h1 hC => jj_callU ok_CU_expect ml_GR_102 sm_GR_CU_expect rfl im_CU_expect se_GR_CU_expect_u (by decide +kernel) (hs.rcGR hG.2) rfl (by omega) (Nat.le_of_ble_eq_true rfl) hC) rfl (fun _ _ _ q => ⟨rfl, rfl, _, q⟩) (fun h hs => ?_)
  refine jj_aload_n (j := 0) (by decide +kernel) rfl ?_
  refine jj_sipush (n := 271) (v := 271) (by decide +kernel) (by decide) ?_
  refine jj_iconst (n := 1) (v := 1) (by decide +kernel) (by decide) ?_
  refine sy_cv (s_GR_interfaceList (d := d - 1) (m := m) hG (by omega) (one1_all hG m) (by decide) (by omega) hs) (fun o1 h1 hC => jj_callV ok_GR_interfaceList ml_GR_105 im_GR_interfaceList se_GR_GR_interfaceList (by decide +kernel) (hs.rcGR hG.2) rfl (by omega) (Nat.le_of_ble_eq_true rfl) hC) rfl (fun _ _ _ q => ⟨rfl, rfl, _, q⟩) (fun h hs => ?_)
  refine jj_aload_n (j := 0) (by decide +kernel) rfl ?_
  refine jj_sipush (n := 291) (v := 291) (by decide +kernel) (by decide) ?_
  refine jj_iconst (n := 2) (v := 2) (by decide +kernel) (by decide) ?_
  refine sy_cv (s_GR_interfaceList (d := d - 1) (m := m) hG (by omega) (one2_all hG m) (by decide) (by omega) hs) (fun o1 h1 hC => jj_callV ok_GR_interfaceList ml_GR_105 im_GR_interfaceList se_GR_GR_interfaceList (by decide +kernel) (hs.rcGR hG.2) rfl (by omega) (Nat.le_of_ble_eq_true rfl) hC) rfl (fun _ _ _ q => ⟨rfl, rfl, _, q⟩) (fun h hs => ?_)
  refine jj_aload_n (j := 0) (by decide +kernel) rfl ?_
  refine jj_sipush (n := 267) (v := 267) (by decide +kernel) (by decide) ?_
  refine sy_cv (s_CU_expect (d := d - 1) hG (by omega) hs) (fun o1 h1 hC => jj_callU ok_CU_expect ml_GR_102 sm_GR_CU_expect rfl im_CU_expect se_GR_CU_expect_u (by decide +kernel) (hs.rcGR hG.2) rfl (by omega) (Nat.le_of_ble_eq_true rfl) hC) rfl (fun _ _ _ q => ⟨rfl, rfl, _, q⟩) (fun h hs => ?_)
  refine jj_aload_n (j := 0) (by decide +kernel) rfl ?_
  refine jj_sipush (n := 305) (v := 305) (by decide +kernel) (by decide) ?_
  refine sy_ci (s_CU_accept (d := d - 1) hG (by omega) hs) (fun o1 h1 hC => jj_callU ok_CU_accept ml_GR_80 sm_GR_CU_accept rfl im_CU_accept se_GR_CU_accept_u (by decide +kernel) (hs.rcGR hG.2) rfl (by omega) (Nat.le_of_ble_eq_true rfl) hC) (by decide) rfl (fun _ _ _ q => ⟨rfl, rfl, _, q⟩) (fun v2 h _ hs => ?_)
  refine jj_pop (by decide +kernel) rfl ?_
  refine jj_aload_n (j := 0) (by decide +kernel) rfl ?_
  refine jj_iload_n (j := 1) (by decide +kernel) rfl ?_
  refine sy_cv (s_GR_nameBehindEnd (d := d - 1) hG (by omega) hs) (fun o1 h1 hC => jj_callV ok_GR_nameBehindEnd ml_GR_109 im_GR_nameBehindEnd se_GR_GR_nameBehindEnd (by decide +kernel) (hs.rcGR hG.2) rfl (by omega) (Nat.le_of_ble_eq_true rfl) hC) rfl (fun _ _ _ q => ⟨rfl, rfl, _, q⟩) (fun h hs => ?_)
  refine jj_aload_n (j := 0) (by decide +kernel) rfl ?_
  refine jj_bipush (n := 59) (v := 59) (by decide +kernel) (by decide) ?_
  refine sy_cv (s_CU_expect (d := d - 1) hG (by omega) hs) (fun o1 h1 hC => jj_callU ok_CU_expect ml_GR_102 sm_GR_CU_expect rfl im_CU_expect se_GR_CU_expect_u (by decide +kernel) (hs.rcGR hG.2) rfl (by omega) (Nat.le_of_ble_eq_true rfl) hC) rfl (fun _ _ _ q => ⟨rfl, rfl, _, q⟩) (fun h hs => ?_)
  refine jj_aload_n (j := 0) (by decide +kernel) rfl ?_
  refine jj_bipush (n := 70) (v := 70) (by decide +kernel) (by decide) ?_
  refine jj_iload_n (j := 1) (by decide +kernel) rfl ?_
  refine jj_iconst (n := 2) (v := 2) (by decide +kernel) (by decide) ?_
  refine sy_cv (s_CU_tell (d := d - 1) hG (by omega) hs) (fun o1 h1 hC => jj_callU ok_CU_tell ml_GR_64 sm_GR_CU_tell rfl im_CU_tell se_GR_CU_tell_u (by decide +kernel) (hs.rcGR hG.2) rfl (by omega) (Nat.le_of_ble_eq_true rfl) hC) rfl (fun _ _ _ q => ⟨rfl, rfl, _, q⟩) (fun h hs => ?_)
  exact jj_vret (by decide +kernel) rfl ⟨rfl, hs⟩
theorem s_GR_unit {l : Launch} {G : jj_G} {X : sy_X} {K o N d : Nat} {m : Nat} {h : jj_H} (hG : sy_G G X) (ho : o + m = 40) (hdd : 26 + 10 * m ≤ d) (hs : Sy G X K o N h) : jj_Q l G y_GR_unit d [.ref (X.2.2.1 12)] h (sy_F 0 true G X K o N) :=
  jj_Q.of (by decide +kernel) (Nat.le_of_ble_eq_true rfl) (b_GR_unit_0 hG ho hdd hs)
set_option maxRecDepth 100000 in
set_option maxHeartbeats 4000000 in
theorem b_GR_unitOrBody_0 {l : Launch} {G : jj_G} {X : sy_X} {K o N d : Nat} {m : Nat} {h : jj_H} (hG : sy_G G X) (ho : o + m = 40) (hdd : 38 + 10 * m ≤ d) (hs : Sy G X K o N h) : jj_P l G y_GR_unitOrBody d (sy_F 0 true G X K o N) 0 [some (.ref (X.2.2.1 12))] [] h := by
  refine jj_aload_n (j := 0) (by decide +kernel) rfl ?_
  obtain ⟨ki, va, pl, fa, fp, ne, hg⟩ := hs.gr hG.2
  refine jj_getfield 3 ck_GR fl_GR_68 (by decide) (by decide +kernel) hg rfl ?_
  refine jj_sipush (n := 261) (v := 261) (by decide +kernel) (by decide) ?_
  refine jj_icmp_ne (off := 10) (tgt := 17) (by decide +kernel) (by decide) (fun c1 => ?_) (fun c1 => ?_)
  · skip
    refine jj_aload_n (j := 0) (by decide +kernel) rfl ?_
    refine sy_cv (s_GR_unit (d := d - 1) (m := m) hG (by omega) (by omega) hs) (fun o1 h1 hC => jj_callV ok_GR_unit ml_GR_99 im_GR_unit se_GR_GR_unit (by decide +kernel) (hs.rcGR hG.2) rfl (by omega) (Nat.le_of_ble_eq_true rfl) hC) rfl (fun _ _ _ q => ⟨rfl, rfl, _, q⟩) (fun h hs => ?_)
    exact jj_vret (by decide +kernel) rfl ⟨rfl, hs⟩
  · skip
    refine jj_aload_n (j := 0) (by decide +kernel) rfl ?_
    refine sy_cv (s_GR_body (d := d - 1) (m := m) hG (by omega) (by omega) hs) (fun o1 h1 hC => jj_callV ok_GR_body ml_GR_96 im_GR_body se_GR_GR_body (by decide +kernel) (hs.rcGR hG.2) rfl (by omega) (Nat.le_of_ble_eq_true rfl) hC) rfl (fun _ _ _ q => ⟨rfl, rfl, _, q⟩) (fun h hs => ?_)
    refine jj_goto (off := 7) (tgt := 21) (by decide +kernel) (by decide) ?_
    exact jj_vret (by decide +kernel) rfl ⟨rfl, hs⟩
theorem s_GR_unitOrBody {l : Launch} {G : jj_G} {X : sy_X} {K o N d : Nat} {m : Nat} {h : jj_H} (hG : sy_G G X) (ho : o + m = 40) (hdd : 38 + 10 * m ≤ d) (hs : Sy G X K o N h) : jj_Q l G y_GR_unitOrBody d [.ref (X.2.2.1 12)] h (sy_F 0 true G X K o N) :=
  jj_Q.of (by decide +kernel) (Nat.le_of_ble_eq_true rfl) (b_GR_unitOrBody_0 hG ho hdd hs)
set_option maxRecDepth 100000 in
set_option maxHeartbeats 4000000 in
theorem b_GR_one_0_0 {l : Launch} {G : jj_G} {X : sy_X} {K o N d : Nat} {m : Nat} {h : jj_H} (hG : sy_G G X) (ho : o + m = 40) (hdd : 39 + 10 * m ≤ d) (hs : Sy G X K o N h) : jj_P l G y_GR_one d (sy_F 1 true G X K o N) 0 [some (.ref (X.2.2.1 12)), some (.int 0)] [] h := by
  refine jj_iload_n (j := 1) (by decide +kernel) rfl ?_
  refine jj_tableIn (dflt := 130) (lo := 0) (hi := 12) (offs := #[73, 79, 84, 89, 89, 94, 100, 106, 112, 118, 124, 130, 67]) (len := 67) (off := 73) (tgt := 74) (by decide +kernel) (by decide) (by decide) (by decide) (by decide) ?_
  refine jj_aload_n (j := 0) (by decide +kernel) rfl ?_
  refine sy_cv (s_GR_unitOrBody (d := d - 1) (m := m) hG (by omega) (by omega) hs) (fun o1 h1 hC => jj_callV ok_GR_unitOrBody ml_GR_30 im_GR_unitOrBody se_GR_GR_unitOrBody (by decide +kernel) (hs.rcGR hG.2) rfl (by omega) (Nat.le_of_ble_eq_true rfl) hC) rfl (fun _ _ _ q => ⟨rfl, rfl, _, q⟩) (fun h hs => ?_)
  refine jj_iconst (n := 1) (v := 1) (by decide +kernel) (by decide) ?_
  exact jj_iret .int (by decide +kernel) rfl rfl ⟨Or.inl rfl, hs⟩
theorem s_GR_one_0 {l : Launch} {G : jj_G} {X : sy_X} {K o N d : Nat} {m : Nat} {h : jj_H} (hG : sy_G G X) (ho : o + m = 40) (hdd : 39 + 10 * m ≤ d) (hs : Sy G X K o N h) : jj_Q l G y_GR_one d [.ref (X.2.2.1 12), .int 0] h (sy_F 1 true G X K o N) :=
  jj_Q.of (by decide +kernel) (Nat.le_of_ble_eq_true rfl) (b_GR_one_0_0 hG ho hdd hs)
theorem one0_all {l : Launch} {G : jj_G} {X : sy_X} {N : Nat} (hG : sy_G G X) (m : Nat) : sy_One l G X N 0 39 m := fun K o h d ho hs hdd => s_GR_one_0 hG ho hdd hs
set_option maxRecDepth 100000 in
set_option maxHeartbeats 4000000 in
theorem b_GR_wholeFile_49 {l : Launch} {G : jj_G} {X : sy_X} {K o N d : Nat} {h : jj_H} {x1 x2 : Int32} (hG : sy_G G X) (hdd : 450 ≤ d) (hs : Sy G X K 0 N h) : jj_P l G y_GR_wholeFile d (sy_F 0 true G X K 0 N) 49 [some (.ref (X.2.2.1 12)), some (.int x1), some (.int x2)] [] h := by
  refine jj_aload_n (j := 0) (by decide +kernel) rfl ?_
  refine jj_bipush (n := 74) (v := 74) (by decide +kernel) (by decide) ?_
  refine jj_iconst (n := 0) (v := 0) (by decide +kernel) (by decide) ?_
  refine jj_iload_n (j := 1) (by decide +kernel) rfl ?_
  refine sy_cv (s_CU_tell (d := d - 1) hG (by omega) hs) (fun o1 h1 hC => jj_callU ok_CU_tell ml_GR_64 sm_GR_CU_tell rfl im_CU_tell se_GR_CU_tell_u (by decide +kernel) (hs.rcGR hG.2) rfl (by omega) (Nat.le_of_ble_eq_true rfl) hC) rfl (fun _ _ _ q => ⟨rfl, rfl, _, q⟩) (fun h hs => ?_)
  refine jj_aload_n (j := 0) (by decide +kernel) rfl ?_
  obtain ⟨ki, va, pl, fa, fp, ne, hg⟩ := hs.gr hG.2
  refine jj_getfield 3 ck_GR fl_GR_68 (by decide) (by decide +kernel) hg rfl ?_
  refine jj_sipush (n := 144) (v := 144) (by decide +kernel) (by decide) ?_
  refine jj_icmp_eq (off := 8) (tgt := 72) (by decide +kernel) (by decide) (fun c1 => ?_) (fun c1 => ?_)
  · skip
    exact jj_vret (by decide +kernel) rfl ⟨rfl, hs⟩
  · skip
    refine jj_aload_n (j := 0) (by decide +kernel) rfl ?_
    refine jj_iconst (n := 3) (v := 3) (by decide +kernel) (by decide) ?_
    exact sy_cx (s_CU_raise (d := d - 1) hG.2 hs (by omega)) (fun o1 h1 hC => jj_callU ok_CU_raise ml_GR_93 sm_GR_CU_raise rfl im_CU_raise se_GR_CU_raise_u (by decide +kernel) (hs.rcGR hG.2) rfl (by omega) (Nat.le_of_ble_eq_true rfl) hC) rfl (fun _ _ q => ⟨rfl, rfl, _, q⟩)
set_option maxRecDepth 100000 in
set_option maxHeartbeats 4000000 in
theorem b_GR_wholeFile_20 {l : Launch} {G : jj_G} {X : sy_X} {K o N d : Nat} (hG : sy_G G X) (hdd : 450 ≤ d) : ∀ (n : Nat) (x1 : Int32) (x2 : Int32) (h : jj_H), (2147483647 - x2.toInt).toNat < n → Sy G X K 0 N h → jj_P l G y_GR_wholeFile d (sy_F 0 true G X K 0 N) 20 [some (.ref (X.2.2.1 12)), some (.int x1), some (.int x2)] [] h := by
  intro n
  induction n with
  | zero => intro x1 x2 h hn; exact absurd hn (Nat.not_lt_zero _)
  | succ n ih =>
    intro x1 x2 h hn hs
    refine jj_iload_n (j := 2) (by decide +kernel) rfl ?_
    refine jj_sipush (n := 16385) (v := 16385) (by decide +kernel) (by decide) ?_
    refine jj_icmp_ge (off := 25) (tgt := 49) (by decide +kernel) (by decide) (fun c1 => ?_) (fun c1 => ?_)
    · skip
      exact jj_wk (js_s (js_s (js_s js_0))) (b_GR_wholeFile_49 (o := o) hG hdd hs)
    · skip
      have hdec := up_lt (Int32.not_le.mp c1) hn
      refine jj_aload_n (j := 0) (by decide +kernel) rfl ?_
      refine jj_iconst (n := 0) (v := 0) (by decide +kernel) (by decide) ?_
      refine sy_ci (s_GR_canBegin (d := d - 1) hG (by omega) hs) (fun o1 h1 hC => jj_callV ok_GR_canBegin ml_GR_72 im_GR_canBegin se_GR_GR_canBegin (by decide +kernel) (hs.rcGR hG.2) rfl (by omega) (Nat.le_of_ble_eq_true rfl) hC) (by decide) rfl (fun q => by cases q) (fun v2 h _ hs => ?_)
      refine jj_if_eq (off := 17) (tgt := 49) (by decide +kernel) (by decide) (fun c3 => ?_) (fun c3 => ?_)
      · skip
        exact jj_wk (js_s (js_s (js_s js_0))) (b_GR_wholeFile_49 (o := o) hG hdd hs)
      · skip
        refine jj_iload_n (j := 1) (by decide +kernel) rfl ?_
        refine jj_aload_n (j := 0) (by decide +kernel) rfl ?_
        refine jj_iconst (n := 0) (v := 0) (by decide +kernel) (by decide) ?_
        refine sy_ci ((one0_all hG 40) _ _ _ (d - 1) (by omega) hs (by omega)) (fun o1 h1 hC => jj_callV ok_GR_one ml_GR_76 im_GR_one se_GR_GR_one (by decide +kernel) (hs.rcGR hG.2) rfl (by omega) (Nat.le_of_ble_eq_true rfl) hC) (by decide) rfl (fun _ _ _ q => ⟨rfl, rfl, _, q⟩) (fun v4 h _ hs => ?_)
        refine jj_iadd (by decide +kernel) ?_
        refine jj_istore_n (j := 1) (by decide +kernel) (by decide) rfl ?_
        refine jj_iinc (i := 2) (n := 1) (by decide +kernel) rfl rfl (by decide) rfl ?_
        refine jj_goto (off := (-26)) (tgt := 20) (by decide +kernel) (by decide) ?_
        exact jj_wk (js_s (js_s (js_s js_0))) (ih _ _ _ hdec hs)
set_option maxRecDepth 100000 in
set_option maxHeartbeats 4000000 in
theorem b_GR_wholeFile_0 {l : Launch} {G : jj_G} {X : sy_X} {K o N d : Nat} {h : jj_H} (hG : sy_G G X) (hdd : 450 ≤ d) (hs : Sy G X K o N h) : jj_P l G y_GR_wholeFile d (sy_F 0 true G X K 0 N) 0 [some (.ref (X.2.2.1 12)), none, none] [] h := by
  refine jj_aload_n (j := 0) (by decide +kernel) rfl ?_
  obtain ⟨ki, va, pl, fa, fp, ne, hg⟩ := hs.gr hG.2
  refine jj_getfield 2 ck_GR fl_GR_23 (by decide) (by decide +kernel) hg rfl ?_
  refine jj_iconst (n := 0) (v := 0) (by decide +kernel) (by decide) ?_
  refine sy_cv (s_row_cut (d := d - 1) (t := 6) hs (by decide) (sy_o hG.2) (by decide)) (fun o1 h1 hC => jj_callV ok_IR_cutTo ml_GR_87 im_IR_cutTo se_IR_IR_cutTo (by decide +kernel) (hs.rcR (t := 6) (by decide) (sy_o hG.2)) rfl (by omega) (Nat.le_of_ble_eq_true rfl) hC) rfl (fun q => by cases q) (fun h hs => ?_)
  refine jj_aload_n (j := 0) (by decide +kernel) rfl ?_
  refine sy_cv (s_CU_begin (d := d - 1) hG (by omega) hs) (fun o1 h1 hC => jj_callU ok_CU_begin ml_GR_90 sm_GR_CU_begin rfl im_CU_begin se_GR_CU_begin_u (by decide +kernel) (hs.rcGR hG.2) rfl (by omega) (Nat.le_of_ble_eq_true rfl) hC) rfl (fun _ _ _ q => ⟨rfl, rfl, _, q⟩) (fun h hs => ?_)
  refine jj_aload_n (j := 0) (by decide +kernel) rfl ?_
  refine jj_iconst (n := 0) (v := 0) (by decide +kernel) (by decide) ?_
  refine sy_ci ((one0_all hG 40) _ _ _ (d - 1) (by omega) hs (by omega)) (fun o1 h1 hC => jj_callV ok_GR_one ml_GR_76 im_GR_one se_GR_GR_one (by decide +kernel) (hs.rcGR hG.2) rfl (by omega) (Nat.le_of_ble_eq_true rfl) hC) (by decide) rfl (fun _ _ _ q => ⟨rfl, rfl, _, q⟩) (fun v1 h _ hs => ?_)
  refine jj_istore_n (j := 1) (by decide +kernel) (by decide) rfl ?_
  refine jj_iconst (n := 0) (v := 0) (by decide +kernel) (by decide) ?_
  refine jj_istore_n (j := 2) (by decide +kernel) (by decide) rfl ?_
  exact jj_wk (js_s (js_s (js_s js_0))) (b_GR_wholeFile_20 (o := o) hG hdd _ _ _ _ (Nat.lt_succ_self _) hs)
theorem s_GR_wholeFile {l : Launch} {G : jj_G} {X : sy_X} {K o N d : Nat} {h : jj_H} (hG : sy_G G X) (hdd : 450 ≤ d) (hs : Sy G X K o N h) : jj_Q l G y_GR_wholeFile d [.ref (X.2.2.1 12)] h (sy_F 0 true G X K 0 N) :=
  jj_Q.of (by decide +kernel) (Nat.le_of_ble_eq_true rfl) (b_GR_wholeFile_0 hG hdd hs)
set_option maxRecDepth 100000 in
set_option maxHeartbeats 4000000 in
theorem b_GR_one_12_0 {l : Launch} {G : jj_G} {X : sy_X} {K o N d : Nat} {h : jj_H} (hG : sy_G G X) (hdd : 460 ≤ d) (hs : Sy G X K o N h) : jj_P l G y_GR_one d (sy_F 1 true G X K 0 N) 0 [some (.ref (X.2.2.1 12)), some (.int 12)] [] h := by
  refine jj_iload_n (j := 1) (by decide +kernel) rfl ?_
  refine jj_tableIn (dflt := 130) (lo := 0) (hi := 12) (offs := #[73, 79, 84, 89, 89, 94, 100, 106, 112, 118, 124, 130, 67]) (len := 67) (off := 67) (tgt := 68) (by decide +kernel) (by decide) (by decide) (by decide) (by decide) ?_
  refine jj_aload_n (j := 0) (by decide +kernel) rfl ?_
  refine sy_cv (s_GR_wholeFile (d := d - 1) hG (by omega) hs) (fun o1 h1 hC => jj_callV ok_GR_wholeFile ml_GR_26 im_GR_wholeFile se_GR_GR_wholeFile (by decide +kernel) (hs.rcGR hG.2) rfl (by omega) (Nat.le_of_ble_eq_true rfl) hC) rfl (fun _ _ _ q => ⟨rfl, rfl, _, q⟩) (fun h hs => ?_)
  refine jj_iconst (n := 1) (v := 1) (by decide +kernel) (by decide) ?_
  exact jj_iret .int (by decide +kernel) rfl rfl ⟨Or.inl rfl, hs⟩
theorem s_GR_one_12 {l : Launch} {G : jj_G} {X : sy_X} {K o N d : Nat} {h : jj_H} (hG : sy_G G X) (hdd : 460 ≤ d) (hs : Sy G X K o N h) : jj_Q l G y_GR_one d [.ref (X.2.2.1 12), .int 12] h (sy_F 1 true G X K 0 N) :=
  jj_Q.of (by decide +kernel) (Nat.le_of_ble_eq_true rfl) (b_GR_one_12_0 hG hdd hs)
