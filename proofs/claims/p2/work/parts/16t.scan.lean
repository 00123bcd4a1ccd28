set_option maxRecDepth 100000 in
set_option maxHeartbeats 4000000 in
theorem b_ST_signOf_0 {l : Launch} {G : jj_G} {X : sy_X} {K o N d : Nat} {x0 : Int32} {h : jj_H} (hG : sy_G G X) (hdd : 8 ≤ d) (hs : Sy G X K o N h) : jj_P l G y_ST_signOf d (sy_F 1 false G X K o N) 0 [some (.int x0)] [] h := by
  refine jj_iload_n (j := 0) (by decide +kernel) rfl ?_
  refine jj_if_ge (off := 7) (tgt := 8) (by decide +kernel) (by decide) (fun c1 => ?_) (fun c1 => ?_)
  · skip
    refine jj_ldcS (index := 114) (i := 4) (tx := "ux01zwlh-") (by decide +kernel) (List.mem_of_getElem? (i := 4) rfl) ?_
    refine jj_iload_n (j := 0) (by decide +kernel) rfl ?_
    refine sy_ci (sy_pure (thr := false) hs (c_ST_small (d := d - 1))) (fun o1 h1 hC => jj_callS ok_ST_small ml_ST_116 st_ST_small (by decide +kernel) rfl (by omega) (Nat.le_of_ble_eq_true rfl) hC) (by decide) rfl (fun q => by cases q) (fun v2 h _ hs => ?_)
    refine jj_i2c (by decide +kernel) ?_
    refine sy_ci (s_JS_indexOf (d := d - 1) (i := 4) hG.1 (by decide) (by omega) hs) (fun o1 h1 hC => jj_callV ok_JS_indexOf ml_ST_119 im_JS_indexOf se_JS_JS_indexOf (by decide +kernel) (jj_rcv.str (by decide)) rfl (by omega) (Nat.le_of_ble_eq_true rfl) hC) (by decide) rfl (fun q => by cases q) (fun v3 h _ hs => ?_)
    exact jj_iret .int (by decide +kernel) rfl rfl ⟨Or.inl rfl, hs⟩
  · skip
    refine jj_iconst (n := (-1)) (v := (-1)) (by decide +kernel) (by decide) ?_
    refine jj_goto (off := 13) (tgt := 18) (by decide +kernel) (by decide) ?_
    exact jj_iret .int (by decide +kernel) rfl rfl ⟨Or.inl rfl, hs⟩
theorem s_ST_signOf {l : Launch} {G : jj_G} {X : sy_X} {K o N d : Nat} {x0 : Int32} {h : jj_H} (hG : sy_G G X) (hdd : 8 ≤ d) (hs : Sy G X K o N h) : jj_Q l G y_ST_signOf d [.int x0] h (sy_F 1 false G X K o N) :=
  jj_Q.of (by decide +kernel) (Nat.le_of_ble_eq_true rfl) (b_ST_signOf_0 hG hdd hs)
set_option maxRecDepth 100000 in
set_option maxHeartbeats 4000000 in
theorem b_SC_endWith_0 {l : Launch} {G : jj_G} {X : sy_X} {K o N d : Nat} {x1 x2 : Int32} {h : jj_H} (hG : sy_G G X) (hdd : 6 ≤ d) (hs : Sy G X K o N h) : jj_P l G y_SC_endWith d (sy_F 1 false G X K o N) 0 [some (.ref (X.2.2.1 11)), some (.int x1), some (.int x2)] [] h := by
  refine jj_aload_n (j := 0) (by decide +kernel) rfl ?_
  obtain ⟨bn, hg⟩ := hs.sc hG.2
  refine jj_getfield 2 ck_SC fl_SC_19 (by decide) (by decide +kernel) hg rfl ?_
  refine jj_sipush (n := 145) (v := 145) (by decide +kernel) (by decide) ?_
  refine jj_iload_n (j := 1) (by decide +kernel) rfl ?_
  refine jj_iload_n (j := 2) (by decide +kernel) rfl ?_
  refine sy_cv (s_tab_add (d := d - 1) (t := 8) hG.1 hs (by decide) (by decide) (sy_o hG.2) (by omega)) (fun o1 h1 hC => jj_callV ok_TB_add ml_SC_53 im_TB_add se_TB_TB_add (by decide +kernel) (hs.rcT (t := 8) (by decide) (by decide) (sy_o hG.2)) rfl (by omega) (Nat.le_of_ble_eq_true rfl) hC) rfl (fun q => by cases q) (fun h hs => ?_)
  refine jj_iconst (n := (-1)) (v := (-1)) (by decide +kernel) (by decide) ?_
  exact jj_iret .int (by decide +kernel) rfl rfl ⟨Or.inl rfl, hs⟩
theorem s_SC_endWith {l : Launch} {G : jj_G} {X : sy_X} {K o N d : Nat} {x1 x2 : Int32} {h : jj_H} (hG : sy_G G X) (hdd : 6 ≤ d) (hs : Sy G X K o N h) : jj_Q l G y_SC_endWith d [.ref (X.2.2.1 11), .int x1, .int x2] h (sy_F 1 false G X K o N) :=
  jj_Q.of (by decide +kernel) (Nat.le_of_ble_eq_true rfl) (b_SC_endWith_0 hG hdd hs)
set_option maxRecDepth 100000 in
set_option maxHeartbeats 4000000 in
theorem b_SC_behindBlanks_64 {l : Launch} {G : jj_G} {X : sy_X} {K o N d : Nat} {x1 : Int32} {h : jj_H} {x2 x3 x4 : Int32} (hG : sy_G G X) (hdd : 1 ≤ d) {n : Nat} (ih : ∀ (x2 : Int32) (x3 : Int32) (h : jj_H), (2147483647 - x3.toInt).toNat < n → Sy G X K o N h → jj_P l G y_SC_behindBlanks d (sy_F 1 false G X K o N) 4 [some (.ref (X.2.2.1 11)), some (.int x1), some (.int x2), some (.int x3), none] [] h) (hdec : (2147483647 - (x3 + Int32.ofInt 1).toInt).toNat < n) (hs : Sy G X K o N h) : jj_P l G y_SC_behindBlanks d (sy_F 1 false G X K o N) 64 [some (.ref (X.2.2.1 11)), some (.int x1), some (.int x2), some (.int x3), some (.int x4)] [] h := by
  refine jj_iload_n (j := 2) (by decide +kernel) rfl ?_
  refine jj_if_ne (off := 19) (tgt := 84) (by decide +kernel) (by decide) (fun c1 => ?_) (fun c1 => ?_)
  · skip
    refine jj_iinc (i := 3) (n := 1) (by decide +kernel) rfl rfl (by decide) rfl ?_
    refine jj_goto (off := (-83)) (tgt := 4) (by decide +kernel) (by decide) ?_
    exact jj_wk (js_s (js_s (js_s (js_s (js_n js_0))))) (ih _ _ _ hdec hs)
  · skip
    refine jj_iload (i := 4) (by decide +kernel) rfl ?_
    refine jj_bipush (n := 32) (v := 32) (by decide +kernel) (by decide) ?_
    refine jj_icmp_eq (off := 12) (tgt := 84) (by decide +kernel) (by decide) (fun c2 => ?_) (fun c2 => ?_)
    · skip
      refine jj_iinc (i := 3) (n := 1) (by decide +kernel) rfl rfl (by decide) rfl ?_
      refine jj_goto (off := (-83)) (tgt := 4) (by decide +kernel) (by decide) ?_
      exact jj_wk (js_s (js_s (js_s (js_s (js_n js_0))))) (ih _ _ _ hdec hs)
    · skip
      refine jj_iload (i := 4) (by decide +kernel) rfl ?_
      refine jj_bipush (n := 9) (v := 9) (by decide +kernel) (by decide) ?_
      refine jj_icmp_eq (off := 5) (tgt := 84) (by decide +kernel) (by decide) (fun c3 => ?_) (fun c3 => ?_)
      · skip
        refine jj_iinc (i := 3) (n := 1) (by decide +kernel) rfl rfl (by decide) rfl ?_
        refine jj_goto (off := (-83)) (tgt := 4) (by decide +kernel) (by decide) ?_
        exact jj_wk (js_s (js_s (js_s (js_s (js_n js_0))))) (ih _ _ _ hdec hs)
      · skip
        refine jj_iload_n (j := 3) (by decide +kernel) rfl ?_
        exact jj_iret .int (by decide +kernel) rfl rfl ⟨Or.inl rfl, hs⟩
set_option maxRecDepth 100000 in
set_option maxHeartbeats 4000000 in
theorem b_SC_behindBlanks_4 {l : Launch} {G : jj_G} {X : sy_X} {K o N d : Nat} {x1 : Int32} (hG : sy_G G X) (hdd : 1 ≤ d) : ∀ (n : Nat) (x2 : Int32) (x3 : Int32) (h : jj_H), (2147483647 - x3.toInt).toNat < n → Sy G X K o N h → jj_P l G y_SC_behindBlanks d (sy_F 1 false G X K o N) 4 [some (.ref (X.2.2.1 11)), some (.int x1), some (.int x2), some (.int x3), none] [] h := by
  intro n
  induction n with
  | zero => intro x2 x3 h hn; exact absurd hn (Nat.not_lt_zero _)
  | succ n ih =>
    intro x2 x3 h hn hs
    refine jj_iload_n (j := 3) (by decide +kernel) rfl ?_
    refine jj_aload_n (j := 0) (by decide +kernel) rfl ?_
    obtain ⟨bn, hg⟩ := hs.sc hG.2
    refine jj_getfield 0 ck_SC fl_SC_9 (by decide) (by decide +kernel) hg rfl ?_
    refine sy_ci (s_row_size (d := d - 1) (t := 0) hs (by decide) (sy_o hG.2)) (fun o1 h1 hC => jj_callV ok_IR_size ml_SC_44 im_IR_size se_IR_IR_size (by decide +kernel) (hs.rcR (t := 0) (by decide) (sy_o hG.2)) rfl (by omega) (Nat.le_of_ble_eq_true rfl) hC) (by decide) rfl (fun q => by cases q) (fun v1 h hv1 hs => ?_)
    refine jj_icmp_ge (off := 78) (tgt := 90) (by decide +kernel) (by decide) (fun c2 => ?_) (fun c2 => ?_)
    · skip
      refine jj_aload_n (j := 0) (by decide +kernel) rfl ?_
      obtain ⟨bn, hg⟩ := hs.sc hG.2
      refine jj_getfield 0 ck_SC fl_SC_9 (by decide) (by decide +kernel) hg rfl ?_
      refine sy_ci (s_row_size (d := d - 1) (t := 0) hs (by decide) (sy_o hG.2)) (fun o1 h1 hC => jj_callV ok_IR_size ml_SC_44 im_IR_size se_IR_IR_size (by decide +kernel) (hs.rcR (t := 0) (by decide) (sy_o hG.2)) rfl (by omega) (Nat.le_of_ble_eq_true rfl) hC) (by decide) rfl (fun q => by cases q) (fun v3 h hv3 hs => ?_)
      exact jj_iret .int (by decide +kernel) rfl rfl ⟨Or.inl rfl, hs⟩
    · skip
      have hdec := up_lt (Int32.not_le.mp c2) hn
      refine jj_aload_n (j := 0) (by decide +kernel) rfl ?_
      obtain ⟨bn, hg⟩ := hs.sc hG.2
      refine jj_getfield 0 ck_SC fl_SC_9 (by decide) (by decide +kernel) hg rfl ?_
      refine jj_iload_n (j := 3) (by decide +kernel) rfl ?_
      refine sy_ci (s_row_at (d := d - 1) (t := 0) hG.1 hs (by decide) (sy_o hG.2)) (fun o1 h1 hC => jj_callV ok_IR_at ml_SC_50 im_IR_at se_IR_IR_at (by decide +kernel) (hs.rcR (t := 0) (by decide) (sy_o hG.2)) rfl (by omega) (Nat.le_of_ble_eq_true rfl) hC) (by decide) rfl (fun q => by cases q) (fun v4 h _ hs => ?_)
      refine jj_istore (i := 4) (by decide +kernel) (by decide) rfl ?_
      refine jj_iload (i := 4) (by decide +kernel) rfl ?_
      refine jj_bipush (n := 10) (v := 10) (by decide +kernel) (by decide) ?_
      refine jj_icmp_ne (off := 8) (tgt := 37) (by decide +kernel) (by decide) (fun c5 => ?_) (fun c5 => ?_)
      · skip
        refine jj_iload (i := 4) (by decide +kernel) rfl ?_
        refine jj_bipush (n := 45) (v := 45) (by decide +kernel) (by decide) ?_
        refine jj_icmp_ne (off := 23) (tgt := 64) (by decide +kernel) (by decide) (fun c6 => ?_) (fun c6 => ?_)
        · skip
          exact jj_wk (js_s (js_s (js_s (js_s (js_s js_0))))) (b_SC_behindBlanks_64 hG hdd ih hdec hs)
        · skip
          refine jj_aload_n (j := 0) (by decide +kernel) rfl ?_
          obtain ⟨bn, hg⟩ := hs.sc hG.2
          refine jj_getfield 0 ck_SC fl_SC_9 (by decide) (by decide +kernel) hg rfl ?_
          refine jj_iload_n (j := 3) (by decide +kernel) rfl ?_
          refine jj_iconst (n := 1) (v := 1) (by decide +kernel) (by decide) ?_
          refine jj_iadd (by decide +kernel) ?_
          refine sy_ci (s_row_at (d := d - 1) (t := 0) hG.1 hs (by decide) (sy_o hG.2)) (fun o1 h1 hC => jj_callV ok_IR_at ml_SC_50 im_IR_at se_IR_IR_at (by decide +kernel) (hs.rcR (t := 0) (by decide) (sy_o hG.2)) rfl (by omega) (Nat.le_of_ble_eq_true rfl) hC) (by decide) rfl (fun q => by cases q) (fun v7 h _ hs => ?_)
          refine jj_bipush (n := 45) (v := 45) (by decide +kernel) (by decide) ?_
          refine jj_icmp_ne (off := 8) (tgt := 64) (by decide +kernel) (by decide) (fun c8 => ?_) (fun c8 => ?_)
          · skip
            exact jj_wk (js_s (js_s (js_s (js_s (js_s js_0))))) (b_SC_behindBlanks_64 hG hdd ih hdec hs)
          · skip
            refine jj_iconst (n := 1) (v := 1) (by decide +kernel) (by decide) ?_
            refine jj_istore_n (j := 2) (by decide +kernel) (by decide) rfl ?_
            refine jj_goto (off := 23) (tgt := 84) (by decide +kernel) (by decide) ?_
            refine jj_iinc (i := 3) (n := 1) (by decide +kernel) rfl rfl (by decide) rfl ?_
            refine jj_goto (off := (-83)) (tgt := 4) (by decide +kernel) (by decide) ?_
            exact jj_wk (js_s (js_s (js_s (js_s (js_n js_0))))) (ih _ _ _ hdec hs)
      · skip
        refine jj_iconst (n := 0) (v := 0) (by decide +kernel) (by decide) ?_
        refine jj_istore_n (j := 2) (by decide +kernel) (by decide) rfl ?_
        refine jj_goto (off := 50) (tgt := 84) (by decide +kernel) (by decide) ?_
        refine jj_iinc (i := 3) (n := 1) (by decide +kernel) rfl rfl (by decide) rfl ?_
        refine jj_goto (off := (-83)) (tgt := 4) (by decide +kernel) (by decide) ?_
        exact jj_wk (js_s (js_s (js_s (js_s (js_n js_0))))) (ih _ _ _ hdec hs)
set_option maxRecDepth 100000 in
set_option maxHeartbeats 4000000 in
theorem b_SC_behindBlanks_0 {l : Launch} {G : jj_G} {X : sy_X} {K o N d : Nat} {x1 : Int32} {h : jj_H} (hG : sy_G G X) (hdd : 1 ≤ d) (hs : Sy G X K o N h) : jj_P l G y_SC_behindBlanks d (sy_F 1 false G X K o N) 0 [some (.ref (X.2.2.1 11)), some (.int x1), none, none, none] [] h := by
  refine jj_iconst (n := 0) (v := 0) (by decide +kernel) (by decide) ?_
  refine jj_istore_n (j := 2) (by decide +kernel) (by decide) rfl ?_
  refine jj_iload_n (j := 1) (by decide +kernel) rfl ?_
  refine jj_istore_n (j := 3) (by decide +kernel) (by decide) rfl ?_
  exact jj_wk (js_s (js_s (js_s (js_s (js_n js_0))))) (b_SC_behindBlanks_4 hG hdd _ _ _ _ (Nat.lt_succ_self _) hs)
theorem s_SC_behindBlanks {l : Launch} {G : jj_G} {X : sy_X} {K o N d : Nat} {x1 : Int32} {h : jj_H} (hG : sy_G G X) (hdd : 1 ≤ d) (hs : Sy G X K o N h) : jj_Q l G y_SC_behindBlanks d [.ref (X.2.2.1 11), .int x1] h (sy_F 1 false G X K o N) :=
  jj_Q.of (by decide +kernel) (Nat.le_of_ble_eq_true rfl) (b_SC_behindBlanks_0 hG hdd hs)
set_option maxRecDepth 100000 in
set_option maxHeartbeats 4000000 in
theorem b_SC_goesOnName_26 {l : Launch} {G : jj_G} {X : sy_X} {K o N d : Nat} {x1 : Int32} {h : jj_H} {x2 : Int32} (hG : sy_G G X) (hdd : 2 ≤ d) (hs : Sy G X K o N h) : jj_P l G y_SC_goesOnName d (sy_F 2 false G X K o N) 26 [some (.ref (X.2.2.1 11)), some (.int x1), some (.int x2)] [] h := by
  refine jj_iload_n (j := 2) (by decide +kernel) rfl ?_
  refine sy_ci (sy_pure (thr := false) hs (c_ST_isLetter (d := d - 1))) (fun o1 h1 hC => jj_callSN (index := 57) (host := "SourceTree") ok_ST_isLetter (List.mem_of_getElem? (i := 0) rfl) st_ST_isLetter (by decide +kernel) rfl (by omega) (Nat.le_of_ble_eq_true rfl) hC) (by decide) rfl (fun q => by cases q) (fun v1 h _ hs => ?_)
  refine jj_if_ne (off := 10) (tgt := 40) (by decide +kernel) (by decide) (fun c2 => ?_) (fun c2 => ?_)
  · skip
    refine jj_iconst (n := 1) (v := 1) (by decide +kernel) (by decide) ?_
    refine jj_goto (off := 4) (tgt := 45) (by decide +kernel) (by decide) ?_
    exact jj_iret .boolean (by decide +kernel) rfl rfl ⟨Or.inr (Or.inl ⟨rfl, Or.inr rfl⟩), hs⟩
  · skip
    refine jj_iload_n (j := 2) (by decide +kernel) rfl ?_
    refine sy_ci (sy_pure (thr := false) hs (c_ST_isDigit (d := d - 1))) (fun o1 h1 hC => jj_callSN (index := 64) (host := "SourceTree") ok_ST_isDigit (List.mem_of_getElem? (i := 1) rfl) st_ST_isDigit (by decide +kernel) rfl (by omega) (Nat.le_of_ble_eq_true rfl) hC) (by decide) rfl (fun q => by cases q) (fun v3 h _ hs => ?_)
    refine jj_if_eq (off := 7) (tgt := 44) (by decide +kernel) (by decide) (fun c4 => ?_) (fun c4 => ?_)
    · skip
      refine jj_iconst (n := 0) (v := 0) (by decide +kernel) (by decide) ?_
      exact jj_iret .boolean (by decide +kernel) rfl rfl ⟨Or.inr (Or.inl ⟨rfl, Or.inl rfl⟩), hs⟩
    · skip
      refine jj_iconst (n := 1) (v := 1) (by decide +kernel) (by decide) ?_
      refine jj_goto (off := 4) (tgt := 45) (by decide +kernel) (by decide) ?_
      exact jj_iret .boolean (by decide +kernel) rfl rfl ⟨Or.inr (Or.inl ⟨rfl, Or.inr rfl⟩), hs⟩
set_option maxRecDepth 100000 in
set_option maxHeartbeats 4000000 in
theorem b_SC_goesOnName_0 {l : Launch} {G : jj_G} {X : sy_X} {K o N d : Nat} {x1 : Int32} {h : jj_H} (hG : sy_G G X) (hdd : 2 ≤ d) (hs : Sy G X K o N h) : jj_P l G y_SC_goesOnName d (sy_F 2 false G X K o N) 0 [some (.ref (X.2.2.1 11)), some (.int x1), none] [] h := by
  refine jj_aload_n (j := 0) (by decide +kernel) rfl ?_
  obtain ⟨bn, hg⟩ := hs.sc hG.2
  refine jj_getfield 0 ck_SC fl_SC_9 (by decide) (by decide +kernel) hg rfl ?_
  refine jj_iload_n (j := 1) (by decide +kernel) rfl ?_
  refine sy_ci (s_row_at (d := d - 1) (t := 0) hG.1 hs (by decide) (sy_o hG.2)) (fun o1 h1 hC => jj_callV ok_IR_at ml_SC_50 im_IR_at se_IR_IR_at (by decide +kernel) (hs.rcR (t := 0) (by decide) (sy_o hG.2)) rfl (by omega) (Nat.le_of_ble_eq_true rfl) hC) (by decide) rfl (fun q => by cases q) (fun v1 h _ hs => ?_)
  refine jj_istore_n (j := 2) (by decide +kernel) (by decide) rfl ?_
  refine jj_iload_n (j := 2) (by decide +kernel) rfl ?_
  refine jj_bipush (n := 95) (v := 95) (by decide +kernel) (by decide) ?_
  refine jj_icmp_ne (off := 14) (tgt := 26) (by decide +kernel) (by decide) (fun c2 => ?_) (fun c2 => ?_)
  · skip
    exact jj_wk (js_s (js_s (js_s js_0))) (b_SC_goesOnName_26 hG hdd hs)
  · skip
    refine jj_aload_n (j := 0) (by decide +kernel) rfl ?_
    obtain ⟨bn, hg⟩ := hs.sc hG.2
    refine jj_getfield 0 ck_SC fl_SC_9 (by decide) (by decide +kernel) hg rfl ?_
    refine jj_iload_n (j := 1) (by decide +kernel) rfl ?_
    refine jj_iconst (n := 1) (v := 1) (by decide +kernel) (by decide) ?_
    refine jj_iadd (by decide +kernel) ?_
    refine sy_ci (s_row_at (d := d - 1) (t := 0) hG.1 hs (by decide) (sy_o hG.2)) (fun o1 h1 hC => jj_callV ok_IR_at ml_SC_50 im_IR_at se_IR_IR_at (by decide +kernel) (hs.rcR (t := 0) (by decide) (sy_o hG.2)) rfl (by omega) (Nat.le_of_ble_eq_true rfl) hC) (by decide) rfl (fun q => by cases q) (fun v3 h _ hs => ?_)
    refine jj_istore_n (j := 2) (by decide +kernel) (by decide) rfl ?_
    exact jj_wk (js_s (js_s (js_s js_0))) (b_SC_goesOnName_26 hG hdd hs)
theorem s_SC_goesOnName {l : Launch} {G : jj_G} {X : sy_X} {K o N d : Nat} {x1 : Int32} {h : jj_H} (hG : sy_G G X) (hdd : 2 ≤ d) (hs : Sy G X K o N h) : jj_Q l G y_SC_goesOnName d [.ref (X.2.2.1 11), .int x1] h (sy_F 2 false G X K o N) :=
  jj_Q.of (by decide +kernel) (Nat.le_of_ble_eq_true rfl) (b_SC_goesOnName_0 hG hdd hs)
set_option maxRecDepth 100000 in
set_option maxHeartbeats 4000000 in
theorem b_SC_scanName_45 {l : Launch} {G : jj_G} {X : sy_X} {K o N d : Nat} {x1 : Int32} {h : jj_H} {x2 : Int32} (hG : sy_G G X) (hdd : 7 ≤ d) (hs : Sy G X K o N h) : jj_P l G y_SC_scanName d (sy_F 1 false G X K o N) 45 [some (.ref (X.2.2.1 11)), some (.int x1), some (.int x2), none] [] h := by
  refine jj_aload_n (j := 0) (by decide +kernel) rfl ?_
  obtain ⟨bn, hg⟩ := hs.sc hG.2
  refine jj_getfield 1 ck_SC fl_SC_15 (by decide) (by decide +kernel) hg rfl ?_
  refine sy_ci (s_SP_settle (d := d - 1) hG.1 (by omega) hs) (fun o1 h1 hC => jj_callV ok_SP_settle ml_SC_89 im_SP_settle se_SP_SP_settle (by decide +kernel) hs.rcSP rfl (by omega) (Nat.le_of_ble_eq_true rfl) hC) (by decide) rfl (fun q => by cases q) (fun v1 h _ hs => ?_)
  refine jj_istore_n (j := 3) (by decide +kernel) (by decide) rfl ?_
  refine jj_iload_n (j := 3) (by decide +kernel) rfl ?_
  refine jj_bipush (n := 57) (v := 57) (by decide +kernel) (by decide) ?_
  refine jj_icmp_ge (off := 19) (tgt := 75) (by decide +kernel) (by decide) (fun c2 => ?_) (fun c2 => ?_)
  · skip
    refine jj_iload_n (j := 3) (by decide +kernel) rfl ?_
    refine jj_bipush (n := 57) (v := 57) (by decide +kernel) (by decide) ?_
    refine jj_isub (by decide +kernel) ?_
    refine jj_sipush (n := 1000) (v := 1000) (by decide +kernel) (by decide) ?_
    refine jj_icmp_lt (off := 10) (tgt := 92) (by decide +kernel) (by decide) (fun c3 => ?_) (fun c3 => ?_)
    · skip
      refine jj_aload_n (j := 0) (by decide +kernel) rfl ?_
      obtain ⟨bn, hg⟩ := hs.sc hG.2
      refine jj_getfield 2 ck_SC fl_SC_19 (by decide) (by decide +kernel) hg rfl ?_
      refine jj_sipush (n := 140) (v := 140) (by decide +kernel) (by decide) ?_
      refine jj_iload_n (j := 3) (by decide +kernel) rfl ?_
      refine jj_bipush (n := 57) (v := 57) (by decide +kernel) (by decide) ?_
      refine jj_isub (by decide +kernel) ?_
      refine jj_iload_n (j := 1) (by decide +kernel) rfl ?_
      refine sy_cv (s_tab_add (d := d - 1) (t := 8) hG.1 hs (by decide) (by decide) (sy_o hG.2) (by omega)) (fun o1 h1 hC => jj_callV ok_TB_add ml_SC_53 im_TB_add se_TB_TB_add (by decide +kernel) (hs.rcT (t := 8) (by decide) (by decide) (sy_o hG.2)) rfl (by omega) (Nat.le_of_ble_eq_true rfl) hC) rfl (fun q => by cases q) (fun h hs => ?_)
      refine jj_aload_n (j := 0) (by decide +kernel) rfl ?_
      refine jj_iload_n (j := 2) (by decide +kernel) rfl ?_
      refine sy_putSC hs hG.2 fl_SC_23 (by decide +kernel) (fun h hs => ?_)
      refine jj_iload_n (j := 2) (by decide +kernel) rfl ?_
      exact jj_iret .int (by decide +kernel) rfl rfl ⟨Or.inl rfl, hs⟩
    · skip
      refine jj_aload_n (j := 0) (by decide +kernel) rfl ?_
      refine jj_iconst (n := 4) (v := 4) (by decide +kernel) (by decide) ?_
      refine jj_iload_n (j := 1) (by decide +kernel) rfl ?_
      refine sy_ci (s_SC_endWith (d := d - 1) hG (by omega) hs) (fun o1 h1 hC => jj_callV ok_SC_endWith ml_SC_92 im_SC_endWith se_SC_SC_endWith (by decide +kernel) (hs.rcSC hG.2) rfl (by omega) (Nat.le_of_ble_eq_true rfl) hC) (by decide) rfl (fun q => by cases q) (fun v4 h _ hs => ?_)
      exact jj_iret .int (by decide +kernel) rfl rfl ⟨Or.inl rfl, hs⟩
  · skip
    refine jj_aload_n (j := 0) (by decide +kernel) rfl ?_
    obtain ⟨bn, hg⟩ := hs.sc hG.2
    refine jj_getfield 2 ck_SC fl_SC_19 (by decide) (by decide +kernel) hg rfl ?_
    refine jj_sipush (n := 256) (v := 256) (by decide +kernel) (by decide) ?_
    refine jj_iload_n (j := 3) (by decide +kernel) rfl ?_
    refine jj_iadd (by decide +kernel) ?_
    refine jj_iconst (n := 0) (v := 0) (by decide +kernel) (by decide) ?_
    refine jj_iload_n (j := 1) (by decide +kernel) rfl ?_
    refine sy_cv (s_tab_add (d := d - 1) (t := 8) hG.1 hs (by decide) (by decide) (sy_o hG.2) (by omega)) (fun o1 h1 hC => jj_callV ok_TB_add ml_SC_53 im_TB_add se_TB_TB_add (by decide +kernel) (hs.rcT (t := 8) (by decide) (by decide) (sy_o hG.2)) rfl (by omega) (Nat.le_of_ble_eq_true rfl) hC) rfl (fun q => by cases q) (fun h hs => ?_)
    refine jj_iload_n (j := 2) (by decide +kernel) rfl ?_
    exact jj_iret .int (by decide +kernel) rfl rfl ⟨Or.inl rfl, hs⟩
set_option maxRecDepth 100000 in
set_option maxHeartbeats 4000000 in
theorem b_SC_scanName_2 {l : Launch} {G : jj_G} {X : sy_X} {K o N d : Nat} {x1 : Int32} (hG : sy_G G X) (hdd : 7 ≤ d) : ∀ (n : Nat) (x2 : Int32) (h : jj_H), (2147483647 - x2.toInt).toNat < n → Sy G X K o N h → jj_P l G y_SC_scanName d (sy_F 1 false G X K o N) 2 [some (.ref (X.2.2.1 11)), some (.int x1), some (.int x2), none] [] h := by
  intro n
  induction n with
  | zero => intro x2 h hn; exact absurd hn (Nat.not_lt_zero _)
  | succ n ih =>
    intro x2 h hn hs
    refine jj_iload_n (j := 2) (by decide +kernel) rfl ?_
    refine jj_aload_n (j := 0) (by decide +kernel) rfl ?_
    obtain ⟨bn, hg⟩ := hs.sc hG.2
    refine jj_getfield 0 ck_SC fl_SC_9 (by decide) (by decide +kernel) hg rfl ?_
    refine sy_ci (s_row_size (d := d - 1) (t := 0) hs (by decide) (sy_o hG.2)) (fun o1 h1 hC => jj_callV ok_IR_size ml_SC_44 im_IR_size se_IR_IR_size (by decide +kernel) (hs.rcR (t := 0) (by decide) (sy_o hG.2)) rfl (by omega) (Nat.le_of_ble_eq_true rfl) hC) (by decide) rfl (fun q => by cases q) (fun v1 h hv1 hs => ?_)
    refine jj_icmp_ge (off := 35) (tgt := 45) (by decide +kernel) (by decide) (fun c2 => ?_) (fun c2 => ?_)
    · skip
      exact jj_wk (js_s (js_s (js_s (js_n js_0)))) (b_SC_scanName_45 hG hdd hs)
    · skip
      have hdec := up_lt (Int32.not_le.mp c2) hn
      refine jj_aload_n (j := 0) (by decide +kernel) rfl ?_
      refine jj_iload_n (j := 2) (by decide +kernel) rfl ?_
      refine sy_ci (s_SC_goesOnName (d := d - 1) hG (by omega) hs) (fun o1 h1 hC => jj_callV ok_SC_goesOnName ml_SC_79 im_SC_goesOnName se_SC_SC_goesOnName (by decide +kernel) (hs.rcSC hG.2) rfl (by omega) (Nat.le_of_ble_eq_true rfl) hC) (by decide) rfl (fun q => by cases q) (fun v3 h _ hs => ?_)
      refine jj_if_eq (off := 27) (tgt := 45) (by decide +kernel) (by decide) (fun c4 => ?_) (fun c4 => ?_)
      · skip
        exact jj_wk (js_s (js_s (js_s (js_n js_0)))) (b_SC_scanName_45 hG hdd hs)
      · skip
        refine jj_aload_n (j := 0) (by decide +kernel) rfl ?_
        obtain ⟨bn, hg⟩ := hs.sc hG.2
        refine jj_getfield 1 ck_SC fl_SC_15 (by decide) (by decide +kernel) hg rfl ?_
        refine jj_aload_n (j := 0) (by decide +kernel) rfl ?_
        obtain ⟨bn, hg⟩ := hs.sc hG.2
        refine jj_getfield 0 ck_SC fl_SC_9 (by decide) (by decide +kernel) hg rfl ?_
        refine jj_iload_n (j := 2) (by decide +kernel) rfl ?_
        refine sy_ci (s_row_at (d := d - 1) (t := 0) hG.1 hs (by decide) (sy_o hG.2)) (fun o1 h1 hC => jj_callV ok_IR_at ml_SC_50 im_IR_at se_IR_IR_at (by decide +kernel) (hs.rcR (t := 0) (by decide) (sy_o hG.2)) rfl (by omega) (Nat.le_of_ble_eq_true rfl) hC) (by decide) rfl (fun q => by cases q) (fun v5 h _ hs => ?_)
        refine sy_ci (sy_pure (thr := false) hs (c_ST_small (d := d - 1))) (fun o1 h1 hC => jj_callSN (index := 82) (host := "SourceTree") ok_ST_small (List.mem_of_getElem? (i := 2) rfl) st_ST_small (by decide +kernel) rfl (by omega) (Nat.le_of_ble_eq_true rfl) hC) (by decide) rfl (fun q => by cases q) (fun v6 h _ hs => ?_)
        refine sy_cv (s_SP_addLetter (d := d - 1) hG.1 (by omega) hs) (fun o1 h1 hC => jj_callV ok_SP_addLetter ml_SC_85 im_SP_addLetter se_SP_SP_addLetter (by decide +kernel) hs.rcSP rfl (by omega) (Nat.le_of_ble_eq_true rfl) hC) rfl (fun q => by cases q) (fun h hs => ?_)
        refine jj_iinc (i := 2) (n := 1) (by decide +kernel) rfl rfl (by decide) rfl ?_
        refine jj_goto (off := (-40)) (tgt := 2) (by decide +kernel) (by decide) ?_
        exact jj_wk (js_s (js_s (js_s (js_n js_0)))) (ih _ _ hdec hs)
set_option maxRecDepth 100000 in
set_option maxHeartbeats 4000000 in
theorem b_SC_scanName_0 {l : Launch} {G : jj_G} {X : sy_X} {K o N d : Nat} {x1 : Int32} {h : jj_H} (hG : sy_G G X) (hdd : 7 ≤ d) (hs : Sy G X K o N h) : jj_P l G y_SC_scanName d (sy_F 1 false G X K o N) 0 [some (.ref (X.2.2.1 11)), some (.int x1), none, none] [] h := by
  refine jj_iload_n (j := 1) (by decide +kernel) rfl ?_
  refine jj_istore_n (j := 2) (by decide +kernel) (by decide) rfl ?_
  exact jj_wk (js_s (js_s (js_s (js_n js_0)))) (b_SC_scanName_2 hG hdd _ _ _ (Nat.lt_succ_self _) hs)
theorem s_SC_scanName {l : Launch} {G : jj_G} {X : sy_X} {K o N d : Nat} {x1 : Int32} {h : jj_H} (hG : sy_G G X) (hdd : 7 ≤ d) (hs : Sy G X K o N h) : jj_Q l G y_SC_scanName d [.ref (X.2.2.1 11), .int x1] h (sy_F 1 false G X K o N) :=
  jj_Q.of (by decide +kernel) (Nat.le_of_ble_eq_true rfl) (b_SC_scanName_0 hG hdd hs)
set_option maxRecDepth 100000 in
set_option maxHeartbeats 4000000 in
theorem b_SC_scanNumber_64 {l : Launch} {G : jj_G} {X : sy_X} {K o N d : Nat} {x1 : Int32} {h : jj_H} {x4 : Int32} {x2 : Int64} (hG : sy_G G X) (hdd : 7 ≤ d) (hs : Sy G X K o N h) : jj_P l G y_SC_scanNumber d (sy_F 1 false G X K o N) 64 [some (.ref (X.2.2.1 11)), some (.int x1), some (.long x2), none, some (.int x4)] [] h := by
  refine jj_lload_n (j := 2) (by decide +kernel) rfl ?_
  refine jj_ldc2 (by decide +kernel) kl_SC_106 ?_
  refine jj_lcmp (by decide +kernel) ?_
  refine jj_if_le (off := 10) (tgt := 79) (by decide +kernel) (by decide) (fun c1 => ?_) (fun c1 => ?_)
  · skip
    refine jj_aload_n (j := 0) (by decide +kernel) rfl ?_
    obtain ⟨bn, hg⟩ := hs.sc hG.2
    refine jj_getfield 2 ck_SC fl_SC_19 (by decide) (by decide +kernel) hg rfl ?_
    refine jj_sipush (n := 141) (v := 141) (by decide +kernel) (by decide) ?_
    refine jj_lload_n (j := 2) (by decide +kernel) rfl ?_
    refine jj_l2i (by decide +kernel) ?_
    refine jj_iload_n (j := 1) (by decide +kernel) rfl ?_
    refine sy_cv (s_tab_add (d := d - 1) (t := 8) hG.1 hs (by decide) (by decide) (sy_o hG.2) (by omega)) (fun o1 h1 hC => jj_callV ok_TB_add ml_SC_53 im_TB_add se_TB_TB_add (by decide +kernel) (hs.rcT (t := 8) (by decide) (by decide) (sy_o hG.2)) rfl (by omega) (Nat.le_of_ble_eq_true rfl) hC) rfl (fun q => by cases q) (fun h hs => ?_)
    refine jj_iload (i := 4) (by decide +kernel) rfl ?_
    exact jj_iret .int (by decide +kernel) rfl rfl ⟨Or.inl rfl, hs⟩
  · skip
    refine jj_aload_n (j := 0) (by decide +kernel) rfl ?_
    refine jj_iconst (n := 2) (v := 2) (by decide +kernel) (by decide) ?_
    refine jj_iload_n (j := 1) (by decide +kernel) rfl ?_
    refine sy_ci (s_SC_endWith (d := d - 1) hG (by omega) hs) (fun o1 h1 hC => jj_callV ok_SC_endWith ml_SC_92 im_SC_endWith se_SC_SC_endWith (by decide +kernel) (hs.rcSC hG.2) rfl (by omega) (Nat.le_of_ble_eq_true rfl) hC) (by decide) rfl (fun q => by cases q) (fun v2 h _ hs => ?_)
    exact jj_iret .int (by decide +kernel) rfl rfl ⟨Or.inl rfl, hs⟩
set_option maxRecDepth 100000 in
set_option maxHeartbeats 4000000 in
theorem b_SC_scanNumber_5 {l : Launch} {G : jj_G} {X : sy_X} {K o N d : Nat} {x1 : Int32} (hG : sy_G G X) (hdd : 7 ≤ d) : ∀ (n : Nat) (x4 : Int32) (x2 : Int64) (h : jj_H), (2147483647 - x4.toInt).toNat < n → Sy G X K o N h → jj_P l G y_SC_scanNumber d (sy_F 1 false G X K o N) 5 [some (.ref (X.2.2.1 11)), some (.int x1), some (.long x2), none, some (.int x4)] [] h := by
  intro n
  induction n with
  | zero => intro x4 x2 h hn; exact absurd hn (Nat.not_lt_zero _)
  | succ n ih =>
    intro x4 x2 h hn hs
    refine jj_iload (i := 4) (by decide +kernel) rfl ?_
    refine jj_aload_n (j := 0) (by decide +kernel) rfl ?_
    obtain ⟨bn, hg⟩ := hs.sc hG.2
    refine jj_getfield 0 ck_SC fl_SC_9 (by decide) (by decide +kernel) hg rfl ?_
    refine sy_ci (s_row_size (d := d - 1) (t := 0) hs (by decide) (sy_o hG.2)) (fun o1 h1 hC => jj_callV ok_IR_size ml_SC_44 im_IR_size se_IR_IR_size (by decide +kernel) (hs.rcR (t := 0) (by decide) (sy_o hG.2)) rfl (by omega) (Nat.le_of_ble_eq_true rfl) hC) (by decide) rfl (fun q => by cases q) (fun v1 h hv1 hs => ?_)
    refine jj_icmp_ge (off := 50) (tgt := 64) (by decide +kernel) (by decide) (fun c2 => ?_) (fun c2 => ?_)
    · skip
      exact jj_wk (js_s (js_s (js_s (js_n (js_s js_0))))) (b_SC_scanNumber_64 hG hdd hs)
    · skip
      have hdec := up_lt (Int32.not_le.mp c2) hn
      refine jj_aload_n (j := 0) (by decide +kernel) rfl ?_
      obtain ⟨bn, hg⟩ := hs.sc hG.2
      refine jj_getfield 0 ck_SC fl_SC_9 (by decide) (by decide +kernel) hg rfl ?_
      refine jj_iload (i := 4) (by decide +kernel) rfl ?_
      refine sy_ci (s_row_at (d := d - 1) (t := 0) hG.1 hs (by decide) (sy_o hG.2)) (fun o1 h1 hC => jj_callV ok_IR_at ml_SC_50 im_IR_at se_IR_IR_at (by decide +kernel) (hs.rcR (t := 0) (by decide) (sy_o hG.2)) rfl (by omega) (Nat.le_of_ble_eq_true rfl) hC) (by decide) rfl (fun q => by cases q) (fun v3 h _ hs => ?_)
      refine sy_ci (sy_pure (thr := false) hs (c_ST_isDigit (d := d - 1))) (fun o1 h1 hC => jj_callSN (index := 64) (host := "SourceTree") ok_ST_isDigit (List.mem_of_getElem? (i := 1) rfl) st_ST_isDigit (by decide +kernel) rfl (by omega) (Nat.le_of_ble_eq_true rfl) hC) (by decide) rfl (fun q => by cases q) (fun v4 h _ hs => ?_)
      refine jj_if_eq (off := 35) (tgt := 64) (by decide +kernel) (by decide) (fun c5 => ?_) (fun c5 => ?_)
      · skip
        exact jj_wk (js_s (js_s (js_s (js_n (js_s js_0))))) (b_SC_scanNumber_64 hG hdd hs)
      · skip
        refine jj_lload_n (j := 2) (by decide +kernel) rfl ?_
        refine jj_ldc2 (by decide +kernel) kl_SC_96 ?_
        refine jj_lmul (by decide +kernel) ?_
        refine jj_aload_n (j := 0) (by decide +kernel) rfl ?_
        obtain ⟨bn, hg⟩ := hs.sc hG.2
        refine jj_getfield 0 ck_SC fl_SC_9 (by decide) (by decide +kernel) hg rfl ?_
        refine jj_iload (i := 4) (by decide +kernel) rfl ?_
        refine sy_ci (s_row_at (d := d - 1) (t := 0) hG.1 hs (by decide) (sy_o hG.2)) (fun o1 h1 hC => jj_callV ok_IR_at ml_SC_50 im_IR_at se_IR_IR_at (by decide +kernel) (hs.rcR (t := 0) (by decide) (sy_o hG.2)) rfl (by omega) (Nat.le_of_ble_eq_true rfl) hC) (by decide) rfl (fun q => by cases q) (fun v6 h _ hs => ?_)
        refine jj_bipush (n := 48) (v := 48) (by decide +kernel) (by decide) ?_
        refine jj_isub (by decide +kernel) ?_
        refine jj_i2l (by decide +kernel) ?_
        refine jj_ladd (by decide +kernel) ?_
        refine jj_ldc2 (by decide +kernel) kl_SC_98 ?_
        refine jj_callr (c_JM_min2 (d := d - 1)) (fun o1 h1 hC => jj_callS ok_JM_min2 ml_SC_100 st_JM_min2 (by decide +kernel) rfl (by omega) (Nat.le_of_ble_eq_true rfl) hC) (by rintro E h1 ⟨z, q, -⟩; cases q) ?_
        rintro v9 h9 ⟨z9, hv9, rfl⟩
        cases hv9
        refine jj_lstore_n (j := 2) (by decide +kernel) (by decide) rfl ?_
        refine jj_iinc (i := 4) (n := 1) (by decide +kernel) rfl rfl (by decide) rfl ?_
        refine jj_goto (off := (-56)) (tgt := 5) (by decide +kernel) (by decide) ?_
        exact jj_wk (js_s (js_s (js_s (js_n (js_s js_0))))) (ih _ _ _ hdec hs)
set_option maxRecDepth 100000 in
set_option maxHeartbeats 4000000 in
theorem b_SC_scanNumber_0 {l : Launch} {G : jj_G} {X : sy_X} {K o N d : Nat} {x1 : Int32} {h : jj_H} (hG : sy_G G X) (hdd : 7 ≤ d) (hs : Sy G X K o N h) : jj_P l G y_SC_scanNumber d (sy_F 1 false G X K o N) 0 [some (.ref (X.2.2.1 11)), some (.int x1), none, none, none] [] h := by
  refine jj_lconst (n := 0) (v := 0) (by decide +kernel) (by decide) ?_
  refine jj_lstore_n (j := 2) (by decide +kernel) (by decide) rfl ?_
  refine jj_iload_n (j := 1) (by decide +kernel) rfl ?_
  refine jj_istore (i := 4) (by decide +kernel) (by decide) rfl ?_
  exact jj_wk (js_s (js_s (js_s (js_n (js_s js_0))))) (b_SC_scanNumber_5 hG hdd _ _ _ _ (Nat.lt_succ_self _) hs)
theorem s_SC_scanNumber {l : Launch} {G : jj_G} {X : sy_X} {K o N d : Nat} {x1 : Int32} {h : jj_H} (hG : sy_G G X) (hdd : 7 ≤ d) (hs : Sy G X K o N h) : jj_Q l G y_SC_scanNumber d [.ref (X.2.2.1 11), .int x1] h (sy_F 1 false G X K o N) :=
  jj_Q.of (by decide +kernel) (Nat.le_of_ble_eq_true rfl) (b_SC_scanNumber_0 hG hdd hs)
set_option maxRecDepth 100000 in
set_option maxHeartbeats 4000000 in
theorem b_SC_scanRow_54 {l : Launch} {G : jj_G} {X : sy_X} {K o N d : Nat} {x1 : Int32} {h : jj_H} {x2 : Int32} (hG : sy_G G X) (hdd : 10 ≤ d) (hs : Sy G X K o N h) : jj_P l G y_SC_scanRow d (sy_F 1 false G X K o N) 54 [some (.ref (X.2.2.1 11)), some (.int x1), some (.int x2)] [] h := by
  refine jj_aload_n (j := 0) (by decide +kernel) rfl ?_
  refine jj_iconst (n := 1) (v := 1) (by decide +kernel) (by decide) ?_
  refine jj_iload_n (j := 1) (by decide +kernel) rfl ?_
  refine sy_ci (s_SC_endWith (d := d - 1) hG (by omega) hs) (fun o1 h1 hC => jj_callV ok_SC_endWith ml_SC_92 im_SC_endWith se_SC_SC_endWith (by decide +kernel) (hs.rcSC hG.2) rfl (by omega) (Nat.le_of_ble_eq_true rfl) hC) (by decide) rfl (fun q => by cases q) (fun v1 h _ hs => ?_)
  exact jj_iret .int (by decide +kernel) rfl rfl ⟨Or.inl rfl, hs⟩
set_option maxRecDepth 100000 in
set_option maxHeartbeats 4000000 in
theorem b_SC_scanRow_33 {l : Launch} {G : jj_G} {X : sy_X} {K o N d : Nat} {x1 : Int32} {h : jj_H} {x2 : Int32} (hG : sy_G G X) (hdd : 10 ≤ d) (hs : Sy G X K o N h) : jj_P l G y_SC_scanRow d (sy_F 1 false G X K o N) 33 [some (.ref (X.2.2.1 11)), some (.int x1), some (.int x2)] [] h := by
  refine jj_iload_n (j := 2) (by decide +kernel) rfl ?_
  refine jj_if_eq (off := 20) (tgt := 54) (by decide +kernel) (by decide) (fun c1 => ?_) (fun c1 => ?_)
  · skip
    exact jj_wk (js_s (js_s (js_s js_0))) (b_SC_scanRow_54 hG hdd hs)
  · skip
    refine jj_aload_n (j := 0) (by decide +kernel) rfl ?_
    obtain ⟨bn, hg⟩ := hs.sc hG.2
    refine jj_getfield 0 ck_SC fl_SC_9 (by decide) (by decide +kernel) hg rfl ?_
    refine jj_iload_n (j := 1) (by decide +kernel) rfl ?_
    refine jj_iconst (n := 1) (v := 1) (by decide +kernel) (by decide) ?_
    refine jj_iadd (by decide +kernel) ?_
    refine jj_iload_n (j := 2) (by decide +kernel) rfl ?_
    refine jj_iadd (by decide +kernel) ?_
    refine sy_ci (s_row_at (d := d - 1) (t := 0) hG.1 hs (by decide) (sy_o hG.2)) (fun o1 h1 hC => jj_callV ok_IR_at ml_SC_50 im_IR_at se_IR_IR_at (by decide +kernel) (hs.rcR (t := 0) (by decide) (sy_o hG.2)) rfl (by omega) (Nat.le_of_ble_eq_true rfl) hC) (by decide) rfl (fun q => by cases q) (fun v2 h _ hs => ?_)
    refine jj_bipush (n := 34) (v := 34) (by decide +kernel) (by decide) ?_
    refine jj_icmp_eq (off := 10) (tgt := 61) (by decide +kernel) (by decide) (fun c3 => ?_) (fun c3 => ?_)
    · skip
      refine jj_aload_n (j := 0) (by decide +kernel) rfl ?_
      obtain ⟨bn, hg⟩ := hs.sc hG.2
      refine jj_getfield 2 ck_SC fl_SC_19 (by decide) (by decide +kernel) hg rfl ?_
      refine jj_sipush (n := 143) (v := 143) (by decide +kernel) (by decide) ?_
      refine jj_iload_n (j := 2) (by decide +kernel) rfl ?_
      refine jj_iload_n (j := 1) (by decide +kernel) rfl ?_
      refine sy_cv (s_tab_add (d := d - 1) (t := 8) hG.1 hs (by decide) (by decide) (sy_o hG.2) (by omega)) (fun o1 h1 hC => jj_callV ok_TB_add ml_SC_53 im_TB_add se_TB_TB_add (by decide +kernel) (hs.rcT (t := 8) (by decide) (by decide) (sy_o hG.2)) rfl (by omega) (Nat.le_of_ble_eq_true rfl) hC) rfl (fun q => by cases q) (fun h hs => ?_)
      refine jj_iload_n (j := 1) (by decide +kernel) rfl ?_
      refine jj_iload_n (j := 2) (by decide +kernel) rfl ?_
      refine jj_iadd (by decide +kernel) ?_
      refine jj_iconst (n := 2) (v := 2) (by decide +kernel) (by decide) ?_
      refine jj_iadd (by decide +kernel) ?_
      exact jj_iret .int (by decide +kernel) rfl rfl ⟨Or.inl rfl, hs⟩
    · skip
      exact jj_wk (js_s (js_s (js_s js_0))) (b_SC_scanRow_54 hG hdd hs)
set_option maxRecDepth 100000 in
set_option maxHeartbeats 4000000 in
theorem b_SC_scanRow_2 {l : Launch} {G : jj_G} {X : sy_X} {K o N d : Nat} {x1 : Int32} (hG : sy_G G X) (hdd : 10 ≤ d) : ∀ (n : Nat) (x2 : Int32) (h : jj_H), (2147483647 - x2.toInt).toNat < n → Sy G X K o N h → jj_P l G y_SC_scanRow d (sy_F 1 false G X K o N) 2 [some (.ref (X.2.2.1 11)), some (.int x1), some (.int x2)] [] h := by
  intro n
  induction n with
  | zero => intro x2 h hn; exact absurd hn (Nat.not_lt_zero _)
  | succ n ih =>
    intro x2 h hn hs
    refine jj_iload_n (j := 2) (by decide +kernel) rfl ?_
    refine jj_bipush (n := 64) (v := 64) (by decide +kernel) (by decide) ?_
    refine jj_icmp_ge (off := 28) (tgt := 33) (by decide +kernel) (by decide) (fun c1 => ?_) (fun c1 => ?_)
    · skip
      exact jj_wk (js_s (js_s (js_s js_0))) (b_SC_scanRow_33 hG hdd hs)
    · skip
      have hdec := up_lt (Int32.not_le.mp c1) hn
      refine jj_aload_n (j := 0) (by decide +kernel) rfl ?_
      obtain ⟨bn, hg⟩ := hs.sc hG.2
      refine jj_getfield 0 ck_SC fl_SC_9 (by decide) (by decide +kernel) hg rfl ?_
      refine jj_iload_n (j := 1) (by decide +kernel) rfl ?_
      refine jj_iconst (n := 1) (v := 1) (by decide +kernel) (by decide) ?_
      refine jj_iadd (by decide +kernel) ?_
      refine jj_iload_n (j := 2) (by decide +kernel) rfl ?_
      refine jj_iadd (by decide +kernel) ?_
      refine sy_ci (s_row_at (d := d - 1) (t := 0) hG.1 hs (by decide) (sy_o hG.2)) (fun o1 h1 hC => jj_callV ok_IR_at ml_SC_50 im_IR_at se_IR_IR_at (by decide +kernel) (hs.rcR (t := 0) (by decide) (sy_o hG.2)) rfl (by omega) (Nat.le_of_ble_eq_true rfl) hC) (by decide) rfl (fun q => by cases q) (fun v2 h _ hs => ?_)
      refine sy_ci (s_ST_signOf (d := d - 1) hG (by omega) hs) (fun o1 h1 hC => jj_callSN (index := 73) (host := "SourceTree") ok_ST_signOf (List.mem_of_getElem? (i := 3) rfl) st_ST_signOf (by decide +kernel) rfl (by omega) (Nat.le_of_ble_eq_true rfl) hC) (by decide) rfl (fun q => by cases q) (fun v3 h _ hs => ?_)
      refine jj_iconst (n := (-1)) (v := (-1)) (by decide +kernel) (by decide) ?_
      refine jj_icmp_eq (off := 9) (tgt := 33) (by decide +kernel) (by decide) (fun c4 => ?_) (fun c4 => ?_)
      · skip
        exact jj_wk (js_s (js_s (js_s js_0))) (b_SC_scanRow_33 hG hdd hs)
      · skip
        refine jj_iinc (i := 2) (n := 1) (by decide +kernel) rfl rfl (by decide) rfl ?_
        refine jj_goto (off := (-28)) (tgt := 2) (by decide +kernel) (by decide) ?_
        exact jj_wk (js_s (js_s (js_s js_0))) (ih _ _ hdec hs)
set_option maxRecDepth 100000 in
set_option maxHeartbeats 4000000 in
theorem b_SC_scanRow_0 {l : Launch} {G : jj_G} {X : sy_X} {K o N d : Nat} {x1 : Int32} {h : jj_H} (hG : sy_G G X) (hdd : 10 ≤ d) (hs : Sy G X K o N h) : jj_P l G y_SC_scanRow d (sy_F 1 false G X K o N) 0 [some (.ref (X.2.2.1 11)), some (.int x1), none] [] h := by
  refine jj_iconst (n := 0) (v := 0) (by decide +kernel) (by decide) ?_
  refine jj_istore_n (j := 2) (by decide +kernel) (by decide) rfl ?_
  exact jj_wk (js_s (js_s (js_s js_0))) (b_SC_scanRow_2 hG hdd _ _ _ (Nat.lt_succ_self _) hs)
theorem s_SC_scanRow {l : Launch} {G : jj_G} {X : sy_X} {K o N d : Nat} {x1 : Int32} {h : jj_H} (hG : sy_G G X) (hdd : 10 ≤ d) (hs : Sy G X K o N h) : jj_Q l G y_SC_scanRow d [.ref (X.2.2.1 11), .int x1] h (sy_F 1 false G X K o N) :=
  jj_Q.of (by decide +kernel) (Nat.le_of_ble_eq_true rfl) (b_SC_scanRow_0 hG hdd hs)
set_option maxRecDepth 100000 in
set_option maxHeartbeats 4000000 in
theorem b_SC_scanMark_57 {l : Launch} {G : jj_G} {X : sy_X} {K o N d : Nat} {x1 : Int32} {h : jj_H} {x2 x3 : Int32} (hG : sy_G G X) (hdd : 9 ≤ d) (hs : Sy G X K o N h) : jj_P l G y_SC_scanMark d (sy_F 1 false G X K o N) 57 [some (.ref (X.2.2.1 11)), some (.int x1), some (.int x2), some (.int x3)] [] h := by
  refine jj_aload_n (j := 0) (by decide +kernel) rfl ?_
  refine jj_iconst (n := 1) (v := 1) (by decide +kernel) (by decide) ?_
  refine jj_iload_n (j := 1) (by decide +kernel) rfl ?_
  refine sy_ci (s_SC_endWith (d := d - 1) hG (by omega) hs) (fun o1 h1 hC => jj_callV ok_SC_endWith ml_SC_92 im_SC_endWith se_SC_SC_endWith (by decide +kernel) (hs.rcSC hG.2) rfl (by omega) (Nat.le_of_ble_eq_true rfl) hC) (by decide) rfl (fun q => by cases q) (fun v1 h _ hs => ?_)
  exact jj_iret .int (by decide +kernel) rfl rfl ⟨Or.inl rfl, hs⟩
set_option maxRecDepth 100000 in
set_option maxHeartbeats 4000000 in
theorem b_SC_scanMark_0 {l : Launch} {G : jj_G} {X : sy_X} {K o N d : Nat} {x1 : Int32} {h : jj_H} (hG : sy_G G X) (hdd : 9 ≤ d) (hs : Sy G X K o N h) : jj_P l G y_SC_scanMark d (sy_F 1 false G X K o N) 0 [some (.ref (X.2.2.1 11)), some (.int x1), none, none] [] h := by
  refine jj_aload_n (j := 0) (by decide +kernel) rfl ?_
  obtain ⟨bn, hg⟩ := hs.sc hG.2
  refine jj_getfield 0 ck_SC fl_SC_9 (by decide) (by decide +kernel) hg rfl ?_
  refine jj_iload_n (j := 1) (by decide +kernel) rfl ?_
  refine sy_ci (s_row_at (d := d - 1) (t := 0) hG.1 hs (by decide) (sy_o hG.2)) (fun o1 h1 hC => jj_callV ok_IR_at ml_SC_50 im_IR_at se_IR_IR_at (by decide +kernel) (hs.rcR (t := 0) (by decide) (sy_o hG.2)) rfl (by omega) (Nat.le_of_ble_eq_true rfl) hC) (by decide) rfl (fun q => by cases q) (fun v1 h _ hs => ?_)
  refine jj_istore_n (j := 2) (by decide +kernel) (by decide) rfl ?_
  refine jj_iload_n (j := 2) (by decide +kernel) rfl ?_
  refine jj_aload_n (j := 0) (by decide +kernel) rfl ?_
  obtain ⟨bn, hg⟩ := hs.sc hG.2
  refine jj_getfield 0 ck_SC fl_SC_9 (by decide) (by decide +kernel) hg rfl ?_
  refine jj_iload_n (j := 1) (by decide +kernel) rfl ?_
  refine jj_iconst (n := 1) (v := 1) (by decide +kernel) (by decide) ?_
  refine jj_iadd (by decide +kernel) ?_
  refine sy_ci (s_row_at (d := d - 1) (t := 0) hG.1 hs (by decide) (sy_o hG.2)) (fun o1 h1 hC => jj_callV ok_IR_at ml_SC_50 im_IR_at se_IR_IR_at (by decide +kernel) (hs.rcR (t := 0) (by decide) (sy_o hG.2)) rfl (by omega) (Nat.le_of_ble_eq_true rfl) hC) (by decide) rfl (fun q => by cases q) (fun v2 h _ hs => ?_)
  refine sy_ci (s_SC_pairOf (d := d - 1) hG (by omega) hs) (fun o1 h1 hC => jj_callS ok_SC_pairOf ml_SC_108 st_SC_pairOf (by decide +kernel) rfl (by omega) (Nat.le_of_ble_eq_true rfl) hC) (by decide) rfl (fun q => by cases q) (fun v3 h _ hs => ?_)
  refine jj_istore_n (j := 3) (by decide +kernel) (by decide) rfl ?_
  refine jj_iload_n (j := 3) (by decide +kernel) rfl ?_
  refine jj_iconst (n := (-1)) (v := (-1)) (by decide +kernel) (by decide) ?_
  refine jj_icmp_eq (off := 17) (tgt := 43) (by decide +kernel) (by decide) (fun c4 => ?_) (fun c4 => ?_)
  · skip
    refine jj_iload_n (j := 2) (by decide +kernel) rfl ?_
    refine jj_if_lt (off := 13) (tgt := 57) (by decide +kernel) (by decide) (fun c5 => ?_) (fun c5 => ?_)
    · skip
      exact jj_wk (js_s (js_s (js_s (js_s js_0)))) (b_SC_scanMark_57 hG hdd hs)
    · skip
      refine jj_ldcS (index := 111) (i := 5) (tx := "(),;:=<>+-*/&'|") (by decide +kernel) (List.mem_of_getElem? (i := 5) rfl) ?_
      refine jj_iload_n (j := 2) (by decide +kernel) rfl ?_
      refine jj_i2c (by decide +kernel) ?_
      refine sy_ci (s_JS_indexOf (d := d - 1) (i := 5) hG.1 (by decide) (by omega) hs) (fun o1 h1 hC => jj_callV ok_JS_indexOf ml_SC_113 im_JS_indexOf se_JS_JS_indexOf (by decide +kernel) (jj_rcv.str (by decide)) rfl (by omega) (Nat.le_of_ble_eq_true rfl) hC) (by decide) rfl (fun q => by cases q) (fun v6 h _ hs => ?_)
      refine jj_if_ge (off := 10) (tgt := 64) (by decide +kernel) (by decide) (fun c7 => ?_) (fun c7 => ?_)
      · skip
        refine jj_aload_n (j := 0) (by decide +kernel) rfl ?_
        obtain ⟨bn, hg⟩ := hs.sc hG.2
        refine jj_getfield 2 ck_SC fl_SC_19 (by decide) (by decide +kernel) hg rfl ?_
        refine jj_iload_n (j := 2) (by decide +kernel) rfl ?_
        refine jj_iconst (n := 0) (v := 0) (by decide +kernel) (by decide) ?_
        refine jj_iload_n (j := 1) (by decide +kernel) rfl ?_
        refine sy_cv (s_tab_add (d := d - 1) (t := 8) hG.1 hs (by decide) (by decide) (sy_o hG.2) (by omega)) (fun o1 h1 hC => jj_callV ok_TB_add ml_SC_53 im_TB_add se_TB_TB_add (by decide +kernel) (hs.rcT (t := 8) (by decide) (by decide) (sy_o hG.2)) rfl (by omega) (Nat.le_of_ble_eq_true rfl) hC) rfl (fun q => by cases q) (fun h hs => ?_)
        refine jj_iload_n (j := 1) (by decide +kernel) rfl ?_
        refine jj_iconst (n := 1) (v := 1) (by decide +kernel) (by decide) ?_
        refine jj_iadd (by decide +kernel) ?_
        exact jj_iret .int (by decide +kernel) rfl rfl ⟨Or.inl rfl, hs⟩
      · skip
        exact jj_wk (js_s (js_s (js_s (js_s js_0)))) (b_SC_scanMark_57 hG hdd hs)
  · skip
    refine jj_aload_n (j := 0) (by decide +kernel) rfl ?_
    obtain ⟨bn, hg⟩ := hs.sc hG.2
    refine jj_getfield 2 ck_SC fl_SC_19 (by decide) (by decide +kernel) hg rfl ?_
    refine jj_iload_n (j := 3) (by decide +kernel) rfl ?_
    refine jj_iconst (n := 0) (v := 0) (by decide +kernel) (by decide) ?_
    refine jj_iload_n (j := 1) (by decide +kernel) rfl ?_
    refine sy_cv (s_tab_add (d := d - 1) (t := 8) hG.1 hs (by decide) (by decide) (sy_o hG.2) (by omega)) (fun o1 h1 hC => jj_callV ok_TB_add ml_SC_53 im_TB_add se_TB_TB_add (by decide +kernel) (hs.rcT (t := 8) (by decide) (by decide) (sy_o hG.2)) rfl (by omega) (Nat.le_of_ble_eq_true rfl) hC) rfl (fun q => by cases q) (fun h hs => ?_)
    refine jj_iload_n (j := 1) (by decide +kernel) rfl ?_
    refine jj_iconst (n := 2) (v := 2) (by decide +kernel) (by decide) ?_
    refine jj_iadd (by decide +kernel) ?_
    exact jj_iret .int (by decide +kernel) rfl rfl ⟨Or.inl rfl, hs⟩
theorem s_SC_scanMark {l : Launch} {G : jj_G} {X : sy_X} {K o N d : Nat} {x1 : Int32} {h : jj_H} (hG : sy_G G X) (hdd : 9 ≤ d) (hs : Sy G X K o N h) : jj_Q l G y_SC_scanMark d [.ref (X.2.2.1 11), .int x1] h (sy_F 1 false G X K o N) :=
  jj_Q.of (by decide +kernel) (Nat.le_of_ble_eq_true rfl) (b_SC_scanMark_0 hG hdd hs)
set_option maxRecDepth 100000 in
set_option maxHeartbeats 4000000 in
theorem b_SC_scanToken_130 {l : Launch} {G : jj_G} {X : sy_X} {K o N d : Nat} {x1 : Int32} {h : jj_H} {x2 x3 : Int32} (hG : sy_G G X) (hdd : 11 ≤ d) (hs : Sy G X K o N h) : jj_P l G y_SC_scanToken d (sy_F 1 false G X K o N) 130 [some (.ref (X.2.2.1 11)), some (.int x1), some (.int x2), some (.int x3)] [] h := by
  refine jj_aload_n (j := 0) (by decide +kernel) rfl ?_
  refine jj_iload_n (j := 1) (by decide +kernel) rfl ?_
  refine sy_ci (s_SC_scanMark (d := d - 1) hG (by omega) hs) (fun o1 h1 hC => jj_callV ok_SC_scanMark ml_SC_76 im_SC_scanMark se_SC_SC_scanMark (by decide +kernel) (hs.rcSC hG.2) rfl (by omega) (Nat.le_of_ble_eq_true rfl) hC) (by decide) rfl (fun q => by cases q) (fun v1 h _ hs => ?_)
  exact jj_iret .int (by decide +kernel) rfl rfl ⟨Or.inl rfl, hs⟩
set_option maxRecDepth 100000 in
set_option maxHeartbeats 4000000 in
theorem b_SC_scanToken_0 {l : Launch} {G : jj_G} {X : sy_X} {K o N d : Nat} {x1 : Int32} {h : jj_H} (hG : sy_G G X) (hdd : 11 ≤ d) (hs : Sy G X K o N h) : jj_P l G y_SC_scanToken d (sy_F 1 false G X K o N) 0 [some (.ref (X.2.2.1 11)), some (.int x1), none, none] [] h := by
  refine jj_aload_n (j := 0) (by decide +kernel) rfl ?_
  obtain ⟨bn, hg⟩ := hs.sc hG.2
  refine jj_getfield 0 ck_SC fl_SC_9 (by decide) (by decide +kernel) hg rfl ?_
  refine jj_iload_n (j := 1) (by decide +kernel) rfl ?_
  refine sy_ci (s_row_at (d := d - 1) (t := 0) hG.1 hs (by decide) (sy_o hG.2)) (fun o1 h1 hC => jj_callV ok_IR_at ml_SC_50 im_IR_at se_IR_IR_at (by decide +kernel) (hs.rcR (t := 0) (by decide) (sy_o hG.2)) rfl (by omega) (Nat.le_of_ble_eq_true rfl) hC) (by decide) rfl (fun q => by cases q) (fun v1 h _ hs => ?_)
  refine jj_istore_n (j := 2) (by decide +kernel) (by decide) rfl ?_
  refine jj_iload_n (j := 2) (by decide +kernel) rfl ?_
  refine jj_iconst (n := (-1)) (v := (-1)) (by decide +kernel) (by decide) ?_
  refine jj_icmp_ne (off := 17) (tgt := 28) (by decide +kernel) (by decide) (fun c2 => ?_) (fun c2 => ?_)
  · skip
    refine jj_iload_n (j := 2) (by decide +kernel) rfl ?_
    refine sy_ci (sy_pure (thr := false) hs (c_ST_isLetter (d := d - 1))) (fun o1 h1 hC => jj_callSN (index := 57) (host := "SourceTree") ok_ST_isLetter (List.mem_of_getElem? (i := 0) rfl) st_ST_isLetter (by decide +kernel) rfl (by omega) (Nat.le_of_ble_eq_true rfl) hC) (by decide) rfl (fun q => by cases q) (fun v3 h _ hs => ?_)
    refine jj_if_eq (off := 9) (tgt := 41) (by decide +kernel) (by decide) (fun c4 => ?_) (fun c4 => ?_)
    · skip
      refine jj_iload_n (j := 2) (by decide +kernel) rfl ?_
      refine sy_ci (sy_pure (thr := false) hs (c_ST_isDigit (d := d - 1))) (fun o1 h1 hC => jj_callSN (index := 64) (host := "SourceTree") ok_ST_isDigit (List.mem_of_getElem? (i := 1) rfl) st_ST_isDigit (by decide +kernel) rfl (by omega) (Nat.le_of_ble_eq_true rfl) hC) (by decide) rfl (fun q => by cases q) (fun v5 h _ hs => ?_)
      refine jj_if_eq (off := 9) (tgt := 54) (by decide +kernel) (by decide) (fun c6 => ?_) (fun c6 => ?_)
      · skip
        refine jj_iload_n (j := 2) (by decide +kernel) rfl ?_
        refine jj_bipush (n := 34) (v := 34) (by decide +kernel) (by decide) ?_
        refine jj_icmp_ne (off := 9) (tgt := 66) (by decide +kernel) (by decide) (fun c7 => ?_) (fun c7 => ?_)
        · skip
          refine jj_aload_n (j := 0) (by decide +kernel) rfl ?_
          obtain ⟨bn, hg⟩ := hs.sc hG.2
          refine jj_getfield 0 ck_SC fl_SC_9 (by decide) (by decide +kernel) hg rfl ?_
          refine jj_iload_n (j := 1) (by decide +kernel) rfl ?_
          refine jj_iconst (n := 1) (v := 1) (by decide +kernel) (by decide) ?_
          refine jj_iadd (by decide +kernel) ?_
          refine sy_ci (s_row_at (d := d - 1) (t := 0) hG.1 hs (by decide) (sy_o hG.2)) (fun o1 h1 hC => jj_callV ok_IR_at ml_SC_50 im_IR_at se_IR_IR_at (by decide +kernel) (hs.rcR (t := 0) (by decide) (sy_o hG.2)) rfl (by omega) (Nat.le_of_ble_eq_true rfl) hC) (by decide) rfl (fun q => by cases q) (fun v8 h _ hs => ?_)
          refine sy_ci (s_ST_signOf (d := d - 1) hG (by omega) hs) (fun o1 h1 hC => jj_callSN (index := 73) (host := "SourceTree") ok_ST_signOf (List.mem_of_getElem? (i := 3) rfl) st_ST_signOf (by decide +kernel) rfl (by omega) (Nat.le_of_ble_eq_true rfl) hC) (by decide) rfl (fun q => by cases q) (fun v9 h _ hs => ?_)
          refine jj_istore_n (j := 3) (by decide +kernel) (by decide) rfl ?_
          refine jj_iload_n (j := 2) (by decide +kernel) rfl ?_
          refine jj_bipush (n := 39) (v := 39) (by decide +kernel) (by decide) ?_
          refine jj_icmp_ne (off := 47) (tgt := 130) (by decide +kernel) (by decide) (fun c10 => ?_) (fun c10 => ?_)
          · skip
            exact jj_wk (js_s (js_s (js_s (js_s js_0)))) (b_SC_scanToken_130 hG hdd hs)
          · skip
            refine jj_iload_n (j := 1) (by decide +kernel) rfl ?_
            refine jj_aload_n (j := 0) (by decide +kernel) rfl ?_
            obtain ⟨bn, hg⟩ := hs.sc hG.2
            refine jj_getfield 3 ck_SC fl_SC_23 (by decide) (by decide +kernel) hg rfl ?_
            refine jj_icmp_eq (off := 39) (tgt := 130) (by decide +kernel) (by decide) (fun c11 => ?_) (fun c11 => ?_)
            · skip
              exact jj_wk (js_s (js_s (js_s (js_s js_0)))) (b_SC_scanToken_130 hG hdd hs)
            · skip
              refine jj_iload_n (j := 3) (by decide +kernel) rfl ?_
              refine jj_iconst (n := (-1)) (v := (-1)) (by decide +kernel) (by decide) ?_
              refine jj_icmp_eq (off := 34) (tgt := 130) (by decide +kernel) (by decide) (fun c12 => ?_) (fun c12 => ?_)
              · skip
                exact jj_wk (js_s (js_s (js_s (js_s js_0)))) (b_SC_scanToken_130 hG hdd hs)
              · skip
                refine jj_aload_n (j := 0) (by decide +kernel) rfl ?_
                obtain ⟨bn, hg⟩ := hs.sc hG.2
                refine jj_getfield 0 ck_SC fl_SC_9 (by decide) (by decide +kernel) hg rfl ?_
                refine jj_iload_n (j := 1) (by decide +kernel) rfl ?_
                refine jj_iconst (n := 2) (v := 2) (by decide +kernel) (by decide) ?_
                refine jj_iadd (by decide +kernel) ?_
                refine sy_ci (s_row_at (d := d - 1) (t := 0) hG.1 hs (by decide) (sy_o hG.2)) (fun o1 h1 hC => jj_callV ok_IR_at ml_SC_50 im_IR_at se_IR_IR_at (by decide +kernel) (hs.rcR (t := 0) (by decide) (sy_o hG.2)) rfl (by omega) (Nat.le_of_ble_eq_true rfl) hC) (by decide) rfl (fun q => by cases q) (fun v13 h _ hs => ?_)
                refine jj_bipush (n := 39) (v := 39) (by decide +kernel) (by decide) ?_
                refine jj_icmp_ne (off := 19) (tgt := 130) (by decide +kernel) (by decide) (fun c14 => ?_) (fun c14 => ?_)
                · skip
                  exact jj_wk (js_s (js_s (js_s (js_s js_0)))) (b_SC_scanToken_130 hG hdd hs)
                · skip
                  refine jj_aload_n (j := 0) (by decide +kernel) rfl ?_
                  obtain ⟨bn, hg⟩ := hs.sc hG.2
                  refine jj_getfield 2 ck_SC fl_SC_19 (by decide) (by decide +kernel) hg rfl ?_
                  refine jj_sipush (n := 142) (v := 142) (by decide +kernel) (by decide) ?_
                  refine jj_iload_n (j := 3) (by decide +kernel) rfl ?_
                  refine jj_iload_n (j := 1) (by decide +kernel) rfl ?_
                  refine sy_cv (s_tab_add (d := d - 1) (t := 8) hG.1 hs (by decide) (by decide) (sy_o hG.2) (by omega)) (fun o1 h1 hC => jj_callV ok_TB_add ml_SC_53 im_TB_add se_TB_TB_add (by decide +kernel) (hs.rcT (t := 8) (by decide) (by decide) (sy_o hG.2)) rfl (by omega) (Nat.le_of_ble_eq_true rfl) hC) rfl (fun q => by cases q) (fun h hs => ?_)
                  refine jj_iload_n (j := 1) (by decide +kernel) rfl ?_
                  refine jj_iconst (n := 3) (v := 3) (by decide +kernel) (by decide) ?_
                  refine jj_iadd (by decide +kernel) ?_
                  exact jj_iret .int (by decide +kernel) rfl rfl ⟨Or.inl rfl, hs⟩
        · skip
          refine jj_aload_n (j := 0) (by decide +kernel) rfl ?_
          refine jj_iload_n (j := 1) (by decide +kernel) rfl ?_
          refine sy_ci (s_SC_scanRow (d := d - 1) hG (by omega) hs) (fun o1 h1 hC => jj_callV ok_SC_scanRow ml_SC_70 im_SC_scanRow se_SC_SC_scanRow (by decide +kernel) (hs.rcSC hG.2) rfl (by omega) (Nat.le_of_ble_eq_true rfl) hC) (by decide) rfl (fun q => by cases q) (fun v15 h _ hs => ?_)
          exact jj_iret .int (by decide +kernel) rfl rfl ⟨Or.inl rfl, hs⟩
      · skip
        refine jj_aload_n (j := 0) (by decide +kernel) rfl ?_
        refine jj_iload_n (j := 1) (by decide +kernel) rfl ?_
        refine sy_ci (s_SC_scanNumber (d := d - 1) hG (by omega) hs) (fun o1 h1 hC => jj_callV ok_SC_scanNumber ml_SC_67 im_SC_scanNumber se_SC_SC_scanNumber (by decide +kernel) (hs.rcSC hG.2) rfl (by omega) (Nat.le_of_ble_eq_true rfl) hC) (by decide) rfl (fun q => by cases q) (fun v16 h _ hs => ?_)
        exact jj_iret .int (by decide +kernel) rfl rfl ⟨Or.inl rfl, hs⟩
    · skip
      refine jj_aload_n (j := 0) (by decide +kernel) rfl ?_
      refine jj_iload_n (j := 1) (by decide +kernel) rfl ?_
      refine sy_ci (s_SC_scanName (d := d - 1) hG (by omega) hs) (fun o1 h1 hC => jj_callV ok_SC_scanName ml_SC_61 im_SC_scanName se_SC_SC_scanName (by decide +kernel) (hs.rcSC hG.2) rfl (by omega) (Nat.le_of_ble_eq_true rfl) hC) (by decide) rfl (fun q => by cases q) (fun v17 h _ hs => ?_)
      exact jj_iret .int (by decide +kernel) rfl rfl ⟨Or.inl rfl, hs⟩
  · skip
    refine jj_aload_n (j := 0) (by decide +kernel) rfl ?_
    obtain ⟨bn, hg⟩ := hs.sc hG.2
    refine jj_getfield 2 ck_SC fl_SC_19 (by decide) (by decide +kernel) hg rfl ?_
    refine jj_sipush (n := 144) (v := 144) (by decide +kernel) (by decide) ?_
    refine jj_iconst (n := 0) (v := 0) (by decide +kernel) (by decide) ?_
    refine jj_iload_n (j := 1) (by decide +kernel) rfl ?_
    refine sy_cv (s_tab_add (d := d - 1) (t := 8) hG.1 hs (by decide) (by decide) (sy_o hG.2) (by omega)) (fun o1 h1 hC => jj_callV ok_TB_add ml_SC_53 im_TB_add se_TB_TB_add (by decide +kernel) (hs.rcT (t := 8) (by decide) (by decide) (sy_o hG.2)) rfl (by omega) (Nat.le_of_ble_eq_true rfl) hC) rfl (fun q => by cases q) (fun h hs => ?_)
    refine jj_iconst (n := (-1)) (v := (-1)) (by decide +kernel) (by decide) ?_
    exact jj_iret .int (by decide +kernel) rfl rfl ⟨Or.inl rfl, hs⟩
theorem s_SC_scanToken {l : Launch} {G : jj_G} {X : sy_X} {K o N d : Nat} {x1 : Int32} {h : jj_H} (hG : sy_G G X) (hdd : 11 ≤ d) (hs : Sy G X K o N h) : jj_Q l G y_SC_scanToken d [.ref (X.2.2.1 11), .int x1] h (sy_F 1 false G X K o N) :=
  jj_Q.of (by decide +kernel) (Nat.le_of_ble_eq_true rfl) (b_SC_scanToken_0 hG hdd hs)
set_option maxRecDepth 100000 in
set_option maxHeartbeats 4000000 in
theorem b_SC_scan_23 {l : Launch} {G : jj_G} {X : sy_X} {K o N d : Nat} (hG : sy_G G X) (hdd : 12 ≤ d) : ∀ (n : Nat) (x1 : Int32) (x2 : Int32) (h : jj_H), (2147483647 - x2.toInt).toNat < n → Sy G X K o N h → jj_P l G y_SC_scan d (sy_F 0 false G X K o N) 23 [some (.ref (X.2.2.1 11)), some (.int x1), some (.int x2)] [] h := by
  intro n
  induction n with
  | zero => intro x1 x2 h hn; exact absurd hn (Nat.not_lt_zero _)
  | succ n ih =>
    intro x1 x2 h hn hs
    refine jj_iload_n (j := 2) (by decide +kernel) rfl ?_
    refine jj_sipush (n := 16385) (v := 16385) (by decide +kernel) (by decide) ?_
    refine jj_icmp_ge (off := 24) (tgt := 51) (by decide +kernel) (by decide) (fun c1 => ?_) (fun c1 => ?_)
    · skip
      exact jj_vret (by decide +kernel) rfl ⟨rfl, hs⟩
    · skip
      have hdec := up_lt (Int32.not_le.mp c1) hn
      refine jj_iload_n (j := 1) (by decide +kernel) rfl ?_
      refine jj_iconst (n := (-1)) (v := (-1)) (by decide +kernel) (by decide) ?_
      refine jj_icmp_eq (off := 19) (tgt := 51) (by decide +kernel) (by decide) (fun c2 => ?_) (fun c2 => ?_)
      · skip
        exact jj_vret (by decide +kernel) rfl ⟨rfl, hs⟩
      · skip
        refine jj_aload_n (j := 0) (by decide +kernel) rfl ?_
        refine jj_aload_n (j := 0) (by decide +kernel) rfl ?_
        refine jj_iload_n (j := 1) (by decide +kernel) rfl ?_
        refine sy_ci (s_SC_behindBlanks (d := d - 1) hG (by omega) hs) (fun o1 h1 hC => jj_callV ok_SC_behindBlanks ml_SC_37 im_SC_behindBlanks se_SC_SC_behindBlanks (by decide +kernel) (hs.rcSC hG.2) rfl (by omega) (Nat.le_of_ble_eq_true rfl) hC) (by decide) rfl (fun q => by cases q) (fun v3 h _ hs => ?_)
        refine sy_ci (s_SC_scanToken (d := d - 1) hG (by omega) hs) (fun o1 h1 hC => jj_callV ok_SC_scanToken ml_SC_41 im_SC_scanToken se_SC_SC_scanToken (by decide +kernel) (hs.rcSC hG.2) rfl (by omega) (Nat.le_of_ble_eq_true rfl) hC) (by decide) rfl (fun q => by cases q) (fun v4 h _ hs => ?_)
        refine jj_istore_n (j := 1) (by decide +kernel) (by decide) rfl ?_
        refine jj_iinc (i := 2) (n := 1) (by decide +kernel) rfl rfl (by decide) rfl ?_
        refine jj_goto (off := (-25)) (tgt := 23) (by decide +kernel) (by decide) ?_
        exact jj_wk (js_s (js_s (js_s js_0))) (ih _ _ _ hdec hs)
set_option maxRecDepth 100000 in
set_option maxHeartbeats 4000000 in
theorem b_SC_scan_0 {l : Launch} {G : jj_G} {X : sy_X} {K o N d : Nat} {h : jj_H} (hG : sy_G G X) (hdd : 12 ≤ d) (hs : Sy G X K o N h) : jj_P l G y_SC_scan d (sy_F 0 false G X K o N) 0 [some (.ref (X.2.2.1 11)), none, none] [] h := by
  refine jj_aload_n (j := 0) (by decide +kernel) rfl ?_
  obtain ⟨bn, hg⟩ := hs.sc hG.2
  refine jj_getfield 2 ck_SC fl_SC_19 (by decide) (by decide +kernel) hg rfl ?_
  refine sy_cv (s_tab_clear (d := d - 1) (t := 8) hs (by decide) (by decide) (sy_o hG.2)) (fun o1 h1 hC => jj_callV ok_TB_clear ml_SC_27 im_TB_clear se_TB_TB_clear (by decide +kernel) (hs.rcT (t := 8) (by decide) (by decide) (sy_o hG.2)) rfl (by omega) (Nat.le_of_ble_eq_true rfl) hC) rfl (fun q => by cases q) (fun h hs => ?_)
  refine jj_aload_n (j := 0) (by decide +kernel) rfl ?_
  obtain ⟨bn, hg⟩ := hs.sc hG.2
  refine jj_getfield 1 ck_SC fl_SC_15 (by decide) (by decide +kernel) hg rfl ?_
  refine sy_cv (s_SP_reset (d := d - 1) hG.1 (by omega) hs) (fun o1 h1 hC => jj_callV ok_SP_reset ml_SC_32 im_SP_reset se_SP_SP_reset (by decide +kernel) hs.rcSP rfl (by omega) (Nat.le_of_ble_eq_true rfl) hC) rfl (fun q => by cases q) (fun h hs => ?_)
  refine jj_aload_n (j := 0) (by decide +kernel) rfl ?_
  refine jj_iconst (n := (-1)) (v := (-1)) (by decide +kernel) (by decide) ?_
  refine sy_putSC hs hG.2 fl_SC_23 (by decide +kernel) (fun h hs => ?_)
  refine jj_iconst (n := 0) (v := 0) (by decide +kernel) (by decide) ?_
  refine jj_istore_n (j := 1) (by decide +kernel) (by decide) rfl ?_
  refine jj_iconst (n := 0) (v := 0) (by decide +kernel) (by decide) ?_
  refine jj_istore_n (j := 2) (by decide +kernel) (by decide) rfl ?_
  exact jj_wk (js_s (js_s (js_s js_0))) (b_SC_scan_23 hG hdd _ _ _ _ (Nat.lt_succ_self _) hs)
theorem s_SC_scan {l : Launch} {G : jj_G} {X : sy_X} {K o N d : Nat} {h : jj_H} (hG : sy_G G X) (hdd : 12 ≤ d) (hs : Sy G X K o N h) : jj_Q l G y_SC_scan d [.ref (X.2.2.1 11)] h (sy_F 0 false G X K o N) :=
  jj_Q.of (by decide +kernel) (Nat.le_of_ble_eq_true rfl) (b_SC_scan_0 hG hdd hs)
