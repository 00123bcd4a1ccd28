set_option maxRecDepth 100000 in
set_option maxHeartbeats 4000000 in
theorem b_SP_size_0 {l : Launch} {G : jj_G} {X : sy_X} {K o N d : Nat} {h : jj_H} (hG : jj_tyG G) (hdd : 1 ≤ d) (hs : Sy G X K o N h) : jj_P l G y_SP_size d (sy_F 3 false G X K o N) 0 [some (.ref (X.2.2.1 10))] [] h := by
  refine jj_aload_n (j := 0) (by decide +kernel) rfl ?_
  obtain ⟨mi, hg⟩ := hs.sp
  refine jj_getfield 3 ck_SP fl_SP_23 (by decide) (by decide +kernel) hg rfl ?_
  refine sy_ci (s_row_size (d := d - 1) (t := 4) hs (by decide) (sy_p (by decide))) (fun o1 h1 hC => jj_callV ok_IR_size ml_SP_58 im_IR_size se_IR_IR_size (by decide +kernel) (hs.rcR (t := 4) (by decide) (sy_p (by decide))) rfl (by omega) (Nat.le_of_ble_eq_true rfl) hC) (by decide) rfl (fun q => by cases q) (fun v1 h hv1 hs => ?_)
  exact jj_iret .int (by decide +kernel) rfl rfl ⟨Or.inr (Or.inr ⟨rfl, (hv1 rfl)⟩), hs⟩
theorem s_SP_size {l : Launch} {G : jj_G} {X : sy_X} {K o N d : Nat} {h : jj_H} (hG : jj_tyG G) (hdd : 1 ≤ d) (hs : Sy G X K o N h) : jj_Q l G y_SP_size d [.ref (X.2.2.1 10)] h (sy_F 3 false G X K o N) :=
  jj_Q.of (by decide +kernel) (Nat.le_of_ble_eq_true rfl) (b_SP_size_0 hG hdd hs)
set_option maxRecDepth 100000 in
set_option maxHeartbeats 4000000 in
theorem b_SP_letterOf_0 {l : Launch} {G : jj_G} {X : sy_X} {K o N d : Nat} {x1 x2 : Int32} {h : jj_H} (hG : jj_tyG G) (hdd : 1 ≤ d) (hs : Sy G X K o N h) : jj_P l G y_SP_letterOf d (sy_F 1 false G X K o N) 0 [some (.ref (X.2.2.1 10)), some (.int x1), some (.int x2), none, none] [] h := by
  refine jj_aload_n (j := 0) (by decide +kernel) rfl ?_
  obtain ⟨mi, hg⟩ := hs.sp
  refine jj_getfield 1 ck_SP fl_SP_20 (by decide) (by decide +kernel) hg rfl ?_
  refine jj_iload_n (j := 1) (by decide +kernel) rfl ?_
  refine sy_ci (s_row_at (d := d - 1) (t := 2) hG hs (by decide) (sy_p (by decide))) (fun o1 h1 hC => jj_callV ok_IR_at ml_SP_62 im_IR_at se_IR_IR_at (by decide +kernel) (hs.rcR (t := 2) (by decide) (sy_p (by decide))) rfl (by omega) (Nat.le_of_ble_eq_true rfl) hC) (by decide) rfl (fun q => by cases q) (fun v1 h _ hs => ?_)
  refine jj_istore_n (j := 3) (by decide +kernel) (by decide) rfl ?_
  refine jj_aload_n (j := 0) (by decide +kernel) rfl ?_
  obtain ⟨mi, hg⟩ := hs.sp
  refine jj_getfield 1 ck_SP fl_SP_20 (by decide) (by decide +kernel) hg rfl ?_
  refine jj_iload_n (j := 1) (by decide +kernel) rfl ?_
  refine jj_iconst (n := 1) (v := 1) (by decide +kernel) (by decide) ?_
  refine jj_iadd (by decide +kernel) ?_
  refine sy_ci (s_row_at (d := d - 1) (t := 2) hG hs (by decide) (sy_p (by decide))) (fun o1 h1 hC => jj_callV ok_IR_at ml_SP_62 im_IR_at se_IR_IR_at (by decide +kernel) (hs.rcR (t := 2) (by decide) (sy_p (by decide))) rfl (by omega) (Nat.le_of_ble_eq_true rfl) hC) (by decide) rfl (fun q => by cases q) (fun v2 h _ hs => ?_)
  refine jj_istore (i := 4) (by decide +kernel) (by decide) rfl ?_
  refine jj_iload_n (j := 2) (by decide +kernel) rfl ?_
  refine jj_if_lt (off := 11) (tgt := 33) (by decide +kernel) (by decide) (fun c3 => ?_) (fun c3 => ?_)
  · skip
    refine jj_iconst (n := (-1)) (v := (-1)) (by decide +kernel) (by decide) ?_
    refine jj_goto (off := 13) (tgt := 47) (by decide +kernel) (by decide) ?_
    exact jj_iret .int (by decide +kernel) rfl rfl ⟨Or.inl rfl, hs⟩
  · skip
    refine jj_iload_n (j := 2) (by decide +kernel) rfl ?_
    refine jj_iload (i := 4) (by decide +kernel) rfl ?_
    refine jj_iload_n (j := 3) (by decide +kernel) rfl ?_
    refine jj_isub (by decide +kernel) ?_
    refine jj_icmp_lt (off := 7) (tgt := 37) (by decide +kernel) (by decide) (fun c4 => ?_) (fun c4 => ?_)
    · skip
      refine jj_aload_n (j := 0) (by decide +kernel) rfl ?_
      obtain ⟨mi, hg⟩ := hs.sp
      refine jj_getfield 0 ck_SP fl_SP_14 (by decide) (by decide +kernel) hg rfl ?_
      refine jj_iload_n (j := 3) (by decide +kernel) rfl ?_
      refine jj_iload_n (j := 2) (by decide +kernel) rfl ?_
      refine jj_iadd (by decide +kernel) ?_
      refine sy_ci (s_row_at (d := d - 1) (t := 1) hG hs (by decide) (sy_p (by decide))) (fun o1 h1 hC => jj_callV ok_IR_at ml_SP_62 im_IR_at se_IR_IR_at (by decide +kernel) (hs.rcR (t := 1) (by decide) (sy_p (by decide))) rfl (by omega) (Nat.le_of_ble_eq_true rfl) hC) (by decide) rfl (fun q => by cases q) (fun v5 h _ hs => ?_)
      exact jj_iret .int (by decide +kernel) rfl rfl ⟨Or.inl rfl, hs⟩
    · skip
      refine jj_iconst (n := (-1)) (v := (-1)) (by decide +kernel) (by decide) ?_
      refine jj_goto (off := 13) (tgt := 47) (by decide +kernel) (by decide) ?_
      exact jj_iret .int (by decide +kernel) rfl rfl ⟨Or.inl rfl, hs⟩
theorem s_SP_letterOf {l : Launch} {G : jj_G} {X : sy_X} {K o N d : Nat} {x1 x2 : Int32} {h : jj_H} (hG : jj_tyG G) (hdd : 1 ≤ d) (hs : Sy G X K o N h) : jj_Q l G y_SP_letterOf d [.ref (X.2.2.1 10), .int x1, .int x2] h (sy_F 1 false G X K o N) :=
  jj_Q.of (by decide +kernel) (Nat.le_of_ble_eq_true rfl) (b_SP_letterOf_0 hG hdd hs)
set_option maxRecDepth 100000 in
set_option maxHeartbeats 4000000 in
theorem b_SP_addLetter_0 {l : Launch} {G : jj_G} {X : sy_X} {K o N d : Nat} {x1 : Int32} {h : jj_H} (hG : jj_tyG G) (hdd : 6 ≤ d) (hs : Sy G X K o N h) : jj_P l G y_SP_addLetter d (sy_F 0 false G X K o N) 0 [some (.ref (X.2.2.1 10)), some (.int x1)] [] h := by
  refine jj_aload_n (j := 0) (by decide +kernel) rfl ?_
  obtain ⟨mi, hg⟩ := hs.sp
  refine jj_getfield 0 ck_SP fl_SP_14 (by decide) (by decide +kernel) hg rfl ?_
  refine jj_iload_n (j := 1) (by decide +kernel) rfl ?_
  refine sy_cv (s_row_add (d := d - 1) (t := 1) hG hs (by decide) (sy_p (by decide)) (by decide) (by omega)) (fun o1 h1 hC => jj_callV ok_IR_add ml_SP_29 im_IR_add se_IR_IR_add (by decide +kernel) (hs.rcR (t := 1) (by decide) (sy_p (by decide))) rfl (by omega) (Nat.le_of_ble_eq_true rfl) hC) rfl (fun q => by cases q) (fun h hs => ?_)
  refine jj_aload_n (j := 0) (by decide +kernel) rfl ?_
  refine jj_aload_n (j := 0) (by decide +kernel) rfl ?_
  obtain ⟨mi, hg⟩ := hs.sp
  refine jj_getfield 4 ck_SP fl_SP_38 (by decide) (by decide +kernel) hg rfl ?_
  refine jj_bipush (n := 31) (v := 31) (by decide +kernel) (by decide) ?_
  refine jj_imul (by decide +kernel) ?_
  refine jj_iload_n (j := 1) (by decide +kernel) rfl ?_
  refine jj_iadd (by decide +kernel) ?_
  refine sy_putSP hs fl_SP_38 (by decide +kernel) (fun h hs => ?_)
  exact jj_vret (by decide +kernel) rfl ⟨rfl, hs⟩
theorem s_SP_addLetter {l : Launch} {G : jj_G} {X : sy_X} {K o N d : Nat} {x1 : Int32} {h : jj_H} (hG : jj_tyG G) (hdd : 6 ≤ d) (hs : Sy G X K o N h) : jj_Q l G y_SP_addLetter d [.ref (X.2.2.1 10), .int x1] h (sy_F 0 false G X K o N) :=
  jj_Q.of (by decide +kernel) (Nat.le_of_ble_eq_true rfl) (b_SP_addLetter_0 hG hdd hs)
set_option maxRecDepth 100000 in
set_option maxHeartbeats 4000000 in
theorem b_SP_isLast_42 {l : Launch} {G : jj_G} {X : sy_X} {K o N d : Nat} {x1 x2 : Int32} (hG : jj_tyG G) (hdd : 1 ≤ d) : ∀ (n : Nat) (x3 : Int32) (x4 : Int32) (x5 : Int32) (h : jj_H), (2147483647 - x5.toInt).toNat < n → Sy G X K o N h → jj_P l G y_SP_isLast d (sy_F 2 false G X K o N) 42 [some (.ref (X.2.2.1 10)), some (.int x1), some (.int x2), some (.int x3), some (.int x4), some (.int x5)] [] h := by
  intro n
  induction n with
  | zero => intro x3 x4 x5 h hn; exact absurd hn (Nat.not_lt_zero _)
  | succ n ih =>
    intro x3 x4 x5 h hn hs
    refine jj_iload (i := 5) (by decide +kernel) rfl ?_
    refine jj_iload (i := 4) (by decide +kernel) rfl ?_
    refine jj_icmp_ge (off := 36) (tgt := 82) (by decide +kernel) (by decide) (fun c1 => ?_) (fun c1 => ?_)
    · skip
      refine jj_iconst (n := 1) (v := 1) (by decide +kernel) (by decide) ?_
      exact jj_iret .boolean (by decide +kernel) rfl rfl ⟨Or.inr (Or.inl ⟨rfl, Or.inr rfl⟩), hs⟩
    · skip
      have hdec := up_lt (Int32.not_le.mp c1) hn
      refine jj_aload_n (j := 0) (by decide +kernel) rfl ?_
      obtain ⟨mi, hg⟩ := hs.sp
      refine jj_getfield 0 ck_SP fl_SP_14 (by decide) (by decide +kernel) hg rfl ?_
      refine jj_iload_n (j := 3) (by decide +kernel) rfl ?_
      refine jj_iload (i := 5) (by decide +kernel) rfl ?_
      refine jj_iadd (by decide +kernel) ?_
      refine sy_ci (s_row_at (d := d - 1) (t := 1) hG hs (by decide) (sy_p (by decide))) (fun o1 h1 hC => jj_callV ok_IR_at ml_SP_62 im_IR_at se_IR_IR_at (by decide +kernel) (hs.rcR (t := 1) (by decide) (sy_p (by decide))) rfl (by omega) (Nat.le_of_ble_eq_true rfl) hC) (by decide) rfl (fun q => by cases q) (fun v2 h _ hs => ?_)
      refine jj_aload_n (j := 0) (by decide +kernel) rfl ?_
      obtain ⟨mi, hg⟩ := hs.sp
      refine jj_getfield 0 ck_SP fl_SP_14 (by decide) (by decide +kernel) hg rfl ?_
      refine jj_iload_n (j := 2) (by decide +kernel) rfl ?_
      refine jj_iload (i := 5) (by decide +kernel) rfl ?_
      refine jj_iadd (by decide +kernel) ?_
      refine sy_ci (s_row_at (d := d - 1) (t := 1) hG hs (by decide) (sy_p (by decide))) (fun o1 h1 hC => jj_callV ok_IR_at ml_SP_62 im_IR_at se_IR_IR_at (by decide +kernel) (hs.rcR (t := 1) (by decide) (sy_p (by decide))) rfl (by omega) (Nat.le_of_ble_eq_true rfl) hC) (by decide) rfl (fun q => by cases q) (fun v3 h _ hs => ?_)
      refine jj_icmp_eq (off := 5) (tgt := 76) (by decide +kernel) (by decide) (fun c4 => ?_) (fun c4 => ?_)
      · skip
        refine jj_iinc (i := 5) (n := 1) (by decide +kernel) rfl rfl (by decide) rfl ?_
        refine jj_goto (off := (-37)) (tgt := 42) (by decide +kernel) (by decide) ?_
        exact jj_wk (js_s (js_s (js_s (js_s (js_s (js_s js_0)))))) (ih _ _ _ _ hdec hs)
      · skip
        refine jj_iconst (n := 0) (v := 0) (by decide +kernel) (by decide) ?_
        exact jj_iret .boolean (by decide +kernel) rfl rfl ⟨Or.inr (Or.inl ⟨rfl, Or.inl rfl⟩), hs⟩
set_option maxRecDepth 100000 in
set_option maxHeartbeats 4000000 in
theorem b_SP_isLast_0 {l : Launch} {G : jj_G} {X : sy_X} {K o N d : Nat} {x1 x2 : Int32} {h : jj_H} (hG : jj_tyG G) (hdd : 1 ≤ d) (hs : Sy G X K o N h) : jj_P l G y_SP_isLast d (sy_F 2 false G X K o N) 0 [some (.ref (X.2.2.1 10)), some (.int x1), some (.int x2), none, none, none] [] h := by
  refine jj_aload_n (j := 0) (by decide +kernel) rfl ?_
  obtain ⟨mi, hg⟩ := hs.sp
  refine jj_getfield 1 ck_SP fl_SP_20 (by decide) (by decide +kernel) hg rfl ?_
  refine jj_iload_n (j := 1) (by decide +kernel) rfl ?_
  refine sy_ci (s_row_at (d := d - 1) (t := 2) hG hs (by decide) (sy_p (by decide))) (fun o1 h1 hC => jj_callV ok_IR_at ml_SP_62 im_IR_at se_IR_IR_at (by decide +kernel) (hs.rcR (t := 2) (by decide) (sy_p (by decide))) rfl (by omega) (Nat.le_of_ble_eq_true rfl) hC) (by decide) rfl (fun q => by cases q) (fun v1 h _ hs => ?_)
  refine jj_istore_n (j := 3) (by decide +kernel) (by decide) rfl ?_
  refine jj_aload_n (j := 0) (by decide +kernel) rfl ?_
  obtain ⟨mi, hg⟩ := hs.sp
  refine jj_getfield 0 ck_SP fl_SP_14 (by decide) (by decide +kernel) hg rfl ?_
  refine sy_ci (s_row_size (d := d - 1) (t := 1) hs (by decide) (sy_p (by decide))) (fun o1 h1 hC => jj_callV ok_IR_size ml_SP_58 im_IR_size se_IR_IR_size (by decide +kernel) (hs.rcR (t := 1) (by decide) (sy_p (by decide))) rfl (by omega) (Nat.le_of_ble_eq_true rfl) hC) (by decide) rfl (fun q => by cases q) (fun v2 h hv2 hs => ?_)
  refine jj_iload_n (j := 2) (by decide +kernel) rfl ?_
  refine jj_isub (by decide +kernel) ?_
  refine jj_istore (i := 4) (by decide +kernel) (by decide) rfl ?_
  refine jj_aload_n (j := 0) (by decide +kernel) rfl ?_
  obtain ⟨mi, hg⟩ := hs.sp
  refine jj_getfield 1 ck_SP fl_SP_20 (by decide) (by decide +kernel) hg rfl ?_
  refine jj_iload_n (j := 1) (by decide +kernel) rfl ?_
  refine jj_iconst (n := 1) (v := 1) (by decide +kernel) (by decide) ?_
  refine jj_iadd (by decide +kernel) ?_
  refine sy_ci (s_row_at (d := d - 1) (t := 2) hG hs (by decide) (sy_p (by decide))) (fun o1 h1 hC => jj_callV ok_IR_at ml_SP_62 im_IR_at se_IR_IR_at (by decide +kernel) (hs.rcR (t := 2) (by decide) (sy_p (by decide))) rfl (by omega) (Nat.le_of_ble_eq_true rfl) hC) (by decide) rfl (fun q => by cases q) (fun v3 h _ hs => ?_)
  refine jj_iload_n (j := 3) (by decide +kernel) rfl ?_
  refine jj_isub (by decide +kernel) ?_
  refine jj_iload (i := 4) (by decide +kernel) rfl ?_
  refine jj_icmp_eq (off := 5) (tgt := 39) (by decide +kernel) (by decide) (fun c4 => ?_) (fun c4 => ?_)
  · skip
    refine jj_iconst (n := 0) (v := 0) (by decide +kernel) (by decide) ?_
    refine jj_istore (i := 5) (by decide +kernel) (by decide) rfl ?_
    exact jj_wk (js_s (js_s (js_s (js_s (js_s (js_s js_0)))))) (b_SP_isLast_42 hG hdd _ _ _ _ _ (Nat.lt_succ_self _) hs)
  · skip
    refine jj_iconst (n := 0) (v := 0) (by decide +kernel) (by decide) ?_
    exact jj_iret .boolean (by decide +kernel) rfl rfl ⟨Or.inr (Or.inl ⟨rfl, Or.inl rfl⟩), hs⟩
theorem s_SP_isLast {l : Launch} {G : jj_G} {X : sy_X} {K o N d : Nat} {x1 x2 : Int32} {h : jj_H} (hG : jj_tyG G) (hdd : 1 ≤ d) (hs : Sy G X K o N h) : jj_Q l G y_SP_isLast d [.ref (X.2.2.1 10), .int x1, .int x2] h (sy_F 2 false G X K o N) :=
  jj_Q.of (by decide +kernel) (Nat.le_of_ble_eq_true rfl) (b_SP_isLast_0 hG hdd hs)
set_option maxRecDepth 100000 in
set_option maxHeartbeats 4000000 in
theorem b_SP_settle_86 {l : Launch} {G : jj_G} {X : sy_X} {K o N d : Nat} {h : jj_H} {x1 x2 x3 x4 : Int32} (hG : jj_tyG G) (hdd : 6 ≤ d) (hs : Sy G X K o N h) : jj_P l G y_SP_settle d (sy_F 1 false G X K o N) 86 [some (.ref (X.2.2.1 10)), some (.int x1), some (.int x2), some (.int x3), some (.int x4)] [] h := by
  refine jj_aload_n (j := 0) (by decide +kernel) rfl ?_
  obtain ⟨mi, hg⟩ := hs.sp
  refine jj_getfield 1 ck_SP fl_SP_20 (by decide) (by decide +kernel) hg rfl ?_
  refine jj_aload_n (j := 0) (by decide +kernel) rfl ?_
  obtain ⟨mi, hg⟩ := hs.sp
  refine jj_getfield 0 ck_SP fl_SP_14 (by decide) (by decide +kernel) hg rfl ?_
  refine sy_ci (s_row_size (d := d - 1) (t := 1) hs (by decide) (sy_p (by decide))) (fun o1 h1 hC => jj_callV ok_IR_size ml_SP_58 im_IR_size se_IR_IR_size (by decide +kernel) (hs.rcR (t := 1) (by decide) (sy_p (by decide))) rfl (by omega) (Nat.le_of_ble_eq_true rfl) hC) (by decide) rfl (fun q => by cases q) (fun v1 h hv1 hs => ?_)
  refine sy_cv (s_row_add (d := d - 1) (t := 2) hG hs (by decide) (sy_p (by decide)) (by decide) (by omega)) (fun o1 h1 hC => jj_callV ok_IR_add ml_SP_29 im_IR_add se_IR_IR_add (by decide +kernel) (hs.rcR (t := 2) (by decide) (sy_p (by decide))) rfl (by omega) (Nat.le_of_ble_eq_true rfl) hC) rfl (fun q => by cases q) (fun h hs => ?_)
  refine jj_aload_n (j := 0) (by decide +kernel) rfl ?_
  obtain ⟨mi, hg⟩ := hs.sp
  refine jj_getfield 3 ck_SP fl_SP_23 (by decide) (by decide +kernel) hg rfl ?_
  refine jj_aload_n (j := 0) (by decide +kernel) rfl ?_
  obtain ⟨mi, hg⟩ := hs.sp
  refine jj_getfield 2 ck_SP fl_SP_26 (by decide) (by decide +kernel) hg rfl ?_
  refine jj_iload_n (j := 1) (by decide +kernel) rfl ?_
  refine sy_ci (s_row_at (d := d - 1) (t := 3) hG hs (by decide) (sy_p (by decide))) (fun o1 h1 hC => jj_callV ok_IR_at ml_SP_62 im_IR_at se_IR_IR_at (by decide +kernel) (hs.rcR (t := 3) (by decide) (sy_p (by decide))) rfl (by omega) (Nat.le_of_ble_eq_true rfl) hC) (by decide) rfl (fun q => by cases q) (fun v2 h _ hs => ?_)
  refine sy_cv (s_row_add (d := d - 1) (t := 4) hG hs (by decide) (sy_p (by decide)) (by decide) (by omega)) (fun o1 h1 hC => jj_callV ok_IR_add ml_SP_29 im_IR_add se_IR_IR_add (by decide +kernel) (hs.rcR (t := 4) (by decide) (sy_p (by decide))) rfl (by omega) (Nat.le_of_ble_eq_true rfl) hC) rfl (fun q => by cases q) (fun h hs => ?_)
  refine jj_aload_n (j := 0) (by decide +kernel) rfl ?_
  obtain ⟨mi, hg⟩ := hs.sp
  refine jj_getfield 2 ck_SP fl_SP_26 (by decide) (by decide +kernel) hg rfl ?_
  refine jj_iload_n (j := 1) (by decide +kernel) rfl ?_
  refine jj_aload_n (j := 0) (by decide +kernel) rfl ?_
  refine sy_ci (s_SP_size (d := d - 1) hG (by omega) hs) (fun o1 h1 hC => jj_callV ok_SP_size ml_SP_66 im_SP_size se_SP_SP_size (by decide +kernel) hs.rcSP rfl (by omega) (Nat.le_of_ble_eq_true rfl) hC) (by decide) rfl (fun q => by cases q) (fun v3 h hv3 hs => ?_)
  refine jj_iconst (n := 1) (v := 1) (by decide +kernel) (by decide) ?_
  refine jj_isub (by decide +kernel) ?_
  refine sy_cv (s_row_put (d := d - 1) (t := 3) hG hs (by decide) (sy_p (by decide))) (fun o1 h1 hC => jj_callV ok_IR_put ml_SP_42 im_IR_put se_IR_IR_put (by decide +kernel) (hs.rcR (t := 3) (by decide) (sy_p (by decide))) rfl (by omega) (Nat.le_of_ble_eq_true rfl) hC) rfl (fun q => by cases q) (fun h hs => ?_)
  refine jj_aload_n (j := 0) (by decide +kernel) rfl ?_
  refine sy_ci (s_SP_size (d := d - 1) hG (by omega) hs) (fun o1 h1 hC => jj_callV ok_SP_size ml_SP_66 im_SP_size se_SP_SP_size (by decide +kernel) hs.rcSP rfl (by omega) (Nat.le_of_ble_eq_true rfl) hC) (by decide) rfl (fun q => by cases q) (fun v4 h hv4 hs => ?_)
  refine jj_iconst (n := 1) (v := 1) (by decide +kernel) (by decide) ?_
  refine jj_isub (by decide +kernel) ?_
  exact jj_iret .int (by decide +kernel) rfl rfl ⟨Or.inl rfl, hs⟩
set_option maxRecDepth 100000 in
set_option maxHeartbeats 4000000 in
theorem b_SP_settle_38 {l : Launch} {G : jj_G} {X : sy_X} {K o N d : Nat} (hG : jj_tyG G) (hdd : 6 ≤ d) : ∀ (n : Nat) (x1 : Int32) (x2 : Int32) (x3 : Int32) (x4 : Int32) (h : jj_H), (2147483647 - x4.toInt).toNat < n → Sy G X K o N h → jj_P l G y_SP_settle d (sy_F 1 false G X K o N) 38 [some (.ref (X.2.2.1 10)), some (.int x1), some (.int x2), some (.int x3), some (.int x4)] [] h := by
  intro n
  induction n with
  | zero => intro x1 x2 x3 x4 h hn; exact absurd hn (Nat.not_lt_zero _)
  | succ n ih =>
    intro x1 x2 x3 x4 h hn hs
    refine jj_iload (i := 4) (by decide +kernel) rfl ?_
    refine jj_aload_n (j := 0) (by decide +kernel) rfl ?_
    refine sy_ci (s_SP_size (d := d - 1) hG (by omega) hs) (fun o1 h1 hC => jj_callV ok_SP_size ml_SP_66 im_SP_size se_SP_SP_size (by decide +kernel) hs.rcSP rfl (by omega) (Nat.le_of_ble_eq_true rfl) hC) (by decide) rfl (fun q => by cases q) (fun v1 h hv1 hs => ?_)
    refine jj_icmp_ge (off := 42) (tgt := 86) (by decide +kernel) (by decide) (fun c2 => ?_) (fun c2 => ?_)
    · skip
      exact jj_wk (js_s (js_s (js_s (js_s (js_s js_0))))) (b_SP_settle_86 hG hdd hs)
    · skip
      have hdec := up_lt (Int32.not_le.mp c2) hn
      refine jj_iload_n (j := 3) (by decide +kernel) rfl ?_
      refine jj_iconst (n := (-1)) (v := (-1)) (by decide +kernel) (by decide) ?_
      refine jj_icmp_eq (off := 37) (tgt := 86) (by decide +kernel) (by decide) (fun c3 => ?_) (fun c3 => ?_)
      · skip
        exact jj_wk (js_s (js_s (js_s (js_s (js_s js_0))))) (b_SP_settle_86 hG hdd hs)
      · skip
        refine jj_aload_n (j := 0) (by decide +kernel) rfl ?_
        refine jj_iload_n (j := 3) (by decide +kernel) rfl ?_
        refine jj_iload_n (j := 2) (by decide +kernel) rfl ?_
        refine sy_ci (s_SP_isLast (d := d - 1) hG (by omega) hs) (fun o1 h1 hC => jj_callV ok_SP_isLast ml_SP_67 im_SP_isLast se_SP_SP_isLast (by decide +kernel) hs.rcSP rfl (by omega) (Nat.le_of_ble_eq_true rfl) hC) (by decide) rfl (fun q => by cases q) (fun v4 h _ hs => ?_)
        refine jj_if_eq (off := 13) (tgt := 71) (by decide +kernel) (by decide) (fun c5 => ?_) (fun c5 => ?_)
        · skip
          refine jj_aload_n (j := 0) (by decide +kernel) rfl ?_
          obtain ⟨mi, hg⟩ := hs.sp
          refine jj_getfield 3 ck_SP fl_SP_23 (by decide) (by decide +kernel) hg rfl ?_
          refine jj_iload_n (j := 3) (by decide +kernel) rfl ?_
          refine sy_ci (s_row_at (d := d - 1) (t := 4) hG hs (by decide) (sy_p (by decide))) (fun o1 h1 hC => jj_callV ok_IR_at ml_SP_62 im_IR_at se_IR_IR_at (by decide +kernel) (hs.rcR (t := 4) (by decide) (sy_p (by decide))) rfl (by omega) (Nat.le_of_ble_eq_true rfl) hC) (by decide) rfl (fun q => by cases q) (fun v6 h _ hs => ?_)
          refine jj_istore_n (j := 3) (by decide +kernel) (by decide) rfl ?_
          refine jj_iinc (i := 4) (n := 1) (by decide +kernel) rfl rfl (by decide) rfl ?_
          refine jj_goto (off := (-45)) (tgt := 38) (by decide +kernel) (by decide) ?_
          exact jj_wk (js_s (js_s (js_s (js_s (js_s js_0))))) (ih _ _ _ _ _ hdec hs)
        · skip
          refine jj_aload_n (j := 0) (by decide +kernel) rfl ?_
          obtain ⟨mi, hg⟩ := hs.sp
          refine jj_getfield 0 ck_SP fl_SP_14 (by decide) (by decide +kernel) hg rfl ?_
          refine jj_iload_n (j := 2) (by decide +kernel) rfl ?_
          refine sy_cv (s_row_cut (d := d - 1) (t := 1) hs (by decide) (sy_p (by decide)) (by decide)) (fun o1 h1 hC => jj_callV ok_IR_cutTo ml_SP_35 im_IR_cutTo se_IR_IR_cutTo (by decide +kernel) (hs.rcR (t := 1) (by decide) (sy_p (by decide))) rfl (by omega) (Nat.le_of_ble_eq_true rfl) hC) rfl (fun q => by cases q) (fun h hs => ?_)
          refine jj_iload_n (j := 3) (by decide +kernel) rfl ?_
          exact jj_iret .int (by decide +kernel) rfl rfl ⟨Or.inl rfl, hs⟩
set_option maxRecDepth 100000 in
set_option maxHeartbeats 4000000 in
theorem b_SP_settle_0 {l : Launch} {G : jj_G} {X : sy_X} {K o N d : Nat} {h : jj_H} (hG : jj_tyG G) (hdd : 6 ≤ d) (hs : Sy G X K o N h) : jj_P l G y_SP_settle d (sy_F 1 false G X K o N) 0 [some (.ref (X.2.2.1 10)), none, none, none, none] [] h := by
  refine jj_aload_n (j := 0) (by decide +kernel) rfl ?_
  obtain ⟨mi, hg⟩ := hs.sp
  refine jj_getfield 4 ck_SP fl_SP_38 (by decide) (by decide +kernel) hg rfl ?_
  refine jj_sipush (n := 511) (v := 511) (by decide +kernel) (by decide) ?_
  refine jj_iand (by decide +kernel) ?_
  refine jj_istore_n (j := 1) (by decide +kernel) (by decide) rfl ?_
  refine jj_aload_n (j := 0) (by decide +kernel) rfl ?_
  refine jj_iconst (n := 0) (v := 0) (by decide +kernel) (by decide) ?_
  refine sy_putSP hs fl_SP_38 (by decide +kernel) (fun h hs => ?_)
  refine jj_aload_n (j := 0) (by decide +kernel) rfl ?_
  obtain ⟨mi, hg⟩ := hs.sp
  refine jj_getfield 1 ck_SP fl_SP_20 (by decide) (by decide +kernel) hg rfl ?_
  refine jj_aload_n (j := 0) (by decide +kernel) rfl ?_
  refine sy_ci (s_SP_size (d := d - 1) hG (by omega) hs) (fun o1 h1 hC => jj_callV ok_SP_size ml_SP_66 im_SP_size se_SP_SP_size (by decide +kernel) hs.rcSP rfl (by omega) (Nat.le_of_ble_eq_true rfl) hC) (by decide) rfl (fun q => by cases q) (fun v1 h hv1 hs => ?_)
  refine sy_ci (s_row_at (d := d - 1) (t := 2) hG hs (by decide) (sy_p (by decide))) (fun o1 h1 hC => jj_callV ok_IR_at ml_SP_62 im_IR_at se_IR_IR_at (by decide +kernel) (hs.rcR (t := 2) (by decide) (sy_p (by decide))) rfl (by omega) (Nat.le_of_ble_eq_true rfl) hC) (by decide) rfl (fun q => by cases q) (fun v2 h _ hs => ?_)
  refine jj_istore_n (j := 2) (by decide +kernel) (by decide) rfl ?_
  refine jj_aload_n (j := 0) (by decide +kernel) rfl ?_
  obtain ⟨mi, hg⟩ := hs.sp
  refine jj_getfield 2 ck_SP fl_SP_26 (by decide) (by decide +kernel) hg rfl ?_
  refine jj_iload_n (j := 1) (by decide +kernel) rfl ?_
  refine sy_ci (s_row_at (d := d - 1) (t := 3) hG hs (by decide) (sy_p (by decide))) (fun o1 h1 hC => jj_callV ok_IR_at ml_SP_62 im_IR_at se_IR_IR_at (by decide +kernel) (hs.rcR (t := 3) (by decide) (sy_p (by decide))) rfl (by omega) (Nat.le_of_ble_eq_true rfl) hC) (by decide) rfl (fun q => by cases q) (fun v3 h _ hs => ?_)
  refine jj_istore_n (j := 3) (by decide +kernel) (by decide) rfl ?_
  refine jj_iconst (n := 0) (v := 0) (by decide +kernel) (by decide) ?_
  refine jj_istore (i := 4) (by decide +kernel) (by decide) rfl ?_
  exact jj_wk (js_s (js_s (js_s (js_s (js_s js_0))))) (b_SP_settle_38 hG hdd _ _ _ _ _ _ (Nat.lt_succ_self _) hs)
theorem s_SP_settle {l : Launch} {G : jj_G} {X : sy_X} {K o N d : Nat} {h : jj_H} (hG : jj_tyG G) (hdd : 6 ≤ d) (hs : Sy G X K o N h) : jj_Q l G y_SP_settle d [.ref (X.2.2.1 10)] h (sy_F 1 false G X K o N) :=
  jj_Q.of (by decide +kernel) (Nat.le_of_ble_eq_true rfl) (b_SP_settle_0 hG hdd hs)
set_option maxRecDepth 100000 in
set_option maxHeartbeats 4000000 in
theorem b_SP_addAll_2 {l : Launch} {G : jj_G} {X : sy_X} {K o N d i : Nat} (hG : jj_tyG G) (hi : i < jj_nS) (hdd : 8 ≤ d) : ∀ (n j : Nat) (h : jj_H), jj_lS.getD i 0 - j < n → j ≤ jj_lS.getD i 0 → Sy G X K o N h → jj_P l G y_SP_addAll d (sy_F 0 false G X K o N) 2 [some (.ref (X.2.2.1 10)), some (.ref (G.2.2.2.1 i)), some (.int (nI j)), none] [] h := by
  have hlen := lS_small i hi
  intro n
  induction n with
  | zero => intro j h hn; exact absurd hn (Nat.not_lt_zero _)
  | succ n ih =>
    intro j h hn hjl hs
    refine jj_iload_n (j := 2) (by decide +kernel) rfl ?_
    refine jj_aload_n (j := 1) (by decide +kernel) rfl ?_
    refine jj_callr (c_JS_length (d := d - 1) hi (by omega)) (fun o1 h1 hC => jj_callV ok_JS_length ml_SP_71 im_JS_length se_JS_JS_length (by decide +kernel) (jj_rcv.str hi) rfl (by omega) (Nat.le_of_ble_eq_true rfl) hC) (by rintro E h1 ⟨q, -⟩; cases q) ?_
    rintro v h1 ⟨hv, rfl⟩
    cases hv
    by_cases hj : j < jj_lS.getD i 0
    · refine jj_icmp_ge (off := 34) (tgt := 41) (by decide +kernel) (by decide) (fun c1 => ?_) (fun c1 => ?_)
      · exact absurd c1 (nI_ge hj (by omega))
      · refine jj_aload_n (j := 1) (by decide +kernel) rfl ?_
        refine jj_iload_n (j := 2) (by decide +kernel) rfl ?_
        refine jj_callr (c_JS_charAt (d := d - 1) hi hj (by omega)) (fun o1 h1 hC => jj_callV ok_JS_charAt ml_SP_76 im_JS_charAt se_JS_JS_charAt (by decide +kernel) (jj_rcv.str hi) rfl (by omega) (Nat.le_of_ble_eq_true rfl) hC) (by rintro E h1 ⟨v, q, -⟩; cases q) ?_
        rintro v h1 ⟨v9, hv, rfl⟩
        cases hv
        refine jj_istore_n (j := 3) (by decide +kernel) (by decide) rfl ?_
        refine jj_iload_n (j := 3) (by decide +kernel) rfl ?_
        refine jj_bipush (n := 32) (v := 32) (by decide +kernel) (by decide) ?_
        refine jj_icmp_ne (off := 11) (tgt := 30) (by decide +kernel) (by decide) (fun c2 => ?_) (fun c2 => ?_)
        · refine jj_aload_n (j := 0) (by decide +kernel) rfl ?_
          refine jj_iload_n (j := 3) (by decide +kernel) rfl ?_
          refine sy_cv (s_SP_addLetter (d := d - 1) hG (by omega) hs) (fun o1 h1 hC => jj_callV ok_SP_addLetter ml_SP_83 im_SP_addLetter se_SP_SP_addLetter (by decide +kernel) hs.rcSP rfl (by omega) (Nat.le_of_ble_eq_true rfl) hC) rfl (fun q => by cases q) (fun h hs => ?_)
          refine jj_iinc (i := 2) (n := 1) (v := nI (j + 1)) (by decide +kernel) rfl (by rw [show Int32.ofInt 1 = 1 from rfl]; exact nI_1 j) (by decide) rfl ?_
          refine jj_goto (off := (-36)) (tgt := 2) (by decide +kernel) (by decide) ?_
          exact jj_wk (js_s (js_s (js_s (js_n js_0)))) (ih (j + 1) _ (by omega) (by omega) hs)
        · refine jj_aload_n (j := 0) (by decide +kernel) rfl ?_
          refine sy_ci (s_SP_settle (d := d - 1) hG (by omega) hs) (fun o1 h1 hC => jj_callV ok_SP_settle ml_SP_80 im_SP_settle se_SP_SP_settle (by decide +kernel) hs.rcSP rfl (by omega) (Nat.le_of_ble_eq_true rfl) hC) (by decide) rfl (fun q => by cases q) (fun v7 h _ hs => ?_)
          refine jj_pop (by decide +kernel) rfl ?_
          refine jj_goto (off := 8) (tgt := 35) (by decide +kernel) (by decide) ?_
          refine jj_iinc (i := 2) (n := 1) (v := nI (j + 1)) (by decide +kernel) rfl (by rw [show Int32.ofInt 1 = 1 from rfl]; exact nI_1 j) (by decide) rfl ?_
          refine jj_goto (off := (-36)) (tgt := 2) (by decide +kernel) (by decide) ?_
          exact jj_wk (js_s (js_s (js_s (js_n js_0)))) (ih (j + 1) _ (by omega) (by omega) hs)
    · refine jj_icmp_ge (off := 34) (tgt := 41) (by decide +kernel) (by decide) (fun c1 => ?_) (fun c1 => ?_)
      · exact jj_vret (by decide +kernel) rfl ⟨rfl, hs⟩
      · exact absurd (show nI (jj_lS.getD i 0) ≤ nI j from nI_le (by omega) (by omega)) c1
theorem s_SP_addAll {l : Launch} {G : jj_G} {X : sy_X} {K o N d i : Nat} {h : jj_H} (hG : jj_tyG G) (hi : i < jj_nS) (hdd : 8 ≤ d) (hs : Sy G X K o N h) : jj_Q l G y_SP_addAll d [.ref (X.2.2.1 10), .ref (G.2.2.2.1 i)] h (sy_F 0 false G X K o N) := by
  refine jj_Q.of (by decide +kernel) (Nat.le_of_ble_eq_true rfl) ?_
  refine jj_iconst (n := 0) (v := 0) (by decide +kernel) (by decide) ?_
  refine jj_istore_n (j := 2) (by decide +kernel) (by decide) rfl ?_
  exact jj_wk (js_s (js_s (js_s (js_n js_0)))) (b_SP_addAll_2 hG hi hdd _ 0 _ (Nat.lt_succ_self _) (Nat.zero_le _) hs)
set_option maxRecDepth 100000 in
set_option maxHeartbeats 4000000 in
theorem b_SP_reset_39 {l : Launch} {G : jj_G} {X : sy_X} {K o N d : Nat} (hG : jj_tyG G) (hdd : 9 ≤ d) : ∀ (n : Nat) (x1 : Int32) (h : jj_H), (2147483647 - x1.toInt).toNat < n → Sy G X K o N h → jj_P l G y_SP_reset d (sy_F 0 false G X K o N) 39 [some (.ref (X.2.2.1 10)), some (.int x1)] [] h := by
  intro n
  induction n with
  | zero => intro x1 h hn; exact absurd hn (Nat.not_lt_zero _)
  | succ n ih =>
    intro x1 h hn hs
    refine jj_iload_n (j := 1) (by decide +kernel) rfl ?_
    refine jj_sipush (n := 512) (v := 512) (by decide +kernel) (by decide) ?_
    refine jj_icmp_ge (off := 18) (tgt := 61) (by decide +kernel) (by decide) (fun c1 => ?_) (fun c1 => ?_)
    · skip
      refine jj_aload_n (j := 0) (by decide +kernel) rfl ?_
      refine jj_ldcS (index := 46) (i := 0) (tx := "abs after and assert begin body case constant downto else elsif end exit for generate generic ") (by decide +kernel) (List.mem_of_getElem? (i := 0) rfl) ?_
      refine sy_cv (s_SP_addAll (d := d - 1) (i := 0) hG (by decide) (by omega) hs) (fun o1 h1 hC => jj_callV ok_SP_addAll ml_SP_48 im_SP_addAll se_SP_SP_addAll (by decide +kernel) hs.rcSP rfl (by omega) (Nat.le_of_ble_eq_true rfl) hC) rfl (fun q => by cases q) (fun h hs => ?_)
      refine jj_aload_n (j := 0) (by decide +kernel) rfl ?_
      refine jj_ldcS (index := 52) (i := 1) (tx := "if in inertial inout is loop map mod nand next nor not null of on open or others out port process ") (by decide +kernel) (List.mem_of_getElem? (i := 1) rfl) ?_
      refine sy_cv (s_SP_addAll (d := d - 1) (i := 1) hG (by decide) (by omega) hs) (fun o1 h1 hC => jj_callV ok_SP_addAll ml_SP_48 im_SP_addAll se_SP_SP_addAll (by decide +kernel) hs.rcSP rfl (by omega) (Nat.le_of_ble_eq_true rfl) hC) rfl (fun q => by cases q) (fun h hs => ?_)
      refine jj_aload_n (j := 0) (by decide +kernel) rfl ?_
      refine jj_ldcS (index := 54) (i := 2) (tx := "range reject rem report signal sll srl subtype then to transport type unit until variable wait when while xnor xor ") (by decide +kernel) (List.mem_of_getElem? (i := 2) rfl) ?_
      refine sy_cv (s_SP_addAll (d := d - 1) (i := 2) hG (by decide) (by omega) hs) (fun o1 h1 hC => jj_callV ok_SP_addAll ml_SP_48 im_SP_addAll se_SP_SP_addAll (by decide +kernel) hs.rcSP rfl (by omega) (Nat.le_of_ble_eq_true rfl) hC) rfl (fun q => by cases q) (fun h hs => ?_)
      refine jj_aload_n (j := 0) (by decide +kernel) rfl ?_
      refine jj_ldcS (index := 56) (i := 3) (tx := "integer natural positive boolean logic row true false rising falling number bits ps ns us event active last length left right high low ") (by decide +kernel) (List.mem_of_getElem? (i := 3) rfl) ?_
      refine sy_cv (s_SP_addAll (d := d - 1) (i := 3) hG (by decide) (by omega) hs) (fun o1 h1 hC => jj_callV ok_SP_addAll ml_SP_48 im_SP_addAll se_SP_SP_addAll (by decide +kernel) hs.rcSP rfl (by omega) (Nat.le_of_ble_eq_true rfl) hC) rfl (fun q => by cases q) (fun h hs => ?_)
      exact jj_vret (by decide +kernel) rfl ⟨rfl, hs⟩
    · skip
      have hdec := up_lt (Int32.not_le.mp c1) hn
      refine jj_aload_n (j := 0) (by decide +kernel) rfl ?_
      obtain ⟨mi, hg⟩ := hs.sp
      refine jj_getfield 2 ck_SP fl_SP_26 (by decide) (by decide +kernel) hg rfl ?_
      refine jj_iload_n (j := 1) (by decide +kernel) rfl ?_
      refine jj_iconst (n := (-1)) (v := (-1)) (by decide +kernel) (by decide) ?_
      refine sy_cv (s_row_put (d := d - 1) (t := 3) hG hs (by decide) (sy_p (by decide))) (fun o1 h1 hC => jj_callV ok_IR_put ml_SP_42 im_IR_put se_IR_IR_put (by decide +kernel) (hs.rcR (t := 3) (by decide) (sy_p (by decide))) rfl (by omega) (Nat.le_of_ble_eq_true rfl) hC) rfl (fun q => by cases q) (fun h hs => ?_)
      refine jj_iinc (i := 1) (n := 1) (by decide +kernel) rfl rfl (by decide) rfl ?_
      refine jj_goto (off := (-19)) (tgt := 39) (by decide +kernel) (by decide) ?_
      exact jj_wk (js_s (js_s js_0)) (ih _ _ hdec hs)
set_option maxRecDepth 100000 in
set_option maxHeartbeats 4000000 in
theorem b_SP_reset_0 {l : Launch} {G : jj_G} {X : sy_X} {K o N d : Nat} {h : jj_H} (hG : jj_tyG G) (hdd : 9 ≤ d) (hs : Sy G X K o N h) : jj_P l G y_SP_reset d (sy_F 0 false G X K o N) 0 [some (.ref (X.2.2.1 10)), none] [] h := by
  refine jj_aload_n (j := 0) (by decide +kernel) rfl ?_
  obtain ⟨mi, hg⟩ := hs.sp
  refine jj_getfield 0 ck_SP fl_SP_14 (by decide) (by decide +kernel) hg rfl ?_
  refine jj_iconst (n := 0) (v := 0) (by decide +kernel) (by decide) ?_
  refine sy_cv (s_row_cut (d := d - 1) (t := 1) hs (by decide) (sy_p (by decide)) (by decide)) (fun o1 h1 hC => jj_callV ok_IR_cutTo ml_SP_35 im_IR_cutTo se_IR_IR_cutTo (by decide +kernel) (hs.rcR (t := 1) (by decide) (sy_p (by decide))) rfl (by omega) (Nat.le_of_ble_eq_true rfl) hC) rfl (fun q => by cases q) (fun h hs => ?_)
  refine jj_aload_n (j := 0) (by decide +kernel) rfl ?_
  obtain ⟨mi, hg⟩ := hs.sp
  refine jj_getfield 3 ck_SP fl_SP_23 (by decide) (by decide +kernel) hg rfl ?_
  refine jj_iconst (n := 0) (v := 0) (by decide +kernel) (by decide) ?_
  refine sy_cv (s_row_cut (d := d - 1) (t := 4) hs (by decide) (sy_p (by decide)) (by decide)) (fun o1 h1 hC => jj_callV ok_IR_cutTo ml_SP_35 im_IR_cutTo se_IR_IR_cutTo (by decide +kernel) (hs.rcR (t := 4) (by decide) (sy_p (by decide))) rfl (by omega) (Nat.le_of_ble_eq_true rfl) hC) rfl (fun q => by cases q) (fun h hs => ?_)
  refine jj_aload_n (j := 0) (by decide +kernel) rfl ?_
  obtain ⟨mi, hg⟩ := hs.sp
  refine jj_getfield 1 ck_SP fl_SP_20 (by decide) (by decide +kernel) hg rfl ?_
  refine jj_iconst (n := 0) (v := 0) (by decide +kernel) (by decide) ?_
  refine sy_cv (s_row_cut (d := d - 1) (t := 2) hs (by decide) (sy_p (by decide)) (by decide)) (fun o1 h1 hC => jj_callV ok_IR_cutTo ml_SP_35 im_IR_cutTo se_IR_IR_cutTo (by decide +kernel) (hs.rcR (t := 2) (by decide) (sy_p (by decide))) rfl (by omega) (Nat.le_of_ble_eq_true rfl) hC) rfl (fun q => by cases q) (fun h hs => ?_)
  refine jj_aload_n (j := 0) (by decide +kernel) rfl ?_
  obtain ⟨mi, hg⟩ := hs.sp
  refine jj_getfield 1 ck_SP fl_SP_20 (by decide) (by decide +kernel) hg rfl ?_
  refine jj_iconst (n := 0) (v := 0) (by decide +kernel) (by decide) ?_
  refine sy_cv (s_row_add (d := d - 1) (t := 2) hG hs (by decide) (sy_p (by decide)) (by decide) (by omega)) (fun o1 h1 hC => jj_callV ok_IR_add ml_SP_29 im_IR_add se_IR_IR_add (by decide +kernel) (hs.rcR (t := 2) (by decide) (sy_p (by decide))) rfl (by omega) (Nat.le_of_ble_eq_true rfl) hC) rfl (fun q => by cases q) (fun h hs => ?_)
  refine jj_aload_n (j := 0) (by decide +kernel) rfl ?_
  refine jj_iconst (n := 0) (v := 0) (by decide +kernel) (by decide) ?_
  refine sy_putSP hs fl_SP_38 (by decide +kernel) (fun h hs => ?_)
  refine jj_iconst (n := 0) (v := 0) (by decide +kernel) (by decide) ?_
  refine jj_istore_n (j := 1) (by decide +kernel) (by decide) rfl ?_
  exact jj_wk (js_s (js_s js_0)) (b_SP_reset_39 hG hdd _ _ _ (Nat.lt_succ_self _) hs)
theorem s_SP_reset {l : Launch} {G : jj_G} {X : sy_X} {K o N d : Nat} {h : jj_H} (hG : jj_tyG G) (hdd : 9 ≤ d) (hs : Sy G X K o N h) : jj_Q l G y_SP_reset d [.ref (X.2.2.1 10)] h (sy_F 0 false G X K o N) :=
  jj_Q.of (by decide +kernel) (Nat.le_of_ble_eq_true rfl) (b_SP_reset_0 hG hdd hs)
