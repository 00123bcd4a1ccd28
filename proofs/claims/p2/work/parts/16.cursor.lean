set_option maxRecDepth 100000 in
set_option maxHeartbeats 4000000 in
theorem b_GR_levelOf_0 {l : Launch} {G : jj_G} {X : sy_X} {K o N d : Nat} {x0 : Int32} {h : jj_H} (hG : sy_G G X) (hdd : 0 ≤ d) (hs : Sy G X K o N h) : jj_P l G y_GR_levelOf d (sy_F 1 false G X K o N) 0 [some (.int x0)] [] h := by
  refine jj_iload_n (j := 0) (by decide +kernel) rfl ?_
  refine jj_if_ge (off := 5) (tgt := 6) (by decide +kernel) (by decide) (fun c1 => ?_) (fun c1 => ?_)
  · skip
    refine jj_iload_n (j := 0) (by decide +kernel) rfl ?_
    refine jj_iconst (n := 5) (v := 5) (by decide +kernel) (by decide) ?_
    refine jj_icmp_gt (off := 5) (tgt := 13) (by decide +kernel) (by decide) (fun c2 => ?_) (fun c2 => ?_)
    · skip
      refine jj_iload_n (j := 0) (by decide +kernel) rfl ?_
      refine jj_bipush (n := 11) (v := 11) (by decide +kernel) (by decide) ?_
      refine jj_icmp_gt (off := 5) (tgt := 21) (by decide +kernel) (by decide) (fun c3 => ?_) (fun c3 => ?_)
      · skip
        refine jj_iload_n (j := 0) (by decide +kernel) rfl ?_
        refine jj_bipush (n := 14) (v := 14) (by decide +kernel) (by decide) ?_
        refine jj_icmp_gt (off := 5) (tgt := 29) (by decide +kernel) (by decide) (fun c4 => ?_) (fun c4 => ?_)
        · skip
          refine jj_iload_n (j := 0) (by decide +kernel) rfl ?_
          refine jj_bipush (n := 18) (v := 18) (by decide +kernel) (by decide) ?_
          refine jj_icmp_gt (off := 6) (tgt := 38) (by decide +kernel) (by decide) (fun c5 => ?_) (fun c5 => ?_)
          · skip
            refine jj_iload_n (j := 0) (by decide +kernel) rfl ?_
            refine jj_bipush (n := 20) (v := 20) (by decide +kernel) (by decide) ?_
            refine jj_icmp_gt (off := 7) (tgt := 48) (by decide +kernel) (by decide) (fun c6 => ?_) (fun c6 => ?_)
            · skip
              refine jj_iconst (n := 5) (v := 5) (by decide +kernel) (by decide) ?_
              exact jj_iret .int (by decide +kernel) rfl rfl ⟨Or.inl rfl, hs⟩
            · skip
              refine jj_iconst (n := 3) (v := 3) (by decide +kernel) (by decide) ?_
              refine jj_goto (off := 4) (tgt := 49) (by decide +kernel) (by decide) ?_
              exact jj_iret .int (by decide +kernel) rfl rfl ⟨Or.inl rfl, hs⟩
          · skip
            refine jj_bipush (n := 6) (v := 6) (by decide +kernel) (by decide) ?_
            exact jj_iret .int (by decide +kernel) rfl rfl ⟨Or.inl rfl, hs⟩
        · skip
          refine jj_iconst (n := 4) (v := 4) (by decide +kernel) (by decide) ?_
          exact jj_iret .int (by decide +kernel) rfl rfl ⟨Or.inl rfl, hs⟩
      · skip
        refine jj_iconst (n := 2) (v := 2) (by decide +kernel) (by decide) ?_
        exact jj_iret .int (by decide +kernel) rfl rfl ⟨Or.inl rfl, hs⟩
    · skip
      refine jj_iconst (n := 1) (v := 1) (by decide +kernel) (by decide) ?_
      exact jj_iret .int (by decide +kernel) rfl rfl ⟨Or.inl rfl, hs⟩
  · skip
    refine jj_iconst (n := 0) (v := 0) (by decide +kernel) (by decide) ?_
    exact jj_iret .int (by decide +kernel) rfl rfl ⟨Or.inl rfl, hs⟩
theorem s_GR_levelOf {l : Launch} {G : jj_G} {X : sy_X} {K o N d : Nat} {x0 : Int32} {h : jj_H} (hG : sy_G G X) (hdd : 0 ≤ d) (hs : Sy G X K o N h) : jj_Q l G y_GR_levelOf d [.int x0] h (sy_F 1 false G X K o N) :=
  jj_Q.of (by decide +kernel) (Nat.le_of_ble_eq_true rfl) (b_GR_levelOf_0 hG hdd hs)
set_option maxRecDepth 100000 in
set_option maxHeartbeats 4000000 in
theorem b_GR_operatorOf_0 {l : Launch} {G : jj_G} {X : sy_X} {K o N d : Nat} {x0 : Int32} {h : jj_H} (hG : sy_G G X) (hdd : 0 ≤ d) (hs : Sy G X K o N h) : jj_P l G y_GR_operatorOf d (sy_F 1 false G X K o N) 0 [some (.int x0)] [] h := by
  refine jj_iload_n (j := 0) (by decide +kernel) rfl ?_
  refine jj_lookupAny (dflt := 236) (ps := #[(38, 215), (42, 218), (43, 209), (45, 212), (47, 221), (60, 197), (61, 191), (62, 203), (129, 200), (131, 194), (132, 206), (258, 179), (279, 224), (280, 183), (282, 185), (288, 181), (295, 227), (298, 230), (299, 233), (311, 189), (312, 187)]) (len := 179) (ts := [180, 182, 184, 186, 188, 190, 192, 195, 198, 201, 204, 207, 210, 213, 216, 219, 222, 225, 228, 231, 234, 237]) (by decide +kernel) (by decide) (by decide +kernel) (jt_c ?_ (jt_c ?_ (jt_c ?_ (jt_c ?_ (jt_c ?_ (jt_c ?_ (jt_c ?_ (jt_c ?_ (jt_c ?_ (jt_c ?_ (jt_c ?_ (jt_c ?_ (jt_c ?_ (jt_c ?_ (jt_c ?_ (jt_c ?_ (jt_c ?_ (jt_c ?_ (jt_c ?_ (jt_c ?_ (jt_c ?_ (jt_c ?_ jt_0))))))))))))))))))))))
  · skip
    refine jj_iconst (n := 0) (v := 0) (by decide +kernel) (by decide) ?_
    exact jj_iret .int (by decide +kernel) rfl rfl ⟨Or.inl rfl, hs⟩
  · skip
    refine jj_iconst (n := 1) (v := 1) (by decide +kernel) (by decide) ?_
    exact jj_iret .int (by decide +kernel) rfl rfl ⟨Or.inl rfl, hs⟩
  · skip
    refine jj_iconst (n := 2) (v := 2) (by decide +kernel) (by decide) ?_
    exact jj_iret .int (by decide +kernel) rfl rfl ⟨Or.inl rfl, hs⟩
  · skip
    refine jj_iconst (n := 3) (v := 3) (by decide +kernel) (by decide) ?_
    exact jj_iret .int (by decide +kernel) rfl rfl ⟨Or.inl rfl, hs⟩
  · skip
    refine jj_iconst (n := 4) (v := 4) (by decide +kernel) (by decide) ?_
    exact jj_iret .int (by decide +kernel) rfl rfl ⟨Or.inl rfl, hs⟩
  · skip
    refine jj_iconst (n := 5) (v := 5) (by decide +kernel) (by decide) ?_
    exact jj_iret .int (by decide +kernel) rfl rfl ⟨Or.inl rfl, hs⟩
  · skip
    refine jj_bipush (n := 6) (v := 6) (by decide +kernel) (by decide) ?_
    exact jj_iret .int (by decide +kernel) rfl rfl ⟨Or.inl rfl, hs⟩
  · skip
    refine jj_bipush (n := 7) (v := 7) (by decide +kernel) (by decide) ?_
    exact jj_iret .int (by decide +kernel) rfl rfl ⟨Or.inl rfl, hs⟩
  · skip
    refine jj_bipush (n := 8) (v := 8) (by decide +kernel) (by decide) ?_
    exact jj_iret .int (by decide +kernel) rfl rfl ⟨Or.inl rfl, hs⟩
  · skip
    refine jj_bipush (n := 9) (v := 9) (by decide +kernel) (by decide) ?_
    exact jj_iret .int (by decide +kernel) rfl rfl ⟨Or.inl rfl, hs⟩
  · skip
    refine jj_bipush (n := 10) (v := 10) (by decide +kernel) (by decide) ?_
    exact jj_iret .int (by decide +kernel) rfl rfl ⟨Or.inl rfl, hs⟩
  · skip
    refine jj_bipush (n := 11) (v := 11) (by decide +kernel) (by decide) ?_
    exact jj_iret .int (by decide +kernel) rfl rfl ⟨Or.inl rfl, hs⟩
  · skip
    refine jj_bipush (n := 12) (v := 12) (by decide +kernel) (by decide) ?_
    exact jj_iret .int (by decide +kernel) rfl rfl ⟨Or.inl rfl, hs⟩
  · skip
    refine jj_bipush (n := 13) (v := 13) (by decide +kernel) (by decide) ?_
    exact jj_iret .int (by decide +kernel) rfl rfl ⟨Or.inl rfl, hs⟩
  · skip
    refine jj_bipush (n := 14) (v := 14) (by decide +kernel) (by decide) ?_
    exact jj_iret .int (by decide +kernel) rfl rfl ⟨Or.inl rfl, hs⟩
  · skip
    refine jj_bipush (n := 15) (v := 15) (by decide +kernel) (by decide) ?_
    exact jj_iret .int (by decide +kernel) rfl rfl ⟨Or.inl rfl, hs⟩
  · skip
    refine jj_bipush (n := 16) (v := 16) (by decide +kernel) (by decide) ?_
    exact jj_iret .int (by decide +kernel) rfl rfl ⟨Or.inl rfl, hs⟩
  · skip
    refine jj_bipush (n := 17) (v := 17) (by decide +kernel) (by decide) ?_
    exact jj_iret .int (by decide +kernel) rfl rfl ⟨Or.inl rfl, hs⟩
  · skip
    refine jj_bipush (n := 18) (v := 18) (by decide +kernel) (by decide) ?_
    exact jj_iret .int (by decide +kernel) rfl rfl ⟨Or.inl rfl, hs⟩
  · skip
    refine jj_bipush (n := 19) (v := 19) (by decide +kernel) (by decide) ?_
    exact jj_iret .int (by decide +kernel) rfl rfl ⟨Or.inl rfl, hs⟩
  · skip
    refine jj_bipush (n := 20) (v := 20) (by decide +kernel) (by decide) ?_
    exact jj_iret .int (by decide +kernel) rfl rfl ⟨Or.inl rfl, hs⟩
  · skip
    refine jj_iconst (n := (-1)) (v := (-1)) (by decide +kernel) (by decide) ?_
    exact jj_iret .int (by decide +kernel) rfl rfl ⟨Or.inl rfl, hs⟩
theorem s_GR_operatorOf {l : Launch} {G : jj_G} {X : sy_X} {K o N d : Nat} {x0 : Int32} {h : jj_H} (hG : sy_G G X) (hdd : 0 ≤ d) (hs : Sy G X K o N h) : jj_Q l G y_GR_operatorOf d [.int x0] h (sy_F 1 false G X K o N) :=
  jj_Q.of (by decide +kernel) (Nat.le_of_ble_eq_true rfl) (b_GR_operatorOf_0 hG hdd hs)
set_option maxRecDepth 100000 in
set_option maxHeartbeats 4000000 in
theorem b_GR_mayFollow_0 {l : Launch} {G : jj_G} {X : sy_X} {K o N d : Nat} {x0 x1 x2 : Int32} {h : jj_H} (hG : sy_G G X) (hdd : 0 ≤ d) (hs : Sy G X K o N h) : jj_P l G y_GR_mayFollow d (sy_F 2 false G X K o N) 0 [some (.int x0), some (.int x1), some (.int x2)] [] h := by
  refine jj_iload_n (j := 2) (by decide +kernel) rfl ?_
  refine jj_iconst (n := 1) (v := 1) (by decide +kernel) (by decide) ?_
  refine jj_icmp_ne (off := 28) (tgt := 30) (by decide +kernel) (by decide) (fun c1 => ?_) (fun c1 => ?_)
  · skip
    refine jj_iload_n (j := 2) (by decide +kernel) rfl ?_
    refine jj_iconst (n := 4) (v := 4) (by decide +kernel) (by decide) ?_
    refine jj_icmp_lt (off := 7) (tgt := 39) (by decide +kernel) (by decide) (fun c2 => ?_) (fun c2 => ?_)
    · skip
      refine jj_iconst (n := 0) (v := 0) (by decide +kernel) (by decide) ?_
      exact jj_iret .boolean (by decide +kernel) rfl rfl ⟨Or.inr (Or.inl ⟨rfl, Or.inl rfl⟩), hs⟩
    · skip
      refine jj_iconst (n := 1) (v := 1) (by decide +kernel) (by decide) ?_
      refine jj_goto (off := 4) (tgt := 40) (by decide +kernel) (by decide) ?_
      exact jj_iret .boolean (by decide +kernel) rfl rfl ⟨Or.inr (Or.inl ⟨rfl, Or.inr rfl⟩), hs⟩
  · skip
    refine jj_iload_n (j := 0) (by decide +kernel) rfl ?_
    refine jj_iload_n (j := 1) (by decide +kernel) rfl ?_
    refine jj_icmp_ne (off := 21) (tgt := 28) (by decide +kernel) (by decide) (fun c3 => ?_) (fun c3 => ?_)
    · skip
      refine jj_iconst (n := 0) (v := 0) (by decide +kernel) (by decide) ?_
      exact jj_iret .boolean (by decide +kernel) rfl rfl ⟨Or.inr (Or.inl ⟨rfl, Or.inl rfl⟩), hs⟩
    · skip
      refine jj_iload_n (j := 1) (by decide +kernel) rfl ?_
      refine jj_if_eq (off := 13) (tgt := 24) (by decide +kernel) (by decide) (fun c4 => ?_) (fun c4 => ?_)
      · skip
        refine jj_iconst (n := 1) (v := 1) (by decide +kernel) (by decide) ?_
        refine jj_goto (off := 4) (tgt := 29) (by decide +kernel) (by decide) ?_
        exact jj_iret .boolean (by decide +kernel) rfl rfl ⟨Or.inr (Or.inl ⟨rfl, Or.inr rfl⟩), hs⟩
      · skip
        refine jj_iload_n (j := 1) (by decide +kernel) rfl ?_
        refine jj_iconst (n := 1) (v := 1) (by decide +kernel) (by decide) ?_
        refine jj_icmp_eq (off := 8) (tgt := 24) (by decide +kernel) (by decide) (fun c5 => ?_) (fun c5 => ?_)
        · skip
          refine jj_iconst (n := 1) (v := 1) (by decide +kernel) (by decide) ?_
          refine jj_goto (off := 4) (tgt := 29) (by decide +kernel) (by decide) ?_
          exact jj_iret .boolean (by decide +kernel) rfl rfl ⟨Or.inr (Or.inl ⟨rfl, Or.inr rfl⟩), hs⟩
        · skip
          refine jj_iload_n (j := 1) (by decide +kernel) rfl ?_
          refine jj_iconst (n := 4) (v := 4) (by decide +kernel) (by decide) ?_
          refine jj_icmp_ne (off := 7) (tgt := 28) (by decide +kernel) (by decide) (fun c6 => ?_) (fun c6 => ?_)
          · skip
            refine jj_iconst (n := 0) (v := 0) (by decide +kernel) (by decide) ?_
            exact jj_iret .boolean (by decide +kernel) rfl rfl ⟨Or.inr (Or.inl ⟨rfl, Or.inl rfl⟩), hs⟩
          · skip
            refine jj_iconst (n := 1) (v := 1) (by decide +kernel) (by decide) ?_
            refine jj_goto (off := 4) (tgt := 29) (by decide +kernel) (by decide) ?_
            exact jj_iret .boolean (by decide +kernel) rfl rfl ⟨Or.inr (Or.inl ⟨rfl, Or.inr rfl⟩), hs⟩
theorem s_GR_mayFollow {l : Launch} {G : jj_G} {X : sy_X} {K o N d : Nat} {x0 x1 x2 : Int32} {h : jj_H} (hG : sy_G G X) (hdd : 0 ≤ d) (hs : Sy G X K o N h) : jj_Q l G y_GR_mayFollow d [.int x0, .int x1, .int x2] h (sy_F 2 false G X K o N) :=
  jj_Q.of (by decide +kernel) (Nat.le_of_ble_eq_true rfl) (b_GR_mayFollow_0 hG hdd hs)
set_option maxRecDepth 100000 in
set_option maxHeartbeats 4000000 in
theorem b_SC_pairOf_0 {l : Launch} {G : jj_G} {X : sy_X} {K o N d : Nat} {x0 x1 : Int32} {h : jj_H} (hG : sy_G G X) (hdd : 0 ≤ d) (hs : Sy G X K o N h) : jj_P l G y_SC_pairOf d (sy_F 1 false G X K o N) 0 [some (.int x0), some (.int x1)] [] h := by
  refine jj_iload_n (j := 1) (by decide +kernel) rfl ?_
  refine jj_bipush (n := 61) (v := 61) (by decide +kernel) (by decide) ?_
  refine jj_icmp_ne (off := 63) (tgt := 66) (by decide +kernel) (by decide) (fun c1 => ?_) (fun c1 => ?_)
  · skip
    refine jj_iload_n (j := 0) (by decide +kernel) rfl ?_
    refine jj_bipush (n := 61) (v := 61) (by decide +kernel) (by decide) ?_
    refine jj_icmp_ne (off := 15) (tgt := 84) (by decide +kernel) (by decide) (fun c2 => ?_) (fun c2 => ?_)
    · skip
      refine jj_iconst (n := (-1)) (v := (-1)) (by decide +kernel) (by decide) ?_
      exact jj_iret .int (by decide +kernel) rfl rfl ⟨Or.inl rfl, hs⟩
    · skip
      refine jj_iload_n (j := 1) (by decide +kernel) rfl ?_
      refine jj_bipush (n := 62) (v := 62) (by decide +kernel) (by decide) ?_
      refine jj_icmp_ne (off := 9) (tgt := 84) (by decide +kernel) (by decide) (fun c3 => ?_) (fun c3 => ?_)
      · skip
        refine jj_iconst (n := (-1)) (v := (-1)) (by decide +kernel) (by decide) ?_
        exact jj_iret .int (by decide +kernel) rfl rfl ⟨Or.inl rfl, hs⟩
      · skip
        refine jj_sipush (n := 130) (v := 130) (by decide +kernel) (by decide) ?_
        refine jj_goto (off := 4) (tgt := 85) (by decide +kernel) (by decide) ?_
        exact jj_iret .int (by decide +kernel) rfl rfl ⟨Or.inl rfl, hs⟩
  · skip
    refine jj_iload_n (j := 0) (by decide +kernel) rfl ?_
    refine jj_lookupAny (dflt := 57) (ps := #[(47, 49), (58, 41), (60, 45), (62, 53)]) (len := 41) (ts := [48, 52, 56, 60, 64]) (by decide +kernel) (by decide) (by decide +kernel) (jt_c ?_ (jt_c ?_ (jt_c ?_ (jt_c ?_ (jt_c ?_ jt_0)))))
    · skip
      refine jj_sipush (n := 128) (v := 128) (by decide +kernel) (by decide) ?_
      exact jj_iret .int (by decide +kernel) rfl rfl ⟨Or.inl rfl, hs⟩
    · skip
      refine jj_sipush (n := 129) (v := 129) (by decide +kernel) (by decide) ?_
      exact jj_iret .int (by decide +kernel) rfl rfl ⟨Or.inl rfl, hs⟩
    · skip
      refine jj_sipush (n := 131) (v := 131) (by decide +kernel) (by decide) ?_
      exact jj_iret .int (by decide +kernel) rfl rfl ⟨Or.inl rfl, hs⟩
    · skip
      refine jj_sipush (n := 132) (v := 132) (by decide +kernel) (by decide) ?_
      exact jj_iret .int (by decide +kernel) rfl rfl ⟨Or.inl rfl, hs⟩
    · skip
      refine jj_iconst (n := (-1)) (v := (-1)) (by decide +kernel) (by decide) ?_
      exact jj_iret .int (by decide +kernel) rfl rfl ⟨Or.inl rfl, hs⟩
theorem s_SC_pairOf {l : Launch} {G : jj_G} {X : sy_X} {K o N d : Nat} {x0 x1 : Int32} {h : jj_H} (hG : sy_G G X) (hdd : 0 ≤ d) (hs : Sy G X K o N h) : jj_Q l G y_SC_pairOf d [.int x0, .int x1] h (sy_F 1 false G X K o N) :=
  jj_Q.of (by decide +kernel) (Nat.le_of_ble_eq_true rfl) (b_SC_pairOf_0 hG hdd hs)
set_option maxRecDepth 100000 in
set_option maxHeartbeats 4000000 in
theorem b_CU_take_0 {l : Launch} {G : jj_G} {X : sy_X} {K o N d : Nat} {h : jj_H} (hG : sy_G G X) (hdd : 8 ≤ d) (hs : Sy G X K o N h) : jj_P l G y_CU_take d (sy_F 0 true G X K o N) 0 [some (.ref (X.2.2.1 12))] [] h := by
  refine jj_aload_n (j := 0) (by decide +kernel) rfl ?_
  refine jj_dup (by decide +kernel) rfl ?_
  obtain ⟨ki, va, pl, fa, fp, ne, hg⟩ := hs.gr hG.2
  refine jj_getfield 10 ck_GR fl_CU_34 (by decide) (by decide +kernel) hg rfl ?_
  refine jj_iconst (n := 1) (v := 1) (by decide +kernel) (by decide) ?_
  refine jj_iadd (by decide +kernel) ?_
  refine sy_putGR (k := 10) hs hG.2 (by decide) fl_CU_34 (by decide +kernel) (fun h hs => ?_)
  refine jj_aload_n (j := 0) (by decide +kernel) rfl ?_
  refine jj_aload_n (j := 0) (by decide +kernel) rfl ?_
  obtain ⟨ki, va, pl, fa, fp, ne, hg⟩ := hs.gr hG.2
  refine jj_getfield 8 ck_GR fl_CU_9 (by decide) (by decide +kernel) hg rfl ?_
  refine jj_aload_n (j := 0) (by decide +kernel) rfl ?_
  obtain ⟨ki, va, pl, fa, fp, ne, hg⟩ := hs.gr hG.2
  refine jj_getfield 10 ck_GR fl_CU_34 (by decide) (by decide +kernel) hg rfl ?_
  refine jj_iconst (n := 0) (v := 0) (by decide +kernel) (by decide) ?_
  refine sy_ci (s_tab_at (d := d - 1) (t := 8) hG.1 hs (by decide) (by decide) (sy_o hG.2)) (fun o1 h1 hC => jj_callV ok_TB_at ml_CU_43 im_TB_at se_TB_TB_at (by decide +kernel) (hs.rcT (t := 8) (by decide) (by decide) (sy_o hG.2)) rfl (by omega) (Nat.le_of_ble_eq_true rfl) hC) (by decide) rfl (fun q => by cases q) (fun v1 h _ hs => ?_)
  refine sy_putGR (k := 3) hs hG.2 (by decide) fl_CU_18 (by decide +kernel) (fun h hs => ?_)
  refine jj_aload_n (j := 0) (by decide +kernel) rfl ?_
  refine jj_aload_n (j := 0) (by decide +kernel) rfl ?_
  obtain ⟨ki, va, pl, fa, fp, ne, hg⟩ := hs.gr hG.2
  refine jj_getfield 8 ck_GR fl_CU_9 (by decide) (by decide +kernel) hg rfl ?_
  refine jj_aload_n (j := 0) (by decide +kernel) rfl ?_
  obtain ⟨ki, va, pl, fa, fp, ne, hg⟩ := hs.gr hG.2
  refine jj_getfield 10 ck_GR fl_CU_34 (by decide) (by decide +kernel) hg rfl ?_
  refine jj_iconst (n := 1) (v := 1) (by decide +kernel) (by decide) ?_
  refine sy_ci (s_tab_at (d := d - 1) (t := 8) hG.1 hs (by decide) (by decide) (sy_o hG.2)) (fun o1 h1 hC => jj_callV ok_TB_at ml_CU_43 im_TB_at se_TB_TB_at (by decide +kernel) (hs.rcT (t := 8) (by decide) (by decide) (sy_o hG.2)) rfl (by omega) (Nat.le_of_ble_eq_true rfl) hC) (by decide) rfl (fun q => by cases q) (fun v2 h _ hs => ?_)
  refine sy_putGR (k := 4) hs hG.2 (by decide) fl_CU_22 (by decide +kernel) (fun h hs => ?_)
  refine jj_aload_n (j := 0) (by decide +kernel) rfl ?_
  refine jj_aload_n (j := 0) (by decide +kernel) rfl ?_
  obtain ⟨ki, va, pl, fa, fp, ne, hg⟩ := hs.gr hG.2
  refine jj_getfield 8 ck_GR fl_CU_9 (by decide) (by decide +kernel) hg rfl ?_
  refine jj_aload_n (j := 0) (by decide +kernel) rfl ?_
  obtain ⟨ki, va, pl, fa, fp, ne, hg⟩ := hs.gr hG.2
  refine jj_getfield 10 ck_GR fl_CU_34 (by decide) (by decide +kernel) hg rfl ?_
  refine jj_iconst (n := 2) (v := 2) (by decide +kernel) (by decide) ?_
  refine sy_ci (s_tab_at (d := d - 1) (t := 8) hG.1 hs (by decide) (by decide) (sy_o hG.2)) (fun o1 h1 hC => jj_callV ok_TB_at ml_CU_43 im_TB_at se_TB_TB_at (by decide +kernel) (hs.rcT (t := 8) (by decide) (by decide) (sy_o hG.2)) rfl (by omega) (Nat.le_of_ble_eq_true rfl) hC) (by decide) rfl (fun q => by cases q) (fun v3 h _ hs => ?_)
  refine sy_putGR (k := 5) hs hG.2 (by decide) fl_CU_25 (by decide +kernel) (fun h hs => ?_)
  refine jj_aload_n (j := 0) (by decide +kernel) rfl ?_
  obtain ⟨ki, va, pl, fa, fp, ne, hg⟩ := hs.gr hG.2
  refine jj_getfield 3 ck_GR fl_CU_18 (by decide) (by decide +kernel) hg rfl ?_
  refine jj_sipush (n := 145) (v := 145) (by decide +kernel) (by decide) ?_
  refine jj_icmp_ne (off := 11) (tgt := 76) (by decide +kernel) (by decide) (fun c4 => ?_) (fun c4 => ?_)
  · skip
    exact jj_vret (by decide +kernel) rfl ⟨rfl, hs⟩
  · skip
    refine jj_aload_n (j := 0) (by decide +kernel) rfl ?_
    refine jj_aload_n (j := 0) (by decide +kernel) rfl ?_
    obtain ⟨ki, va, pl, fa, fp, ne, hg⟩ := hs.gr hG.2
    refine jj_getfield 4 ck_GR fl_CU_22 (by decide) (by decide +kernel) hg rfl ?_
    exact sy_cx (s_CU_raise (d := d - 1) hG.2 hs (by omega)) (fun o1 h1 hC => jj_callV ok_CU_raise ml_CU_49 im_CU_raise se_GR_CU_raise (by decide +kernel) (hs.rcGR hG.2) rfl (by omega) (Nat.le_of_ble_eq_true rfl) hC) rfl (fun _ _ q => ⟨rfl, rfl, _, q⟩)
theorem s_CU_take {l : Launch} {G : jj_G} {X : sy_X} {K o N d : Nat} {h : jj_H} (hG : sy_G G X) (hdd : 8 ≤ d) (hs : Sy G X K o N h) : jj_Q l G y_CU_take d [.ref (X.2.2.1 12)] h (sy_F 0 true G X K o N) :=
  jj_Q.of (by decide +kernel) (Nat.le_of_ble_eq_true rfl) (b_CU_take_0 hG hdd hs)
set_option maxRecDepth 100000 in
set_option maxHeartbeats 4000000 in
theorem b_CU_accept_0 {l : Launch} {G : jj_G} {X : sy_X} {K o N d : Nat} {x1 : Int32} {h : jj_H} (hG : sy_G G X) (hdd : 9 ≤ d) (hs : Sy G X K o N h) : jj_P l G y_CU_accept d (sy_F 2 true G X K o N) 0 [some (.ref (X.2.2.1 12)), some (.int x1)] [] h := by
  refine jj_aload_n (j := 0) (by decide +kernel) rfl ?_
  obtain ⟨ki, va, pl, fa, fp, ne, hg⟩ := hs.gr hG.2
  refine jj_getfield 3 ck_GR fl_CU_18 (by decide) (by decide +kernel) hg rfl ?_
  refine jj_iload_n (j := 1) (by decide +kernel) rfl ?_
  refine jj_icmp_eq (off := 5) (tgt := 10) (by decide +kernel) (by decide) (fun c1 => ?_) (fun c1 => ?_)
  · skip
    refine jj_aload_n (j := 0) (by decide +kernel) rfl ?_
    refine sy_cv (s_CU_take (d := d - 1) hG (by omega) hs) (fun o1 h1 hC => jj_callV ok_CU_take ml_CU_40 im_CU_take se_GR_CU_take (by decide +kernel) (hs.rcGR hG.2) rfl (by omega) (Nat.le_of_ble_eq_true rfl) hC) rfl (fun _ _ _ q => ⟨rfl, rfl, _, q⟩) (fun h hs => ?_)
    refine jj_iconst (n := 1) (v := 1) (by decide +kernel) (by decide) ?_
    exact jj_iret .boolean (by decide +kernel) rfl rfl ⟨Or.inr (Or.inl ⟨rfl, Or.inr rfl⟩), hs⟩
  · skip
    refine jj_iconst (n := 0) (v := 0) (by decide +kernel) (by decide) ?_
    exact jj_iret .boolean (by decide +kernel) rfl rfl ⟨Or.inr (Or.inl ⟨rfl, Or.inl rfl⟩), hs⟩
theorem s_CU_accept {l : Launch} {G : jj_G} {X : sy_X} {K o N d : Nat} {x1 : Int32} {h : jj_H} (hG : sy_G G X) (hdd : 9 ≤ d) (hs : Sy G X K o N h) : jj_Q l G y_CU_accept d [.ref (X.2.2.1 12), .int x1] h (sy_F 2 true G X K o N) :=
  jj_Q.of (by decide +kernel) (Nat.le_of_ble_eq_true rfl) (b_CU_accept_0 hG hdd hs)
set_option maxRecDepth 100000 in
set_option maxHeartbeats 4000000 in
theorem b_CU_expect_0 {l : Launch} {G : jj_G} {X : sy_X} {K o N d : Nat} {x1 : Int32} {h : jj_H} (hG : sy_G G X) (hdd : 9 ≤ d) (hs : Sy G X K o N h) : jj_P l G y_CU_expect d (sy_F 0 true G X K o N) 0 [some (.ref (X.2.2.1 12)), some (.int x1)] [] h := by
  refine jj_aload_n (j := 0) (by decide +kernel) rfl ?_
  obtain ⟨ki, va, pl, fa, fp, ne, hg⟩ := hs.gr hG.2
  refine jj_getfield 3 ck_GR fl_CU_18 (by decide) (by decide +kernel) hg rfl ?_
  refine jj_iload_n (j := 1) (by decide +kernel) rfl ?_
  refine jj_icmp_eq (off := 8) (tgt := 13) (by decide +kernel) (by decide) (fun c1 => ?_) (fun c1 => ?_)
  · skip
    refine jj_aload_n (j := 0) (by decide +kernel) rfl ?_
    refine sy_cv (s_CU_take (d := d - 1) hG (by omega) hs) (fun o1 h1 hC => jj_callV ok_CU_take ml_CU_40 im_CU_take se_GR_CU_take (by decide +kernel) (hs.rcGR hG.2) rfl (by omega) (Nat.le_of_ble_eq_true rfl) hC) rfl (fun _ _ _ q => ⟨rfl, rfl, _, q⟩) (fun h hs => ?_)
    exact jj_vret (by decide +kernel) rfl ⟨rfl, hs⟩
  · skip
    refine jj_aload_n (j := 0) (by decide +kernel) rfl ?_
    refine jj_iconst (n := 3) (v := 3) (by decide +kernel) (by decide) ?_
    exact sy_cx (s_CU_raise (d := d - 1) hG.2 hs (by omega)) (fun o1 h1 hC => jj_callV ok_CU_raise ml_CU_49 im_CU_raise se_GR_CU_raise (by decide +kernel) (hs.rcGR hG.2) rfl (by omega) (Nat.le_of_ble_eq_true rfl) hC) rfl (fun _ _ q => ⟨rfl, rfl, _, q⟩)
theorem s_CU_expect {l : Launch} {G : jj_G} {X : sy_X} {K o N d : Nat} {x1 : Int32} {h : jj_H} (hG : sy_G G X) (hdd : 9 ≤ d) (hs : Sy G X K o N h) : jj_Q l G y_CU_expect d [.ref (X.2.2.1 12), .int x1] h (sy_F 0 true G X K o N) :=
  jj_Q.of (by decide +kernel) (Nat.le_of_ble_eq_true rfl) (b_CU_expect_0 hG hdd hs)
set_option maxRecDepth 100000 in
set_option maxHeartbeats 4000000 in
theorem b_CU_takeName_0 {l : Launch} {G : jj_G} {X : sy_X} {K o N d : Nat} {h : jj_H} (hG : sy_G G X) (hdd : 9 ≤ d) (hs : Sy G X K o N h) : jj_P l G y_CU_takeName d (sy_F 1 true G X K o N) 0 [some (.ref (X.2.2.1 12)), none] [] h := by
  refine jj_aload_n (j := 0) (by decide +kernel) rfl ?_
  obtain ⟨ki, va, pl, fa, fp, ne, hg⟩ := hs.gr hG.2
  refine jj_getfield 3 ck_GR fl_CU_18 (by decide) (by decide +kernel) hg rfl ?_
  refine jj_sipush (n := 140) (v := 140) (by decide +kernel) (by decide) ?_
  refine jj_icmp_eq (off := 8) (tgt := 15) (by decide +kernel) (by decide) (fun c1 => ?_) (fun c1 => ?_)
  · skip
    refine jj_aload_n (j := 0) (by decide +kernel) rfl ?_
    obtain ⟨ki, va, pl, fa, fp, ne, hg⟩ := hs.gr hG.2
    refine jj_getfield 4 ck_GR fl_CU_22 (by decide) (by decide +kernel) hg rfl ?_
    refine jj_istore_n (j := 1) (by decide +kernel) (by decide) rfl ?_
    refine jj_aload_n (j := 0) (by decide +kernel) rfl ?_
    refine sy_cv (s_CU_take (d := d - 1) hG (by omega) hs) (fun o1 h1 hC => jj_callV ok_CU_take ml_CU_40 im_CU_take se_GR_CU_take (by decide +kernel) (hs.rcGR hG.2) rfl (by omega) (Nat.le_of_ble_eq_true rfl) hC) rfl (fun _ _ _ q => ⟨rfl, rfl, _, q⟩) (fun h hs => ?_)
    refine jj_iload_n (j := 1) (by decide +kernel) rfl ?_
    exact jj_iret .int (by decide +kernel) rfl rfl ⟨Or.inl rfl, hs⟩
  · skip
    refine jj_aload_n (j := 0) (by decide +kernel) rfl ?_
    refine jj_iconst (n := 3) (v := 3) (by decide +kernel) (by decide) ?_
    exact sy_cx (s_CU_raise (d := d - 1) hG.2 hs (by omega)) (fun o1 h1 hC => jj_callV ok_CU_raise ml_CU_49 im_CU_raise se_GR_CU_raise (by decide +kernel) (hs.rcGR hG.2) rfl (by omega) (Nat.le_of_ble_eq_true rfl) hC) rfl (fun _ _ q => ⟨rfl, rfl, _, q⟩)
theorem s_CU_takeName {l : Launch} {G : jj_G} {X : sy_X} {K o N d : Nat} {h : jj_H} (hG : sy_G G X) (hdd : 9 ≤ d) (hs : Sy G X K o N h) : jj_Q l G y_CU_takeName d [.ref (X.2.2.1 12)] h (sy_F 1 true G X K o N) :=
  jj_Q.of (by decide +kernel) (Nat.le_of_ble_eq_true rfl) (b_CU_takeName_0 hG hdd hs)
set_option maxRecDepth 100000 in
set_option maxHeartbeats 4000000 in
theorem b_CU_tell_0 {l : Launch} {G : jj_G} {X : sy_X} {K o N d : Nat} {x1 x2 x3 : Int32} {h : jj_H} (hG : sy_G G X) (hdd : 8 ≤ d) (hs : Sy G X K o N h) : jj_P l G y_CU_tell d (sy_F 0 true G X K o N) 0 [some (.ref (X.2.2.1 12)), some (.int x1), some (.int x2), some (.int x3)] [] h := by
  refine jj_aload_n (j := 0) (by decide +kernel) rfl ?_
  obtain ⟨ki, va, pl, fa, fp, ne, hg⟩ := hs.gr hG.2
  refine jj_getfield 9 ck_GR fl_CU_15 (by decide) (by decide +kernel) hg rfl ?_
  refine sy_ci (s_tab_size (d := d - 1) (t := 7) hs (by decide) (by decide) (sy_o hG.2)) (fun o1 h1 hC => jj_callV ok_TB_size ml_CU_53 im_TB_size se_TB_TB_size (by decide +kernel) (hs.rcT (t := 7) (by decide) (by decide) (sy_o hG.2)) rfl (by omega) (Nat.le_of_ble_eq_true rfl) hC) (by decide) rfl (fun q => by cases q) (fun v1 h hv1 hs => ?_)
  refine jj_sipush (n := 16384) (v := 16384) (by decide +kernel) (by decide) ?_
  refine jj_icmp_lt (off := 8) (tgt := 18) (by decide +kernel) (by decide) (fun c2 => ?_) (fun c2 => ?_)
  · skip
    refine jj_aload_n (j := 0) (by decide +kernel) rfl ?_
    obtain ⟨ki, va, pl, fa, fp, ne, hg⟩ := hs.gr hG.2
    refine jj_getfield 9 ck_GR fl_CU_15 (by decide) (by decide +kernel) hg rfl ?_
    refine jj_iload_n (j := 1) (by decide +kernel) rfl ?_
    refine jj_iload_n (j := 2) (by decide +kernel) rfl ?_
    refine jj_iload_n (j := 3) (by decide +kernel) rfl ?_
    refine sy_cv (s_tab_add (d := d - 1) (t := 7) hG.1 hs (by decide) (by decide) (sy_o hG.2) (by omega)) (fun o1 h1 hC => jj_callV ok_TB_add ml_CU_57 im_TB_add se_TB_TB_add (by decide +kernel) (hs.rcT (t := 7) (by decide) (by decide) (sy_o hG.2)) rfl (by omega) (Nat.le_of_ble_eq_true rfl) hC) rfl (fun q => by cases q) (fun h hs => ?_)
    exact jj_vret (by decide +kernel) rfl ⟨rfl, hs⟩
  · skip
    refine jj_aload_n (j := 0) (by decide +kernel) rfl ?_
    refine jj_iconst (n := 4) (v := 4) (by decide +kernel) (by decide) ?_
    exact sy_cx (s_CU_raise (d := d - 1) hG.2 hs (by omega)) (fun o1 h1 hC => jj_callV ok_CU_raise ml_CU_49 im_CU_raise se_GR_CU_raise (by decide +kernel) (hs.rcGR hG.2) rfl (by omega) (Nat.le_of_ble_eq_true rfl) hC) rfl (fun _ _ q => ⟨rfl, rfl, _, q⟩)
theorem s_CU_tell {l : Launch} {G : jj_G} {X : sy_X} {K o N d : Nat} {x1 x2 x3 : Int32} {h : jj_H} (hG : sy_G G X) (hdd : 8 ≤ d) (hs : Sy G X K o N h) : jj_Q l G y_CU_tell d [.ref (X.2.2.1 12), .int x1, .int x2, .int x3] h (sy_F 0 true G X K o N) :=
  jj_Q.of (by decide +kernel) (Nat.le_of_ble_eq_true rfl) (b_CU_tell_0 hG hdd hs)
set_option maxRecDepth 100000 in
set_option maxHeartbeats 4000000 in
theorem b_CU_tellNothing_0 {l : Launch} {G : jj_G} {X : sy_X} {K o N d : Nat} {h : jj_H} (hG : sy_G G X) (hdd : 9 ≤ d) (hs : Sy G X K o N h) : jj_P l G y_CU_tellNothing d (sy_F 0 true G X K o N) 0 [some (.ref (X.2.2.1 12))] [] h := by
  refine jj_aload_n (j := 0) (by decide +kernel) rfl ?_
  refine jj_iconst (n := 0) (v := 0) (by decide +kernel) (by decide) ?_
  refine jj_iconst (n := 0) (v := 0) (by decide +kernel) (by decide) ?_
  refine jj_iconst (n := 0) (v := 0) (by decide +kernel) (by decide) ?_
  refine sy_cv (s_CU_tell (d := d - 1) hG (by omega) hs) (fun o1 h1 hC => jj_callV ok_CU_tell ml_CU_61 im_CU_tell se_GR_CU_tell (by decide +kernel) (hs.rcGR hG.2) rfl (by omega) (Nat.le_of_ble_eq_true rfl) hC) rfl (fun _ _ _ q => ⟨rfl, rfl, _, q⟩) (fun h hs => ?_)
  exact jj_vret (by decide +kernel) rfl ⟨rfl, hs⟩
theorem s_CU_tellNothing {l : Launch} {G : jj_G} {X : sy_X} {K o N d : Nat} {h : jj_H} (hG : sy_G G X) (hdd : 9 ≤ d) (hs : Sy G X K o N h) : jj_Q l G y_CU_tellNothing d [.ref (X.2.2.1 12)] h (sy_F 0 true G X K o N) :=
  jj_Q.of (by decide +kernel) (Nat.le_of_ble_eq_true rfl) (b_CU_tellNothing_0 hG hdd hs)
set_option maxRecDepth 100000 in
set_option maxHeartbeats 4000000 in
theorem b_CU_told_0 {l : Launch} {G : jj_G} {X : sy_X} {K o N d : Nat} {h : jj_H} (hG : sy_G G X) (hdd : 1 ≤ d) (hs : Sy G X K o N h) : jj_P l G y_CU_told d (sy_F 3 false G X K o N) 0 [some (.ref (X.2.2.1 12))] [] h := by
  refine jj_aload_n (j := 0) (by decide +kernel) rfl ?_
  obtain ⟨ki, va, pl, fa, fp, ne, hg⟩ := hs.gr hG.2
  refine jj_getfield 9 ck_GR fl_CU_15 (by decide) (by decide +kernel) hg rfl ?_
  refine sy_ci (s_tab_size (d := d - 1) (t := 7) hs (by decide) (by decide) (sy_o hG.2)) (fun o1 h1 hC => jj_callV ok_TB_size ml_CU_53 im_TB_size se_TB_TB_size (by decide +kernel) (hs.rcT (t := 7) (by decide) (by decide) (sy_o hG.2)) rfl (by omega) (Nat.le_of_ble_eq_true rfl) hC) (by decide) rfl (fun q => by cases q) (fun v1 h hv1 hs => ?_)
  exact jj_iret .int (by decide +kernel) rfl rfl ⟨Or.inr (Or.inr ⟨rfl, (hv1 rfl)⟩), hs⟩
theorem s_CU_told {l : Launch} {G : jj_G} {X : sy_X} {K o N d : Nat} {h : jj_H} (hG : sy_G G X) (hdd : 1 ≤ d) (hs : Sy G X K o N h) : jj_Q l G y_CU_told d [.ref (X.2.2.1 12)] h (sy_F 3 false G X K o N) :=
  jj_Q.of (by decide +kernel) (Nat.le_of_ble_eq_true rfl) (b_CU_told_0 hG hdd hs)
set_option maxRecDepth 100000 in
set_option maxHeartbeats 4000000 in
theorem b_CU_tellAgain_2 {l : Launch} {G : jj_G} {X : sy_X} {K o N d : Nat} {x1 x2 : Int32} (hG : sy_G G X) (hdd : 9 ≤ d) : ∀ (n : Nat) (x3 : Int32) (h : jj_H), (2147483647 - x3.toInt).toNat < n → Sy G X K o N h → jj_P l G y_CU_tellAgain d (sy_F 0 true G X K o N) 2 [some (.ref (X.2.2.1 12)), some (.int x1), some (.int x2), some (.int x3)] [] h := by
  intro n
  induction n with
  | zero => intro x3 h hn; exact absurd hn (Nat.not_lt_zero _)
  | succ n ih =>
    intro x3 h hn hs
    refine jj_iload_n (j := 3) (by decide +kernel) rfl ?_
    refine jj_iload_n (j := 2) (by decide +kernel) rfl ?_
    refine jj_icmp_ge (off := 40) (tgt := 44) (by decide +kernel) (by decide) (fun c1 => ?_) (fun c1 => ?_)
    · skip
      exact jj_vret (by decide +kernel) rfl ⟨rfl, hs⟩
    · skip
      have hdec := up_lt (Int32.not_le.mp c1) hn
      refine jj_aload_n (j := 0) (by decide +kernel) rfl ?_
      refine jj_aload_n (j := 0) (by decide +kernel) rfl ?_
      obtain ⟨ki, va, pl, fa, fp, ne, hg⟩ := hs.gr hG.2
      refine jj_getfield 9 ck_GR fl_CU_15 (by decide) (by decide +kernel) hg rfl ?_
      refine jj_iload_n (j := 3) (by decide +kernel) rfl ?_
      refine jj_iconst (n := 0) (v := 0) (by decide +kernel) (by decide) ?_
      refine sy_ci (s_tab_at (d := d - 1) (t := 7) hG.1 hs (by decide) (by decide) (sy_o hG.2)) (fun o1 h1 hC => jj_callV ok_TB_at ml_CU_43 im_TB_at se_TB_TB_at (by decide +kernel) (hs.rcT (t := 7) (by decide) (by decide) (sy_o hG.2)) rfl (by omega) (Nat.le_of_ble_eq_true rfl) hC) (by decide) rfl (fun q => by cases q) (fun v2 h _ hs => ?_)
      refine jj_aload_n (j := 0) (by decide +kernel) rfl ?_
      obtain ⟨ki, va, pl, fa, fp, ne, hg⟩ := hs.gr hG.2
      refine jj_getfield 9 ck_GR fl_CU_15 (by decide) (by decide +kernel) hg rfl ?_
      refine jj_iload_n (j := 3) (by decide +kernel) rfl ?_
      refine jj_iconst (n := 1) (v := 1) (by decide +kernel) (by decide) ?_
      refine sy_ci (s_tab_at (d := d - 1) (t := 7) hG.1 hs (by decide) (by decide) (sy_o hG.2)) (fun o1 h1 hC => jj_callV ok_TB_at ml_CU_43 im_TB_at se_TB_TB_at (by decide +kernel) (hs.rcT (t := 7) (by decide) (by decide) (sy_o hG.2)) rfl (by omega) (Nat.le_of_ble_eq_true rfl) hC) (by decide) rfl (fun q => by cases q) (fun v3 h _ hs => ?_)
      refine jj_aload_n (j := 0) (by decide +kernel) rfl ?_
      obtain ⟨ki, va, pl, fa, fp, ne, hg⟩ := hs.gr hG.2
      refine jj_getfield 9 ck_GR fl_CU_15 (by decide) (by decide +kernel) hg rfl ?_
      refine jj_iload_n (j := 3) (by decide +kernel) rfl ?_
      refine jj_iconst (n := 2) (v := 2) (by decide +kernel) (by decide) ?_
      refine sy_ci (s_tab_at (d := d - 1) (t := 7) hG.1 hs (by decide) (by decide) (sy_o hG.2)) (fun o1 h1 hC => jj_callV ok_TB_at ml_CU_43 im_TB_at se_TB_TB_at (by decide +kernel) (hs.rcT (t := 7) (by decide) (by decide) (sy_o hG.2)) rfl (by omega) (Nat.le_of_ble_eq_true rfl) hC) (by decide) rfl (fun q => by cases q) (fun v4 h _ hs => ?_)
      refine sy_cv (s_CU_tell (d := d - 1) hG (by omega) hs) (fun o1 h1 hC => jj_callV ok_CU_tell ml_CU_61 im_CU_tell se_GR_CU_tell (by decide +kernel) (hs.rcGR hG.2) rfl (by omega) (Nat.le_of_ble_eq_true rfl) hC) rfl (fun _ _ _ q => ⟨rfl, rfl, _, q⟩) (fun h hs => ?_)
      refine jj_iinc (i := 3) (n := 1) (by decide +kernel) rfl rfl (by decide) rfl ?_
      refine jj_goto (off := (-39)) (tgt := 2) (by decide +kernel) (by decide) ?_
      exact jj_wk (js_s (js_s (js_s (js_s js_0)))) (ih _ _ hdec hs)
set_option maxRecDepth 100000 in
set_option maxHeartbeats 4000000 in
theorem b_CU_tellAgain_0 {l : Launch} {G : jj_G} {X : sy_X} {K o N d : Nat} {x1 x2 : Int32} {h : jj_H} (hG : sy_G G X) (hdd : 9 ≤ d) (hs : Sy G X K o N h) : jj_P l G y_CU_tellAgain d (sy_F 0 true G X K o N) 0 [some (.ref (X.2.2.1 12)), some (.int x1), some (.int x2), none] [] h := by
  refine jj_iload_n (j := 1) (by decide +kernel) rfl ?_
  refine jj_istore_n (j := 3) (by decide +kernel) (by decide) rfl ?_
  exact jj_wk (js_s (js_s (js_s (js_s js_0)))) (b_CU_tellAgain_2 hG hdd _ _ _ (Nat.lt_succ_self _) hs)
theorem s_CU_tellAgain {l : Launch} {G : jj_G} {X : sy_X} {K o N d : Nat} {x1 x2 : Int32} {h : jj_H} (hG : sy_G G X) (hdd : 9 ≤ d) (hs : Sy G X K o N h) : jj_Q l G y_CU_tellAgain d [.ref (X.2.2.1 12), .int x1, .int x2] h (sy_F 0 true G X K o N) :=
  jj_Q.of (by decide +kernel) (Nat.le_of_ble_eq_true rfl) (b_CU_tellAgain_0 hG hdd hs)
set_option maxRecDepth 100000 in
set_option maxHeartbeats 4000000 in
theorem b_CU_begin_0 {l : Launch} {G : jj_G} {X : sy_X} {K o N d : Nat} {h : jj_H} (hG : sy_G G X) (hdd : 9 ≤ d) (hs : Sy G X K o N h) : jj_P l G y_CU_begin d (sy_F 0 true G X K 0 N) 0 [some (.ref (X.2.2.1 12))] [] h := by
  refine jj_aload_n (j := 0) (by decide +kernel) rfl ?_
  refine jj_iconst (n := 0) (v := 0) (by decide +kernel) (by decide) ?_
  refine sy_putGR (k := 6) hs hG.2 (by decide) fl_CU_28 (by decide +kernel) (fun h hs => ?_)
  refine jj_aload_n (j := 0) (by decide +kernel) rfl ?_
  refine jj_iconst (n := (-1)) (v := (-1)) (by decide +kernel) (by decide) ?_
  refine sy_putGR (k := 7) hs hG.2 (by decide) fl_CU_31 (by decide +kernel) (fun h hs => ?_)
  refine jj_aload_n (j := 0) (by decide +kernel) rfl ?_
  refine jj_iconst (n := (-1)) (v := (-1)) (by decide +kernel) (by decide) ?_
  refine sy_putGR (k := 10) hs hG.2 (by decide) fl_CU_34 (by decide +kernel) (fun h hs => ?_)
  refine jj_aload_n (j := 0) (by decide +kernel) rfl ?_
  refine jj_iconst (n := 0) (v := 0) (by decide +kernel) (by decide) ?_
  refine sy_putO hs hG.2 rfl fl_CU_37 (by decide +kernel) (fun h hs => ?_)
  refine jj_aload_n (j := 0) (by decide +kernel) rfl ?_
  refine sy_cv (s_CU_take (d := d - 1) hG (by omega) hs) (fun o1 h1 hC => jj_callV ok_CU_take ml_CU_40 im_CU_take se_GR_CU_take (by decide +kernel) (hs.rcGR hG.2) rfl (by omega) (Nat.le_of_ble_eq_true rfl) hC) rfl (fun _ _ _ q => ⟨rfl, rfl, _, q⟩) (fun h hs => ?_)
  exact jj_vret (by decide +kernel) rfl ⟨rfl, hs⟩
theorem s_CU_begin {l : Launch} {G : jj_G} {X : sy_X} {K o N d : Nat} {h : jj_H} (hG : sy_G G X) (hdd : 9 ≤ d) (hs : Sy G X K o N h) : jj_Q l G y_CU_begin d [.ref (X.2.2.1 12)] h (sy_F 0 true G X K 0 N) :=
  jj_Q.of (by decide +kernel) (Nat.le_of_ble_eq_true rfl) (b_CU_begin_0 hG hdd hs)
