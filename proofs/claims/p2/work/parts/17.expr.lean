/-- the contracts that are proved by how deep may still be gone -/
def sy_Ex (l : Launch) (G : jj_G) (X : sy_X) (N m : Nat) : Prop := ∀ (K o : Nat) (h : jj_H) (d : Nat), o + m = 40 → Sy G X K o N h → 15 + 10 * m ≤ d → jj_Q l G y_GR_expression d [.ref (X.2.2.1 12)] h (sy_F 0 true G X K o N)
def sy_One (l : Launch) (G : jj_G) (X : sy_X) (N : Nat) (r : Int32) (D m : Nat) : Prop := ∀ (K o : Nat) (h : jj_H) (d : Nat), o + m = 40 → Sy G X K o N h → D + 10 * m ≤ d → jj_Q l G y_GR_one d [.ref (X.2.2.1 12), .int r] h (sy_F 1 true G X K o N)
set_option maxRecDepth 100000 in
set_option maxHeartbeats 4000000 in
theorem b_GR_canBegin_0 {l : Launch} {G : jj_G} {X : sy_X} {K o N d : Nat} {x1 : Int32} {h : jj_H} (hG : sy_G G X) (hdd : 1 ≤ d) (hs : Sy G X K o N h) : jj_P l G y_GR_canBegin d (sy_F 2 false G X K o N) 0 [some (.ref (X.2.2.1 12)), some (.int x1)] [] h := by
  refine jj_iload_n (j := 1) (by decide +kernel) rfl ?_
  refine jj_tableAny (dflt := 163) (lo := 0) (hi := 5) (offs := #[39, 163, 163, 65, 111, 137]) (len := 39) (ts := [40, 66, 112, 138, 164]) (by decide +kernel) (by decide) (by decide +kernel) (jt_c ?_ (jt_c ?_ (jt_c ?_ (jt_c ?_ (jt_c ?_ jt_0)))))
  · skip
    refine jj_aload_n (j := 0) (by decide +kernel) rfl ?_
    obtain ⟨ki, va, pl, fa, fp, ne, hg⟩ := hs.gr hG.2
    refine jj_getfield 3 ck_GR fl_GR_68 (by decide) (by decide +kernel) hg rfl ?_
    refine jj_sipush (n := 305) (v := 305) (by decide +kernel) (by decide) ?_
    refine jj_icmp_eq (off := 13) (tgt := 60) (by decide +kernel) (by decide) (fun c1 => ?_) (fun c1 => ?_)
    · skip
      refine jj_iconst (n := 1) (v := 1) (by decide +kernel) (by decide) ?_
      refine jj_goto (off := 4) (tgt := 65) (by decide +kernel) (by decide) ?_
      exact jj_iret .boolean (by decide +kernel) rfl rfl ⟨Or.inr (Or.inl ⟨rfl, Or.inr rfl⟩), hs⟩
    · skip
      refine jj_aload_n (j := 0) (by decide +kernel) rfl ?_
      obtain ⟨ki, va, pl, fa, fp, ne, hg⟩ := hs.gr hG.2
      refine jj_getfield 3 ck_GR fl_GR_68 (by decide) (by decide +kernel) hg rfl ?_
      refine jj_sipush (n := 261) (v := 261) (by decide +kernel) (by decide) ?_
      refine jj_icmp_ne (off := 7) (tgt := 64) (by decide +kernel) (by decide) (fun c2 => ?_) (fun c2 => ?_)
      · skip
        refine jj_iconst (n := 0) (v := 0) (by decide +kernel) (by decide) ?_
        exact jj_iret .boolean (by decide +kernel) rfl rfl ⟨Or.inr (Or.inl ⟨rfl, Or.inl rfl⟩), hs⟩
      · skip
        refine jj_iconst (n := 1) (v := 1) (by decide +kernel) (by decide) ?_
        refine jj_goto (off := 4) (tgt := 65) (by decide +kernel) (by decide) ?_
        exact jj_iret .boolean (by decide +kernel) rfl rfl ⟨Or.inr (Or.inl ⟨rfl, Or.inr rfl⟩), hs⟩
  · skip
    refine jj_aload_n (j := 0) (by decide +kernel) rfl ?_
    obtain ⟨ki, va, pl, fa, fp, ne, hg⟩ := hs.gr hG.2
    refine jj_getfield 3 ck_GR fl_GR_68 (by decide) (by decide +kernel) hg rfl ?_
    refine jj_sipush (n := 297) (v := 297) (by decide +kernel) (by decide) ?_
    refine jj_icmp_eq (off := 33) (tgt := 106) (by decide +kernel) (by decide) (fun c3 => ?_) (fun c3 => ?_)
    · skip
      refine jj_iconst (n := 1) (v := 1) (by decide +kernel) (by decide) ?_
      refine jj_goto (off := 4) (tgt := 111) (by decide +kernel) (by decide) ?_
      exact jj_iret .boolean (by decide +kernel) rfl rfl ⟨Or.inr (Or.inl ⟨rfl, Or.inr rfl⟩), hs⟩
    · skip
      refine jj_aload_n (j := 0) (by decide +kernel) rfl ?_
      obtain ⟨ki, va, pl, fa, fp, ne, hg⟩ := hs.gr hG.2
      refine jj_getfield 3 ck_GR fl_GR_68 (by decide) (by decide +kernel) hg rfl ?_
      refine jj_sipush (n := 263) (v := 263) (by decide +kernel) (by decide) ?_
      refine jj_icmp_eq (off := 23) (tgt := 106) (by decide +kernel) (by decide) (fun c4 => ?_) (fun c4 => ?_)
      · skip
        refine jj_iconst (n := 1) (v := 1) (by decide +kernel) (by decide) ?_
        refine jj_goto (off := 4) (tgt := 111) (by decide +kernel) (by decide) ?_
        exact jj_iret .boolean (by decide +kernel) rfl rfl ⟨Or.inr (Or.inl ⟨rfl, Or.inr rfl⟩), hs⟩
      · skip
        refine jj_aload_n (j := 0) (by decide +kernel) rfl ?_
        obtain ⟨ki, va, pl, fa, fp, ne, hg⟩ := hs.gr hG.2
        refine jj_getfield 3 ck_GR fl_GR_68 (by decide) (by decide +kernel) hg rfl ?_
        refine jj_sipush (n := 304) (v := 304) (by decide +kernel) (by decide) ?_
        refine jj_icmp_eq (off := 13) (tgt := 106) (by decide +kernel) (by decide) (fun c5 => ?_) (fun c5 => ?_)
        · skip
          refine jj_iconst (n := 1) (v := 1) (by decide +kernel) (by decide) ?_
          refine jj_goto (off := 4) (tgt := 111) (by decide +kernel) (by decide) ?_
          exact jj_iret .boolean (by decide +kernel) rfl rfl ⟨Or.inr (Or.inl ⟨rfl, Or.inr rfl⟩), hs⟩
        · skip
          refine jj_aload_n (j := 0) (by decide +kernel) rfl ?_
          obtain ⟨ki, va, pl, fa, fp, ne, hg⟩ := hs.gr hG.2
          refine jj_getfield 3 ck_GR fl_GR_68 (by decide) (by decide +kernel) hg rfl ?_
          refine jj_sipush (n := 300) (v := 300) (by decide +kernel) (by decide) ?_
          refine jj_icmp_ne (off := 7) (tgt := 110) (by decide +kernel) (by decide) (fun c6 => ?_) (fun c6 => ?_)
          · skip
            refine jj_iconst (n := 0) (v := 0) (by decide +kernel) (by decide) ?_
            exact jj_iret .boolean (by decide +kernel) rfl rfl ⟨Or.inr (Or.inl ⟨rfl, Or.inl rfl⟩), hs⟩
          · skip
            refine jj_iconst (n := 1) (v := 1) (by decide +kernel) (by decide) ?_
            refine jj_goto (off := 4) (tgt := 111) (by decide +kernel) (by decide) ?_
            exact jj_iret .boolean (by decide +kernel) rfl rfl ⟨Or.inr (Or.inl ⟨rfl, Or.inr rfl⟩), hs⟩
  · skip
    refine jj_aload_n (j := 0) (by decide +kernel) rfl ?_
    obtain ⟨ki, va, pl, fa, fp, ne, hg⟩ := hs.gr hG.2
    refine jj_getfield 3 ck_GR fl_GR_68 (by decide) (by decide +kernel) hg rfl ?_
    refine jj_sipush (n := 263) (v := 263) (by decide +kernel) (by decide) ?_
    refine jj_icmp_eq (off := 13) (tgt := 132) (by decide +kernel) (by decide) (fun c7 => ?_) (fun c7 => ?_)
    · skip
      refine jj_iconst (n := 1) (v := 1) (by decide +kernel) (by decide) ?_
      refine jj_goto (off := 4) (tgt := 137) (by decide +kernel) (by decide) ?_
      exact jj_iret .boolean (by decide +kernel) rfl rfl ⟨Or.inr (Or.inl ⟨rfl, Or.inr rfl⟩), hs⟩
    · skip
      refine jj_aload_n (j := 0) (by decide +kernel) rfl ?_
      obtain ⟨ki, va, pl, fa, fp, ne, hg⟩ := hs.gr hG.2
      refine jj_getfield 3 ck_GR fl_GR_68 (by decide) (by decide +kernel) hg rfl ?_
      refine jj_sipush (n := 307) (v := 307) (by decide +kernel) (by decide) ?_
      refine jj_icmp_ne (off := 7) (tgt := 136) (by decide +kernel) (by decide) (fun c8 => ?_) (fun c8 => ?_)
      · skip
        refine jj_iconst (n := 0) (v := 0) (by decide +kernel) (by decide) ?_
        exact jj_iret .boolean (by decide +kernel) rfl rfl ⟨Or.inr (Or.inl ⟨rfl, Or.inl rfl⟩), hs⟩
      · skip
        refine jj_iconst (n := 1) (v := 1) (by decide +kernel) (by decide) ?_
        refine jj_goto (off := 4) (tgt := 137) (by decide +kernel) (by decide) ?_
        exact jj_iret .boolean (by decide +kernel) rfl rfl ⟨Or.inr (Or.inl ⟨rfl, Or.inr rfl⟩), hs⟩
  · skip
    refine jj_aload_n (j := 0) (by decide +kernel) rfl ?_
    obtain ⟨ki, va, pl, fa, fp, ne, hg⟩ := hs.gr hG.2
    refine jj_getfield 3 ck_GR fl_GR_68 (by decide) (by decide +kernel) hg rfl ?_
    refine jj_sipush (n := 140) (v := 140) (by decide +kernel) (by decide) ?_
    refine jj_icmp_eq (off := 13) (tgt := 158) (by decide +kernel) (by decide) (fun c9 => ?_) (fun c9 => ?_)
    · skip
      refine jj_iconst (n := 1) (v := 1) (by decide +kernel) (by decide) ?_
      refine jj_goto (off := 4) (tgt := 163) (by decide +kernel) (by decide) ?_
      exact jj_iret .boolean (by decide +kernel) rfl rfl ⟨Or.inr (Or.inl ⟨rfl, Or.inr rfl⟩), hs⟩
    · skip
      refine jj_aload_n (j := 0) (by decide +kernel) rfl ?_
      obtain ⟨ki, va, pl, fa, fp, ne, hg⟩ := hs.gr hG.2
      refine jj_getfield 3 ck_GR fl_GR_68 (by decide) (by decide +kernel) hg rfl ?_
      refine jj_sipush (n := 292) (v := 292) (by decide +kernel) (by decide) ?_
      refine jj_icmp_ne (off := 7) (tgt := 162) (by decide +kernel) (by decide) (fun c10 => ?_) (fun c10 => ?_)
      · skip
        refine jj_iconst (n := 0) (v := 0) (by decide +kernel) (by decide) ?_
        exact jj_iret .boolean (by decide +kernel) rfl rfl ⟨Or.inr (Or.inl ⟨rfl, Or.inl rfl⟩), hs⟩
      · skip
        refine jj_iconst (n := 1) (v := 1) (by decide +kernel) (by decide) ?_
        refine jj_goto (off := 4) (tgt := 163) (by decide +kernel) (by decide) ?_
        exact jj_iret .boolean (by decide +kernel) rfl rfl ⟨Or.inr (Or.inl ⟨rfl, Or.inr rfl⟩), hs⟩
  · skip
    refine jj_aload_n (j := 0) (by decide +kernel) rfl ?_
    obtain ⟨ki, va, pl, fa, fp, ne, hg⟩ := hs.gr hG.2
    refine jj_getfield 3 ck_GR fl_GR_68 (by decide) (by decide +kernel) hg rfl ?_
    refine jj_sipush (n := 140) (v := 140) (by decide +kernel) (by decide) ?_
    refine jj_icmp_eq (off := 113) (tgt := 284) (by decide +kernel) (by decide) (fun c11 => ?_) (fun c11 => ?_)
    · skip
      refine jj_iconst (n := 1) (v := 1) (by decide +kernel) (by decide) ?_
      refine jj_goto (off := 4) (tgt := 289) (by decide +kernel) (by decide) ?_
      exact jj_iret .boolean (by decide +kernel) rfl rfl ⟨Or.inr (Or.inl ⟨rfl, Or.inr rfl⟩), hs⟩
    · skip
      refine jj_aload_n (j := 0) (by decide +kernel) rfl ?_
      obtain ⟨ki, va, pl, fa, fp, ne, hg⟩ := hs.gr hG.2
      refine jj_getfield 3 ck_GR fl_GR_68 (by decide) (by decide +kernel) hg rfl ?_
      refine jj_sipush (n := 272) (v := 272) (by decide +kernel) (by decide) ?_
      refine jj_icmp_eq (off := 103) (tgt := 284) (by decide +kernel) (by decide) (fun c12 => ?_) (fun c12 => ?_)
      · skip
        refine jj_iconst (n := 1) (v := 1) (by decide +kernel) (by decide) ?_
        refine jj_goto (off := 4) (tgt := 289) (by decide +kernel) (by decide) ?_
        exact jj_iret .boolean (by decide +kernel) rfl rfl ⟨Or.inr (Or.inl ⟨rfl, Or.inr rfl⟩), hs⟩
      · skip
        refine jj_aload_n (j := 0) (by decide +kernel) rfl ?_
        obtain ⟨ki, va, pl, fa, fp, ne, hg⟩ := hs.gr hG.2
        refine jj_getfield 3 ck_GR fl_GR_68 (by decide) (by decide +kernel) hg rfl ?_
        refine jj_sipush (n := 262) (v := 262) (by decide +kernel) (by decide) ?_
        refine jj_icmp_eq (off := 93) (tgt := 284) (by decide +kernel) (by decide) (fun c13 => ?_) (fun c13 => ?_)
        · skip
          refine jj_iconst (n := 1) (v := 1) (by decide +kernel) (by decide) ?_
          refine jj_goto (off := 4) (tgt := 289) (by decide +kernel) (by decide) ?_
          exact jj_iret .boolean (by decide +kernel) rfl rfl ⟨Or.inr (Or.inl ⟨rfl, Or.inr rfl⟩), hs⟩
        · skip
          refine jj_aload_n (j := 0) (by decide +kernel) rfl ?_
          obtain ⟨ki, va, pl, fa, fp, ne, hg⟩ := hs.gr hG.2
          refine jj_getfield 3 ck_GR fl_GR_68 (by decide) (by decide +kernel) hg rfl ?_
          refine jj_sipush (n := 269) (v := 269) (by decide +kernel) (by decide) ?_
          refine jj_icmp_eq (off := 83) (tgt := 284) (by decide +kernel) (by decide) (fun c14 => ?_) (fun c14 => ?_)
          · skip
            refine jj_iconst (n := 1) (v := 1) (by decide +kernel) (by decide) ?_
            refine jj_goto (off := 4) (tgt := 289) (by decide +kernel) (by decide) ?_
            exact jj_iret .boolean (by decide +kernel) rfl rfl ⟨Or.inr (Or.inl ⟨rfl, Or.inr rfl⟩), hs⟩
          · skip
            refine jj_aload_n (j := 0) (by decide +kernel) rfl ?_
            obtain ⟨ki, va, pl, fa, fp, ne, hg⟩ := hs.gr hG.2
            refine jj_getfield 3 ck_GR fl_GR_68 (by decide) (by decide +kernel) hg rfl ?_
            refine jj_sipush (n := 310) (v := 310) (by decide +kernel) (by decide) ?_
            refine jj_icmp_eq (off := 73) (tgt := 284) (by decide +kernel) (by decide) (fun c15 => ?_) (fun c15 => ?_)
            · skip
              refine jj_iconst (n := 1) (v := 1) (by decide +kernel) (by decide) ?_
              refine jj_goto (off := 4) (tgt := 289) (by decide +kernel) (by decide) ?_
              exact jj_iret .boolean (by decide +kernel) rfl rfl ⟨Or.inr (Or.inl ⟨rfl, Or.inr rfl⟩), hs⟩
            · skip
              refine jj_aload_n (j := 0) (by decide +kernel) rfl ?_
              obtain ⟨ki, va, pl, fa, fp, ne, hg⟩ := hs.gr hG.2
              refine jj_getfield 3 ck_GR fl_GR_68 (by decide) (by decide +kernel) hg rfl ?_
              refine jj_sipush (n := 277) (v := 277) (by decide +kernel) (by decide) ?_
              refine jj_icmp_eq (off := 63) (tgt := 284) (by decide +kernel) (by decide) (fun c16 => ?_) (fun c16 => ?_)
              · skip
                refine jj_iconst (n := 1) (v := 1) (by decide +kernel) (by decide) ?_
                refine jj_goto (off := 4) (tgt := 289) (by decide +kernel) (by decide) ?_
                exact jj_iret .boolean (by decide +kernel) rfl rfl ⟨Or.inr (Or.inl ⟨rfl, Or.inr rfl⟩), hs⟩
              · skip
                refine jj_aload_n (j := 0) (by decide +kernel) rfl ?_
                obtain ⟨ki, va, pl, fa, fp, ne, hg⟩ := hs.gr hG.2
                refine jj_getfield 3 ck_GR fl_GR_68 (by decide) (by decide +kernel) hg rfl ?_
                refine jj_sipush (n := 268) (v := 268) (by decide +kernel) (by decide) ?_
                refine jj_icmp_eq (off := 53) (tgt := 284) (by decide +kernel) (by decide) (fun c17 => ?_) (fun c17 => ?_)
                · skip
                  refine jj_iconst (n := 1) (v := 1) (by decide +kernel) (by decide) ?_
                  refine jj_goto (off := 4) (tgt := 289) (by decide +kernel) (by decide) ?_
                  exact jj_iret .boolean (by decide +kernel) rfl rfl ⟨Or.inr (Or.inl ⟨rfl, Or.inr rfl⟩), hs⟩
                · skip
                  refine jj_aload_n (j := 0) (by decide +kernel) rfl ?_
                  obtain ⟨ki, va, pl, fa, fp, ne, hg⟩ := hs.gr hG.2
                  refine jj_getfield 3 ck_GR fl_GR_68 (by decide) (by decide +kernel) hg rfl ?_
                  refine jj_sipush (n := 281) (v := 281) (by decide +kernel) (by decide) ?_
                  refine jj_icmp_eq (off := 43) (tgt := 284) (by decide +kernel) (by decide) (fun c18 => ?_) (fun c18 => ?_)
                  · skip
                    refine jj_iconst (n := 1) (v := 1) (by decide +kernel) (by decide) ?_
                    refine jj_goto (off := 4) (tgt := 289) (by decide +kernel) (by decide) ?_
                    exact jj_iret .boolean (by decide +kernel) rfl rfl ⟨Or.inr (Or.inl ⟨rfl, Or.inr rfl⟩), hs⟩
                  · skip
                    refine jj_aload_n (j := 0) (by decide +kernel) rfl ?_
                    obtain ⟨ki, va, pl, fa, fp, ne, hg⟩ := hs.gr hG.2
                    refine jj_getfield 3 ck_GR fl_GR_68 (by decide) (by decide +kernel) hg rfl ?_
                    refine jj_sipush (n := 308) (v := 308) (by decide +kernel) (by decide) ?_
                    refine jj_icmp_eq (off := 33) (tgt := 284) (by decide +kernel) (by decide) (fun c19 => ?_) (fun c19 => ?_)
                    · skip
                      refine jj_iconst (n := 1) (v := 1) (by decide +kernel) (by decide) ?_
                      refine jj_goto (off := 4) (tgt := 289) (by decide +kernel) (by decide) ?_
                      exact jj_iret .boolean (by decide +kernel) rfl rfl ⟨Or.inr (Or.inl ⟨rfl, Or.inr rfl⟩), hs⟩
                    · skip
                      refine jj_aload_n (j := 0) (by decide +kernel) rfl ?_
                      obtain ⟨ki, va, pl, fa, fp, ne, hg⟩ := hs.gr hG.2
                      refine jj_getfield 3 ck_GR fl_GR_68 (by decide) (by decide +kernel) hg rfl ?_
                      refine jj_sipush (n := 284) (v := 284) (by decide +kernel) (by decide) ?_
                      refine jj_icmp_eq (off := 23) (tgt := 284) (by decide +kernel) (by decide) (fun c20 => ?_) (fun c20 => ?_)
                      · skip
                        refine jj_iconst (n := 1) (v := 1) (by decide +kernel) (by decide) ?_
                        refine jj_goto (off := 4) (tgt := 289) (by decide +kernel) (by decide) ?_
                        exact jj_iret .boolean (by decide +kernel) rfl rfl ⟨Or.inr (Or.inl ⟨rfl, Or.inr rfl⟩), hs⟩
                      · skip
                        refine jj_aload_n (j := 0) (by decide +kernel) rfl ?_
                        obtain ⟨ki, va, pl, fa, fp, ne, hg⟩ := hs.gr hG.2
                        refine jj_getfield 3 ck_GR fl_GR_68 (by decide) (by decide +kernel) hg rfl ?_
                        refine jj_sipush (n := 296) (v := 296) (by decide +kernel) (by decide) ?_
                        refine jj_icmp_eq (off := 13) (tgt := 284) (by decide +kernel) (by decide) (fun c21 => ?_) (fun c21 => ?_)
                        · skip
                          refine jj_iconst (n := 1) (v := 1) (by decide +kernel) (by decide) ?_
                          refine jj_goto (off := 4) (tgt := 289) (by decide +kernel) (by decide) ?_
                          exact jj_iret .boolean (by decide +kernel) rfl rfl ⟨Or.inr (Or.inl ⟨rfl, Or.inr rfl⟩), hs⟩
                        · skip
                          refine jj_aload_n (j := 0) (by decide +kernel) rfl ?_
                          obtain ⟨ki, va, pl, fa, fp, ne, hg⟩ := hs.gr hG.2
                          refine jj_getfield 3 ck_GR fl_GR_68 (by decide) (by decide +kernel) hg rfl ?_
                          refine jj_sipush (n := 259) (v := 259) (by decide +kernel) (by decide) ?_
                          refine jj_icmp_ne (off := 7) (tgt := 288) (by decide +kernel) (by decide) (fun c22 => ?_) (fun c22 => ?_)
                          · skip
                            refine jj_iconst (n := 0) (v := 0) (by decide +kernel) (by decide) ?_
                            exact jj_iret .boolean (by decide +kernel) rfl rfl ⟨Or.inr (Or.inl ⟨rfl, Or.inl rfl⟩), hs⟩
                          · skip
                            refine jj_iconst (n := 1) (v := 1) (by decide +kernel) (by decide) ?_
                            refine jj_goto (off := 4) (tgt := 289) (by decide +kernel) (by decide) ?_
                            exact jj_iret .boolean (by decide +kernel) rfl rfl ⟨Or.inr (Or.inl ⟨rfl, Or.inr rfl⟩), hs⟩
theorem s_GR_canBegin {l : Launch} {G : jj_G} {X : sy_X} {K o N d : Nat} {x1 : Int32} {h : jj_H} (hG : sy_G G X) (hdd : 1 ≤ d) (hs : Sy G X K o N h) : jj_Q l G y_GR_canBegin d [.ref (X.2.2.1 12), .int x1] h (sy_F 2 false G X K o N) :=
  jj_Q.of (by decide +kernel) (Nat.le_of_ble_eq_true rfl) (b_GR_canBegin_0 hG hdd hs)
set_option maxRecDepth 100000 in
set_option maxHeartbeats 4000000 in
theorem b_GR_emptyList_0 {l : Launch} {G : jj_G} {X : sy_X} {K o N d : Nat} {h : jj_H} (hG : sy_G G X) (hdd : 9 ≤ d) (hs : Sy G X K o N h) : jj_P l G y_GR_emptyList d (sy_F 0 true G X K o N) 0 [some (.ref (X.2.2.1 12))] [] h := by
  refine jj_aload_n (j := 0) (by decide +kernel) rfl ?_
  refine jj_bipush (n := 48) (v := 48) (by decide +kernel) (by decide) ?_
  refine jj_iconst (n := 0) (v := 0) (by decide +kernel) (by decide) ?_
  refine jj_iconst (n := 0) (v := 0) (by decide +kernel) (by decide) ?_
  refine sy_cv (s_CU_tell (d := d - 1) hG (by omega) hs) (fun o1 h1 hC => jj_callU ok_CU_tell ml_GR_64 sm_GR_CU_tell rfl im_CU_tell se_GR_CU_tell_u (by decide +kernel) (hs.rcGR hG.2) rfl (by omega) (Nat.le_of_ble_eq_true rfl) hC) rfl (fun _ _ _ q => ⟨rfl, rfl, _, q⟩) (fun h hs => ?_)
  exact jj_vret (by decide +kernel) rfl ⟨rfl, hs⟩
theorem s_GR_emptyList {l : Launch} {G : jj_G} {X : sy_X} {K o N d : Nat} {h : jj_H} (hG : sy_G G X) (hdd : 9 ≤ d) (hs : Sy G X K o N h) : jj_Q l G y_GR_emptyList d [.ref (X.2.2.1 12)] h (sy_F 0 true G X K o N) :=
  jj_Q.of (by decide +kernel) (Nat.le_of_ble_eq_true rfl) (b_GR_emptyList_0 hG hdd hs)
set_option maxRecDepth 100000 in
set_option maxHeartbeats 4000000 in
theorem b_GR_signInFront_0 {l : Launch} {G : jj_G} {X : sy_X} {K o N d : Nat} {h : jj_H} (hG : sy_G G X) (hdd : 9 ≤ d) (hs : Sy G X K o N h) : jj_P l G y_GR_signInFront d (sy_F 0 true G X K o N) 0 [some (.ref (X.2.2.1 12))] [] h := by
  refine jj_aload_n (j := 0) (by decide +kernel) rfl ?_
  obtain ⟨ki, va, pl, fa, fp, ne, hg⟩ := hs.gr hG.2
  refine jj_getfield 3 ck_GR fl_GR_68 (by decide) (by decide +kernel) hg rfl ?_
  refine jj_bipush (n := 45) (v := 45) (by decide +kernel) (by decide) ?_
  refine jj_icmp_ne (off := 19) (tgt := 25) (by decide +kernel) (by decide) (fun c1 => ?_) (fun c1 => ?_)
  · skip
    refine jj_aload_n (j := 0) (by decide +kernel) rfl ?_
    obtain ⟨ki, va, pl, fa, fp, ne, hg⟩ := hs.gr hG.2
    refine jj_getfield 3 ck_GR fl_GR_68 (by decide) (by decide +kernel) hg rfl ?_
    refine jj_bipush (n := 43) (v := 43) (by decide +kernel) (by decide) ?_
    refine jj_icmp_ne (off := 16) (tgt := 47) (by decide +kernel) (by decide) (fun c2 => ?_) (fun c2 => ?_)
    · skip
      exact jj_vret (by decide +kernel) rfl ⟨rfl, hs⟩
    · skip
      refine jj_aload_n (j := 0) (by decide +kernel) rfl ?_
      obtain ⟨ki, va, pl, fa, fp, ne, hg⟩ := hs.gr hG.2
      refine jj_getfield 2 ck_GR fl_GR_23 (by decide) (by decide +kernel) hg rfl ?_
      refine jj_bipush (n := 22) (v := 22) (by decide +kernel) (by decide) ?_
      refine sy_cv (s_row_add (d := d - 1) (t := 6) hG.1 hs (by decide) (sy_o hG.2) (by decide) (by omega)) (fun o1 h1 hC => jj_callV ok_IR_add ml_GR_137 im_IR_add se_IR_IR_add (by decide +kernel) (hs.rcR (t := 6) (by decide) (sy_o hG.2)) rfl (by omega) (Nat.le_of_ble_eq_true rfl) hC) rfl (fun q => by cases q) (fun h hs => ?_)
      refine jj_aload_n (j := 0) (by decide +kernel) rfl ?_
      refine sy_cv (s_CU_take (d := d - 1) hG (by omega) hs) (fun o1 h1 hC => jj_callU ok_CU_take ml_GR_134 sm_GR_CU_take rfl im_CU_take se_GR_CU_take_u (by decide +kernel) (hs.rcGR hG.2) rfl (by omega) (Nat.le_of_ble_eq_true rfl) hC) rfl (fun _ _ _ q => ⟨rfl, rfl, _, q⟩) (fun h hs => ?_)
      exact jj_vret (by decide +kernel) rfl ⟨rfl, hs⟩
  · skip
    refine jj_aload_n (j := 0) (by decide +kernel) rfl ?_
    obtain ⟨ki, va, pl, fa, fp, ne, hg⟩ := hs.gr hG.2
    refine jj_getfield 2 ck_GR fl_GR_23 (by decide) (by decide +kernel) hg rfl ?_
    refine jj_bipush (n := 21) (v := 21) (by decide +kernel) (by decide) ?_
    refine sy_cv (s_row_add (d := d - 1) (t := 6) hG.1 hs (by decide) (sy_o hG.2) (by decide) (by omega)) (fun o1 h1 hC => jj_callV ok_IR_add ml_GR_137 im_IR_add se_IR_IR_add (by decide +kernel) (hs.rcR (t := 6) (by decide) (sy_o hG.2)) rfl (by omega) (Nat.le_of_ble_eq_true rfl) hC) rfl (fun q => by cases q) (fun h hs => ?_)
    refine jj_aload_n (j := 0) (by decide +kernel) rfl ?_
    refine sy_cv (s_CU_take (d := d - 1) hG (by omega) hs) (fun o1 h1 hC => jj_callU ok_CU_take ml_GR_134 sm_GR_CU_take rfl im_CU_take se_GR_CU_take_u (by decide +kernel) (hs.rcGR hG.2) rfl (by omega) (Nat.le_of_ble_eq_true rfl) hC) rfl (fun _ _ _ q => ⟨rfl, rfl, _, q⟩) (fun h hs => ?_)
    refine jj_goto (off := 25) (tgt := 47) (by decide +kernel) (by decide) ?_
    exact jj_vret (by decide +kernel) rfl ⟨rfl, hs⟩
theorem s_GR_signInFront {l : Launch} {G : jj_G} {X : sy_X} {K o N d : Nat} {h : jj_H} (hG : sy_G G X) (hdd : 9 ≤ d) (hs : Sy G X K o N h) : jj_Q l G y_GR_signInFront d [.ref (X.2.2.1 12)] h (sy_F 0 true G X K o N) :=
  jj_Q.of (by decide +kernel) (Nat.le_of_ble_eq_true rfl) (b_GR_signInFront_0 hG hdd hs)
set_option maxRecDepth 100000 in
set_option maxHeartbeats 4000000 in
theorem b_GR_operatorThatJoins_16 {l : Launch} {G : jj_G} {X : sy_X} {K o N d : Nat} {x1 : Int32} (hG : sy_G G X) (hdd : 3 ≤ d) : ∀ (n : Nat) (x2 : Int32) (x3 : Int32) (x4 : Int32) (h : jj_H), (2147483647 - x4.toInt).toNat < n → Sy G X K o N h → jj_P l G y_GR_operatorThatJoins d (sy_F 1 false G X K o N) 16 [some (.ref (X.2.2.1 12)), some (.int x1), some (.int x2), some (.int x3), some (.int x4), none] [] h := by
  intro n
  induction n with
  | zero => intro x2 x3 x4 h hn; exact absurd hn (Nat.not_lt_zero _)
  | succ n ih =>
    intro x2 x3 x4 h hn hs
    refine jj_iload (i := 4) (by decide +kernel) rfl ?_
    refine jj_aload_n (j := 0) (by decide +kernel) rfl ?_
    obtain ⟨ki, va, pl, fa, fp, ne, hg⟩ := hs.gr hG.2
    refine jj_getfield 2 ck_GR fl_GR_23 (by decide) (by decide +kernel) hg rfl ?_
    refine sy_ci (s_row_size (d := d - 1) (t := 6) hs (by decide) (sy_o hG.2)) (fun o1 h1 hC => jj_callV ok_IR_size ml_GR_143 im_IR_size se_IR_IR_size (by decide +kernel) (hs.rcR (t := 6) (by decide) (sy_o hG.2)) rfl (by omega) (Nat.le_of_ble_eq_true rfl) hC) (by decide) rfl (fun q => by cases q) (fun v1 h hv1 hs => ?_)
    refine jj_icmp_ge (off := 46) (tgt := 71) (by decide +kernel) (by decide) (fun c2 => ?_) (fun c2 => ?_)
    · skip
      refine jj_iload_n (j := 2) (by decide +kernel) rfl ?_
      exact jj_iret .int (by decide +kernel) rfl rfl ⟨Or.inl rfl, hs⟩
    · skip
      have hdec := up_lt (Int32.not_le.mp c2) hn
      refine jj_iload_n (j := 2) (by decide +kernel) rfl ?_
      refine jj_iconst (n := (-1)) (v := (-1)) (by decide +kernel) (by decide) ?_
      refine jj_icmp_eq (off := 41) (tgt := 71) (by decide +kernel) (by decide) (fun c3 => ?_) (fun c3 => ?_)
      · skip
        refine jj_iload_n (j := 2) (by decide +kernel) rfl ?_
        exact jj_iret .int (by decide +kernel) rfl rfl ⟨Or.inl rfl, hs⟩
      · skip
        refine jj_aload_n (j := 0) (by decide +kernel) rfl ?_
        obtain ⟨ki, va, pl, fa, fp, ne, hg⟩ := hs.gr hG.2
        refine jj_getfield 2 ck_GR fl_GR_23 (by decide) (by decide +kernel) hg rfl ?_
        refine jj_iload (i := 4) (by decide +kernel) rfl ?_
        refine sy_ci (s_row_at (d := d - 1) (t := 6) hG.1 hs (by decide) (sy_o hG.2)) (fun o1 h1 hC => jj_callV ok_IR_at ml_GR_140 im_IR_at se_IR_IR_at (by decide +kernel) (hs.rcR (t := 6) (by decide) (sy_o hG.2)) rfl (by omega) (Nat.le_of_ble_eq_true rfl) hC) (by decide) rfl (fun q => by cases q) (fun v4 h _ hs => ?_)
        refine jj_istore (i := 5) (by decide +kernel) (by decide) rfl ?_
        refine jj_iload (i := 5) (by decide +kernel) rfl ?_
        refine sy_ci (s_GR_levelOf (d := d - 1) hG (by omega) hs) (fun o1 h1 hC => jj_callS ok_GR_levelOf ml_GR_238 st_GR_levelOf (by decide +kernel) rfl (by omega) (Nat.le_of_ble_eq_true rfl) hC) (by decide) rfl (fun q => by cases q) (fun v5 h _ hs => ?_)
        refine jj_iload_n (j := 3) (by decide +kernel) rfl ?_
        refine jj_icmp_ne (off := 15) (tgt := 65) (by decide +kernel) (by decide) (fun c6 => ?_) (fun c6 => ?_)
        · skip
          refine jj_iinc (i := 4) (n := 1) (by decide +kernel) rfl rfl (by decide) rfl ?_
          refine jj_goto (off := (-52)) (tgt := 16) (by decide +kernel) (by decide) ?_
          exact jj_wk (js_s (js_s (js_s (js_s (js_s (js_n js_0)))))) (ih _ _ _ _ hdec hs)
        · skip
          refine jj_iload (i := 5) (by decide +kernel) rfl ?_
          refine jj_iload_n (j := 2) (by decide +kernel) rfl ?_
          refine jj_iload_n (j := 3) (by decide +kernel) rfl ?_
          refine sy_ci (s_GR_mayFollow (d := d - 1) hG (by omega) hs) (fun o1 h1 hC => jj_callS ok_GR_mayFollow ml_GR_256 st_GR_mayFollow (by decide +kernel) rfl (by omega) (Nat.le_of_ble_eq_true rfl) hC) (by decide) rfl (fun q => by cases q) (fun v7 h _ hs => ?_)
          refine jj_if_ne (off := 5) (tgt := 65) (by decide +kernel) (by decide) (fun c8 => ?_) (fun c8 => ?_)
          · skip
            refine jj_iinc (i := 4) (n := 1) (by decide +kernel) rfl rfl (by decide) rfl ?_
            refine jj_goto (off := (-52)) (tgt := 16) (by decide +kernel) (by decide) ?_
            exact jj_wk (js_s (js_s (js_s (js_s (js_s (js_n js_0)))))) (ih _ _ _ _ hdec hs)
          · skip
            refine jj_iconst (n := (-1)) (v := (-1)) (by decide +kernel) (by decide) ?_
            exact jj_iret .int (by decide +kernel) rfl rfl ⟨Or.inl rfl, hs⟩
set_option maxRecDepth 100000 in
set_option maxHeartbeats 4000000 in
theorem b_GR_operatorThatJoins_0 {l : Launch} {G : jj_G} {X : sy_X} {K o N d : Nat} {x1 : Int32} {h : jj_H} (hG : sy_G G X) (hdd : 3 ≤ d) (hs : Sy G X K o N h) : jj_P l G y_GR_operatorThatJoins d (sy_F 1 false G X K o N) 0 [some (.ref (X.2.2.1 12)), some (.int x1), none, none, none, none] [] h := by
  refine jj_aload_n (j := 0) (by decide +kernel) rfl ?_
  obtain ⟨ki, va, pl, fa, fp, ne, hg⟩ := hs.gr hG.2
  refine jj_getfield 3 ck_GR fl_GR_68 (by decide) (by decide +kernel) hg rfl ?_
  refine sy_ci (s_GR_operatorOf (d := d - 1) hG (by omega) hs) (fun o1 h1 hC => jj_callS ok_GR_operatorOf ml_GR_253 st_GR_operatorOf (by decide +kernel) rfl (by omega) (Nat.le_of_ble_eq_true rfl) hC) (by decide) rfl (fun q => by cases q) (fun v1 h _ hs => ?_)
  refine jj_istore_n (j := 2) (by decide +kernel) (by decide) rfl ?_
  refine jj_iload_n (j := 2) (by decide +kernel) rfl ?_
  refine sy_ci (s_GR_levelOf (d := d - 1) hG (by omega) hs) (fun o1 h1 hC => jj_callS ok_GR_levelOf ml_GR_238 st_GR_levelOf (by decide +kernel) rfl (by omega) (Nat.le_of_ble_eq_true rfl) hC) (by decide) rfl (fun q => by cases q) (fun v2 h _ hs => ?_)
  refine jj_istore_n (j := 3) (by decide +kernel) (by decide) rfl ?_
  refine jj_iload_n (j := 1) (by decide +kernel) rfl ?_
  refine jj_istore (i := 4) (by decide +kernel) (by decide) rfl ?_
  exact jj_wk (js_s (js_s (js_s (js_s (js_s (js_n js_0)))))) (b_GR_operatorThatJoins_16 hG hdd _ _ _ _ _ (Nat.lt_succ_self _) hs)
theorem s_GR_operatorThatJoins {l : Launch} {G : jj_G} {X : sy_X} {K o N d : Nat} {x1 : Int32} {h : jj_H} (hG : sy_G G X) (hdd : 3 ≤ d) (hs : Sy G X K o N h) : jj_Q l G y_GR_operatorThatJoins d [.ref (X.2.2.1 12), .int x1] h (sy_F 1 false G X K o N) :=
  jj_Q.of (by decide +kernel) (Nat.le_of_ble_eq_true rfl) (b_GR_operatorThatJoins_0 hG hdd hs)
set_option maxRecDepth 100000 in
set_option maxHeartbeats 4000000 in
theorem b_GR_tellPending_10 {l : Launch} {G : jj_G} {X : sy_X} {K o N d : Nat} {x1 x2 : Int32} (hG : sy_G G X) (hx1 : 0 ≤ x1) (hdd : 9 ≤ d) : ∀ (n : Nat) (x3 : Int32) (h : jj_H), (x3.toInt + 1).toNat < n → Sy G X K o N h → jj_P l G y_GR_tellPending d (sy_F 0 true G X K o N) 10 [some (.ref (X.2.2.1 12)), some (.int x1), some (.int x2), some (.int x3), none] [] h := by
  intro n
  induction n with
  | zero => intro x3 h hn; exact absurd hn (Nat.not_lt_zero _)
  | succ n ih =>
    intro x3 h hn hs
    refine jj_iload_n (j := 3) (by decide +kernel) rfl ?_
    refine jj_iload_n (j := 1) (by decide +kernel) rfl ?_
    refine jj_icmp_lt (off := 87) (tgt := 99) (by decide +kernel) (by decide) (fun c1 => ?_) (fun c1 => ?_)
    · skip
      exact jj_vret (by decide +kernel) rfl ⟨rfl, hs⟩
    · skip
      have hdec := dn_lt hx1 (Int32.not_lt.mp c1) hn
      refine jj_aload_n (j := 0) (by decide +kernel) rfl ?_
      obtain ⟨ki, va, pl, fa, fp, ne, hg⟩ := hs.gr hG.2
      refine jj_getfield 2 ck_GR fl_GR_23 (by decide) (by decide +kernel) hg rfl ?_
      refine jj_iload_n (j := 3) (by decide +kernel) rfl ?_
      refine sy_ci (s_row_at (d := d - 1) (t := 6) hG.1 hs (by decide) (sy_o hG.2)) (fun o1 h1 hC => jj_callV ok_IR_at ml_GR_140 im_IR_at se_IR_IR_at (by decide +kernel) (hs.rcR (t := 6) (by decide) (sy_o hG.2)) rfl (by omega) (Nat.le_of_ble_eq_true rfl) hC) (by decide) rfl (fun q => by cases q) (fun v2 h _ hs => ?_)
      refine sy_ci (s_GR_levelOf (d := d - 1) hG (by omega) hs) (fun o1 h1 hC => jj_callS ok_GR_levelOf ml_GR_238 st_GR_levelOf (by decide +kernel) rfl (by omega) (Nat.le_of_ble_eq_true rfl) hC) (by decide) rfl (fun q => by cases q) (fun v3 h _ hs => ?_)
      refine jj_iload_n (j := 2) (by decide +kernel) rfl ?_
      refine jj_icmp_lt (off := 72) (tgt := 99) (by decide +kernel) (by decide) (fun c4 => ?_) (fun c4 => ?_)
      · skip
        exact jj_vret (by decide +kernel) rfl ⟨rfl, hs⟩
      · skip
        refine jj_aload_n (j := 0) (by decide +kernel) rfl ?_
        obtain ⟨ki, va, pl, fa, fp, ne, hg⟩ := hs.gr hG.2
        refine jj_getfield 2 ck_GR fl_GR_23 (by decide) (by decide +kernel) hg rfl ?_
        refine jj_iload_n (j := 3) (by decide +kernel) rfl ?_
        refine sy_ci (s_row_at (d := d - 1) (t := 6) hG.1 hs (by decide) (sy_o hG.2)) (fun o1 h1 hC => jj_callV ok_IR_at ml_GR_140 im_IR_at se_IR_IR_at (by decide +kernel) (hs.rcR (t := 6) (by decide) (sy_o hG.2)) rfl (by omega) (Nat.le_of_ble_eq_true rfl) hC) (by decide) rfl (fun q => by cases q) (fun v5 h _ hs => ?_)
        refine jj_istore (i := 4) (by decide +kernel) (by decide) rfl ?_
        refine jj_aload_n (j := 0) (by decide +kernel) rfl ?_
        obtain ⟨ki, va, pl, fa, fp, ne, hg⟩ := hs.gr hG.2
        refine jj_getfield 2 ck_GR fl_GR_23 (by decide) (by decide +kernel) hg rfl ?_
        refine jj_iload_n (j := 3) (by decide +kernel) rfl ?_
        refine sy_cv (s_row_cut (d := d - 1) (t := 6) hs (by decide) (sy_o hG.2) (by decide)) (fun o1 h1 hC => jj_callV ok_IR_cutTo ml_GR_87 im_IR_cutTo se_IR_IR_cutTo (by decide +kernel) (hs.rcR (t := 6) (by decide) (sy_o hG.2)) rfl (by omega) (Nat.le_of_ble_eq_true rfl) hC) rfl (fun q => by cases q) (fun h hs => ?_)
        refine jj_iload (i := 4) (by decide +kernel) rfl ?_
        refine jj_bipush (n := 21) (v := 21) (by decide +kernel) (by decide) ?_
        refine jj_icmp_ne (off := 14) (tgt := 66) (by decide +kernel) (by decide) (fun c6 => ?_) (fun c6 => ?_)
        · skip
          refine jj_iload (i := 4) (by decide +kernel) rfl ?_
          refine jj_bipush (n := 22) (v := 22) (by decide +kernel) (by decide) ?_
          refine jj_icmp_ne (off := 14) (tgt := 84) (by decide +kernel) (by decide) (fun c7 => ?_) (fun c7 => ?_)
          · skip
            refine jj_aload_n (j := 0) (by decide +kernel) rfl ?_
            refine jj_bipush (n := 21) (v := 21) (by decide +kernel) (by decide) ?_
            refine jj_iload (i := 4) (by decide +kernel) rfl ?_
            refine jj_iconst (n := 2) (v := 2) (by decide +kernel) (by decide) ?_
            refine sy_cv (s_CU_tell (d := d - 1) hG (by omega) hs) (fun o1 h1 hC => jj_callU ok_CU_tell ml_GR_64 sm_GR_CU_tell rfl im_CU_tell se_GR_CU_tell_u (by decide +kernel) (hs.rcGR hG.2) rfl (by omega) (Nat.le_of_ble_eq_true rfl) hC) rfl (fun _ _ _ q => ⟨rfl, rfl, _, q⟩) (fun h hs => ?_)
            refine jj_iinc (i := 3) (n := (-1)) (by decide +kernel) rfl rfl (by decide) rfl ?_
            refine jj_goto (off := (-86)) (tgt := 10) (by decide +kernel) (by decide) ?_
            exact jj_wk (js_s (js_s (js_s (js_s (js_n js_0))))) (ih _ _ hdec hs)
          · skip
            refine jj_aload_n (j := 0) (by decide +kernel) rfl ?_
            refine jj_bipush (n := 20) (v := 20) (by decide +kernel) (by decide) ?_
            refine jj_iconst (n := 2) (v := 2) (by decide +kernel) (by decide) ?_
            refine jj_iconst (n := 1) (v := 1) (by decide +kernel) (by decide) ?_
            refine sy_cv (s_CU_tell (d := d - 1) hG (by omega) hs) (fun o1 h1 hC => jj_callU ok_CU_tell ml_GR_64 sm_GR_CU_tell rfl im_CU_tell se_GR_CU_tell_u (by decide +kernel) (hs.rcGR hG.2) rfl (by omega) (Nat.le_of_ble_eq_true rfl) hC) rfl (fun _ _ _ q => ⟨rfl, rfl, _, q⟩) (fun h hs => ?_)
            refine jj_goto (off := 12) (tgt := 93) (by decide +kernel) (by decide) ?_
            refine jj_iinc (i := 3) (n := (-1)) (by decide +kernel) rfl rfl (by decide) rfl ?_
            refine jj_goto (off := (-86)) (tgt := 10) (by decide +kernel) (by decide) ?_
            exact jj_wk (js_s (js_s (js_s (js_s (js_n js_0))))) (ih _ _ hdec hs)
        · skip
          refine jj_aload_n (j := 0) (by decide +kernel) rfl ?_
          refine jj_bipush (n := 20) (v := 20) (by decide +kernel) (by decide) ?_
          refine jj_iconst (n := 1) (v := 1) (by decide +kernel) (by decide) ?_
          refine jj_iconst (n := 1) (v := 1) (by decide +kernel) (by decide) ?_
          refine sy_cv (s_CU_tell (d := d - 1) hG (by omega) hs) (fun o1 h1 hC => jj_callU ok_CU_tell ml_GR_64 sm_GR_CU_tell rfl im_CU_tell se_GR_CU_tell_u (by decide +kernel) (hs.rcGR hG.2) rfl (by omega) (Nat.le_of_ble_eq_true rfl) hC) rfl (fun _ _ _ q => ⟨rfl, rfl, _, q⟩) (fun h hs => ?_)
          refine jj_goto (off := 30) (tgt := 93) (by decide +kernel) (by decide) ?_
          refine jj_iinc (i := 3) (n := (-1)) (by decide +kernel) rfl rfl (by decide) rfl ?_
          refine jj_goto (off := (-86)) (tgt := 10) (by decide +kernel) (by decide) ?_
          exact jj_wk (js_s (js_s (js_s (js_s (js_n js_0))))) (ih _ _ hdec hs)
set_option maxRecDepth 100000 in
set_option maxHeartbeats 4000000 in
theorem b_GR_tellPending_0 {l : Launch} {G : jj_G} {X : sy_X} {K o N d : Nat} {x1 x2 : Int32} {h : jj_H} (hG : sy_G G X) (hx1 : 0 ≤ x1) (hdd : 9 ≤ d) (hs : Sy G X K o N h) : jj_P l G y_GR_tellPending d (sy_F 0 true G X K o N) 0 [some (.ref (X.2.2.1 12)), some (.int x1), some (.int x2), none, none] [] h := by
  refine jj_aload_n (j := 0) (by decide +kernel) rfl ?_
  obtain ⟨ki, va, pl, fa, fp, ne, hg⟩ := hs.gr hG.2
  refine jj_getfield 2 ck_GR fl_GR_23 (by decide) (by decide +kernel) hg rfl ?_
  refine sy_ci (s_row_size (d := d - 1) (t := 6) hs (by decide) (sy_o hG.2)) (fun o1 h1 hC => jj_callV ok_IR_size ml_GR_143 im_IR_size se_IR_IR_size (by decide +kernel) (hs.rcR (t := 6) (by decide) (sy_o hG.2)) rfl (by omega) (Nat.le_of_ble_eq_true rfl) hC) (by decide) rfl (fun q => by cases q) (fun v1 h hv1 hs => ?_)
  refine jj_iconst (n := 1) (v := 1) (by decide +kernel) (by decide) ?_
  refine jj_isub (by decide +kernel) ?_
  refine jj_istore_n (j := 3) (by decide +kernel) (by decide) rfl ?_
  exact jj_wk (js_s (js_s (js_s (js_s (js_n js_0))))) (b_GR_tellPending_10 hG hx1 hdd _ _ _ (Nat.lt_succ_self _) hs)
theorem s_GR_tellPending {l : Launch} {G : jj_G} {X : sy_X} {K o N d : Nat} {x1 x2 : Int32} {h : jj_H} (hG : sy_G G X) (hx1 : 0 ≤ x1) (hdd : 9 ≤ d) (hs : Sy G X K o N h) : jj_Q l G y_GR_tellPending d [.ref (X.2.2.1 12), .int x1, .int x2] h (sy_F 0 true G X K o N) :=
  jj_Q.of (by decide +kernel) (Nat.le_of_ble_eq_true rfl) (b_GR_tellPending_0 hG hx1 hdd hs)
set_option maxRecDepth 100000 in
set_option maxHeartbeats 4000000 in
theorem b_GR_rowOfSigns_18 {l : Launch} {G : jj_G} {X : sy_X} {K o N d : Nat} (hG : sy_G G X) (hdd : 11 ≤ d) : ∀ (n : Nat) (x1 : Int32) (x2 : Int32) (x3 : Int32) (h : jj_H), (2147483647 - x3.toInt).toNat < n → Sy G X K o N h → jj_P l G y_GR_rowOfSigns d (sy_F 0 true G X K o N) 18 [some (.ref (X.2.2.1 12)), some (.int x1), some (.int x2), some (.int x3)] [] h := by
  intro n
  induction n with
  | zero => intro x1 x2 x3 h hn; exact absurd hn (Nat.not_lt_zero _)
  | succ n ih =>
    intro x1 x2 x3 h hn hs
    refine jj_iload_n (j := 3) (by decide +kernel) rfl ?_
    refine jj_iload_n (j := 2) (by decide +kernel) rfl ?_
    refine jj_icmp_ge (off := 28) (tgt := 48) (by decide +kernel) (by decide) (fun c1 => ?_) (fun c1 => ?_)
    · skip
      refine jj_aload_n (j := 0) (by decide +kernel) rfl ?_
      refine jj_iconst (n := 4) (v := 4) (by decide +kernel) (by decide) ?_
      refine jj_iconst (n := 0) (v := 0) (by decide +kernel) (by decide) ?_
      refine jj_iload_n (j := 2) (by decide +kernel) rfl ?_
      refine sy_cv (s_CU_tell (d := d - 1) hG (by omega) hs) (fun o1 h1 hC => jj_callU ok_CU_tell ml_GR_64 sm_GR_CU_tell rfl im_CU_tell se_GR_CU_tell_u (by decide +kernel) (hs.rcGR hG.2) rfl (by omega) (Nat.le_of_ble_eq_true rfl) hC) rfl (fun _ _ _ q => ⟨rfl, rfl, _, q⟩) (fun h hs => ?_)
      exact jj_vret (by decide +kernel) rfl ⟨rfl, hs⟩
    · skip
      have hdec := up_lt (Int32.not_le.mp c1) hn
      refine jj_aload_n (j := 0) (by decide +kernel) rfl ?_
      refine jj_iconst (n := 3) (v := 3) (by decide +kernel) (by decide) ?_
      refine jj_aload_n (j := 0) (by decide +kernel) rfl ?_
      obtain ⟨ki, va, pl, fa, fp, ne, hg⟩ := hs.gr hG.2
      refine jj_getfield 0 ck_GR fl_GR_9 (by decide) (by decide +kernel) hg rfl ?_
      refine jj_iload_n (j := 1) (by decide +kernel) rfl ?_
      refine jj_iload_n (j := 3) (by decide +kernel) rfl ?_
      refine jj_iadd (by decide +kernel) ?_
      refine sy_ci (s_row_at (d := d - 1) (t := 0) hG.1 hs (by decide) (sy_o hG.2)) (fun o1 h1 hC => jj_callV ok_IR_at ml_GR_140 im_IR_at se_IR_IR_at (by decide +kernel) (hs.rcR (t := 0) (by decide) (sy_o hG.2)) rfl (by omega) (Nat.le_of_ble_eq_true rfl) hC) (by decide) rfl (fun q => by cases q) (fun v2 h _ hs => ?_)
      refine sy_ci (s_ST_signOf (d := d - 1) hG (by omega) hs) (fun o1 h1 hC => jj_callSN (index := 250) (host := "SourceTree") ok_ST_signOf (List.mem_of_getElem? (i := 5) rfl) st_ST_signOf (by decide +kernel) rfl (by omega) (Nat.le_of_ble_eq_true rfl) hC) (by decide) rfl (fun q => by cases q) (fun v3 h _ hs => ?_)
      refine jj_iconst (n := 0) (v := 0) (by decide +kernel) (by decide) ?_
      refine sy_cv (s_CU_tell (d := d - 1) hG (by omega) hs) (fun o1 h1 hC => jj_callU ok_CU_tell ml_GR_64 sm_GR_CU_tell rfl im_CU_tell se_GR_CU_tell_u (by decide +kernel) (hs.rcGR hG.2) rfl (by omega) (Nat.le_of_ble_eq_true rfl) hC) rfl (fun _ _ _ q => ⟨rfl, rfl, _, q⟩) (fun h hs => ?_)
      refine jj_iinc (i := 3) (n := 1) (by decide +kernel) rfl rfl (by decide) rfl ?_
      refine jj_goto (off := (-27)) (tgt := 18) (by decide +kernel) (by decide) ?_
      exact jj_wk (js_s (js_s (js_s (js_s js_0)))) (ih _ _ _ _ hdec hs)
set_option maxRecDepth 100000 in
set_option maxHeartbeats 4000000 in
theorem b_GR_rowOfSigns_0 {l : Launch} {G : jj_G} {X : sy_X} {K o N d : Nat} {h : jj_H} (hG : sy_G G X) (hdd : 11 ≤ d) (hs : Sy G X K o N h) : jj_P l G y_GR_rowOfSigns d (sy_F 0 true G X K o N) 0 [some (.ref (X.2.2.1 12)), none, none, none] [] h := by
  refine jj_aload_n (j := 0) (by decide +kernel) rfl ?_
  obtain ⟨ki, va, pl, fa, fp, ne, hg⟩ := hs.gr hG.2
  refine jj_getfield 5 ck_GR fl_GR_247 (by decide) (by decide +kernel) hg rfl ?_
  refine jj_iconst (n := 1) (v := 1) (by decide +kernel) (by decide) ?_
  refine jj_iadd (by decide +kernel) ?_
  refine jj_istore_n (j := 1) (by decide +kernel) (by decide) rfl ?_
  refine jj_aload_n (j := 0) (by decide +kernel) rfl ?_
  obtain ⟨ki, va, pl, fa, fp, ne, hg⟩ := hs.gr hG.2
  refine jj_getfield 4 ck_GR fl_GR_162 (by decide) (by decide +kernel) hg rfl ?_
  refine jj_istore_n (j := 2) (by decide +kernel) (by decide) rfl ?_
  refine jj_aload_n (j := 0) (by decide +kernel) rfl ?_
  refine sy_cv (s_CU_take (d := d - 1) hG (by omega) hs) (fun o1 h1 hC => jj_callU ok_CU_take ml_GR_134 sm_GR_CU_take rfl im_CU_take se_GR_CU_take_u (by decide +kernel) (hs.rcGR hG.2) rfl (by omega) (Nat.le_of_ble_eq_true rfl) hC) rfl (fun _ _ _ q => ⟨rfl, rfl, _, q⟩) (fun h hs => ?_)
  refine jj_iconst (n := 0) (v := 0) (by decide +kernel) (by decide) ?_
  refine jj_istore_n (j := 3) (by decide +kernel) (by decide) rfl ?_
  exact jj_wk (js_s (js_s (js_s (js_s js_0)))) (b_GR_rowOfSigns_18 hG hdd _ _ _ _ _ (Nat.lt_succ_self _) hs)
theorem s_GR_rowOfSigns {l : Launch} {G : jj_G} {X : sy_X} {K o N d : Nat} {h : jj_H} (hG : sy_G G X) (hdd : 11 ≤ d) (hs : Sy G X K o N h) : jj_Q l G y_GR_rowOfSigns d [.ref (X.2.2.1 12)] h (sy_F 0 true G X K o N) :=
  jj_Q.of (by decide +kernel) (Nat.le_of_ble_eq_true rfl) (b_GR_rowOfSigns_0 hG hdd hs)
set_option maxRecDepth 100000 in
set_option maxHeartbeats 4000000 in
theorem b_GR_behindName_122 {l : Launch} {G : jj_G} {X : sy_X} {K o N d : Nat} {m : Nat} {x1 x2 : Int32} {h : jj_H} {x3 x4 : Int32} (hG : sy_G G X) (ho : o + m = 40) (hE : 0 < m → sy_Ex l G X N (m - 1)) (hdd : 12 + 10 * m ≤ d) (hm : 0 < m) (hs : Sy G X K (o + 1) N h) : jj_P l G y_GR_behindName d (sy_F 0 true G X K o N) 122 [some (.ref (X.2.2.1 12)), some (.int x1), some (.int x2), some (.int x3), some (.int x4), none] [] h := by
  refine jj_aload_n (j := 0) (by decide +kernel) rfl ?_
  refine jj_bipush (n := 41) (v := 41) (by decide +kernel) (by decide) ?_
  refine sy_cv (s_CU_expect (d := d - 1) hG (by omega) hs) (fun o1 h1 hC => jj_callU ok_CU_expect ml_GR_102 sm_GR_CU_expect rfl im_CU_expect se_GR_CU_expect_u (by decide +kernel) (hs.rcGR hG.2) rfl (by omega) (Nat.le_of_ble_eq_true rfl) hC) rfl (fun _ _ _ q => ⟨rfl, rfl, _, q⟩) (fun h hs => ?_)
  refine jj_aload_n (j := 0) (by decide +kernel) rfl ?_
  refine sy_cv (s_CU_leave (d := d - 1) hG.2 hs) (fun o1 h1 hC => jj_callU ok_CU_leave ml_GR_205 sm_GR_CU_leave rfl im_CU_leave se_GR_CU_leave_u (by decide +kernel) (hs.rcGR hG.2) rfl (by omega) (Nat.le_of_ble_eq_true rfl) hC) rfl (fun q => by cases q) (fun h hs => ?_)
  refine jj_aload_n (j := 0) (by decide +kernel) rfl ?_
  refine jj_iload_n (j := 3) (by decide +kernel) rfl ?_
  refine jj_iload_n (j := 1) (by decide +kernel) rfl ?_
  refine jj_iload (i := 4) (by decide +kernel) rfl ?_
  refine sy_cv (s_CU_tell (d := d - 1) hG (by omega) hs) (fun o1 h1 hC => jj_callU ok_CU_tell ml_GR_64 sm_GR_CU_tell rfl im_CU_tell se_GR_CU_tell_u (by decide +kernel) (hs.rcGR hG.2) rfl (by omega) (Nat.le_of_ble_eq_true rfl) hC) rfl (fun _ _ _ q => ⟨rfl, rfl, _, q⟩) (fun h hs => ?_)
  exact jj_vret (by decide +kernel) rfl ⟨rfl, hs⟩
set_option maxRecDepth 100000 in
set_option maxHeartbeats 4000000 in
theorem b_GR_behindName_92 {l : Launch} {G : jj_G} {X : sy_X} {K o N d : Nat} {m : Nat} {x1 x2 : Int32} (hG : sy_G G X) (ho : o + m = 40) (hE : 0 < m → sy_Ex l G X N (m - 1)) (hdd : 12 + 10 * m ≤ d) (hm : 0 < m) : ∀ (n : Nat) (x3 : Int32) (x4 : Int32) (x5 : Int32) (h : jj_H), (2147483647 - x5.toInt).toNat < n → Sy G X K (o + 1) N h → jj_P l G y_GR_behindName d (sy_F 0 true G X K o N) 92 [some (.ref (X.2.2.1 12)), some (.int x1), some (.int x2), some (.int x3), some (.int x4), some (.int x5)] [] h := by
  intro n
  induction n with
  | zero => intro x3 x4 x5 h hn; exact absurd hn (Nat.not_lt_zero _)
  | succ n ih =>
    intro x3 x4 x5 h hn hs
    refine jj_iload (i := 5) (by decide +kernel) rfl ?_
    refine jj_sipush (n := 16385) (v := 16385) (by decide +kernel) (by decide) ?_
    refine jj_icmp_ge (off := 25) (tgt := 122) (by decide +kernel) (by decide) (fun c1 => ?_) (fun c1 => ?_)
    · skip
      exact jj_wk (js_s (js_s (js_s (js_s (js_s (js_n js_0)))))) (b_GR_behindName_122 hG ho hE hdd hm hs)
    · skip
      have hdec := up_lt (Int32.not_le.mp c1) hn
      refine jj_aload_n (j := 0) (by decide +kernel) rfl ?_
      refine jj_bipush (n := 44) (v := 44) (by decide +kernel) (by decide) ?_
      refine sy_ci (s_CU_accept (d := d - 1) hG (by omega) hs) (fun o1 h1 hC => jj_callU ok_CU_accept ml_GR_80 sm_GR_CU_accept rfl im_CU_accept se_GR_CU_accept_u (by decide +kernel) (hs.rcGR hG.2) rfl (by omega) (Nat.le_of_ble_eq_true rfl) hC) (by decide) rfl (fun _ _ _ q => ⟨rfl, rfl, _, q⟩) (fun v2 h _ hs => ?_)
      refine jj_if_eq (off := 16) (tgt := 122) (by decide +kernel) (by decide) (fun c3 => ?_) (fun c3 => ?_)
      · skip
        exact jj_wk (js_s (js_s (js_s (js_s (js_s (js_n js_0)))))) (b_GR_behindName_122 hG ho hE hdd hm hs)
      · skip
        refine jj_aload_n (j := 0) (by decide +kernel) rfl ?_
        refine sy_cv (hE hm _ _ _ (d - 1) (by omega) hs (by omega)) (fun o1 h1 hC => jj_callV ok_GR_expression ml_GR_149 im_GR_expression se_GR_GR_expression (by decide +kernel) (hs.rcGR hG.2) rfl (by omega) (Nat.le_of_ble_eq_true rfl) hC) rfl (fun _ _ _ q => ⟨rfl, rfl, _, q⟩) (fun h hs => ?_)
        refine jj_iinc (i := 4) (n := 1) (by decide +kernel) rfl rfl (by decide) rfl ?_
        refine jj_iinc (i := 5) (n := 1) (by decide +kernel) rfl rfl (by decide) rfl ?_
        refine jj_goto (off := (-27)) (tgt := 92) (by decide +kernel) (by decide) ?_
        exact jj_wk (js_s (js_s (js_s (js_s (js_s (js_s js_0)))))) (ih _ _ _ _ hdec hs)
set_option maxRecDepth 100000 in
set_option maxHeartbeats 4000000 in
theorem b_GR_behindName_61 {l : Launch} {G : jj_G} {X : sy_X} {K o N d : Nat} {m : Nat} {x1 x2 : Int32} {h : jj_H} {y0 : Int32} (hG : sy_G G X) (ho : o + m = 40) (hE : 0 < m → sy_Ex l G X N (m - 1)) (hdd : 12 + 10 * m ≤ d) (hm : 0 < m) (hs : Sy G X K (o + 1) N h) : jj_P l G y_GR_behindName d (sy_F 0 true G X K o N) 61 [some (.ref (X.2.2.1 12)), some (.int x1), some (.int x2), none, none, none] [.int y0] h := by
  refine jj_istore_n (j := 3) (by decide +kernel) (by decide) rfl ?_
  refine jj_iconst (n := 1) (v := 1) (by decide +kernel) (by decide) ?_
  refine jj_istore (i := 4) (by decide +kernel) (by decide) rfl ?_
  refine jj_iload_n (j := 3) (by decide +kernel) rfl ?_
  refine jj_bipush (n := 22) (v := 22) (by decide +kernel) (by decide) ?_
  refine jj_icmp_eq (off := 17) (tgt := 85) (by decide +kernel) (by decide) (fun c1 => ?_) (fun c1 => ?_)
  · skip
    refine jj_iload_n (j := 2) (by decide +kernel) rfl ?_
    refine jj_if_eq (off := 36) (tgt := 122) (by decide +kernel) (by decide) (fun c2 => ?_) (fun c2 => ?_)
    · skip
      exact jj_wk (js_s (js_s (js_s (js_s (js_s (js_n js_0)))))) (b_GR_behindName_122 hG ho hE hdd hm hs)
    · skip
      refine jj_iconst (n := 0) (v := 0) (by decide +kernel) (by decide) ?_
      refine jj_istore (i := 5) (by decide +kernel) (by decide) rfl ?_
      exact jj_wk (js_s (js_s (js_s (js_s (js_s (js_s js_0)))))) (b_GR_behindName_92 hG ho hE hdd hm _ _ _ _ _ (Nat.lt_succ_self _) hs)
  · skip
    refine jj_aload_n (j := 0) (by decide +kernel) rfl ?_
    refine sy_cv (s_CU_take (d := d - 1) hG (by omega) hs) (fun o1 h1 hC => jj_callU ok_CU_take ml_GR_134 sm_GR_CU_take rfl im_CU_take se_GR_CU_take_u (by decide +kernel) (hs.rcGR hG.2) rfl (by omega) (Nat.le_of_ble_eq_true rfl) hC) rfl (fun _ _ _ q => ⟨rfl, rfl, _, q⟩) (fun h hs => ?_)
    refine jj_aload_n (j := 0) (by decide +kernel) rfl ?_
    refine sy_cv (hE hm _ _ _ (d - 1) (by omega) hs (by omega)) (fun o1 h1 hC => jj_callV ok_GR_expression ml_GR_149 im_GR_expression se_GR_GR_expression (by decide +kernel) (hs.rcGR hG.2) rfl (by omega) (Nat.le_of_ble_eq_true rfl) hC) rfl (fun _ _ _ q => ⟨rfl, rfl, _, q⟩) (fun h hs => ?_)
    refine jj_iconst (n := 2) (v := 2) (by decide +kernel) (by decide) ?_
    refine jj_istore (i := 4) (by decide +kernel) (by decide) rfl ?_
    refine jj_goto (off := 40) (tgt := 122) (by decide +kernel) (by decide) ?_
    exact jj_wk (js_s (js_s (js_s (js_s (js_s (js_n js_0)))))) (b_GR_behindName_122 hG ho hE hdd hm hs)
set_option maxRecDepth 100000 in
set_option maxHeartbeats 4000000 in
theorem b_GR_behindName_0 {l : Launch} {G : jj_G} {X : sy_X} {K o N d : Nat} {m : Nat} {x1 x2 : Int32} {h : jj_H} (hG : sy_G G X) (ho : o + m = 40) (hE : 0 < m → sy_Ex l G X N (m - 1)) (hdd : 12 + 10 * m ≤ d) (hs : Sy G X K o N h) : jj_P l G y_GR_behindName d (sy_F 0 true G X K o N) 0 [some (.ref (X.2.2.1 12)), some (.int x1), some (.int x2), none, none, none] [] h := by
  refine jj_aload_n (j := 0) (by decide +kernel) rfl ?_
  obtain ⟨ki, va, pl, fa, fp, ne, hg⟩ := hs.gr hG.2
  refine jj_getfield 3 ck_GR fl_GR_68 (by decide) (by decide +kernel) hg rfl ?_
  refine jj_bipush (n := 40) (v := 40) (by decide +kernel) (by decide) ?_
  refine jj_icmp_eq (off := 11) (tgt := 17) (by decide +kernel) (by decide) (fun c1 => ?_) (fun c1 => ?_)
  · skip
    refine jj_aload_n (j := 0) (by decide +kernel) rfl ?_
    refine sy_ce (s_CU_enter (d := d - 1) (m := m) hG.2 (by omega) hs (by omega)) (fun o1 h1 hC => jj_callU ok_CU_enter ml_GR_202 sm_GR_CU_enter rfl im_CU_enter se_GR_CU_enter_u (by decide +kernel) (hs.rcGR hG.2) rfl (by omega) (Nat.le_of_ble_eq_true rfl) hC) rfl (fun _ _ q => ⟨rfl, rfl, _, q⟩) (fun h hm hs => ?_)
    refine jj_aload_n (j := 0) (by decide +kernel) rfl ?_
    refine sy_cv (s_CU_take (d := d - 1) hG (by omega) hs) (fun o1 h1 hC => jj_callU ok_CU_take ml_GR_134 sm_GR_CU_take rfl im_CU_take se_GR_CU_take_u (by decide +kernel) (hs.rcGR hG.2) rfl (by omega) (Nat.le_of_ble_eq_true rfl) hC) rfl (fun _ _ _ q => ⟨rfl, rfl, _, q⟩) (fun h hs => ?_)
    refine jj_aload_n (j := 0) (by decide +kernel) rfl ?_
    refine sy_cv (hE hm _ _ _ (d - 1) (by omega) hs (by omega)) (fun o1 h1 hC => jj_callV ok_GR_expression ml_GR_149 im_GR_expression se_GR_GR_expression (by decide +kernel) (hs.rcGR hG.2) rfl (by omega) (Nat.le_of_ble_eq_true rfl) hC) rfl (fun _ _ _ q => ⟨rfl, rfl, _, q⟩) (fun h hs => ?_)
    refine jj_aload_n (j := 0) (by decide +kernel) rfl ?_
    obtain ⟨ki, va, pl, fa, fp, ne, hg⟩ := hs.gr hG.2
    refine jj_getfield 3 ck_GR fl_GR_68 (by decide) (by decide +kernel) hg rfl ?_
    refine jj_sipush (n := 302) (v := 302) (by decide +kernel) (by decide) ?_
    refine jj_icmp_ne (off := 8) (tgt := 44) (by decide +kernel) (by decide) (fun c2 => ?_) (fun c2 => ?_)
    · skip
      refine jj_aload_n (j := 0) (by decide +kernel) rfl ?_
      obtain ⟨ki, va, pl, fa, fp, ne, hg⟩ := hs.gr hG.2
      refine jj_getfield 3 ck_GR fl_GR_68 (by decide) (by decide +kernel) hg rfl ?_
      refine jj_sipush (n := 264) (v := 264) (by decide +kernel) (by decide) ?_
      refine jj_icmp_ne (off := 8) (tgt := 59) (by decide +kernel) (by decide) (fun c3 => ?_) (fun c3 => ?_)
      · skip
        refine jj_bipush (n := 22) (v := 22) (by decide +kernel) (by decide) ?_
        exact jj_wk (js_s (js_s (js_s (js_n (js_n (js_n js_0)))))) (b_GR_behindName_61 hG ho hE hdd hm hs)
      · skip
        refine jj_bipush (n := 24) (v := 24) (by decide +kernel) (by decide) ?_
        refine jj_goto (off := 5) (tgt := 61) (by decide +kernel) (by decide) ?_
        exact jj_wk (js_s (js_s (js_s (js_n (js_n (js_n js_0)))))) (b_GR_behindName_61 hG ho hE hdd hm hs)
    · skip
      refine jj_bipush (n := 23) (v := 23) (by decide +kernel) (by decide) ?_
      refine jj_goto (off := 20) (tgt := 61) (by decide +kernel) (by decide) ?_
      exact jj_wk (js_s (js_s (js_s (js_n (js_n (js_n js_0)))))) (b_GR_behindName_61 hG ho hE hdd hm hs)
  · skip
    refine jj_aload_n (j := 0) (by decide +kernel) rfl ?_
    refine jj_iconst (n := 1) (v := 1) (by decide +kernel) (by decide) ?_
    refine jj_iload_n (j := 1) (by decide +kernel) rfl ?_
    refine jj_iconst (n := 0) (v := 0) (by decide +kernel) (by decide) ?_
    refine sy_cv (s_CU_tell (d := d - 1) hG (by omega) hs) (fun o1 h1 hC => jj_callU ok_CU_tell ml_GR_64 sm_GR_CU_tell rfl im_CU_tell se_GR_CU_tell_u (by decide +kernel) (hs.rcGR hG.2) rfl (by omega) (Nat.le_of_ble_eq_true rfl) hC) rfl (fun _ _ _ q => ⟨rfl, rfl, _, q⟩) (fun h hs => ?_)
    exact jj_vret (by decide +kernel) rfl ⟨rfl, hs⟩
theorem s_GR_behindName {l : Launch} {G : jj_G} {X : sy_X} {K o N d : Nat} {m : Nat} {x1 x2 : Int32} {h : jj_H} (hG : sy_G G X) (ho : o + m = 40) (hE : 0 < m → sy_Ex l G X N (m - 1)) (hdd : 12 + 10 * m ≤ d) (hs : Sy G X K o N h) : jj_Q l G y_GR_behindName d [.ref (X.2.2.1 12), .int x1, .int x2] h (sy_F 0 true G X K o N) :=
  jj_Q.of (by decide +kernel) (Nat.le_of_ble_eq_true rfl) (b_GR_behindName_0 hG ho hE hdd hs)
set_option maxRecDepth 100000 in
set_option maxHeartbeats 4000000 in
theorem b_GR_primary_0 {l : Launch} {G : jj_G} {X : sy_X} {K o N d : Nat} {m : Nat} {h : jj_H} (hG : sy_G G X) (ho : o + m = 40) (hE : 0 < m → sy_Ex l G X N (m - 1)) (hdd : 13 + 10 * m ≤ d) (hs : Sy G X K o N h) : jj_P l G y_GR_primary d (sy_F 0 true G X K o N) 0 [some (.ref (X.2.2.1 12)), none] [] h := by
  refine jj_aload_n (j := 0) (by decide +kernel) rfl ?_
  obtain ⟨ki, va, pl, fa, fp, ne, hg⟩ := hs.gr hG.2
  refine jj_getfield 4 ck_GR fl_GR_162 (by decide) (by decide +kernel) hg rfl ?_
  refine jj_istore_n (j := 1) (by decide +kernel) (by decide) rfl ?_
  refine jj_aload_n (j := 0) (by decide +kernel) rfl ?_
  obtain ⟨ki, va, pl, fa, fp, ne, hg⟩ := hs.gr hG.2
  refine jj_getfield 3 ck_GR fl_GR_68 (by decide) (by decide +kernel) hg rfl ?_
  refine jj_lookupAny (dflt := 154) (ps := #[(40, 51), (140, 111), (141, 76), (142, 90), (143, 104)]) (len := 51) (ts := [60, 85, 99, 113, 120, 163]) (by decide +kernel) (by decide) (by decide +kernel) (jt_c ?_ (jt_c ?_ (jt_c ?_ (jt_c ?_ (jt_c ?_ (jt_c ?_ jt_0))))))
  · skip
    refine jj_aload_n (j := 0) (by decide +kernel) rfl ?_
    refine sy_ce (s_CU_enter (d := d - 1) (m := m) hG.2 (by omega) hs (by omega)) (fun o1 h1 hC => jj_callU ok_CU_enter ml_GR_202 sm_GR_CU_enter rfl im_CU_enter se_GR_CU_enter_u (by decide +kernel) (hs.rcGR hG.2) rfl (by omega) (Nat.le_of_ble_eq_true rfl) hC) rfl (fun _ _ q => ⟨rfl, rfl, _, q⟩) (fun h hm hs => ?_)
    refine jj_aload_n (j := 0) (by decide +kernel) rfl ?_
    refine sy_cv (s_CU_take (d := d - 1) hG (by omega) hs) (fun o1 h1 hC => jj_callU ok_CU_take ml_GR_134 sm_GR_CU_take rfl im_CU_take se_GR_CU_take_u (by decide +kernel) (hs.rcGR hG.2) rfl (by omega) (Nat.le_of_ble_eq_true rfl) hC) rfl (fun _ _ _ q => ⟨rfl, rfl, _, q⟩) (fun h hs => ?_)
    refine jj_aload_n (j := 0) (by decide +kernel) rfl ?_
    refine sy_cv (hE hm _ _ _ (d - 1) (by omega) hs (by omega)) (fun o1 h1 hC => jj_callV ok_GR_expression ml_GR_149 im_GR_expression se_GR_GR_expression (by decide +kernel) (hs.rcGR hG.2) rfl (by omega) (Nat.le_of_ble_eq_true rfl) hC) rfl (fun _ _ _ q => ⟨rfl, rfl, _, q⟩) (fun h hs => ?_)
    refine jj_aload_n (j := 0) (by decide +kernel) rfl ?_
    refine jj_bipush (n := 41) (v := 41) (by decide +kernel) (by decide) ?_
    refine sy_cv (s_CU_expect (d := d - 1) hG (by omega) hs) (fun o1 h1 hC => jj_callU ok_CU_expect ml_GR_102 sm_GR_CU_expect rfl im_CU_expect se_GR_CU_expect_u (by decide +kernel) (hs.rcGR hG.2) rfl (by omega) (Nat.le_of_ble_eq_true rfl) hC) rfl (fun _ _ _ q => ⟨rfl, rfl, _, q⟩) (fun h hs => ?_)
    refine jj_aload_n (j := 0) (by decide +kernel) rfl ?_
    refine sy_cv (s_CU_leave (d := d - 1) hG.2 hs) (fun o1 h1 hC => jj_callU ok_CU_leave ml_GR_205 sm_GR_CU_leave rfl im_CU_leave se_GR_CU_leave_u (by decide +kernel) (hs.rcGR hG.2) rfl (by omega) (Nat.le_of_ble_eq_true rfl) hC) rfl (fun q => by cases q) (fun h hs => ?_)
    refine jj_goto (off := 86) (tgt := 168) (by decide +kernel) (by decide) ?_
    exact jj_vret (by decide +kernel) rfl ⟨rfl, hs⟩
  · skip
    refine jj_aload_n (j := 0) (by decide +kernel) rfl ?_
    refine sy_cv (s_CU_take (d := d - 1) hG (by omega) hs) (fun o1 h1 hC => jj_callU ok_CU_take ml_GR_134 sm_GR_CU_take rfl im_CU_take se_GR_CU_take_u (by decide +kernel) (hs.rcGR hG.2) rfl (by omega) (Nat.le_of_ble_eq_true rfl) hC) rfl (fun _ _ _ q => ⟨rfl, rfl, _, q⟩) (fun h hs => ?_)
    refine jj_aload_n (j := 0) (by decide +kernel) rfl ?_
    refine jj_iconst (n := 2) (v := 2) (by decide +kernel) (by decide) ?_
    refine jj_iload_n (j := 1) (by decide +kernel) rfl ?_
    refine jj_iconst (n := 0) (v := 0) (by decide +kernel) (by decide) ?_
    refine sy_cv (s_CU_tell (d := d - 1) hG (by omega) hs) (fun o1 h1 hC => jj_callU ok_CU_tell ml_GR_64 sm_GR_CU_tell rfl im_CU_tell se_GR_CU_tell_u (by decide +kernel) (hs.rcGR hG.2) rfl (by omega) (Nat.le_of_ble_eq_true rfl) hC) rfl (fun _ _ _ q => ⟨rfl, rfl, _, q⟩) (fun h hs => ?_)
    refine jj_goto (off := 72) (tgt := 168) (by decide +kernel) (by decide) ?_
    exact jj_vret (by decide +kernel) rfl ⟨rfl, hs⟩
  · skip
    refine jj_aload_n (j := 0) (by decide +kernel) rfl ?_
    refine sy_cv (s_CU_take (d := d - 1) hG (by omega) hs) (fun o1 h1 hC => jj_callU ok_CU_take ml_GR_134 sm_GR_CU_take rfl im_CU_take se_GR_CU_take_u (by decide +kernel) (hs.rcGR hG.2) rfl (by omega) (Nat.le_of_ble_eq_true rfl) hC) rfl (fun _ _ _ q => ⟨rfl, rfl, _, q⟩) (fun h hs => ?_)
    refine jj_aload_n (j := 0) (by decide +kernel) rfl ?_
    refine jj_iconst (n := 3) (v := 3) (by decide +kernel) (by decide) ?_
    refine jj_iload_n (j := 1) (by decide +kernel) rfl ?_
    refine jj_iconst (n := 0) (v := 0) (by decide +kernel) (by decide) ?_
    refine sy_cv (s_CU_tell (d := d - 1) hG (by omega) hs) (fun o1 h1 hC => jj_callU ok_CU_tell ml_GR_64 sm_GR_CU_tell rfl im_CU_tell se_GR_CU_tell_u (by decide +kernel) (hs.rcGR hG.2) rfl (by omega) (Nat.le_of_ble_eq_true rfl) hC) rfl (fun _ _ _ q => ⟨rfl, rfl, _, q⟩) (fun h hs => ?_)
    refine jj_goto (off := 58) (tgt := 168) (by decide +kernel) (by decide) ?_
    exact jj_vret (by decide +kernel) rfl ⟨rfl, hs⟩
  · skip
    refine jj_aload_n (j := 0) (by decide +kernel) rfl ?_
    refine sy_cv (s_GR_rowOfSigns (d := d - 1) hG (by omega) hs) (fun o1 h1 hC => jj_callV ok_GR_rowOfSigns ml_GR_244 im_GR_rowOfSigns se_GR_GR_rowOfSigns (by decide +kernel) (hs.rcGR hG.2) rfl (by omega) (Nat.le_of_ble_eq_true rfl) hC) rfl (fun _ _ _ q => ⟨rfl, rfl, _, q⟩) (fun h hs => ?_)
    refine jj_goto (off := 51) (tgt := 168) (by decide +kernel) (by decide) ?_
    exact jj_vret (by decide +kernel) rfl ⟨rfl, hs⟩
  · skip
    refine jj_aload_n (j := 0) (by decide +kernel) rfl ?_
    refine sy_cv (s_CU_take (d := d - 1) hG (by omega) hs) (fun o1 h1 hC => jj_callU ok_CU_take ml_GR_134 sm_GR_CU_take rfl im_CU_take se_GR_CU_take_u (by decide +kernel) (hs.rcGR hG.2) rfl (by omega) (Nat.le_of_ble_eq_true rfl) hC) rfl (fun _ _ _ q => ⟨rfl, rfl, _, q⟩) (fun h hs => ?_)
    refine jj_aload_n (j := 0) (by decide +kernel) rfl ?_
    refine jj_bipush (n := 39) (v := 39) (by decide +kernel) (by decide) ?_
    refine sy_ci (s_CU_accept (d := d - 1) hG (by omega) hs) (fun o1 h1 hC => jj_callU ok_CU_accept ml_GR_80 sm_GR_CU_accept rfl im_CU_accept se_GR_CU_accept_u (by decide +kernel) (hs.rcGR hG.2) rfl (by omega) (Nat.le_of_ble_eq_true rfl) hC) (by decide) rfl (fun _ _ _ q => ⟨rfl, rfl, _, q⟩) (fun v1 h _ hs => ?_)
    refine jj_if_eq (off := 24) (tgt := 154) (by decide +kernel) (by decide) (fun c2 => ?_) (fun c2 => ?_)
    · skip
      refine jj_aload_n (j := 0) (by decide +kernel) rfl ?_
      refine jj_iload_n (j := 1) (by decide +kernel) rfl ?_
      refine jj_iconst (n := 1) (v := 1) (by decide +kernel) (by decide) ?_
      refine sy_cv (s_GR_behindName (d := d - 1) (m := m) hG (by omega) hE (by omega) hs) (fun o1 h1 hC => jj_callV ok_GR_behindName ml_GR_186 im_GR_behindName se_GR_GR_behindName (by decide +kernel) (hs.rcGR hG.2) rfl (by omega) (Nat.le_of_ble_eq_true rfl) hC) rfl (fun _ _ _ q => ⟨rfl, rfl, _, q⟩) (fun h hs => ?_)
      refine jj_goto (off := 8) (tgt := 168) (by decide +kernel) (by decide) ?_
      exact jj_vret (by decide +kernel) rfl ⟨rfl, hs⟩
    · skip
      refine jj_aload_n (j := 0) (by decide +kernel) rfl ?_
      refine jj_iconst (n := 1) (v := 1) (by decide +kernel) (by decide) ?_
      refine jj_aload_n (j := 0) (by decide +kernel) rfl ?_
      refine sy_ci (s_CU_takeName (d := d - 1) hG (by omega) hs) (fun o1 h1 hC => jj_callU ok_CU_takeName ml_GR_61 sm_GR_CU_takeName rfl im_CU_takeName se_GR_CU_takeName_u (by decide +kernel) (hs.rcGR hG.2) rfl (by omega) (Nat.le_of_ble_eq_true rfl) hC) (by decide) rfl (fun _ _ _ q => ⟨rfl, rfl, _, q⟩) (fun v3 h _ hs => ?_)
      refine jj_iconst (n := 0) (v := 0) (by decide +kernel) (by decide) ?_
      refine sy_cv (s_CU_tell (d := d - 1) hG (by omega) hs) (fun o1 h1 hC => jj_callU ok_CU_tell ml_GR_64 sm_GR_CU_tell rfl im_CU_tell se_GR_CU_tell_u (by decide +kernel) (hs.rcGR hG.2) rfl (by omega) (Nat.le_of_ble_eq_true rfl) hC) rfl (fun _ _ _ q => ⟨rfl, rfl, _, q⟩) (fun h hs => ?_)
      refine jj_aload_n (j := 0) (by decide +kernel) rfl ?_
      refine jj_bipush (n := 25) (v := 25) (by decide +kernel) (by decide) ?_
      refine jj_iload_n (j := 1) (by decide +kernel) rfl ?_
      refine jj_iconst (n := 1) (v := 1) (by decide +kernel) (by decide) ?_
      refine sy_cv (s_CU_tell (d := d - 1) hG (by omega) hs) (fun o1 h1 hC => jj_callU ok_CU_tell ml_GR_64 sm_GR_CU_tell rfl im_CU_tell se_GR_CU_tell_u (by decide +kernel) (hs.rcGR hG.2) rfl (by omega) (Nat.le_of_ble_eq_true rfl) hC) rfl (fun _ _ _ q => ⟨rfl, rfl, _, q⟩) (fun h hs => ?_)
      refine jj_goto (off := 17) (tgt := 168) (by decide +kernel) (by decide) ?_
      exact jj_vret (by decide +kernel) rfl ⟨rfl, hs⟩
  · skip
    refine jj_aload_n (j := 0) (by decide +kernel) rfl ?_
    refine jj_iconst (n := 3) (v := 3) (by decide +kernel) (by decide) ?_
    exact sy_cx (s_CU_raise (d := d - 1) hG.2 hs (by omega)) (fun o1 h1 hC => jj_callU ok_CU_raise ml_GR_93 sm_GR_CU_raise rfl im_CU_raise se_GR_CU_raise_u (by decide +kernel) (hs.rcGR hG.2) rfl (by omega) (Nat.le_of_ble_eq_true rfl) hC) rfl (fun _ _ q => ⟨rfl, rfl, _, q⟩)
theorem s_GR_primary {l : Launch} {G : jj_G} {X : sy_X} {K o N d : Nat} {m : Nat} {h : jj_H} (hG : sy_G G X) (ho : o + m = 40) (hE : 0 < m → sy_Ex l G X N (m - 1)) (hdd : 13 + 10 * m ≤ d) (hs : Sy G X K o N h) : jj_Q l G y_GR_primary d [.ref (X.2.2.1 12)] h (sy_F 0 true G X K o N) :=
  jj_Q.of (by decide +kernel) (Nat.le_of_ble_eq_true rfl) (b_GR_primary_0 hG ho hE hdd hs)
set_option maxRecDepth 100000 in
set_option maxHeartbeats 4000000 in
theorem b_GR_factor_0 {l : Launch} {G : jj_G} {X : sy_X} {K o N d : Nat} {m : Nat} {h : jj_H} (hG : sy_G G X) (ho : o + m = 40) (hE : 0 < m → sy_Ex l G X N (m - 1)) (hdd : 14 + 10 * m ≤ d) (hs : Sy G X K o N h) : jj_P l G y_GR_factor d (sy_F 0 true G X K o N) 0 [some (.ref (X.2.2.1 12))] [] h := by
  refine jj_aload_n (j := 0) (by decide +kernel) rfl ?_
  refine jj_sipush (n := 283) (v := 283) (by decide +kernel) (by decide) ?_
  refine sy_ci (s_CU_accept (d := d - 1) hG (by omega) hs) (fun o1 h1 hC => jj_callU ok_CU_accept ml_GR_80 sm_GR_CU_accept rfl im_CU_accept se_GR_CU_accept_u (by decide +kernel) (hs.rcGR hG.2) rfl (by omega) (Nat.le_of_ble_eq_true rfl) hC) (by decide) rfl (fun _ _ _ q => ⟨rfl, rfl, _, q⟩) (fun v1 h _ hs => ?_)
  refine jj_if_eq (off := 18) (tgt := 25) (by decide +kernel) (by decide) (fun c2 => ?_) (fun c2 => ?_)
  · skip
    refine jj_aload_n (j := 0) (by decide +kernel) rfl ?_
    refine jj_sipush (n := 256) (v := 256) (by decide +kernel) (by decide) ?_
    refine sy_ci (s_CU_accept (d := d - 1) hG (by omega) hs) (fun o1 h1 hC => jj_callU ok_CU_accept ml_GR_80 sm_GR_CU_accept rfl im_CU_accept se_GR_CU_accept_u (by decide +kernel) (hs.rcGR hG.2) rfl (by omega) (Nat.le_of_ble_eq_true rfl) hC) (by decide) rfl (fun _ _ _ q => ⟨rfl, rfl, _, q⟩) (fun v3 h _ hs => ?_)
    refine jj_if_eq (off := 18) (tgt := 50) (by decide +kernel) (by decide) (fun c4 => ?_) (fun c4 => ?_)
    · skip
      refine jj_aload_n (j := 0) (by decide +kernel) rfl ?_
      refine sy_cv (s_GR_primary (d := d - 1) (m := m) hG (by omega) hE (by omega) hs) (fun o1 h1 hC => jj_callV ok_GR_primary ml_GR_196 im_GR_primary se_GR_GR_primary (by decide +kernel) (hs.rcGR hG.2) rfl (by omega) (Nat.le_of_ble_eq_true rfl) hC) rfl (fun _ _ _ q => ⟨rfl, rfl, _, q⟩) (fun h hs => ?_)
      exact jj_vret (by decide +kernel) rfl ⟨rfl, hs⟩
    · skip
      refine jj_aload_n (j := 0) (by decide +kernel) rfl ?_
      refine sy_cv (s_GR_primary (d := d - 1) (m := m) hG (by omega) hE (by omega) hs) (fun o1 h1 hC => jj_callV ok_GR_primary ml_GR_196 im_GR_primary se_GR_GR_primary (by decide +kernel) (hs.rcGR hG.2) rfl (by omega) (Nat.le_of_ble_eq_true rfl) hC) rfl (fun _ _ _ q => ⟨rfl, rfl, _, q⟩) (fun h hs => ?_)
      refine jj_aload_n (j := 0) (by decide +kernel) rfl ?_
      refine jj_bipush (n := 20) (v := 20) (by decide +kernel) (by decide) ?_
      refine jj_iconst (n := 3) (v := 3) (by decide +kernel) (by decide) ?_
      refine jj_iconst (n := 1) (v := 1) (by decide +kernel) (by decide) ?_
      refine sy_cv (s_CU_tell (d := d - 1) hG (by omega) hs) (fun o1 h1 hC => jj_callU ok_CU_tell ml_GR_64 sm_GR_CU_tell rfl im_CU_tell se_GR_CU_tell_u (by decide +kernel) (hs.rcGR hG.2) rfl (by omega) (Nat.le_of_ble_eq_true rfl) hC) rfl (fun _ _ _ q => ⟨rfl, rfl, _, q⟩) (fun h hs => ?_)
      refine jj_goto (off := 7) (tgt := 54) (by decide +kernel) (by decide) ?_
      exact jj_vret (by decide +kernel) rfl ⟨rfl, hs⟩
  · skip
    refine jj_aload_n (j := 0) (by decide +kernel) rfl ?_
    refine sy_cv (s_GR_primary (d := d - 1) (m := m) hG (by omega) hE (by omega) hs) (fun o1 h1 hC => jj_callV ok_GR_primary ml_GR_196 im_GR_primary se_GR_GR_primary (by decide +kernel) (hs.rcGR hG.2) rfl (by omega) (Nat.le_of_ble_eq_true rfl) hC) rfl (fun _ _ _ q => ⟨rfl, rfl, _, q⟩) (fun h hs => ?_)
    refine jj_aload_n (j := 0) (by decide +kernel) rfl ?_
    refine jj_bipush (n := 20) (v := 20) (by decide +kernel) (by decide) ?_
    refine jj_iconst (n := 0) (v := 0) (by decide +kernel) (by decide) ?_
    refine jj_iconst (n := 1) (v := 1) (by decide +kernel) (by decide) ?_
    refine sy_cv (s_CU_tell (d := d - 1) hG (by omega) hs) (fun o1 h1 hC => jj_callU ok_CU_tell ml_GR_64 sm_GR_CU_tell rfl im_CU_tell se_GR_CU_tell_u (by decide +kernel) (hs.rcGR hG.2) rfl (by omega) (Nat.le_of_ble_eq_true rfl) hC) rfl (fun _ _ _ q => ⟨rfl, rfl, _, q⟩) (fun h hs => ?_)
    refine jj_goto (off := 32) (tgt := 54) (by decide +kernel) (by decide) ?_
    exact jj_vret (by decide +kernel) rfl ⟨rfl, hs⟩
theorem s_GR_factor {l : Launch} {G : jj_G} {X : sy_X} {K o N d : Nat} {m : Nat} {h : jj_H} (hG : sy_G G X) (ho : o + m = 40) (hE : 0 < m → sy_Ex l G X N (m - 1)) (hdd : 14 + 10 * m ≤ d) (hs : Sy G X K o N h) : jj_Q l G y_GR_factor d [.ref (X.2.2.1 12)] h (sy_F 0 true G X K o N) :=
  jj_Q.of (by decide +kernel) (Nat.le_of_ble_eq_true rfl) (b_GR_factor_0 hG ho hE hdd hs)
set_option maxRecDepth 100000 in
set_option maxHeartbeats 4000000 in
theorem b_GR_expression_27 {l : Launch} {G : jj_G} {X : sy_X} {K o N d : Nat} {m : Nat} {h : jj_H} {x1 x2 x3 : Int32} (hG : sy_G G X) (ho : o + m = 40) (hE : 0 < m → sy_Ex l G X N (m - 1)) (hdd : 15 + 10 * m ≤ d) (hx1 : 0 ≤ x1) {n : Nat} (ih : ∀ (x1 : Int32) (x2 : Int32) (x3 : Int32) (h : jj_H), (2147483647 - x3.toInt).toNat < n → 0 ≤ x1 → Sy G X K o N h → jj_P l G y_GR_expression d (sy_F 0 true G X K o N) 12 [some (.ref (X.2.2.1 12)), some (.int x1), some (.int x2), some (.int x3), none, none] [] h) (hdec : (2147483647 - (x3 + Int32.ofInt 1).toInt).toNat < n) (hs : Sy G X K o N h) : jj_P l G y_GR_expression d (sy_F 0 true G X K o N) 27 [some (.ref (X.2.2.1 12)), some (.int x1), some (.int x2), some (.int x3), none, none] [] h := by
  refine jj_aload_n (j := 0) (by decide +kernel) rfl ?_
  refine sy_cv (s_GR_factor (d := d - 1) (m := m) hG (by omega) hE (by omega) hs) (fun o1 h1 hC => jj_callV ok_GR_factor ml_GR_232 im_GR_factor se_GR_GR_factor (by decide +kernel) (hs.rcGR hG.2) rfl (by omega) (Nat.le_of_ble_eq_true rfl) hC) rfl (fun _ _ _ q => ⟨rfl, rfl, _, q⟩) (fun h hs => ?_)
  refine jj_aload_n (j := 0) (by decide +kernel) rfl ?_
  refine jj_iload_n (j := 1) (by decide +kernel) rfl ?_
  refine sy_ci (s_GR_operatorThatJoins (d := d - 1) hG (by omega) hs) (fun o1 h1 hC => jj_callV ok_GR_operatorThatJoins ml_GR_235 im_GR_operatorThatJoins se_GR_GR_operatorThatJoins (by decide +kernel) (hs.rcGR hG.2) rfl (by omega) (Nat.le_of_ble_eq_true rfl) hC) (by decide) rfl (fun q => by cases q) (fun v1 h _ hs => ?_)
  refine jj_istore (i := 4) (by decide +kernel) (by decide) rfl ?_
  refine jj_iload (i := 4) (by decide +kernel) rfl ?_
  refine sy_ci (s_GR_levelOf (d := d - 1) hG (by omega) hs) (fun o1 h1 hC => jj_callS ok_GR_levelOf ml_GR_238 st_GR_levelOf (by decide +kernel) rfl (by omega) (Nat.le_of_ble_eq_true rfl) hC) (by decide) rfl (fun q => by cases q) (fun v2 h _ hs => ?_)
  refine jj_istore (i := 5) (by decide +kernel) (by decide) rfl ?_
  refine jj_aload_n (j := 0) (by decide +kernel) rfl ?_
  refine jj_iload_n (j := 1) (by decide +kernel) rfl ?_
  refine jj_iload (i := 5) (by decide +kernel) rfl ?_
  refine sy_cv (s_GR_tellPending (d := d - 1) hG hx1 (by omega) hs) (fun o1 h1 hC => jj_callV ok_GR_tellPending ml_GR_241 im_GR_tellPending se_GR_GR_tellPending (by decide +kernel) (hs.rcGR hG.2) rfl (by omega) (Nat.le_of_ble_eq_true rfl) hC) rfl (fun _ _ _ q => ⟨rfl, rfl, _, q⟩) (fun h hs => ?_)
  refine jj_iload (i := 4) (by decide +kernel) rfl ?_
  refine jj_iconst (n := (-1)) (v := (-1)) (by decide +kernel) (by decide) ?_
  refine jj_icmp_ne (off := 4) (tgt := 59) (by decide +kernel) (by decide) (fun c3 => ?_) (fun c3 => ?_)
  · skip
    refine jj_aload_n (j := 0) (by decide +kernel) rfl ?_
    obtain ⟨ki, va, pl, fa, fp, ne, hg⟩ := hs.gr hG.2
    refine jj_getfield 2 ck_GR fl_GR_23 (by decide) (by decide +kernel) hg rfl ?_
    refine jj_iload (i := 4) (by decide +kernel) rfl ?_
    refine sy_cv (s_row_add (d := d - 1) (t := 6) hG.1 hs (by decide) (sy_o hG.2) (by decide) (by omega)) (fun o1 h1 hC => jj_callV ok_IR_add ml_GR_137 im_IR_add se_IR_IR_add (by decide +kernel) (hs.rcR (t := 6) (by decide) (sy_o hG.2)) rfl (by omega) (Nat.le_of_ble_eq_true rfl) hC) rfl (fun q => by cases q) (fun h hs => ?_)
    refine jj_aload_n (j := 0) (by decide +kernel) rfl ?_
    refine sy_cv (s_CU_take (d := d - 1) hG (by omega) hs) (fun o1 h1 hC => jj_callU ok_CU_take ml_GR_134 sm_GR_CU_take rfl im_CU_take se_GR_CU_take_u (by decide +kernel) (hs.rcGR hG.2) rfl (by omega) (Nat.le_of_ble_eq_true rfl) hC) rfl (fun _ _ _ q => ⟨rfl, rfl, _, q⟩) (fun h hs => ?_)
    refine jj_iload (i := 5) (by decide +kernel) rfl ?_
    refine jj_iconst (n := 4) (v := 4) (by decide +kernel) (by decide) ?_
    refine jj_icmp_ge (off := 7) (tgt := 82) (by decide +kernel) (by decide) (fun c4 => ?_) (fun c4 => ?_)
    · skip
      refine jj_iconst (n := 0) (v := 0) (by decide +kernel) (by decide) ?_
      refine jj_istore_n (j := 2) (by decide +kernel) (by decide) rfl ?_
      refine jj_iinc (i := 3) (n := 1) (by decide +kernel) rfl rfl (by decide) rfl ?_
      refine jj_goto (off := (-75)) (tgt := 12) (by decide +kernel) (by decide) ?_
      exact jj_wk (js_s (js_s (js_s (js_s (js_n (js_n js_0)))))) (ih _ _ _ _ hdec hx1 hs)
    · skip
      refine jj_iconst (n := 1) (v := 1) (by decide +kernel) (by decide) ?_
      refine jj_goto (off := 4) (tgt := 83) (by decide +kernel) (by decide) ?_
      refine jj_istore_n (j := 2) (by decide +kernel) (by decide) rfl ?_
      refine jj_iinc (i := 3) (n := 1) (by decide +kernel) rfl rfl (by decide) rfl ?_
      refine jj_goto (off := (-75)) (tgt := 12) (by decide +kernel) (by decide) ?_
      exact jj_wk (js_s (js_s (js_s (js_s (js_n (js_n js_0)))))) (ih _ _ _ _ hdec hx1 hs)
  · skip
    exact jj_vret (by decide +kernel) rfl ⟨rfl, hs⟩
set_option maxRecDepth 100000 in
set_option maxHeartbeats 4000000 in
theorem b_GR_expression_12 {l : Launch} {G : jj_G} {X : sy_X} {K o N d : Nat} {m : Nat} (hG : sy_G G X) (ho : o + m = 40) (hE : 0 < m → sy_Ex l G X N (m - 1)) (hdd : 15 + 10 * m ≤ d) : ∀ (n : Nat) (x1 : Int32) (x2 : Int32) (x3 : Int32) (h : jj_H), (2147483647 - x3.toInt).toNat < n → 0 ≤ x1 → Sy G X K o N h → jj_P l G y_GR_expression d (sy_F 0 true G X K o N) 12 [some (.ref (X.2.2.1 12)), some (.int x1), some (.int x2), some (.int x3), none, none] [] h := by
  intro n
  induction n with
  | zero => intro x1 x2 x3 h hn; exact absurd hn (Nat.not_lt_zero _)
  | succ n ih =>
    intro x1 x2 x3 h hn hx1 hs
    refine jj_iload_n (j := 3) (by decide +kernel) rfl ?_
    refine jj_sipush (n := 16385) (v := 16385) (by decide +kernel) (by decide) ?_
    refine jj_icmp_ge (off := 74) (tgt := 90) (by decide +kernel) (by decide) (fun c1 => ?_) (fun c1 => ?_)
    · skip
      exact jj_vret (by decide +kernel) rfl ⟨rfl, hs⟩
    · skip
      have hdec := up_lt (Int32.not_le.mp c1) hn
      refine jj_iload_n (j := 2) (by decide +kernel) rfl ?_
      refine jj_if_eq (off := 7) (tgt := 27) (by decide +kernel) (by decide) (fun c2 => ?_) (fun c2 => ?_)
      · skip
        exact jj_wk (js_s (js_s (js_s (js_s (js_n (js_n js_0)))))) (b_GR_expression_27 hG ho hE hdd hx1 ih hdec hs)
      · skip
        refine jj_aload_n (j := 0) (by decide +kernel) rfl ?_
        refine sy_cv (s_GR_signInFront (d := d - 1) hG (by omega) hs) (fun o1 h1 hC => jj_callV ok_GR_signInFront ml_GR_229 im_GR_signInFront se_GR_GR_signInFront (by decide +kernel) (hs.rcGR hG.2) rfl (by omega) (Nat.le_of_ble_eq_true rfl) hC) rfl (fun _ _ _ q => ⟨rfl, rfl, _, q⟩) (fun h hs => ?_)
        exact jj_wk (js_s (js_s (js_s (js_s (js_n (js_n js_0)))))) (b_GR_expression_27 hG ho hE hdd hx1 ih hdec hs)
set_option maxRecDepth 100000 in
set_option maxHeartbeats 4000000 in
theorem b_GR_expression_0 {l : Launch} {G : jj_G} {X : sy_X} {K o N d : Nat} {m : Nat} {h : jj_H} (hG : sy_G G X) (ho : o + m = 40) (hE : 0 < m → sy_Ex l G X N (m - 1)) (hdd : 15 + 10 * m ≤ d) (hs : Sy G X K o N h) : jj_P l G y_GR_expression d (sy_F 0 true G X K o N) 0 [some (.ref (X.2.2.1 12)), none, none, none, none, none] [] h := by
  refine jj_aload_n (j := 0) (by decide +kernel) rfl ?_
  obtain ⟨ki, va, pl, fa, fp, ne, hg⟩ := hs.gr hG.2
  refine jj_getfield 2 ck_GR fl_GR_23 (by decide) (by decide +kernel) hg rfl ?_
  refine sy_ci (s_row_size (d := d - 1) (t := 6) hs (by decide) (sy_o hG.2)) (fun o1 h1 hC => jj_callV ok_IR_size ml_GR_143 im_IR_size se_IR_IR_size (by decide +kernel) (hs.rcR (t := 6) (by decide) (sy_o hG.2)) rfl (by omega) (Nat.le_of_ble_eq_true rfl) hC) (by decide) rfl (fun q => by cases q) (fun v1 h hv1 hs => ?_)
  refine jj_istore_n (j := 1) (by decide +kernel) (by decide) rfl ?_
  refine jj_iconst (n := 1) (v := 1) (by decide +kernel) (by decide) ?_
  refine jj_istore_n (j := 2) (by decide +kernel) (by decide) rfl ?_
  refine jj_iconst (n := 0) (v := 0) (by decide +kernel) (by decide) ?_
  refine jj_istore_n (j := 3) (by decide +kernel) (by decide) rfl ?_
  exact jj_wk (js_s (js_s (js_s (js_s (js_n (js_n js_0)))))) (b_GR_expression_12 hG ho hE hdd _ _ _ _ _ (Nat.lt_succ_self _) (hv1 rfl) hs)
theorem s_GR_expression {l : Launch} {G : jj_G} {X : sy_X} {K o N d : Nat} {m : Nat} {h : jj_H} (hG : sy_G G X) (ho : o + m = 40) (hE : 0 < m → sy_Ex l G X N (m - 1)) (hdd : 15 + 10 * m ≤ d) (hs : Sy G X K o N h) : jj_Q l G y_GR_expression d [.ref (X.2.2.1 12)] h (sy_F 0 true G X K o N) :=
  jj_Q.of (by decide +kernel) (Nat.le_of_ble_eq_true rfl) (b_GR_expression_0 hG ho hE hdd hs)
theorem expr_all {l : Launch} {G : jj_G} {X : sy_X} {N : Nat} (hG : sy_G G X) : ∀ m, sy_Ex l G X N m := by
  intro m
  induction m with
  | zero => exact fun K o h d ho hs hdd => s_GR_expression hG ho (fun q => absurd q (by decide)) hdd hs
  | succ m ih => exact fun K o h d ho hs hdd => s_GR_expression hG ho (fun _ => ih) hdd hs
