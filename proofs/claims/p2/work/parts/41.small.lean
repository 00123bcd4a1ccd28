/-! the reference's small methods -/
set_option maxRecDepth 100000 in
set_option maxHeartbeats 4000000 in
theorem m_kind {l : Launch} {G : jj_G} {C : mo_C} {u o g d : Nat} {h : jj_H} (hG : jj_tyG G) (hk : mo_k C) (hm : Pm G C u o g h) : jj_Q l G y_MO_kind d [.ref (C.2.1 0)] h (mo_I G C o g (fun v u' => u' = u ∧ mo_kd C u v)) := by
  refine jj_Q.of (by decide +kernel) (Nat.le_of_ble_eq_true rfl) ?_
  obtain ⟨wr, nw, ow, hb, hu⟩ := id hm
  obtain ⟨th, wh, S, b0, hS, hg, ⟨a1, a5, a6, a7, a9, a10⟩, nd, fr, hz⟩ := id hb
  have hT := hk.2.2.2.1
  refine jj_aload_n (j := 0) (by decide +kernel) rfl ?_
  refine jj_getfield 3 ck_MO fl_MO_120 (by decide) (by decide +kernel) b0 rfl ?_
  refine jj_if_le (off := 9) (tgt := 13) (by decide +kernel) (by decide) (fun c1 => ?_) (fun c1 => ?_)
  · rcases hu with ⟨-, q⟩ | ⟨hu0, huT, rfl, rfl, rfl, ho, hb5⟩
    · exact absurd q (Int32.not_lt.mpr c1)
    · refine jj_aload_n (j := 0) (by decide +kernel) rfl ?_
      refine jj_getfield 5 ck_MO fl_MO_17 (by decide) (by decide +kernel) b0 rfl ?_
      refine jj_aload_n (j := 0) (by decide +kernel) rfl ?_
      refine jj_getfield 16 ck_MO fl_MO_123 (by decide) (by decide +kernel) b0 rfl ?_
      refine jj_iaload (jj_tI hG) (by decide +kernel) a5 (vp_in_nI (show C.2.2.2.1 - u < 16386 by omega) (by decide)) ?_
      rw [nI_clamp (show _ < 2 ^ 31 by omega)]
      exact jj_iret .int (by decide +kernel) rfl rfl ⟨_, u, rfl, ⟨rfl, Or.inr ⟨hu0, rfl, hb5⟩⟩, hm⟩
  · rcases hu with ⟨hu0, -⟩ | ⟨-, -, rfl, -⟩
    · refine jj_sipush (n := 2005) (v := 2005) (by decide +kernel) (by decide) ?_
      refine jj_goto (off := 12) (tgt := 22) (by decide +kernel) (by decide) ?_
      exact jj_iret .int (by decide +kernel) rfl rfl ⟨_, u, rfl, ⟨rfl, Or.inl ⟨hu0, rfl⟩⟩, hm⟩
    · exact absurd (by decide) c1
set_option maxRecDepth 100000 in
set_option maxHeartbeats 4000000 in
theorem m_stop_raw {l : Launch} {G : jj_G} {C : mo_C} {o g d p : Nat} {ow x : Int32} {h : jj_H} (hG : jj_tyG G) (hk : mo_k C) (hb : Pb G C 0 (nI p) ow g h) (hp : p < C.2.2.2.1) (hx : 0 < x ∨ C.2.2.2.2.2 5 p = 2005) : jj_Q l G y_MO_stop d [.ref (C.2.1 0), .int x] h (mo_V G C o g (fun u' => u' = 0)) := by
  refine jj_Q.of (by decide +kernel) (Nat.le_of_ble_eq_true rfl) ?_
  obtain ⟨th, wh, S, b0, hS, hg, ⟨a1, a5, a6, a7, a9, a10⟩, nd, fr, hz⟩ := id hb
  have hT := hk.2.2.2.1
  have hpos := hk.2.2.2.2.2.1 p hp
  refine jj_aload_n (j := 0) (by decide +kernel) rfl ?_
  refine jj_getfield 3 ck_MO fl_MO_120 (by decide) (by decide +kernel) b0 rfl ?_
  refine jj_if_le (off := 4) (tgt := 8) (by decide +kernel) (by decide) (fun c1 => ?_) (fun c1 => ?_)
  · refine jj_aload_n (j := 0) (by decide +kernel) rfl ?_
    refine jj_aload_n (j := 0) (by decide +kernel) rfl ?_
    refine jj_getfield 5 ck_MO fl_MO_17 (by decide) (by decide +kernel) b0 rfl ?_
    refine jj_aload_n (j := 0) (by decide +kernel) rfl ?_
    refine jj_getfield 16 ck_MO fl_MO_123 (by decide) (by decide +kernel) b0 rfl ?_
    refine jj_iaload (jj_tI hG) (by decide +kernel) a5 (vp_in_nI (show p < 16386 by omega) (by decide)) ?_
    rw [nI_clamp (show _ < 2 ^ 31 by omega)]
    refine jj_sipush (n := 2005) (v := 2005) (by decide +kernel) (by decide) ?_
    refine jj_icmp_ne (off := 15) (tgt := 36) (by decide +kernel) (by decide) (fun c2 => ?_) (fun c2 => ?_)
    · refine jj_iload_n (j := 1) (by decide +kernel) rfl ?_
      refine jj_putfield 3 ck_MO fl_MO_120 (by decide) rfl (by decide +kernel) b0 rfl rfl (Nat.lt_of_sub_eq_succ rfl) ?_
      have hb2 := hb.put hk th x wh (nI p) ow hS hg
      obtain ⟨-, -, -, -, -, -, ⟨-, -, -, a7', -, -⟩, -⟩ := id hb2
      refine jj_aload_n (j := 0) (by decide +kernel) rfl ?_
      refine jj_aload_n (j := 0) (by decide +kernel) rfl ?_
      refine jj_getfield 7 ck_MO fl_MO_24 (by decide) (by decide +kernel) jj_up_self rfl ?_
      refine jj_aload_n (j := 0) (by decide +kernel) rfl ?_
      refine jj_getfield 16 ck_MO fl_MO_123 (by decide) (by decide +kernel) jj_up_self rfl ?_
      refine jj_iaload (jj_tI hG) (by decide +kernel) a7' (vp_in_nI (show p < 16386 by omega) (by decide)) ?_
      rw [nI_clamp (show _ < 2 ^ 31 by omega)]
      refine jj_putfield 4 ck_MO fl_MO_13 (by decide) rfl (by decide +kernel) jj_up_self rfl rfl (Nat.lt_of_sub_eq_succ rfl) ?_
      exact jj_vret (by decide +kernel) rfl ⟨rfl, 0, rfl, x, nI p, ow, hb2.put hk th x _ (nI p) ow hS hg, Or.inl ⟨rfl, hx.resolve_right c2⟩⟩
    · refine jj_aload_n (j := 0) (by decide +kernel) rfl ?_
      refine jj_getfield 6 ck_MO fl_MO_21 (by decide) (by decide +kernel) b0 rfl ?_
      refine jj_aload_n (j := 0) (by decide +kernel) rfl ?_
      refine jj_getfield 16 ck_MO fl_MO_123 (by decide) (by decide +kernel) b0 rfl ?_
      refine jj_iaload (jj_tI hG) (by decide +kernel) a6 (vp_in_nI (show p < 16386 by omega) (by decide)) ?_
      rw [nI_clamp (show _ < 2 ^ 31 by omega)]
      refine jj_goto (off := 4) (tgt := 37) (by decide +kernel) (by decide) ?_
      refine jj_putfield 3 ck_MO fl_MO_120 (by decide) rfl (by decide +kernel) b0 rfl rfl (Nat.lt_of_sub_eq_succ rfl) ?_
      have hb2 := hb.put hk th (C.2.2.2.2.2 6 p) wh (nI p) ow hS hg
      obtain ⟨-, -, -, -, -, -, ⟨-, -, -, a7', -, -⟩, -⟩ := id hb2
      refine jj_aload_n (j := 0) (by decide +kernel) rfl ?_
      refine jj_aload_n (j := 0) (by decide +kernel) rfl ?_
      refine jj_getfield 7 ck_MO fl_MO_24 (by decide) (by decide +kernel) jj_up_self rfl ?_
      refine jj_aload_n (j := 0) (by decide +kernel) rfl ?_
      refine jj_getfield 16 ck_MO fl_MO_123 (by decide) (by decide +kernel) jj_up_self rfl ?_
      refine jj_iaload (jj_tI hG) (by decide +kernel) a7' (vp_in_nI (show p < 16386 by omega) (by decide)) ?_
      rw [nI_clamp (show _ < 2 ^ 31 by omega)]
      refine jj_putfield 4 ck_MO fl_MO_13 (by decide) rfl (by decide +kernel) jj_up_self rfl rfl (Nat.lt_of_sub_eq_succ rfl) ?_
      exact jj_vret (by decide +kernel) rfl ⟨rfl, 0, rfl, _, nI p, ow, hb2.put hk th _ _ (nI p) ow hS hg, Or.inl ⟨rfl, hpos c2⟩⟩
  · exact absurd (by decide) c1
set_option maxRecDepth 100000 in
set_option maxHeartbeats 4000000 in
theorem m_stop {l : Launch} {G : jj_G} {C : mo_C} {u o g d : Nat} {h : jj_H} {x : Int32} (hG : jj_tyG G) (hk : mo_k C) (hx : 0 < x) (hm : Pm G C u o g h) : jj_Q l G y_MO_stop d [.ref (C.2.1 0), .int x] h (mo_V G C o g (fun u' => u' = 0)) := by
  obtain ⟨wr, nw, ow, hb, hu⟩ := id hm
  rcases hu with ⟨rfl, hw⟩ | ⟨hu0, huT, rfl, rfl, rfl, ho, hb5⟩
  · refine jj_Q.of (by decide +kernel) (Nat.le_of_ble_eq_true rfl) ?_
    obtain ⟨th, wh, S, b0, -⟩ := id hb
    refine jj_aload_n (j := 0) (by decide +kernel) rfl ?_
    refine jj_getfield 3 ck_MO fl_MO_120 (by decide) (by decide +kernel) b0 rfl ?_
    refine jj_if_le (off := 4) (tgt := 8) (by decide +kernel) (by decide) (fun c1 => ?_) (fun c1 => ?_)
    · exact absurd hw (Int32.not_lt.mpr c1)
    · exact jj_vret (by decide +kernel) rfl ⟨rfl, 0, rfl, hm⟩
  · exact m_stop_raw hG hk hb (by omega) (Or.inl hx)
set_option maxRecDepth 100000 in
set_option maxHeartbeats 4000000 in
theorem m_on {l : Launch} {G : jj_G} {C : mo_C} {u o g d : Nat} {h : jj_H} (hG : jj_tyG G) (hk : mo_k C) (hn : mo_nl C u) (hdd : 1 ≤ d) (hm : Pm G C u o g h) : jj_Q l G y_MO_on d [.ref (C.2.1 0)] h (mo_V G C o g (fun u' => u' ≤ u - 1)) := by
  refine jj_Q.of (by decide +kernel) (Nat.le_of_ble_eq_true rfl) ?_
  obtain ⟨wr, nw, ow, hb, hu⟩ := id hm
  obtain ⟨th, wh, S, b0, hS, hg, ⟨a1, a5, a6, a7, a9, a10⟩, nd, fr, hz⟩ := id hb
  have hT := hk.2.2.2.1
  refine jj_aload_n (j := 0) (by decide +kernel) rfl ?_
  refine jj_getfield 3 ck_MO fl_MO_120 (by decide) (by decide +kernel) b0 rfl ?_
  refine jj_if_le (off := 4) (tgt := 8) (by decide +kernel) (by decide) (fun c1 => ?_) (fun c1 => ?_)
  · rcases hu with ⟨-, q⟩ | ⟨hu0, huT, rfl, rfl, rfl, ho, hb5⟩
    · exact absurd q (Int32.not_lt.mpr c1)
    have hu1 : 1 < u := by
      rcases Nat.lt_or_ge 1 u with q | q
      · exact q
      · have e : u = 1 := by omega
        subst e
        rcases hn with q9 | q9
        · omega
        · rcases hk.2.2.2.2.1 with q8 | q8
          · exact absurd q8 q9
          · exact absurd q8 hb5
    have e1 : nI (C.2.2.2.1 - u) + 1 = nI (C.2.2.2.1 - (u - 1)) := by
      rw [nI_1]
      congr 1
      omega
    refine jj_aload_n (j := 0) (by decide +kernel) rfl ?_
    refine jj_dup (by decide +kernel) rfl ?_
    refine jj_getfield 16 ck_MO fl_MO_123 (by decide) (by decide +kernel) b0 rfl ?_
    refine jj_iconst (n := 1) (v := 1) (by decide +kernel) (by decide) ?_
    refine jj_iadd (by decide +kernel) ?_
    rw [e1]
    refine jj_putfield 16 ck_MO fl_MO_123 (by decide) rfl (by decide +kernel) b0 rfl rfl (Nat.lt_of_sub_eq_succ rfl) ?_
    have hb2 := hb.put hk th 0 wh (nI (C.2.2.2.1 - (u - 1))) (nI o) hS hg
    obtain ⟨-, -, -, -, -, -, ⟨-, a5', -, -, -, -⟩, -⟩ := id hb2
    refine jj_aload_n (j := 0) (by decide +kernel) rfl ?_
    refine jj_getfield 5 ck_MO fl_MO_17 (by decide) (by decide +kernel) jj_up_self rfl ?_
    refine jj_aload_n (j := 0) (by decide +kernel) rfl ?_
    refine jj_getfield 16 ck_MO fl_MO_123 (by decide) (by decide +kernel) jj_up_self rfl ?_
    refine jj_iaload (jj_tI hG) (by decide +kernel) a5' (vp_in_nI (show C.2.2.2.1 - (u - 1) < 16386 by omega) (by decide)) ?_
    rw [nI_clamp (show _ < 2 ^ 31 by omega)]
    refine jj_sipush (n := 2005) (v := 2005) (by decide +kernel) (by decide) ?_
    refine jj_icmp_ne (off := 8) (tgt := 38) (by decide +kernel) (by decide) (fun c2 => ?_) (fun c2 => ?_)
    · exact jj_vret (by decide +kernel) rfl ⟨rfl, u - 1, Nat.le_refl _, _, _, _, hb2, Or.inr ⟨by omega, by omega, rfl, rfl, rfl, ho, c2⟩⟩
    · refine jj_aload_n (j := 0) (by decide +kernel) rfl ?_
      refine jj_iconst (n := 0) (v := 0) (by decide +kernel) (by decide) ?_
      refine mo_cv (m_stop_raw (o := o) (d := d - 1) hG hk hb2 (by omega) (Or.inr c2)) (fun o1 h1 hC => jj_callV ok_MO_stop ml_MO_126 im_MO_stop se_MO_MO_stop (by decide +kernel) hb2.rcv rfl (by omega) (Nat.le_of_ble_eq_true rfl) hC) (fun u' h hu' hm => ?_)
      exact jj_vret (by decide +kernel) rfl ⟨rfl, u', by omega, hm⟩
  · rcases hu with ⟨rfl, -⟩ | ⟨-, -, rfl, -⟩
    · exact jj_vret (by decide +kernel) rfl ⟨rfl, 0, Nat.zero_le _, hm⟩
    · exact absurd (by decide) c1
