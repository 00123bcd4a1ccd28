set_option maxRecDepth 100000 in
set_option maxHeartbeats 4000000 in
theorem b_MO_groupNames_7 {l : Launch} {G : jj_G} {C : mo_C} {u0 o d : Nat} (hG : jj_tyG G) (hk : mo_k C) (hdd : 5 ≤ d) : ∀ (n : Nat) (x1 : Int32) (u g : Nat) (h : jj_H), ((x1 = 0 ∨ u + 1 < n) ∧ 0 < n) → u ≤ u0 → (x1 ≠ 0 → 2 * g + u ≤ C.2.2.2.1) → Pm G C u o g h → jj_P l G y_MO_groupNames d (mq_V G C o (fun u' => u' ≤ u0 - 1)) 7 [some (.ref (C.2.1 0)), some (.int x1)] [] h := by
  have hT := hk.2.2.2.1
  intro n
  induction n with
  | zero => intro x1 u g h hn0; exact absurd hn0.2 (Nat.lt_irrefl _)
  | succ n ih =>
    intro x1 u g h hn0 hle hg2 hm
    refine jj_iload_n (j := 1) (by decide +kernel) rfl ?_
    refine jj_if_eq (off := 36) (tgt := 44) (by decide +kernel) (by decide) (fun c1 => ?_) (fun c1 => ?_)
    · refine jj_aload_n (j := 0) (by decide +kernel) rfl ?_
      refine jj_bipush (n := 58) (v := 58) (by decide +kernel) (by decide) ?_
      refine mo_cv (m_sign (d := d - 1) hG hk (by decide) (by decide) (by omega) hm) (fun o1 h1 hC => jj_callV ok_MO_sign ml_MO_172 im_MO_sign se_MO_MO_sign (by decide +kernel) hm.rcv rfl (by omega) (Nat.le_of_ble_eq_true rfl) hC) (fun u1 h hp1 hm => ?_)
      exact jj_vret (by decide +kernel) rfl ⟨rfl, u1, by omega, g, hm⟩
    · have hn1 := hn0.1.resolve_left c1
      have hg3 := hg2 c1
      obtain ⟨wr, nw, ow, hb, hu⟩ := id hm
      obtain ⟨th, wh, S, b0, hS, hg, ⟨a1, a5, a6, a7, a9, a10⟩, nd, fr, hz⟩ := id hb
      refine jj_aload_n (j := 0) (by decide +kernel) rfl ?_
      refine jj_getfield 18 ck_MO fl_MO_42 (by decide) (by decide +kernel) b0 rfl ?_
      refine jj_aload_n (j := 0) (by decide +kernel) rfl ?_
      refine jj_getfield 19 ck_MO fl_MO_208 (by decide) (by decide +kernel) b0 rfl ?_
      refine jj_aload_n (j := 0) (by decide +kernel) rfl ?_
      refine mo_ci (m_aName (d := d - 1) hG hk (by omega) hm) (fun o1 h1 hC => jj_callV ok_MO_aName ml_MO_163 im_MO_aName se_MO_MO_aName (by decide +kernel) hm.rcv rfl (by omega) (Nat.le_of_ble_eq_true rfl) hC) (fun v1 u1 h hp1 hm => ?_)
      obtain ⟨wr, nw, ow, hb, hu⟩ := id hm
      obtain ⟨th, wh, S, b0, hS, hg, ⟨a1, a5, a6, a7, a9, a10⟩, nd, fr, hz⟩ := id hb
      obtain ⟨f18, e18⟩ := nd 18 (by decide)
      refine jj_iastore (jj_tI hG) (by decide +kernel) e18 (vp_in_nI (show g < 16384 by omega) (by decide)) ?_
      have hb2 := hb.nod hk (k := 18) (by decide) (upd f18 (nI g).toNatClampNeg v1)
      obtain ⟨th2, wh2, S2, b02, hS2, hg9, -⟩ := id hb2
      refine jj_aload_n (j := 0) (by decide +kernel) rfl ?_
      refine jj_dup (by decide +kernel) rfl ?_
      refine jj_getfield 19 ck_MO fl_MO_208 (by decide) (by decide +kernel) b02 rfl ?_
      refine jj_iconst (n := 1) (v := 1) (by decide +kernel) (by decide) ?_
      refine jj_iadd (by decide +kernel) ?_
      rw [nI_1]
      refine jj_putfield 19 ck_MO fl_MO_208 (by decide) rfl (by decide +kernel) b02 rfl rfl (Nat.lt_of_sub_eq_succ rfl) ?_
      have hm2 : Pm G C u1 o (g + 1) _ := ⟨wr, nw, ow, hb2.put hk th2 wr wh2 nw ow (g' := g + 1) hS2 (by omega), hu⟩
      refine jj_aload_n (j := 0) (by decide +kernel) rfl ?_
      refine jj_bipush (n := 44) (v := 44) (by decide +kernel) (by decide) ?_
      refine mo_ci (m_takesMark (d := d - 1) hG hk (by decide) (by decide) (by omega) hm2) (fun o1 h1 hC => jj_callV ok_MO_takesMark ml_MO_157 im_MO_takesMark se_MO_MO_takesMark (by decide +kernel) hm2.rcv rfl (by omega) (Nat.le_of_ble_eq_true rfl) hC) (fun v2 u2 h hp2 hm => ?_)
      refine jj_istore_n (j := 1) (by decide +kernel) (by decide) rfl ?_
      refine jj_goto (off := (-34)) (tgt := 7) (by decide +kernel) (by decide) ?_
      rcases hp2 with ⟨e2, e3⟩ | ⟨e2, e3, e4⟩
      · exact ih v2 u2 (g + 1) h ⟨Or.inl e2, by omega⟩ (by omega) (fun q => absurd e2 q) hm
      · exact ih v2 u2 (g + 1) h ⟨Or.inr (by omega), by omega⟩ (by omega) (fun _ => by omega) hm
set_option maxRecDepth 100000 in
set_option maxHeartbeats 4000000 in
theorem q_MO_groupNames {l : Launch} {G : jj_G} {C : mo_C} {u0 o d : Nat} {h : jj_H} (hG : jj_tyG G) (hk : mo_k C) (hdd : 5 ≤ d) (hq : Pq G C u0 o h) : jj_Q l G y_MO_groupNames d [.ref (C.2.1 0)] h (mq_V G C o (fun u' => u' ≤ u0 - 1)) := by
  refine jj_Q.of (by decide +kernel) (Nat.le_of_ble_eq_true rfl) ?_
  obtain ⟨g, hm⟩ := hq
  obtain ⟨wr, nw, ow, hb, hu⟩ := id hm
  obtain ⟨th, wh, S, b0, hS, hg, ⟨a1, a5, a6, a7, a9, a10⟩, nd, fr, hz⟩ := id hb
  refine jj_aload_n (j := 0) (by decide +kernel) rfl ?_
  refine jj_iconst (n := 0) (v := 0) (by decide +kernel) (by decide) ?_
  refine jj_putfield 19 ck_MO fl_MO_208 (by decide) rfl (by decide +kernel) b0 rfl rfl (Nat.lt_of_sub_eq_succ rfl) ?_
  have hm2 : Pm G C u0 o 0 _ := ⟨wr, nw, ow, hb.put hk th wr wh nw ow (g' := 0) hS (by omega), hu⟩
  have hT : u0 ≤ C.2.2.2.1 := by
    rcases hu with ⟨q, -⟩ | ⟨-, q, -⟩
    · omega
    · exact q
  refine jj_iconst (n := 1) (v := 1) (by decide +kernel) (by decide) ?_
  refine jj_istore_n (j := 1) (by decide +kernel) (by decide) rfl ?_
  exact b_MO_groupNames_7 hG hk hdd (u0 + 2) 1 u0 0 _ ⟨Or.inr (by omega), by omega⟩ (Nat.le_refl _) (fun _ => by omega) hm2
set_option maxRecDepth 100000 in
set_option maxHeartbeats 4000000 in
theorem b_MO_again_23 {l : Launch} {G : jj_G} {C : mo_C} {u0 o d z g : Nat} {x1 x3 x4 : Int32} (hG : jj_tyG G) (hk : mo_k C) (hz9 : z ≤ 16384) (hx4 : x4.toInt ≤ 16384 - (z : Int)) (hdd : 2 ≤ d) {k : Nat} (kk : ∀ (u : Nat) (h : jj_H), u ≤ u0 → Pm G C u o g h → jj_P l G y_MO_again d (mq_I G C o (fun _ u' => u' ≤ u0)) 72 [some (.ref (C.2.1 0)), some (.int x1), some (.int (nI z)), some (.int x3), some (.int x4), some (.int (nI k)), none] [] h) : ∀ (n j u : Nat) (h : jj_H), 16385 - j < n → j ≤ 16384 → u ≤ u0 → Pm G C u o g h → jj_P l G y_MO_again d (mq_I G C o (fun _ u' => u' ≤ u0)) 23 [some (.ref (C.2.1 0)), some (.int x1), some (.int (nI z)), some (.int x3), some (.int x4), some (.int (nI k)), some (.int (nI j))] [] h := by
  intro n
  induction n with
  | zero => intro j u h hn; exact absurd hn (Nat.not_lt_zero _)
  | succ n ih =>
    intro j u h hn hj hle hm
    have ex : jj_P l G y_MO_again d (mq_I G C o (fun _ u' => u' ≤ u0)) 72 [some (.ref (C.2.1 0)), some (.int x1), some (.int (nI z)), some (.int x3), some (.int x4), some (.int (nI k)), some (.int (nI j))] [] h := jj_wk (js_s (js_s (js_s (js_s (js_s (js_s (js_n js_0))))))) (kk u h hle hm)
    refine jj_iload (i := 6) (by decide +kernel) rfl ?_
    refine jj_iload (i := 4) (by decide +kernel) rfl ?_
    refine jj_icmp_ge (off := 45) (tgt := 72) (by decide +kernel) (by decide) (fun _ => ex) (fun c1 => ?_)
    have hlt : z + j < 16384 := by
      have h1 := Int32.lt_iff_toInt_lt.mp (Int32.not_le.mp c1)
      rw [nI_toInt (by omega)] at h1
      omega
    refine jj_iload (i := 5) (by decide +kernel) rfl ?_
    refine jj_if_le (off := 40) (tgt := 72) (by decide +kernel) (by decide) (fun _ => ex) (fun _ => ?_)
    obtain ⟨wr, nw, ow, hb, hu⟩ := id hm
    obtain ⟨th, wh, S, b0, hS, hg, ⟨a1, a5, a6, a7, a9, a10⟩, nd, fr, hz⟩ := id hb
    obtain ⟨f12, e12⟩ := nd 12 (by decide)
    obtain ⟨f13, e13⟩ := nd 13 (by decide)
    obtain ⟨f14, e14⟩ := nd 14 (by decide)
    refine jj_aload_n (j := 0) (by decide +kernel) rfl ?_
    refine jj_aload_n (j := 0) (by decide +kernel) rfl ?_
    refine jj_getfield 12 ck_MO fl_MO_33 (by decide) (by decide +kernel) b0 rfl ?_
    refine jj_iload_n (j := 2) (by decide +kernel) rfl ?_
    refine jj_iload (i := 6) (by decide +kernel) rfl ?_
    refine jj_iadd (by decide +kernel) ?_
    rw [nI_add]
    refine jj_iaload (jj_tI hG) (by decide +kernel) e12 (vp_in_nI (show z + j < 16384 by omega) (by decide)) ?_
    refine jj_aload_n (j := 0) (by decide +kernel) rfl ?_
    refine jj_getfield 13 ck_MO fl_MO_36 (by decide) (by decide +kernel) b0 rfl ?_
    refine jj_iload_n (j := 2) (by decide +kernel) rfl ?_
    refine jj_iload (i := 6) (by decide +kernel) rfl ?_
    refine jj_iadd (by decide +kernel) ?_
    rw [nI_add]
    refine jj_iaload (jj_tI hG) (by decide +kernel) e13 (vp_in_nI (show z + j < 16384 by omega) (by decide)) ?_
    refine jj_aload_n (j := 0) (by decide +kernel) rfl ?_
    refine jj_getfield 14 ck_MO fl_MO_39 (by decide) (by decide +kernel) b0 rfl ?_
    refine jj_iload_n (j := 2) (by decide +kernel) rfl ?_
    refine jj_iload (i := 6) (by decide +kernel) rfl ?_
    refine jj_iadd (by decide +kernel) ?_
    rw [nI_add]
    refine jj_iaload (jj_tI hG) (by decide +kernel) e14 (vp_in_nI (show z + j < 16384 by omega) (by decide)) ?_
    refine mo_cv (m_lay (d := d - 1) hG hk (by omega) hm) (fun o1 h1 hC => jj_callV ok_MO_lay ml_MO_166 im_MO_lay se_MO_MO_lay (by decide +kernel) hm.rcv rfl (by omega) (Nat.le_of_ble_eq_true rfl) hC) (fun u2 h hp2 hm => ?_)
    refine jj_iinc (i := 6) (n := 1) (v := nI (j + 1)) (by decide +kernel) rfl (by rw [show Int32.ofInt 1 = 1 from rfl]; exact nI_1 j) (by decide) rfl ?_
    refine jj_goto (off := (-46)) (tgt := 23) (by decide +kernel) (by decide) ?_
    exact ih (j + 1) u2 h (by omega) (by omega) (by omega) hm
set_option maxRecDepth 100000 in
set_option maxHeartbeats 4000000 in
theorem b_MO_again_11 {l : Launch} {G : jj_G} {C : mo_C} {u0 o d z g : Nat} {x1 x3 x4 : Int32} (hG : jj_tyG G) (hk : mo_k C) (hz9 : z ≤ 16384) (hx4 : x4.toInt ≤ 16384 - (z : Int)) (hdd : 2 ≤ d) : ∀ (n k u : Nat) (h : jj_H), 16385 - k < n → k ≤ 16384 → u ≤ u0 → Pm G C u o g h → jj_P l G y_MO_again d (mq_I G C o (fun _ u' => u' ≤ u0)) 11 [some (.ref (C.2.1 0)), some (.int x1), some (.int (nI z)), some (.int x3), some (.int x4), some (.int (nI k)), none] [] h := by
  intro n
  induction n with
  | zero => intro k u h hn; exact absurd hn (Nat.not_lt_zero _)
  | succ n ih =>
    intro k u h hn hk9 hle hm
    obtain ⟨wr, nw, ow, hb, hu⟩ := id hm
    obtain ⟨th, wh, S, b0, hS, hg, ⟨a1, a5, a6, a7, a9, a10⟩, nd, fr, hz⟩ := id hb
    refine jj_iload (i := 5) (by decide +kernel) rfl ?_
    refine jj_aload_n (j := 0) (by decide +kernel) rfl ?_
    refine jj_getfield 19 ck_MO fl_MO_208 (by decide) (by decide +kernel) b0 rfl ?_
    refine jj_icmp_ge (off := 74) (tgt := 91) (by decide +kernel) (by decide) (fun c1 => ?_) (fun c1 => ?_)
    · refine jj_aload_n (j := 0) (by decide +kernel) rfl ?_
      refine jj_getfield 19 ck_MO fl_MO_208 (by decide) (by decide +kernel) b0 rfl ?_
      exact jj_iret .int (by decide +kernel) rfl rfl ⟨_, u, rfl, hle, g, hm⟩
    · have hlt : k < g := Nat.not_le.mp (fun q => c1 (nI_le q (by omega)))
      refine jj_iconst (n := 0) (v := 0) (by decide +kernel) (by decide) ?_
      refine jj_istore (i := 6) (by decide +kernel) (by decide) rfl ?_
      refine jj_wk (js_s (js_s (js_s (js_s (js_s (js_s (js_s js_0))))))) (b_MO_again_23 hG hk hz9 hx4 hdd (fun u h hle hm => ?_) _ 0 u h (Nat.lt_succ_self _) (by omega) hle hm)
      obtain ⟨wr, nw, ow, hb, hu⟩ := id hm
      obtain ⟨th, wh, S, b0, hS, hg, ⟨a1, a5, a6, a7, a9, a10⟩, nd, fr, hz⟩ := id hb
      obtain ⟨f18, e18⟩ := nd 18 (by decide)
      refine jj_aload_n (j := 0) (by decide +kernel) rfl ?_
      refine jj_iload_n (j := 1) (by decide +kernel) rfl ?_
      refine jj_aload_n (j := 0) (by decide +kernel) rfl ?_
      refine jj_getfield 18 ck_MO fl_MO_42 (by decide) (by decide +kernel) b0 rfl ?_
      refine jj_iload (i := 5) (by decide +kernel) rfl ?_
      refine jj_iaload (jj_tI hG) (by decide +kernel) e18 (vp_in_nI (show k < 16384 by omega) (by decide)) ?_
      refine jj_iload_n (j := 3) (by decide +kernel) rfl ?_
      refine mo_cv (m_lay (d := d - 1) hG hk (by omega) hm) (fun o1 h1 hC => jj_callV ok_MO_lay ml_MO_166 im_MO_lay se_MO_MO_lay (by decide +kernel) hm.rcv rfl (by omega) (Nat.le_of_ble_eq_true rfl) hC) (fun u2 h hp2 hm => ?_)
      refine jj_iinc (i := 5) (n := 1) (v := nI (k + 1)) (by decide +kernel) rfl (by rw [show Int32.ofInt 1 = 1 from rfl]; exact nI_1 k) (by decide) rfl ?_
      refine jj_goto (off := (-77)) (tgt := 11) (by decide +kernel) (by decide) ?_
      exact ih (k + 1) u2 h (by omega) (by omega) (by omega) hm
set_option maxRecDepth 100000 in
set_option maxHeartbeats 4000000 in
theorem q_MO_again {l : Launch} {G : jj_G} {C : mo_C} {u0 o d : Nat} {h : jj_H} {x1 x2 x3 : Int32} (hG : jj_tyG G) (hk : mo_k C) (hfx2 : ∃ z : Nat, z ≤ 16384 ∧ x2 = nI z) (hdd : 2 ≤ d) (hq : Pq G C u0 o h) : jj_Q l G y_MO_again d [.ref (C.2.1 0), .int x1, .int x2, .int x3] h (mq_I G C o (fun _ u' => u' ≤ u0)) := by
  refine jj_Q.of (by decide +kernel) (Nat.le_of_ble_eq_true rfl) ?_
  obtain ⟨z, hz9, rfl⟩ := hfx2
  obtain ⟨g, hm⟩ := hq
  obtain ⟨wr, nw, ow, hb, hu⟩ := id hm
  obtain ⟨th, wh, S, b0, hS, hg, ⟨a1, a5, a6, a7, a9, a10⟩, nd, fr, hz⟩ := id hb
  refine jj_aload_n (j := 0) (by decide +kernel) rfl ?_
  refine jj_getfield 15 ck_MO fl_MO_160 (by decide) (by decide +kernel) b0 rfl ?_
  refine jj_iload_n (j := 2) (by decide +kernel) rfl ?_
  refine jj_isub (by decide +kernel) ?_
  refine jj_istore (i := 4) (by decide +kernel) (by decide) rfl ?_
  refine jj_iconst (n := 0) (v := 0) (by decide +kernel) (by decide) ?_
  refine jj_istore (i := 5) (by decide +kernel) (by decide) rfl ?_
  have hx4 : (nI S - nI z).toInt ≤ 16384 - (z : Int) := by
    rw [Int32.toInt_sub, nI_toInt (by omega), nI_toInt (by omega), Int.bmod_eq_of_le (by omega) (by omega)]
    omega
  exact jj_wk (js_s (js_s (js_s (js_s (js_s (js_s (js_n js_0))))))) (b_MO_again_11 hG hk hz9 hx4 hdd _ 0 u0 h (Nat.lt_succ_self _) (by omega) (Nat.le_refl _) hm)
