set_option maxRecDepth 100000 in
set_option maxHeartbeats 4000000 in
theorem b_MO_target_90 {l : Launch} {G : jj_G} {C : mo_C} {u0 o d : Nat} {m : Nat} {x1 : Int32} {u : Nat} {h : jj_H} {x2 y1 y2 y3 : Int32} (hG : jj_tyG G) (hk : mo_k C) (ho : u0 = 0 ∨ o + m = 41) (hdd : 12 + 20 * m ≤ d) (hle : u ≤ u0 - 1) (hq : Pq G C u o h) : jj_P l G y_MO_target d (mq_V G C o (fun u' => u' ≤ u0)) 90 [some (.ref (C.2.1 0)), some (.int x1), some (.int x2)] [.int y3, .int y2, .int y1, .ref (C.2.1 0)] h := by
  refine mq_cv (mq_v hq (fun g hm => m_lay (d := d - 1) hG hk (by omega) hm)) (fun o1 h1 hC => jj_callV ok_MO_lay ml_MO_166 im_MO_lay se_MO_MO_lay (by decide +kernel) hq.rcv rfl (by omega) (Nat.le_of_ble_eq_true rfl) hC) (fun u1 h hp1 hq => ?_)
  exact jj_vret (by decide +kernel) rfl ⟨rfl, u1, by omega, hq⟩
set_option maxRecDepth 100000 in
set_option maxHeartbeats 4000000 in
theorem b_MO_target_70 {l : Launch} {G : jj_G} {C : mo_C} {u0 o d : Nat} {m : Nat} {x1 : Int32} {u : Nat} {h : jj_H} {x2 : Int32} (hG : jj_tyG G) (hk : mo_k C) (ho : u0 = 0 ∨ o + m = 41) (hdd : 12 + 20 * m ≤ d) (hm1 : 0 < m) (hle : u ≤ u0 - 1) (hq : Pq G C u (o + 1) h) : jj_P l G y_MO_target d (mq_V G C o (fun u' => u' ≤ u0)) 70 [some (.ref (C.2.1 0)), some (.int x1), some (.int x2)] [] h := by
  refine jj_aload_n (j := 0) (by decide +kernel) rfl ?_
  refine jj_bipush (n := 41) (v := 41) (by decide +kernel) (by decide) ?_
  refine mq_cv (mq_v hq (fun g hm => m_closes (d := d - 1) (x := 41) hG hk (by decide) (by decide) (by omega) hm)) (fun o1 h1 hC => jj_callV ok_MO_closes ml_MO_312 im_MO_closes se_MO_MO_closes (by decide +kernel) hq.rcv rfl (by omega) (Nat.le_of_ble_eq_true rfl) hC) (fun u1 h hp1 hq => ?_)
  refine jj_aload_n (j := 0) (by decide +kernel) rfl ?_
  refine jj_iload_n (j := 2) (by decide +kernel) rfl ?_
  refine jj_iload_n (j := 1) (by decide +kernel) rfl ?_
  refine jj_iload_n (j := 2) (by decide +kernel) rfl ?_
  refine jj_bipush (n := 22) (v := 22) (by decide +kernel) (by decide) ?_
  refine jj_icmp_ne (off := 7) (tgt := 89) (by decide +kernel) (by decide) (fun c2 => ?_) (fun c2 => ?_)
  · skip
    refine jj_iconst (n := 2) (v := 2) (by decide +kernel) (by decide) ?_
    exact jj_wk (js_s (js_s (js_s js_0))) (b_MO_target_90 (o := o) hG hk ho hdd (by omega) hq)
  · skip
    refine jj_iconst (n := 1) (v := 1) (by decide +kernel) (by decide) ?_
    refine jj_goto (off := 4) (tgt := 90) (by decide +kernel) (by decide) ?_
    exact jj_wk (js_s (js_s (js_s js_0))) (b_MO_target_90 (o := o) hG hk ho hdd (by omega) hq)
set_option maxRecDepth 100000 in
set_option maxHeartbeats 4000000 in
theorem b_MO_target_55 {l : Launch} {G : jj_G} {C : mo_C} {u0 o d : Nat} {m : Nat} {x1 : Int32} {u : Nat} {h : jj_H} {y0 : Int32} (hG : jj_tyG G) (hk : mo_k C) (ho : u0 = 0 ∨ o + m = 41) (hdd : 12 + 20 * m ≤ d) (hm1 : 0 < m) (hle : u ≤ u0 - 1) (hfy0 : y0 ≠ 22 → 0 < u ∧ mo_nl C u) (hq : Pq G C u (o + 1) h) : jj_P l G y_MO_target d (mq_V G C o (fun u' => u' ≤ u0)) 55 [some (.ref (C.2.1 0)), some (.int x1), none] [.int y0] h := by
  refine jj_istore_n (j := 2) (by decide +kernel) (by decide) rfl ?_
  refine jj_iload_n (j := 2) (by decide +kernel) rfl ?_
  refine jj_bipush (n := 22) (v := 22) (by decide +kernel) (by decide) ?_
  refine jj_icmp_le (off := 11) (tgt := 70) (by decide +kernel) (by decide) (fun c1 => ?_) (fun c1 => ?_)
  · skip
    exact jj_wk (js_s (js_s (js_s js_0))) (b_MO_target_70 (o := o) hG hk ho hdd hm1 (by omega) hq)
  · skip
    have hz1 := hfy0 (fun e9 => c1 (by rw [e9]; decide))
    refine jj_aload_n (j := 0) (by decide +kernel) rfl ?_
    refine mq_cv (mq_v hq (fun g hm => m_on (d := d - 1) hG hk hz1.2 (by omega) hm)) (fun o1 h1 hC => jj_callV ok_MO_on ml_MO_141 im_MO_on se_MO_MO_on (by decide +kernel) hq.rcv rfl (by omega) (Nat.le_of_ble_eq_true rfl) hC) (fun u2 h hp2 hq => ?_)
    refine jj_aload_n (j := 0) (by decide +kernel) rfl ?_
    refine mq_cv (mexpr_all hG hk (m - 1) _ _ _ (d - 1) (by omega) hq (by omega)) (fun o1 h1 hC => jj_callV ok_MO_expression ml_MO_226 im_MO_expression se_MO_MO_expression (by decide +kernel) hq.rcv rfl (by omega) (Nat.le_of_ble_eq_true rfl) hC) (fun u3 h hp3 hq => ?_)
    exact jj_wk (js_s (js_s (js_s js_0))) (b_MO_target_70 (o := o) hG hk ho hdd hm1 (by omega) hq)
set_option maxRecDepth 100000 in
set_option maxHeartbeats 4000000 in
theorem b_MO_target_0 {l : Launch} {G : jj_G} {C : mo_C} {u0 o d : Nat} {m : Nat} {x1 : Int32} {u : Nat} {h : jj_H} (hG : jj_tyG G) (hk : mo_k C) (ho : u0 = 0 ∨ o + m = 41) (hdd : 12 + 20 * m ≤ d) (hle : u ≤ u0) (hq : Pq G C u o h) : jj_P l G y_MO_target d (mq_V G C o (fun u' => u' ≤ u0)) 0 [some (.ref (C.2.1 0)), some (.int x1), none] [] h := by
  refine jj_aload_n (j := 0) (by decide +kernel) rfl ?_
  refine jj_bipush (n := 40) (v := 40) (by decide +kernel) (by decide) ?_
  refine mq_ci (mq_i hq (fun g hm => m_isMark (d := d - 1) (x := 40) hG hk (by decide) (by decide) (by omega) hm) (fun _ _ q => q)) (fun o1 h1 hC => jj_callV ok_MO_isMark ml_MO_144 im_MO_isMark se_MO_MO_isMark (by decide +kernel) hq.rcv rfl (by omega) (Nat.le_of_ble_eq_true rfl) hC) (fun v1 u1 h hp1 hq => ?_)
  obtain ⟨e1, -, hf1⟩ := hp1
  rw [e1] at hq
  refine jj_if_ne (off := 11) (tgt := 17) (by decide +kernel) (by decide) (fun c2 => ?_) (fun c2 => ?_)
  · skip
    have hz2 := hf1 c2
    refine jj_aload_n (j := 0) (by decide +kernel) rfl ?_
    have hm1 : 0 < m := by have h40 := hq.le (by omega); omega
    refine mq_cv (mq_v hq (fun g hm => m_opens (d := d - 1) hG hk hz2.2 (by omega) hm)) (fun o1 h1 hC => jj_callV ok_MO_opens ml_MO_304 im_MO_opens se_MO_MO_opens (by decide +kernel) hq.rcv rfl (by omega) (Nat.le_of_ble_eq_true rfl) hC) (fun u3 h hp3 hq => ?_)
    obtain ⟨hp3, hq3⟩ := hp3
    refine jj_aload_n (j := 0) (by decide +kernel) rfl ?_
    refine mq_cv (mexpr_all hG hk (m - 1) _ _ _ (d - 1) (by omega) hq (by omega)) (fun o1 h1 hC => jj_callV ok_MO_expression ml_MO_226 im_MO_expression se_MO_MO_expression (by decide +kernel) hq.rcv rfl (by omega) (Nat.le_of_ble_eq_true rfl) hC) (fun u4 h hp4 hq => ?_)
    refine jj_aload_n (j := 0) (by decide +kernel) rfl ?_
    refine jj_ldcS (index := 235) (i := 24) (tx := "to") (by decide +kernel) (List.mem_of_getElem? (i := 25) rfl) ?_
    refine mq_ci (mq_i hq (fun g hm => m_isWord (d := d - 1) (i := 24) hG hk (by decide) (by omega) hm) (fun _ _ q => q)) (fun o1 h1 hC => jj_callV ok_MO_isWord ml_MO_137 im_MO_isWord se_MO_MO_isWord (by decide +kernel) hq.rcv rfl (by omega) (Nat.le_of_ble_eq_true rfl) hC) (fun v5 u5 h hp5 hq => ?_)
    obtain ⟨e5, -, hf5⟩ := hp5
    rw [e5] at hq
    refine jj_if_eq (off := 8) (tgt := 39) (by decide +kernel) (by decide) (fun c6 => ?_) (fun c6 => ?_)
    · skip
      refine jj_aload_n (j := 0) (by decide +kernel) rfl ?_
      refine jj_ldcS (index := 237) (i := 25) (tx := "downto") (by decide +kernel) (List.mem_of_getElem? (i := 26) rfl) ?_
      refine mq_ci (mq_i hq (fun g hm => m_isWord (d := d - 1) (i := 25) hG hk (by decide) (by omega) hm) (fun _ _ q => q)) (fun o1 h1 hC => jj_callV ok_MO_isWord ml_MO_137 im_MO_isWord se_MO_MO_isWord (by decide +kernel) hq.rcv rfl (by omega) (Nat.le_of_ble_eq_true rfl) hC) (fun v7 u7 h hp7 hq => ?_)
      obtain ⟨e7, -, hf7⟩ := hp7
      rw [e7] at hq
      refine jj_if_eq (off := 8) (tgt := 53) (by decide +kernel) (by decide) (fun c8 => ?_) (fun c8 => ?_)
      · skip
        refine jj_bipush (n := 22) (v := 22) (by decide +kernel) (by decide) ?_
        exact jj_wk (js_s (js_s (js_n js_0))) (b_MO_target_55 (o := o) hG hk ho hdd hm1 (by omega) (fun q => absurd rfl q) hq)
      · skip
        have hz8 := hf7 c8
        refine jj_bipush (n := 24) (v := 24) (by decide +kernel) (by decide) ?_
        refine jj_goto (off := 5) (tgt := 55) (by decide +kernel) (by decide) ?_
        exact jj_wk (js_s (js_s (js_n js_0))) (b_MO_target_55 (o := o) hG hk ho hdd hm1 (by omega) (fun _ => ⟨by omega, hz8.2⟩) hq)
    · skip
      have hz6 := hf5 c6
      refine jj_bipush (n := 23) (v := 23) (by decide +kernel) (by decide) ?_
      refine jj_goto (off := 19) (tgt := 55) (by decide +kernel) (by decide) ?_
      exact jj_wk (js_s (js_s (js_n js_0))) (b_MO_target_55 (o := o) hG hk ho hdd hm1 (by omega) (fun _ => ⟨by omega, hz6.2⟩) hq)
  · skip
    refine jj_aload_n (j := 0) (by decide +kernel) rfl ?_
    refine jj_iconst (n := 1) (v := 1) (by decide +kernel) (by decide) ?_
    refine jj_iload_n (j := 1) (by decide +kernel) rfl ?_
    refine jj_iconst (n := 0) (v := 0) (by decide +kernel) (by decide) ?_
    refine mq_cv (mq_v hq (fun g hm => m_lay (d := d - 1) hG hk (by omega) hm)) (fun o1 h1 hC => jj_callV ok_MO_lay ml_MO_166 im_MO_lay se_MO_MO_lay (by decide +kernel) hq.rcv rfl (by omega) (Nat.le_of_ble_eq_true rfl) hC) (fun u9 h hp9 hq => ?_)
    exact jj_vret (by decide +kernel) rfl ⟨rfl, u9, by omega, hq⟩
theorem q_MO_target {l : Launch} {G : jj_G} {C : mo_C} {u0 o d : Nat} {m : Nat} {x1 : Int32} {h : jj_H} (hG : jj_tyG G) (hk : mo_k C) (ho : u0 = 0 ∨ o + m = 41) (hdd : 12 + 20 * m ≤ d) (hq : Pq G C u0 o h) : jj_Q l G y_MO_target d [.ref (C.2.1 0), .int x1] h (mq_V G C o (fun u' => u' ≤ u0)) :=
  jj_Q.of (by decide +kernel) (Nat.le_of_ble_eq_true rfl) (b_MO_target_0 (o := o) hG hk ho hdd (Nat.le_refl _) hq)
set_option maxRecDepth 100000 in
set_option maxHeartbeats 4000000 in
theorem b_MO_time_59 {l : Launch} {G : jj_G} {C : mo_C} {u0 o d : Nat} {m : Nat} {u : Nat} {h : jj_H} {x1 : Int32} (hG : jj_tyG G) (hk : mo_k C) (ho : u0 = 0 ∨ o + m = 41) (hdd : 13 + 20 * m ≤ d) (hle : u ≤ u0 - 1) (hq : Pq G C u o h) : jj_P l G y_MO_time d (mq_V G C o (fun u' => u' ≤ u0 - 1)) 59 [some (.ref (C.2.1 0)), some (.int x1)] [] h := by
  refine jj_aload_n (j := 0) (by decide +kernel) rfl ?_
  refine jj_bipush (n := 32) (v := 32) (by decide +kernel) (by decide) ?_
  refine jj_iload_n (j := 1) (by decide +kernel) rfl ?_
  refine jj_iconst (n := 1) (v := 1) (by decide +kernel) (by decide) ?_
  refine mq_cv (mq_v hq (fun g hm => m_lay (d := d - 1) hG hk (by omega) hm)) (fun o1 h1 hC => jj_callV ok_MO_lay ml_MO_166 im_MO_lay se_MO_MO_lay (by decide +kernel) hq.rcv rfl (by omega) (Nat.le_of_ble_eq_true rfl) hC) (fun u1 h hp1 hq => ?_)
  exact jj_vret (by decide +kernel) rfl ⟨rfl, u1, by omega, hq⟩
set_option maxRecDepth 100000 in
set_option maxHeartbeats 4000000 in
theorem b_MO_time_54 {l : Launch} {G : jj_G} {C : mo_C} {u0 o d : Nat} {m : Nat} {u : Nat} {h : jj_H} {x1 : Int32} (hG : jj_tyG G) (hk : mo_k C) (ho : u0 = 0 ∨ o + m = 41) (hdd : 13 + 20 * m ≤ d) (hle : u ≤ u0 - 1) (hfx1 : 0 < u → x1 = C.2.2.2.2.2 6 (C.2.2.2.1 - u)) (hq : Pq G C u o h) : jj_P l G y_MO_time d (mq_V G C o (fun u' => u' ≤ u0 - 1)) 54 [some (.ref (C.2.1 0)), some (.int x1)] [] h := by
  refine jj_aload_n (j := 0) (by decide +kernel) rfl ?_
  refine jj_iconst (n := 3) (v := 3) (by decide +kernel) (by decide) ?_
  refine mq_cv (mq_v hq (fun g hm => m_stop (d := d - 1) (x := 3) hG hk (by decide) hm)) (fun o1 h1 hC => jj_callV ok_MO_stop ml_MO_126 im_MO_stop se_MO_MO_stop (by decide +kernel) hq.rcv rfl (by omega) (Nat.le_of_ble_eq_true rfl) hC) (fun u1 h hp1 hq => ?_)
  exact jj_wk (js_s (js_s js_0)) (b_MO_time_59 (o := o) hG hk ho hdd (by omega) hq)
set_option maxRecDepth 100000 in
set_option maxHeartbeats 4000000 in
theorem b_MO_time_24 {l : Launch} {G : jj_G} {C : mo_C} {u0 o d : Nat} {m : Nat} {u : Nat} {h : jj_H} {y0 : Int32} (hG : jj_tyG G) (hk : mo_k C) (ho : u0 = 0 ∨ o + m = 41) (hdd : 13 + 20 * m ≤ d) (hle : u ≤ u0 - 1) (hfy0 : 0 < u → y0 = C.2.2.2.2.2 6 (C.2.2.2.1 - u)) (hq : Pq G C u o h) : jj_P l G y_MO_time d (mq_V G C o (fun u' => u' ≤ u0 - 1)) 24 [some (.ref (C.2.1 0)), none] [.int y0] h := by
  refine jj_istore_n (j := 1) (by decide +kernel) (by decide) rfl ?_
  refine jj_aload_n (j := 0) (by decide +kernel) rfl ?_
  refine mq_ci (mq_i hq (fun g hm => m_kind (d := d - 1) hG hk hm) (fun _ _ q => q)) (fun o1 h1 hC => jj_callV ok_MO_kind ml_MO_130 im_MO_kind se_MO_MO_kind (by decide +kernel) hq.rcv rfl (by omega) (Nat.le_of_ble_eq_true rfl) hC) (fun v1 u1 h hp1 hq => ?_)
  obtain ⟨e1, hf1⟩ := hp1
  rw [e1] at hq
  refine jj_sipush (n := 2000) (v := 2000) (by decide +kernel) (by decide) ?_
  refine jj_icmp_ne (off := 22) (tgt := 54) (by decide +kernel) (by decide) (fun c2 => ?_) (fun c2 => ?_)
  · skip
    exact jj_wk (js_s (js_s js_0)) (b_MO_time_54 (o := o) hG hk ho hdd (by omega) hfy0 hq)
  · skip
    have hz2 := mo_kd.pos hf1 (by rw [c2]; decide)
    refine jj_iload_n (j := 1) (by decide +kernel) rfl ?_
    refine jj_bipush (n := 11) (v := 11) (by decide +kernel) (by decide) ?_
    refine jj_icmp_le (off := 16) (tgt := 54) (by decide +kernel) (by decide) (fun c3 => ?_) (fun c3 => ?_)
    · skip
      exact jj_wk (js_s (js_s js_0)) (b_MO_time_54 (o := o) hG hk ho hdd (by omega) hfy0 hq)
    · skip
      refine jj_iload_n (j := 1) (by decide +kernel) rfl ?_
      refine jj_bipush (n := 15) (v := 15) (by decide +kernel) (by decide) ?_
      refine jj_icmp_ge (off := 10) (tgt := 54) (by decide +kernel) (by decide) (fun c4 => ?_) (fun c4 => ?_)
      · skip
        exact jj_wk (js_s (js_s js_0)) (b_MO_time_54 (o := o) hG hk ho hdd (by omega) hfy0 hq)
      · skip
        refine jj_aload_n (j := 0) (by decide +kernel) rfl ?_
        refine mq_cv (mq_v hq (fun g hm => m_on (d := d - 1) hG hk (mo_nl.of hf1 (by rw [c2]; decide)) (by omega) hm)) (fun o1 h1 hC => jj_callV ok_MO_on ml_MO_141 im_MO_on se_MO_MO_on (by decide +kernel) hq.rcv rfl (by omega) (Nat.le_of_ble_eq_true rfl) hC) (fun u5 h hp5 hq => ?_)
        refine jj_goto (off := 8) (tgt := 59) (by decide +kernel) (by decide) ?_
        exact jj_wk (js_s (js_s js_0)) (b_MO_time_59 (o := o) hG hk ho hdd (by omega) hq)
set_option maxRecDepth 100000 in
set_option maxHeartbeats 4000000 in
theorem b_MO_time_0 {l : Launch} {G : jj_G} {C : mo_C} {u0 o d : Nat} {m : Nat} {u : Nat} {h : jj_H} (hG : jj_tyG G) (hk : mo_k C) (ho : u0 = 0 ∨ o + m = 41) (hdd : 13 + 20 * m ≤ d) (hle : u ≤ u0) (hq : Pq G C u o h) : jj_P l G y_MO_time d (mq_V G C o (fun u' => u' ≤ u0 - 1)) 0 [some (.ref (C.2.1 0)), none] [] h := by
  refine jj_aload_n (j := 0) (by decide +kernel) rfl ?_
  refine mq_cv (q_MO_primary (d := d - 1) (m := m) hG hk (by omega) (fun _ => mexpr_all hG hk _) (by omega) hq) (fun o1 h1 hC => jj_callV ok_MO_primary ml_MO_324 im_MO_primary se_MO_MO_primary (by decide +kernel) hq.rcv rfl (by omega) (Nat.le_of_ble_eq_true rfl) hC) (fun u1 h hp1 hq => ?_)
  refine jj_aload_n (j := 0) (by decide +kernel) rfl ?_
  obtain ⟨g, wr, nw, ow, hb, hu⟩ := id hq
  obtain ⟨th, wh, S, b0, hS, hg, ⟨a1, a5, a6, a7, a9, a10⟩, nd, fr, hz⟩ := id hb
  refine jj_getfield 3 ck_MO fl_MO_120 (by decide) (by decide +kernel) b0 rfl ?_
  refine jj_if_le (off := 7) (tgt := 15) (by decide +kernel) (by decide) (fun c2 => ?_) (fun c2 => ?_)
  · skip
    rcases hu with ⟨-, q9⟩ | ⟨hu0, huT, rfl, rfl, rfl, ho9, hb5⟩
    · exact absurd q9 (Int32.not_lt.mpr c2)
    refine jj_aload_n (j := 0) (by decide +kernel) rfl ?_
    refine jj_getfield 6 ck_MO fl_MO_21 (by decide) (by decide +kernel) b0 rfl ?_
    refine jj_aload_n (j := 0) (by decide +kernel) rfl ?_
    refine jj_getfield 16 ck_MO fl_MO_123 (by decide) (by decide +kernel) b0 rfl ?_
    have hT := hk.2.2.2.1
    refine jj_iaload (jj_tI hG) (by decide +kernel) a6 (vp_in_nI (show C.2.2.2.1 - u1 < 16386 by omega) (by decide)) ?_
    rw [nI_clamp (show C.2.2.2.1 - u1 < 2 ^ 31 by omega)]
    exact jj_wk (js_s (js_n js_0)) (b_MO_time_24 (o := o) hG hk ho hdd (by omega) (fun _ => rfl) hq)
  · skip
    have hu0 : u1 = 0 := by
      rcases hu with ⟨q9, -⟩ | ⟨-, -, q9, -⟩
      · exact q9
      · exact absurd (show wr ≤ 0 by rw [q9]; decide) c2
    refine jj_iconst (n := 0) (v := 0) (by decide +kernel) (by decide) ?_
    refine jj_goto (off := 12) (tgt := 24) (by decide +kernel) (by decide) ?_
    exact jj_wk (js_s (js_n js_0)) (b_MO_time_24 (o := o) hG hk ho hdd (by omega) (fun q => absurd q (by omega)) hq)
theorem q_MO_time {l : Launch} {G : jj_G} {C : mo_C} {u0 o d : Nat} {m : Nat} {h : jj_H} (hG : jj_tyG G) (hk : mo_k C) (ho : u0 = 0 ∨ o + m = 41) (hdd : 13 + 20 * m ≤ d) (hq : Pq G C u0 o h) : jj_Q l G y_MO_time d [.ref (C.2.1 0)] h (mq_V G C o (fun u' => u' ≤ u0 - 1)) :=
  jj_Q.of (by decide +kernel) (Nat.le_of_ble_eq_true rfl) (b_MO_time_0 (o := o) hG hk ho hdd (Nat.le_refl _) hq)
set_option maxRecDepth 100000 in
set_option maxHeartbeats 4000000 in
theorem b_MO_mode_0 {l : Launch} {G : jj_G} {C : mo_C} {u0 o d : Nat} {m : Nat} {u : Nat} {h : jj_H} (hG : jj_tyG G) (hk : mo_k C) (ho : u0 = 0 ∨ o + m = 41) (hdd : 14 + 20 * m ≤ d) (hle : u ≤ u0) (hq : Pq G C u o h) : jj_P l G y_MO_mode d (mq_I G C o (fun _ u' => u' ≤ u0)) 0 [some (.ref (C.2.1 0)), none] [] h := by
  refine jj_aload_n (j := 0) (by decide +kernel) rfl ?_
  refine jj_ldcW (index := 315) (i := 47) (tx := "transport") (by decide +kernel) (List.mem_of_getElem? (i := 48) rfl) ?_
  refine mq_ci (mq_k hq (fun g hm => m_takes (d := d - 1) (i := 47) hG hk (by decide) (by omega) hm)) (fun o1 h1 hC => jj_callV ok_MO_takes ml_MO_150 im_MO_takes se_MO_MO_takes (by decide +kernel) hq.rcv rfl (by omega) (Nat.le_of_ble_eq_true rfl) hC) (fun v1 u1 h hp1 hq => ?_)
  obtain ⟨hp1, hf1⟩ := hp1
  refine jj_if_eq (off := 5) (tgt := 12) (by decide +kernel) (by decide) (fun c2 => ?_) (fun c2 => ?_)
  · skip
    refine jj_aload_n (j := 0) (by decide +kernel) rfl ?_
    refine jj_ldcW (index := 317) (i := 48) (tx := "reject") (by decide +kernel) (List.mem_of_getElem? (i := 49) rfl) ?_
    refine mq_ci (mq_k hq (fun g hm => m_takes (d := d - 1) (i := 48) hG hk (by decide) (by omega) hm)) (fun o1 h1 hC => jj_callV ok_MO_takes ml_MO_150 im_MO_takes se_MO_MO_takes (by decide +kernel) hq.rcv rfl (by omega) (Nat.le_of_ble_eq_true rfl) hC) (fun v3 u3 h hp3 hq => ?_)
    obtain ⟨hp3, hf3⟩ := hp3
    refine jj_if_eq (off := 16) (tgt := 35) (by decide +kernel) (by decide) (fun c4 => ?_) (fun c4 => ?_)
    · skip
      refine jj_aload_n (j := 0) (by decide +kernel) rfl ?_
      refine jj_ldcW (index := 322) (i := 49) (tx := "inertial") (by decide +kernel) (List.mem_of_getElem? (i := 50) rfl) ?_
      refine mq_ci (mq_k hq (fun g hm => m_takes (d := d - 1) (i := 49) hG hk (by decide) (by omega) hm)) (fun o1 h1 hC => jj_callV ok_MO_takes ml_MO_150 im_MO_takes se_MO_MO_takes (by decide +kernel) hq.rcv rfl (by omega) (Nat.le_of_ble_eq_true rfl) hC) (fun v5 u5 h hp5 hq => ?_)
      obtain ⟨hp5, hf5⟩ := hp5
      refine jj_istore_n (j := 1) (by decide +kernel) (by decide) rfl ?_
      refine jj_iconst (n := 0) (v := 0) (by decide +kernel) (by decide) ?_
      exact jj_iret .int (by decide +kernel) rfl rfl ⟨_, u5, rfl, by omega, hq⟩
    · skip
      have hz4 := hf3 c4
      refine jj_aload_n (j := 0) (by decide +kernel) rfl ?_
      refine mq_cv (q_MO_time (d := d - 1) (m := m) hG hk (by omega) (by omega) hq) (fun o1 h1 hC => jj_callV ok_MO_time ml_MO_319 im_MO_time se_MO_MO_time (by decide +kernel) hq.rcv rfl (by omega) (Nat.le_of_ble_eq_true rfl) hC) (fun u6 h hp6 hq => ?_)
      refine jj_aload_n (j := 0) (by decide +kernel) rfl ?_
      refine jj_ldcW (index := 322) (i := 49) (tx := "inertial") (by decide +kernel) (List.mem_of_getElem? (i := 50) rfl) ?_
      refine mq_cv (mq_v hq (fun g hm => m_word (d := d - 1) (i := 49) hG hk (by decide) (by omega) hm)) (fun o1 h1 hC => jj_callV ok_MO_word ml_MO_188 im_MO_word se_MO_MO_word (by decide +kernel) hq.rcv rfl (by omega) (Nat.le_of_ble_eq_true rfl) hC) (fun u7 h hp7 hq => ?_)
      refine jj_iconst (n := 2) (v := 2) (by decide +kernel) (by decide) ?_
      exact jj_iret .int (by decide +kernel) rfl rfl ⟨_, u7, rfl, by omega, hq⟩
  · skip
    have hz2 := hf1 c2
    refine jj_iconst (n := 1) (v := 1) (by decide +kernel) (by decide) ?_
    exact jj_iret .int (by decide +kernel) rfl rfl ⟨_, u1, rfl, by omega, hq⟩
theorem q_MO_mode {l : Launch} {G : jj_G} {C : mo_C} {u0 o d : Nat} {m : Nat} {h : jj_H} (hG : jj_tyG G) (hk : mo_k C) (ho : u0 = 0 ∨ o + m = 41) (hdd : 14 + 20 * m ≤ d) (hq : Pq G C u0 o h) : jj_Q l G y_MO_mode d [.ref (C.2.1 0)] h (mq_I G C o (fun _ u' => u' ≤ u0)) :=
  jj_Q.of (by decide +kernel) (Nat.le_of_ble_eq_true rfl) (b_MO_mode_0 (o := o) hG hk ho hdd (Nat.le_refl _) hq)
set_option maxRecDepth 100000 in
set_option maxHeartbeats 4000000 in
theorem b_MO_elements_36 {l : Launch} {G : jj_G} {C : mo_C} {u0 o d : Nat} {m : Nat} {u : Nat} {h : jj_H} {x1 x2 : Int32} (hG : jj_tyG G) (hk : mo_k C) (ho : u0 = 0 ∨ o + m = 41) (hdd : 19 + 20 * m ≤ d) {n : Nat} (ih : ∀ (x1 : Int32) (x2 : Int32) (u : Nat) (h : jj_H), (x2 = 0 ∨ u + 1 < n) ∧ 0 < n → u ≤ u0 → Pq G C u o h → jj_P l G y_MO_elements d (mq_I G C o (fun _ u' => u' ≤ u0)) 4 [some (.ref (C.2.1 0)), some (.int x1), some (.int x2)] [] h) (hn0 : u < n) (hle : u ≤ u0 - 1) (hq : Pq G C u o h) : jj_P l G y_MO_elements d (mq_I G C o (fun _ u' => u' ≤ u0)) 36 [some (.ref (C.2.1 0)), some (.int x1), some (.int x2)] [] h := by
  refine jj_aload_n (j := 0) (by decide +kernel) rfl ?_
  refine jj_bipush (n := 31) (v := 31) (by decide +kernel) (by decide) ?_
  refine jj_iconst (n := 0) (v := 0) (by decide +kernel) (by decide) ?_
  refine jj_iconst (n := 2) (v := 2) (by decide +kernel) (by decide) ?_
  refine mq_cv (mq_v hq (fun g hm => m_lay (d := d - 1) hG hk (by omega) hm)) (fun o1 h1 hC => jj_callV ok_MO_lay ml_MO_166 im_MO_lay se_MO_MO_lay (by decide +kernel) hq.rcv rfl (by omega) (Nat.le_of_ble_eq_true rfl) hC) (fun u1 h hp1 hq => ?_)
  refine jj_iinc (i := 1) (n := 1) (by decide +kernel) rfl rfl (by decide) rfl ?_
  refine jj_aload_n (j := 0) (by decide +kernel) rfl ?_
  refine jj_bipush (n := 44) (v := 44) (by decide +kernel) (by decide) ?_
  refine mq_ci (mq_k hq (fun g hm => m_takesMark (d := d - 1) (x := 44) hG hk (by decide) (by decide) (by omega) hm)) (fun o1 h1 hC => jj_callV ok_MO_takesMark ml_MO_157 im_MO_takesMark se_MO_MO_takesMark (by decide +kernel) hq.rcv rfl (by omega) (Nat.le_of_ble_eq_true rfl) hC) (fun v2 u2 h hp2 hq => ?_)
  obtain ⟨hp2, hf2⟩ := hp2
  refine jj_istore_n (j := 2) (by decide +kernel) (by decide) rfl ?_
  refine jj_goto (off := (-50)) (tgt := 4) (by decide +kernel) (by decide) ?_
  exact jj_wk (js_s (js_s (js_s js_0))) (ih _ _ u2 _ ⟨(Classical.em (_ = 0)).elim Or.inl (fun z => Or.inr (by have z9 := hf2 z; omega)), by omega⟩ (by omega) hq)
set_option maxRecDepth 100000 in
set_option maxHeartbeats 4000000 in
theorem b_MO_elements_4 {l : Launch} {G : jj_G} {C : mo_C} {u0 o d : Nat} {m : Nat} (hG : jj_tyG G) (hk : mo_k C) (ho : u0 = 0 ∨ o + m = 41) (hdd : 19 + 20 * m ≤ d) : ∀ (n : Nat) (x1 : Int32) (x2 : Int32) (u : Nat) (h : jj_H), (x2 = 0 ∨ u + 1 < n) ∧ 0 < n → u ≤ u0 → Pq G C u o h → jj_P l G y_MO_elements d (mq_I G C o (fun _ u' => u' ≤ u0)) 4 [some (.ref (C.2.1 0)), some (.int x1), some (.int x2)] [] h := by
  intro n
  induction n with
  | zero => intro x1 x2 u h hn0; exact absurd hn0.2 (Nat.lt_irrefl _)
  | succ n ih =>
    intro x1 x2 u h hn0 hle hq
    refine jj_iload_n (j := 2) (by decide +kernel) rfl ?_
    refine jj_if_eq (off := 52) (tgt := 57) (by decide +kernel) (by decide) (fun c1 => ?_) (fun c1 => ?_)
    · skip
      refine jj_iload_n (j := 1) (by decide +kernel) rfl ?_
      exact jj_iret .int (by decide +kernel) rfl rfl ⟨_, u, rfl, by omega, hq⟩
    · skip
      have hn0 := hn0.1.resolve_left c1
      refine jj_aload_n (j := 0) (by decide +kernel) rfl ?_
      refine mq_cv (mexpr_all hG hk m _ _ _ (d - 1) (by omega) hq (by omega)) (fun o1 h1 hC => jj_callV ok_MO_expression ml_MO_226 im_MO_expression se_MO_MO_expression (by decide +kernel) hq.rcv rfl (by omega) (Nat.le_of_ble_eq_true rfl) hC) (fun u2 h hp2 hq => ?_)
      refine jj_aload_n (j := 0) (by decide +kernel) rfl ?_
      refine jj_ldcW (index := 327) (i := 50) (tx := "after") (by decide +kernel) (List.mem_of_getElem? (i := 51) rfl) ?_
      refine mq_ci (mq_k hq (fun g hm => m_takes (d := d - 1) (i := 50) hG hk (by decide) (by omega) hm)) (fun o1 h1 hC => jj_callV ok_MO_takes ml_MO_150 im_MO_takes se_MO_MO_takes (by decide +kernel) hq.rcv rfl (by omega) (Nat.le_of_ble_eq_true rfl) hC) (fun v3 u3 h hp3 hq => ?_)
      obtain ⟨hp3, hf3⟩ := hp3
      refine jj_if_eq (off := 10) (tgt := 29) (by decide +kernel) (by decide) (fun c4 => ?_) (fun c4 => ?_)
      · skip
        refine jj_aload_n (j := 0) (by decide +kernel) rfl ?_
        refine jj_iconst (n := 0) (v := 0) (by decide +kernel) (by decide) ?_
        refine jj_iconst (n := 0) (v := 0) (by decide +kernel) (by decide) ?_
        refine jj_iconst (n := 0) (v := 0) (by decide +kernel) (by decide) ?_
        refine mq_cv (mq_v hq (fun g hm => m_lay (d := d - 1) hG hk (by omega) hm)) (fun o1 h1 hC => jj_callV ok_MO_lay ml_MO_166 im_MO_lay se_MO_MO_lay (by decide +kernel) hq.rcv rfl (by omega) (Nat.le_of_ble_eq_true rfl) hC) (fun u5 h hp5 hq => ?_)
        exact jj_wk (js_s (js_s (js_s js_0))) (b_MO_elements_36 (o := o) hG hk ho hdd ih (by omega) (by omega) hq)
      · skip
        have hz4 := hf3 c4
        refine jj_aload_n (j := 0) (by decide +kernel) rfl ?_
        refine mq_cv (q_MO_time (d := d - 1) (m := m) hG hk (by omega) (by omega) hq) (fun o1 h1 hC => jj_callV ok_MO_time ml_MO_319 im_MO_time se_MO_MO_time (by decide +kernel) hq.rcv rfl (by omega) (Nat.le_of_ble_eq_true rfl) hC) (fun u6 h hp6 hq => ?_)
        refine jj_goto (off := 10) (tgt := 36) (by decide +kernel) (by decide) ?_
        exact jj_wk (js_s (js_s (js_s js_0))) (b_MO_elements_36 (o := o) hG hk ho hdd ih (by omega) (by omega) hq)
set_option maxRecDepth 100000 in
set_option maxHeartbeats 4000000 in
theorem b_MO_elements_0 {l : Launch} {G : jj_G} {C : mo_C} {u0 o d : Nat} {m : Nat} {u : Nat} {h : jj_H} (hG : jj_tyG G) (hk : mo_k C) (ho : u0 = 0 ∨ o + m = 41) (hdd : 19 + 20 * m ≤ d) (hle : u ≤ u0) (hq : Pq G C u o h) : jj_P l G y_MO_elements d (mq_I G C o (fun _ u' => u' ≤ u0)) 0 [some (.ref (C.2.1 0)), none, none] [] h := by
  refine jj_iconst (n := 0) (v := 0) (by decide +kernel) (by decide) ?_
  refine jj_istore_n (j := 1) (by decide +kernel) (by decide) rfl ?_
  refine jj_iconst (n := 1) (v := 1) (by decide +kernel) (by decide) ?_
  refine jj_istore_n (j := 2) (by decide +kernel) (by decide) rfl ?_
  exact jj_wk (js_s (js_s (js_s js_0))) (b_MO_elements_4 (o := o) hG hk ho hdd (u + 2) _ _ u _ ⟨Or.inr (by omega), by omega⟩ (by omega) hq)
theorem q_MO_elements {l : Launch} {G : jj_G} {C : mo_C} {u0 o d : Nat} {m : Nat} {h : jj_H} (hG : jj_tyG G) (hk : mo_k C) (ho : u0 = 0 ∨ o + m = 41) (hdd : 19 + 20 * m ≤ d) (hq : Pq G C u0 o h) : jj_Q l G y_MO_elements d [.ref (C.2.1 0)] h (mq_I G C o (fun _ u' => u' ≤ u0)) :=
  jj_Q.of (by decide +kernel) (Nat.le_of_ble_eq_true rfl) (b_MO_elements_0 (o := o) hG hk ho hdd (Nat.le_refl _) hq)
set_option maxRecDepth 100000 in
set_option maxHeartbeats 4000000 in
theorem b_MO_type_103 {l : Launch} {G : jj_G} {C : mo_C} {u0 o d : Nat} {m : Nat} {u : Nat} {h : jj_H} {x1 x2 y1 : Int32} (hG : jj_tyG G) (hk : mo_k C) (ho : u0 = 0 ∨ o + m = 41) (hdd : 19 + 20 * m ≤ d) (hle : u ≤ u0 - 1) (hq : Pq G C u o h) : jj_P l G y_MO_type d (mq_V G C o (fun u' => u' ≤ u0 - 1)) 103 [some (.ref (C.2.1 0)), some (.int x1), some (.int x2)] [.int y1, .ref (C.2.1 0)] h := by
  refine mq_cv (mq_must (d := d - 1) hG hk (by omega) hq) (fun o1 h1 hC => jj_callV ok_MO_must ml_MO_153 im_MO_must se_MO_MO_must (by decide +kernel) hq.rcv rfl (by omega) (Nat.le_of_ble_eq_true rfl) hC) (fun u1 h hp1 hq => ?_)
  refine jj_aload_n (j := 0) (by decide +kernel) rfl ?_
  refine mq_cv (mexpr_all hG hk m _ _ _ (d - 1) (by omega) hq (by omega)) (fun o1 h1 hC => jj_callV ok_MO_expression ml_MO_226 im_MO_expression se_MO_MO_expression (by decide +kernel) hq.rcv rfl (by omega) (Nat.le_of_ble_eq_true rfl) hC) (fun u2 h hp2 hq => ?_)
  refine jj_aload_n (j := 0) (by decide +kernel) rfl ?_
  refine jj_bipush (n := 41) (v := 41) (by decide +kernel) (by decide) ?_
  refine mq_cv (mq_v hq (fun g hm => m_sign (d := d - 1) (x := 41) hG hk (by decide) (by decide) (by omega) hm)) (fun o1 h1 hC => jj_callV ok_MO_sign ml_MO_172 im_MO_sign se_MO_MO_sign (by decide +kernel) hq.rcv rfl (by omega) (Nat.le_of_ble_eq_true rfl) hC) (fun u3 h hp3 hq => ?_)
  refine jj_aload_n (j := 0) (by decide +kernel) rfl ?_
  refine jj_iload_n (j := 2) (by decide +kernel) rfl ?_
  refine jj_iconst (n := 5) (v := 5) (by decide +kernel) (by decide) ?_
  refine jj_iconst (n := 2) (v := 2) (by decide +kernel) (by decide) ?_
  refine mq_cv (mq_v hq (fun g hm => m_lay (d := d - 1) hG hk (by omega) hm)) (fun o1 h1 hC => jj_callV ok_MO_lay ml_MO_166 im_MO_lay se_MO_MO_lay (by decide +kernel) hq.rcv rfl (by omega) (Nat.le_of_ble_eq_true rfl) hC) (fun u4 h hp4 hq => ?_)
  refine jj_goto (off := 11) (tgt := 134) (by decide +kernel) (by decide) ?_
  exact jj_vret (by decide +kernel) rfl ⟨rfl, u4, by omega, hq⟩
set_option maxRecDepth 100000 in
set_option maxHeartbeats 4000000 in
theorem b_MO_type_78 {l : Launch} {G : jj_G} {C : mo_C} {u0 o d : Nat} {m : Nat} {u : Nat} {h : jj_H} {x1 y0 : Int32} (hG : jj_tyG G) (hk : mo_k C) (ho : u0 = 0 ∨ o + m = 41) (hdd : 19 + 20 * m ≤ d) (hle : u ≤ u0 - 1) (hfy0 : y0 ≠ 13 → 0 < u ∧ mo_nl C u) (hq : Pq G C u o h) : jj_P l G y_MO_type d (mq_V G C o (fun u' => u' ≤ u0 - 1)) 78 [some (.ref (C.2.1 0)), some (.int x1), none] [.int y0] h := by
  refine jj_istore_n (j := 2) (by decide +kernel) (by decide) rfl ?_
  refine jj_aload_n (j := 0) (by decide +kernel) rfl ?_
  refine jj_aload_n (j := 0) (by decide +kernel) rfl ?_
  refine jj_ldcS (index := 235) (i := 24) (tx := "to") (by decide +kernel) (List.mem_of_getElem? (i := 25) rfl) ?_
  refine mq_ci (mq_k hq (fun g hm => m_takes (d := d - 1) (i := 24) hG hk (by decide) (by omega) hm)) (fun o1 h1 hC => jj_callV ok_MO_takes ml_MO_150 im_MO_takes se_MO_MO_takes (by decide +kernel) hq.rcv rfl (by omega) (Nat.le_of_ble_eq_true rfl) hC) (fun v1 u1 h hp1 hq => ?_)
  obtain ⟨hp1, hf1⟩ := hp1
  refine jj_if_ne (off := 12) (tgt := 98) (by decide +kernel) (by decide) (fun c2 => ?_) (fun c2 => ?_)
  · skip
    have hz2 := hf1 c2
    refine jj_iconst (n := 1) (v := 1) (by decide +kernel) (by decide) ?_
    refine jj_goto (off := 4) (tgt := 103) (by decide +kernel) (by decide) ?_
    exact jj_wk (js_s (js_s (js_s js_0))) (b_MO_type_103 (o := o) hG hk ho hdd (by omega) hq)
  · skip
    refine jj_aload_n (j := 0) (by decide +kernel) rfl ?_
    refine jj_ldcS (index := 237) (i := 25) (tx := "downto") (by decide +kernel) (List.mem_of_getElem? (i := 26) rfl) ?_
    refine mq_ci (mq_k hq (fun g hm => m_takes (d := d - 1) (i := 25) hG hk (by decide) (by omega) hm)) (fun o1 h1 hC => jj_callV ok_MO_takes ml_MO_150 im_MO_takes se_MO_MO_takes (by decide +kernel) hq.rcv rfl (by omega) (Nat.le_of_ble_eq_true rfl) hC) (fun v3 u3 h hp3 hq => ?_)
    obtain ⟨hp3, hf3⟩ := hp3
    refine jj_if_eq (off := 7) (tgt := 102) (by decide +kernel) (by decide) (fun c4 => ?_) (fun c4 => ?_)
    · skip
      refine jj_iconst (n := 0) (v := 0) (by decide +kernel) (by decide) ?_
      exact jj_wk (js_s (js_s (js_s js_0))) (b_MO_type_103 (o := o) hG hk ho hdd (by omega) hq)
    · skip
      have hz4 := hf3 c4
      refine jj_iconst (n := 1) (v := 1) (by decide +kernel) (by decide) ?_
      refine jj_goto (off := 4) (tgt := 103) (by decide +kernel) (by decide) ?_
      exact jj_wk (js_s (js_s (js_s js_0))) (b_MO_type_103 (o := o) hG hk ho hdd (by omega) hq)
set_option maxRecDepth 100000 in
set_option maxHeartbeats 4000000 in
theorem b_MO_type_47 {l : Launch} {G : jj_G} {C : mo_C} {u0 o d : Nat} {m : Nat} {u : Nat} {h : jj_H} {x1 : Int32} (hG : jj_tyG G) (hk : mo_k C) (ho : u0 = 0 ∨ o + m = 41) (hdd : 19 + 20 * m ≤ d) (hle : u ≤ u0 - 1) (hq : Pq G C u o h) : jj_P l G y_MO_type d (mq_V G C o (fun u' => u' ≤ u0 - 1)) 47 [some (.ref (C.2.1 0)), some (.int x1), none] [] h := by
  refine jj_iload_n (j := 1) (by decide +kernel) rfl ?_
  refine jj_iconst (n := 5) (v := 5) (by decide +kernel) (by decide) ?_
  refine jj_icmp_ne (off := 77) (tgt := 126) (by decide +kernel) (by decide) (fun c1 => ?_) (fun c1 => ?_)
  · skip
    refine jj_aload_n (j := 0) (by decide +kernel) rfl ?_
    refine jj_bipush (n := 10) (v := 10) (by decide +kernel) (by decide) ?_
    refine jj_iload_n (j := 1) (by decide +kernel) rfl ?_
    refine jj_iconst (n := 0) (v := 0) (by decide +kernel) (by decide) ?_
    refine mq_cv (mq_v hq (fun g hm => m_lay (d := d - 1) hG hk (by omega) hm)) (fun o1 h1 hC => jj_callV ok_MO_lay ml_MO_166 im_MO_lay se_MO_MO_lay (by decide +kernel) hq.rcv rfl (by omega) (Nat.le_of_ble_eq_true rfl) hC) (fun u2 h hp2 hq => ?_)
    exact jj_vret (by decide +kernel) rfl ⟨rfl, u2, by omega, hq⟩
  · skip
    refine jj_aload_n (j := 0) (by decide +kernel) rfl ?_
    refine jj_bipush (n := 40) (v := 40) (by decide +kernel) (by decide) ?_
    refine mq_cv (mq_v hq (fun g hm => m_sign (d := d - 1) (x := 40) hG hk (by decide) (by decide) (by omega) hm)) (fun o1 h1 hC => jj_callV ok_MO_sign ml_MO_172 im_MO_sign se_MO_MO_sign (by decide +kernel) hq.rcv rfl (by omega) (Nat.le_of_ble_eq_true rfl) hC) (fun u3 h hp3 hq => ?_)
    refine jj_aload_n (j := 0) (by decide +kernel) rfl ?_
    refine mq_cv (mexpr_all hG hk m _ _ _ (d - 1) (by omega) hq (by omega)) (fun o1 h1 hC => jj_callV ok_MO_expression ml_MO_226 im_MO_expression se_MO_MO_expression (by decide +kernel) hq.rcv rfl (by omega) (Nat.le_of_ble_eq_true rfl) hC) (fun u4 h hp4 hq => ?_)
    refine jj_aload_n (j := 0) (by decide +kernel) rfl ?_
    refine jj_ldcS (index := 235) (i := 24) (tx := "to") (by decide +kernel) (List.mem_of_getElem? (i := 25) rfl) ?_
    refine mq_ci (mq_i hq (fun g hm => m_isWord (d := d - 1) (i := 24) hG hk (by decide) (by omega) hm) (fun _ _ q => q)) (fun o1 h1 hC => jj_callV ok_MO_isWord ml_MO_137 im_MO_isWord se_MO_MO_isWord (by decide +kernel) hq.rcv rfl (by omega) (Nat.le_of_ble_eq_true rfl) hC) (fun v5 u5 h hp5 hq => ?_)
    obtain ⟨e5, -, hf5⟩ := hp5
    rw [e5] at hq
    refine jj_if_eq (off := 8) (tgt := 76) (by decide +kernel) (by decide) (fun c6 => ?_) (fun c6 => ?_)
    · skip
      refine jj_bipush (n := 13) (v := 13) (by decide +kernel) (by decide) ?_
      exact jj_wk (js_s (js_s (js_n js_0))) (b_MO_type_78 (o := o) hG hk ho hdd (by omega) (fun q => absurd rfl q) hq)
    · skip
      have hz6 := hf5 c6
      refine jj_bipush (n := 12) (v := 12) (by decide +kernel) (by decide) ?_
      refine jj_goto (off := 5) (tgt := 78) (by decide +kernel) (by decide) ?_
      exact jj_wk (js_s (js_s (js_n js_0))) (b_MO_type_78 (o := o) hG hk ho hdd (by omega) (fun _ => ⟨by omega, hz6.2⟩) hq)
set_option maxRecDepth 100000 in
set_option maxHeartbeats 4000000 in
theorem b_MO_type_0 {l : Launch} {G : jj_G} {C : mo_C} {u0 o d : Nat} {m : Nat} {u : Nat} {h : jj_H} (hG : jj_tyG G) (hk : mo_k C) (ho : u0 = 0 ∨ o + m = 41) (hdd : 19 + 20 * m ≤ d) (hle : u ≤ u0) (hq : Pq G C u o h) : jj_P l G y_MO_type d (mq_V G C o (fun u' => u' ≤ u0 - 1)) 0 [some (.ref (C.2.1 0)), none, none] [] h := by
  refine jj_aload_n (j := 0) (by decide +kernel) rfl ?_
  refine mq_ci (mq_i hq (fun g hm => m_aName (d := d - 1) hG hk (by omega) hm) (fun _ _ q => q)) (fun o1 h1 hC => jj_callV ok_MO_aName ml_MO_163 im_MO_aName se_MO_MO_aName (by decide +kernel) hq.rcv rfl (by omega) (Nat.le_of_ble_eq_true rfl) hC) (fun v1 u1 h hp1 hq => ?_)
  refine jj_istore_n (j := 1) (by decide +kernel) (by decide) rfl ?_
  refine jj_iload_n (j := 1) (by decide +kernel) rfl ?_
  refine jj_if_ne (off := 41) (tgt := 47) (by decide +kernel) (by decide) (fun c2 => ?_) (fun c2 => ?_)
  · skip
    exact jj_wk (js_s (js_s (js_n js_0))) (b_MO_type_47 (o := o) hG hk ho hdd (by omega) hq)
  · skip
    refine jj_aload_n (j := 0) (by decide +kernel) rfl ?_
    refine jj_ldcS (index := 233) (i := 21) (tx := "range") (by decide +kernel) (List.mem_of_getElem? (i := 22) rfl) ?_
    refine mq_ci (mq_i hq (fun g hm => m_isWord (d := d - 1) (i := 21) hG hk (by decide) (by omega) hm) (fun _ _ q => q)) (fun o1 h1 hC => jj_callV ok_MO_isWord ml_MO_137 im_MO_isWord se_MO_MO_isWord (by decide +kernel) hq.rcv rfl (by omega) (Nat.le_of_ble_eq_true rfl) hC) (fun v3 u3 h hp3 hq => ?_)
    obtain ⟨e3, -, hf3⟩ := hp3
    rw [e3] at hq
    refine jj_if_eq (off := 32) (tgt := 47) (by decide +kernel) (by decide) (fun c4 => ?_) (fun c4 => ?_)
    · skip
      exact jj_wk (js_s (js_s (js_n js_0))) (b_MO_type_47 (o := o) hG hk ho hdd (by omega) hq)
    · skip
      have hz4 := hf3 c4
      refine jj_aload_n (j := 0) (by decide +kernel) rfl ?_
      refine mq_cv (mq_v hq (fun g hm => m_on (d := d - 1) hG hk hz4.2 (by omega) hm)) (fun o1 h1 hC => jj_callV ok_MO_on ml_MO_141 im_MO_on se_MO_MO_on (by decide +kernel) hq.rcv rfl (by omega) (Nat.le_of_ble_eq_true rfl) hC) (fun u5 h hp5 hq => ?_)
      refine jj_aload_n (j := 0) (by decide +kernel) rfl ?_
      refine mq_cv (mexpr_all hG hk m _ _ _ (d - 1) (by omega) hq (by omega)) (fun o1 h1 hC => jj_callV ok_MO_expression ml_MO_226 im_MO_expression se_MO_MO_expression (by decide +kernel) hq.rcv rfl (by omega) (Nat.le_of_ble_eq_true rfl) hC) (fun u6 h hp6 hq => ?_)
      refine jj_aload_n (j := 0) (by decide +kernel) rfl ?_
      refine jj_ldcS (index := 235) (i := 24) (tx := "to") (by decide +kernel) (List.mem_of_getElem? (i := 25) rfl) ?_
      refine mq_cv (mq_v hq (fun g hm => m_word (d := d - 1) (i := 24) hG hk (by decide) (by omega) hm)) (fun o1 h1 hC => jj_callV ok_MO_word ml_MO_188 im_MO_word se_MO_MO_word (by decide +kernel) hq.rcv rfl (by omega) (Nat.le_of_ble_eq_true rfl) hC) (fun u7 h hp7 hq => ?_)
      refine jj_aload_n (j := 0) (by decide +kernel) rfl ?_
      refine mq_cv (mexpr_all hG hk m _ _ _ (d - 1) (by omega) hq (by omega)) (fun o1 h1 hC => jj_callV ok_MO_expression ml_MO_226 im_MO_expression se_MO_MO_expression (by decide +kernel) hq.rcv rfl (by omega) (Nat.le_of_ble_eq_true rfl) hC) (fun u8 h hp8 hq => ?_)
      refine jj_aload_n (j := 0) (by decide +kernel) rfl ?_
      refine jj_bipush (n := 11) (v := 11) (by decide +kernel) (by decide) ?_
      refine jj_iconst (n := 0) (v := 0) (by decide +kernel) (by decide) ?_
      refine jj_iconst (n := 2) (v := 2) (by decide +kernel) (by decide) ?_
      refine mq_cv (mq_v hq (fun g hm => m_lay (d := d - 1) hG hk (by omega) hm)) (fun o1 h1 hC => jj_callV ok_MO_lay ml_MO_166 im_MO_lay se_MO_MO_lay (by decide +kernel) hq.rcv rfl (by omega) (Nat.le_of_ble_eq_true rfl) hC) (fun u9 h hp9 hq => ?_)
      refine jj_goto (off := 90) (tgt := 134) (by decide +kernel) (by decide) ?_
      exact jj_vret (by decide +kernel) rfl ⟨rfl, u9, by omega, hq⟩
theorem q_MO_type {l : Launch} {G : jj_G} {C : mo_C} {u0 o d : Nat} {m : Nat} {h : jj_H} (hG : jj_tyG G) (hk : mo_k C) (ho : u0 = 0 ∨ o + m = 41) (hdd : 19 + 20 * m ≤ d) (hq : Pq G C u0 o h) : jj_Q l G y_MO_type d [.ref (C.2.1 0)] h (mq_V G C o (fun u' => u' ≤ u0 - 1)) :=
  jj_Q.of (by decide +kernel) (Nat.le_of_ble_eq_true rfl) (b_MO_type_0 (o := o) hG hk ho hdd (Nat.le_refl _) hq)
set_option maxRecDepth 100000 in
set_option maxHeartbeats 4000000 in
theorem b_MO_nameNodes_6 {l : Launch} {G : jj_G} {C : mo_C} {u0 o d : Nat} (hG : jj_tyG G) (hk : mo_k C) (hdd : 4 ≤ d) : ∀ (n : Nat) (x1 : Int32) (u : Nat) (h : jj_H), u < n → u ≤ u0 - 1 → Pq G C u o h → jj_P l G y_MO_nameNodes d (mq_I G C o (fun _ u' => u' ≤ u0 - 1)) 6 [some (.ref (C.2.1 0)), some (.int x1)] [] h := by
  intro n
  induction n with
  | zero => intro x1 u h hn0; exact absurd hn0 (Nat.not_lt_zero _)
  | succ n ih =>
    intro x1 u h hn0 hle hq
    refine jj_aload_n (j := 0) (by decide +kernel) rfl ?_
    refine jj_bipush (n := 44) (v := 44) (by decide +kernel) (by decide) ?_
    refine mq_ci (mq_k hq (fun g hm => m_takesMark (d := d - 1) (x := 44) hG hk (by decide) (by decide) (by omega) hm)) (fun o1 h1 hC => jj_callV ok_MO_takesMark ml_MO_157 im_MO_takesMark se_MO_MO_takesMark (by decide +kernel) hq.rcv rfl (by omega) (Nat.le_of_ble_eq_true rfl) hC) (fun v1 u1 h hp1 hq => ?_)
    obtain ⟨hp1, hf1⟩ := hp1
    refine jj_if_eq (off := 13) (tgt := 25) (by decide +kernel) (by decide) (fun c2 => ?_) (fun c2 => ?_)
    · skip
      refine jj_iload_n (j := 1) (by decide +kernel) rfl ?_
      exact jj_iret .int (by decide +kernel) rfl rfl ⟨_, u1, rfl, by omega, hq⟩
    · skip
      have hz2 := hf1 c2
      refine jj_aload_n (j := 0) (by decide +kernel) rfl ?_
      refine mq_cv (mq_v hq (fun g hm => m_nameNode (d := d - 1) hG hk (by omega) hm)) (fun o1 h1 hC => jj_callV ok_MO_nameNode ml_MO_241 im_MO_nameNode se_MO_MO_nameNode (by decide +kernel) hq.rcv rfl (by omega) (Nat.le_of_ble_eq_true rfl) hC) (fun u3 h hp3 hq => ?_)
      refine jj_iinc (i := 1) (n := 1) (by decide +kernel) rfl rfl (by decide) rfl ?_
      refine jj_goto (off := (-16)) (tgt := 6) (by decide +kernel) (by decide) ?_
      exact jj_wk (js_s (js_s js_0)) (ih _ u3 _ (by omega) (by omega) hq)
set_option maxRecDepth 100000 in
set_option maxHeartbeats 4000000 in
theorem b_MO_nameNodes_0 {l : Launch} {G : jj_G} {C : mo_C} {u0 o d : Nat} {u : Nat} {h : jj_H} (hG : jj_tyG G) (hk : mo_k C) (hdd : 4 ≤ d) (hle : u ≤ u0) (hq : Pq G C u o h) : jj_P l G y_MO_nameNodes d (mq_I G C o (fun _ u' => u' ≤ u0 - 1)) 0 [some (.ref (C.2.1 0)), none] [] h := by
  refine jj_iconst (n := 1) (v := 1) (by decide +kernel) (by decide) ?_
  refine jj_istore_n (j := 1) (by decide +kernel) (by decide) rfl ?_
  refine jj_aload_n (j := 0) (by decide +kernel) rfl ?_
  refine mq_cv (mq_v hq (fun g hm => m_nameNode (d := d - 1) hG hk (by omega) hm)) (fun o1 h1 hC => jj_callV ok_MO_nameNode ml_MO_241 im_MO_nameNode se_MO_MO_nameNode (by decide +kernel) hq.rcv rfl (by omega) (Nat.le_of_ble_eq_true rfl) hC) (fun u1 h hp1 hq => ?_)
  exact jj_wk (js_s (js_s js_0)) (b_MO_nameNodes_6 (o := o) hG hk hdd _ _ u1 _ (Nat.lt_succ_self _) (by omega) hq)
theorem q_MO_nameNodes {l : Launch} {G : jj_G} {C : mo_C} {u0 o d : Nat} {h : jj_H} (hG : jj_tyG G) (hk : mo_k C) (hdd : 4 ≤ d) (hq : Pq G C u0 o h) : jj_Q l G y_MO_nameNodes d [.ref (C.2.1 0)] h (mq_I G C o (fun _ u' => u' ≤ u0 - 1)) :=
  jj_Q.of (by decide +kernel) (Nat.le_of_ble_eq_true rfl) (b_MO_nameNodes_0 (o := o) hG hk hdd (Nat.le_refl _) hq)
set_option maxRecDepth 100000 in
set_option maxHeartbeats 4000000 in
theorem b_MO_maps_96 {l : Launch} {G : jj_G} {C : mo_C} {u0 o d : Nat} {m : Nat} {i : Nat} {u : Nat} {h : jj_H} {x2 x3 : Int32} (hG : jj_tyG G) (hk : mo_k C) (ho : u0 = 0 ∨ o + m = 41) (hi : i < jj_nS) (hdd : 19 + 20 * m ≤ d) (hle : u ≤ u0) (hq : Pq G C u o h) : jj_P l G y_MO_maps d (mq_V G C o (fun u' => u' ≤ u0)) 96 [some (.ref (C.2.1 0)), some (.ref (G.2.2.2.1 i)), some (.int x2), some (.int x3), none, none] [] h := by
  refine jj_aload_n (j := 0) (by decide +kernel) rfl ?_
  refine jj_bipush (n := 48) (v := 48) (by decide +kernel) (by decide) ?_
  refine jj_iconst (n := 0) (v := 0) (by decide +kernel) (by decide) ?_
  refine jj_iload_n (j := 2) (by decide +kernel) rfl ?_
  refine mq_cv (mq_v hq (fun g hm => m_lay (d := d - 1) hG hk (by omega) hm)) (fun o1 h1 hC => jj_callV ok_MO_lay ml_MO_166 im_MO_lay se_MO_MO_lay (by decide +kernel) hq.rcv rfl (by omega) (Nat.le_of_ble_eq_true rfl) hC) (fun u1 h hp1 hq => ?_)
  refine jj_iload_n (j := 3) (by decide +kernel) rfl ?_
  refine jj_if_eq (off := 9) (tgt := 114) (by decide +kernel) (by decide) (fun c2 => ?_) (fun c2 => ?_)
  · skip
    exact jj_vret (by decide +kernel) rfl ⟨rfl, u1, by omega, hq⟩
  · skip
    refine jj_aload_n (j := 0) (by decide +kernel) rfl ?_
    refine jj_bipush (n := 41) (v := 41) (by decide +kernel) (by decide) ?_
    refine mq_cv (mq_v hq (fun g hm => m_sign (d := d - 1) (x := 41) hG hk (by decide) (by decide) (by omega) hm)) (fun o1 h1 hC => jj_callV ok_MO_sign ml_MO_172 im_MO_sign se_MO_MO_sign (by decide +kernel) hq.rcv rfl (by omega) (Nat.le_of_ble_eq_true rfl) hC) (fun u3 h hp3 hq => ?_)
    exact jj_vret (by decide +kernel) rfl ⟨rfl, u3, by omega, hq⟩
set_option maxRecDepth 100000 in
set_option maxHeartbeats 4000000 in
theorem b_MO_maps_73 {l : Launch} {G : jj_G} {C : mo_C} {u0 o d : Nat} {m : Nat} {i : Nat} {u : Nat} {h : jj_H} {x2 x3 x4 x5 : Int32} (hG : jj_tyG G) (hk : mo_k C) (ho : u0 = 0 ∨ o + m = 41) (hi : i < jj_nS) (hdd : 19 + 20 * m ≤ d) {n : Nat} (ih : ∀ (x2 : Int32) (x3 : Int32) (x4 : Int32) (u : Nat) (h : jj_H), (x4 = 0 ∨ u + 1 < n) ∧ 0 < n → u ≤ u0 - 1 → Pq G C u o h → jj_P l G y_MO_maps d (mq_V G C o (fun u' => u' ≤ u0)) 28 [some (.ref (C.2.1 0)), some (.ref (G.2.2.2.1 i)), some (.int x2), some (.int x3), some (.int x4), none] [] h) (hn0 : u < n) (hle : u ≤ u0 - 1) (hq : Pq G C u o h) : jj_P l G y_MO_maps d (mq_V G C o (fun u' => u' ≤ u0)) 73 [some (.ref (C.2.1 0)), some (.ref (G.2.2.2.1 i)), some (.int x2), some (.int x3), some (.int x4), some (.int x5)] [] h := by
  refine jj_aload_n (j := 0) (by decide +kernel) rfl ?_
  refine jj_bipush (n := 63) (v := 63) (by decide +kernel) (by decide) ?_
  refine jj_iload (i := 5) (by decide +kernel) rfl ?_
  refine jj_iconst (n := 1) (v := 1) (by decide +kernel) (by decide) ?_
  refine mq_cv (mq_v hq (fun g hm => m_lay (d := d - 1) hG hk (by omega) hm)) (fun o1 h1 hC => jj_callV ok_MO_lay ml_MO_166 im_MO_lay se_MO_MO_lay (by decide +kernel) hq.rcv rfl (by omega) (Nat.le_of_ble_eq_true rfl) hC) (fun u1 h hp1 hq => ?_)
  refine jj_iinc (i := 2) (n := 1) (by decide +kernel) rfl rfl (by decide) rfl ?_
  refine jj_aload_n (j := 0) (by decide +kernel) rfl ?_
  refine jj_bipush (n := 44) (v := 44) (by decide +kernel) (by decide) ?_
  refine mq_ci (mq_k hq (fun g hm => m_takesMark (d := d - 1) (x := 44) hG hk (by decide) (by decide) (by omega) hm)) (fun o1 h1 hC => jj_callV ok_MO_takesMark ml_MO_157 im_MO_takesMark se_MO_MO_takesMark (by decide +kernel) hq.rcv rfl (by omega) (Nat.le_of_ble_eq_true rfl) hC) (fun v2 u2 h hp2 hq => ?_)
  obtain ⟨hp2, hf2⟩ := hp2
  refine jj_istore (i := 4) (by decide +kernel) (by decide) rfl ?_
  refine jj_goto (off := (-65)) (tgt := 28) (by decide +kernel) (by decide) ?_
  exact jj_wk (js_s (js_s (js_s (js_s (js_s (js_n js_0)))))) (ih _ _ _ u2 _ ⟨(Classical.em (_ = 0)).elim Or.inl (fun z => Or.inr (by have z9 := hf2 z; omega)), by omega⟩ (by omega) hq)
set_option maxRecDepth 100000 in
set_option maxHeartbeats 4000000 in
theorem b_MO_maps_28 {l : Launch} {G : jj_G} {C : mo_C} {u0 o d : Nat} {m : Nat} {i : Nat} (hG : jj_tyG G) (hk : mo_k C) (ho : u0 = 0 ∨ o + m = 41) (hi : i < jj_nS) (hdd : 19 + 20 * m ≤ d) : ∀ (n : Nat) (x2 : Int32) (x3 : Int32) (x4 : Int32) (u : Nat) (h : jj_H), (x4 = 0 ∨ u + 1 < n) ∧ 0 < n → u ≤ u0 - 1 → Pq G C u o h → jj_P l G y_MO_maps d (mq_V G C o (fun u' => u' ≤ u0)) 28 [some (.ref (C.2.1 0)), some (.ref (G.2.2.2.1 i)), some (.int x2), some (.int x3), some (.int x4), none] [] h := by
  intro n
  induction n with
  | zero => intro x2 x3 x4 u h hn0; exact absurd hn0.2 (Nat.lt_irrefl _)
  | succ n ih =>
    intro x2 x3 x4 u h hn0 hle hq
    refine jj_iload (i := 4) (by decide +kernel) rfl ?_
    refine jj_if_eq (off := 66) (tgt := 96) (by decide +kernel) (by decide) (fun c1 => ?_) (fun c1 => ?_)
    · skip
      exact jj_wk (js_s (js_s (js_s (js_s (js_n (js_n js_0)))))) (b_MO_maps_96 (o := o) hG hk ho hi hdd (by omega) hq)
    · skip
      have hn0 := hn0.1.resolve_left c1
      refine jj_aload_n (j := 0) (by decide +kernel) rfl ?_
      refine mq_ci (mq_i hq (fun g hm => m_aName (d := d - 1) hG hk (by omega) hm) (fun _ _ q => q)) (fun o1 h1 hC => jj_callV ok_MO_aName ml_MO_163 im_MO_aName se_MO_MO_aName (by decide +kernel) hq.rcv rfl (by omega) (Nat.le_of_ble_eq_true rfl) hC) (fun v2 u2 h hp2 hq => ?_)
      refine jj_istore (i := 5) (by decide +kernel) (by decide) rfl ?_
      refine jj_aload_n (j := 0) (by decide +kernel) rfl ?_
      refine jj_aload_n (j := 0) (by decide +kernel) rfl ?_
      refine jj_bipush (n := 61) (v := 61) (by decide +kernel) (by decide) ?_
      refine mq_ci (mq_k hq (fun g hm => m_takesTwo (d := d - 1) (x := 61) hG hk (by decide) (by decide) (by omega) hm)) (fun o1 h1 hC => jj_callV ok_MO_takesTwo ml_MO_223 im_MO_takesTwo se_MO_MO_takesTwo (by decide +kernel) hq.rcv rfl (by omega) (Nat.le_of_ble_eq_true rfl) hC) (fun v3 u3 h hp3 hq => ?_)
      obtain ⟨hp3, hf3⟩ := hp3
      refine mq_cv (mq_must (d := d - 1) hG hk (by omega) hq) (fun o1 h1 hC => jj_callV ok_MO_must ml_MO_153 im_MO_must se_MO_MO_must (by decide +kernel) hq.rcv rfl (by omega) (Nat.le_of_ble_eq_true rfl) hC) (fun u4 h hp4 hq => ?_)
      refine jj_aload_n (j := 0) (by decide +kernel) rfl ?_
      refine jj_ldcW (index := 303) (i := 70) (tx := "open") (by decide +kernel) (List.mem_of_getElem? (i := 71) rfl) ?_
      refine mq_ci (mq_k hq (fun g hm => m_takes (d := d - 1) (i := 70) hG hk (by decide) (by omega) hm)) (fun o1 h1 hC => jj_callV ok_MO_takes ml_MO_150 im_MO_takes se_MO_MO_takes (by decide +kernel) hq.rcv rfl (by omega) (Nat.le_of_ble_eq_true rfl) hC) (fun v5 u5 h hp5 hq => ?_)
      obtain ⟨hp5, hf5⟩ := hp5
      refine jj_if_eq (off := 13) (tgt := 69) (by decide +kernel) (by decide) (fun c6 => ?_) (fun c6 => ?_)
      · skip
        refine jj_aload_n (j := 0) (by decide +kernel) rfl ?_
        refine mq_cv (mexpr_all hG hk m _ _ _ (d - 1) (by omega) hq (by omega)) (fun o1 h1 hC => jj_callV ok_MO_expression ml_MO_226 im_MO_expression se_MO_MO_expression (by decide +kernel) hq.rcv rfl (by omega) (Nat.le_of_ble_eq_true rfl) hC) (fun u7 h hp7 hq => ?_)
        exact jj_wk (js_s (js_s (js_s (js_s (js_s (js_s js_0)))))) (b_MO_maps_73 (o := o) hG hk ho hi hdd ih (by omega) (by omega) hq)
      · skip
        have hz6 := hf5 c6
        refine jj_aload_n (j := 0) (by decide +kernel) rfl ?_
        refine jj_iconst (n := 0) (v := 0) (by decide +kernel) (by decide) ?_
        refine jj_iconst (n := 0) (v := 0) (by decide +kernel) (by decide) ?_
        refine jj_iconst (n := 0) (v := 0) (by decide +kernel) (by decide) ?_
        refine mq_cv (mq_v hq (fun g hm => m_lay (d := d - 1) hG hk (by omega) hm)) (fun o1 h1 hC => jj_callV ok_MO_lay ml_MO_166 im_MO_lay se_MO_MO_lay (by decide +kernel) hq.rcv rfl (by omega) (Nat.le_of_ble_eq_true rfl) hC) (fun u8 h hp8 hq => ?_)
        refine jj_goto (off := 7) (tgt := 73) (by decide +kernel) (by decide) ?_
        exact jj_wk (js_s (js_s (js_s (js_s (js_s (js_s js_0)))))) (b_MO_maps_73 (o := o) hG hk ho hi hdd ih (by omega) (by omega) hq)
set_option maxRecDepth 100000 in
set_option maxHeartbeats 4000000 in
theorem b_MO_maps_0 {l : Launch} {G : jj_G} {C : mo_C} {u0 o d : Nat} {m : Nat} {i : Nat} {u : Nat} {h : jj_H} (hG : jj_tyG G) (hk : mo_k C) (ho : u0 = 0 ∨ o + m = 41) (hi : i < jj_nS) (hdd : 19 + 20 * m ≤ d) (hle : u ≤ u0) (hq : Pq G C u o h) : jj_P l G y_MO_maps d (mq_V G C o (fun u' => u' ≤ u0)) 0 [some (.ref (C.2.1 0)), some (.ref (G.2.2.2.1 i)), none, none, none, none] [] h := by
  refine jj_iconst (n := 0) (v := 0) (by decide +kernel) (by decide) ?_
  refine jj_istore_n (j := 2) (by decide +kernel) (by decide) rfl ?_
  refine jj_aload_n (j := 0) (by decide +kernel) rfl ?_
  refine jj_aload_n (j := 1) (by decide +kernel) rfl ?_
  refine mq_ci (mq_k hq (fun g hm => m_takes (d := d - 1) (i := i) hG hk hi (by omega) hm)) (fun o1 h1 hC => jj_callV ok_MO_takes ml_MO_150 im_MO_takes se_MO_MO_takes (by decide +kernel) hq.rcv rfl (by omega) (Nat.le_of_ble_eq_true rfl) hC) (fun v1 u1 h hp1 hq => ?_)
  obtain ⟨hp1, hf1⟩ := hp1
  refine jj_istore_n (j := 3) (by decide +kernel) (by decide) rfl ?_
  refine jj_iload_n (j := 3) (by decide +kernel) rfl ?_
  refine jj_if_eq (off := 87) (tgt := 96) (by decide +kernel) (by decide) (fun c2 => ?_) (fun c2 => ?_)
  · skip
    exact jj_wk (js_s (js_s (js_s (js_s (js_n (js_n js_0)))))) (b_MO_maps_96 (o := o) hG hk ho hi hdd (by omega) hq)
  · skip
    have hz2 := hf1 c2
    refine jj_aload_n (j := 0) (by decide +kernel) rfl ?_
    refine jj_ldcW (index := 301) (i := 69) (tx := "map") (by decide +kernel) (List.mem_of_getElem? (i := 70) rfl) ?_
    refine mq_cv (mq_v hq (fun g hm => m_word (d := d - 1) (i := 69) hG hk (by decide) (by omega) hm)) (fun o1 h1 hC => jj_callV ok_MO_word ml_MO_188 im_MO_word se_MO_MO_word (by decide +kernel) hq.rcv rfl (by omega) (Nat.le_of_ble_eq_true rfl) hC) (fun u3 h hp3 hq => ?_)
    refine jj_aload_n (j := 0) (by decide +kernel) rfl ?_
    refine jj_bipush (n := 40) (v := 40) (by decide +kernel) (by decide) ?_
    refine mq_cv (mq_v hq (fun g hm => m_sign (d := d - 1) (x := 40) hG hk (by decide) (by decide) (by omega) hm)) (fun o1 h1 hC => jj_callV ok_MO_sign ml_MO_172 im_MO_sign se_MO_MO_sign (by decide +kernel) hq.rcv rfl (by omega) (Nat.le_of_ble_eq_true rfl) hC) (fun u4 h hp4 hq => ?_)
    refine jj_iconst (n := 1) (v := 1) (by decide +kernel) (by decide) ?_
    refine jj_istore (i := 4) (by decide +kernel) (by decide) rfl ?_
    exact jj_wk (js_s (js_s (js_s (js_s (js_s (js_n js_0)))))) (b_MO_maps_28 (o := o) hG hk ho hi hdd (u4 + 2) _ _ _ u4 _ ⟨Or.inr (by omega), by omega⟩ (by omega) hq)
theorem q_MO_maps {l : Launch} {G : jj_G} {C : mo_C} {u0 o d : Nat} {m : Nat} {i : Nat} {h : jj_H} (hG : jj_tyG G) (hk : mo_k C) (ho : u0 = 0 ∨ o + m = 41) (hi : i < jj_nS) (hdd : 19 + 20 * m ≤ d) (hq : Pq G C u0 o h) : jj_Q l G y_MO_maps d [.ref (C.2.1 0), .ref (G.2.2.2.1 i)] h (mq_V G C o (fun u' => u' ≤ u0)) :=
  jj_Q.of (by decide +kernel) (Nat.le_of_ble_eq_true rfl) (b_MO_maps_0 (o := o) hG hk ho hi hdd (Nat.le_refl _) hq)
set_option maxRecDepth 100000 in
set_option maxHeartbeats 4000000 in
theorem b_MO_flow_48 {l : Launch} {G : jj_G} {C : mo_C} {u0 o d : Nat} {m : Nat} {x1 : Int32} (hG : jj_tyG G) (hk : mo_k C) (ho : u0 = 0 ∨ o + m = 41) (hdd : 20 + 20 * m ≤ d) : ∀ (n : Nat) (x2 : Int32) (x3 : Int32) (x4 : Int32) (u : Nat) (h : jj_H), u < n → u ≤ u0 → Pq G C u o h → jj_P l G y_MO_flow d (mq_V G C o (fun u' => u' ≤ u0)) 48 [some (.ref (C.2.1 0)), some (.int x1), some (.int x2), some (.int x3), some (.int x4)] [] h := by
  intro n
  induction n with
  | zero => intro x2 x3 x4 u h hn0; exact absurd hn0 (Nat.not_lt_zero _)
  | succ n ih =>
    intro x2 x3 x4 u h hn0 hle hq
    refine jj_aload_n (j := 0) (by decide +kernel) rfl ?_
    refine jj_ldcW (index := 338) (i := 56) (tx := "when") (by decide +kernel) (List.mem_of_getElem? (i := 57) rfl) ?_
    refine mq_ci (mq_k hq (fun g hm => m_takes (d := d - 1) (i := 56) hG hk (by decide) (by omega) hm)) (fun o1 h1 hC => jj_callV ok_MO_takes ml_MO_150 im_MO_takes se_MO_MO_takes (by decide +kernel) hq.rcv rfl (by omega) (Nat.le_of_ble_eq_true rfl) hC) (fun v1 u1 h hp1 hq => ?_)
    obtain ⟨hp1, hf1⟩ := hp1
    refine jj_if_eq (off := 36) (tgt := 91) (by decide +kernel) (by decide) (fun c2 => ?_) (fun c2 => ?_)
    · skip
      refine jj_aload_n (j := 0) (by decide +kernel) rfl ?_
      refine jj_bipush (n := 59) (v := 59) (by decide +kernel) (by decide) ?_
      refine mq_cv (mq_v hq (fun g hm => m_sign (d := d - 1) (x := 59) hG hk (by decide) (by decide) (by omega) hm)) (fun o1 h1 hC => jj_callV ok_MO_sign ml_MO_172 im_MO_sign se_MO_MO_sign (by decide +kernel) hq.rcv rfl (by omega) (Nat.le_of_ble_eq_true rfl) hC) (fun u3 h hp3 hq => ?_)
      refine jj_aload_n (j := 0) (by decide +kernel) rfl ?_
      refine jj_bipush (n := 61) (v := 61) (by decide +kernel) (by decide) ?_
      refine jj_iload_n (j := 2) (by decide +kernel) rfl ?_
      refine jj_iload (i := 4) (by decide +kernel) rfl ?_
      refine mq_cv (mq_v hq (fun g hm => m_lay (d := d - 1) hG hk (by omega) hm)) (fun o1 h1 hC => jj_callV ok_MO_lay ml_MO_166 im_MO_lay se_MO_MO_lay (by decide +kernel) hq.rcv rfl (by omega) (Nat.le_of_ble_eq_true rfl) hC) (fun u4 h hp4 hq => ?_)
      exact jj_vret (by decide +kernel) rfl ⟨rfl, u4, by omega, hq⟩
    · skip
      have hz2 := hf1 c2
      refine jj_aload_n (j := 0) (by decide +kernel) rfl ?_
      refine mq_cv (mexpr_all hG hk m _ _ _ (d - 1) (by omega) hq (by omega)) (fun o1 h1 hC => jj_callV ok_MO_expression ml_MO_226 im_MO_expression se_MO_MO_expression (by decide +kernel) hq.rcv rfl (by omega) (Nat.le_of_ble_eq_true rfl) hC) (fun u5 h hp5 hq => ?_)
      refine jj_aload_n (j := 0) (by decide +kernel) rfl ?_
      refine jj_ldcW (index := 340) (i := 54) (tx := "else") (by decide +kernel) (List.mem_of_getElem? (i := 55) rfl) ?_
      refine mq_cv (mq_v hq (fun g hm => m_word (d := d - 1) (i := 54) hG hk (by decide) (by omega) hm)) (fun o1 h1 hC => jj_callV ok_MO_word ml_MO_188 im_MO_word se_MO_MO_word (by decide +kernel) hq.rcv rfl (by omega) (Nat.le_of_ble_eq_true rfl) hC) (fun u6 h hp6 hq => ?_)
      refine jj_aload_n (j := 0) (by decide +kernel) rfl ?_
      refine mq_ci (q_MO_elements (d := d - 1) (m := m) hG hk (by omega) (by omega) hq) (fun o1 h1 hC => jj_callV ok_MO_elements ml_MO_335 im_MO_elements se_MO_MO_elements (by decide +kernel) hq.rcv rfl (by omega) (Nat.le_of_ble_eq_true rfl) hC) (fun v7 u7 h hp7 hq => ?_)
      refine jj_istore_n (j := 3) (by decide +kernel) (by decide) rfl ?_
      refine jj_aload_n (j := 0) (by decide +kernel) rfl ?_
      refine jj_bipush (n := 48) (v := 48) (by decide +kernel) (by decide) ?_
      refine jj_iconst (n := 0) (v := 0) (by decide +kernel) (by decide) ?_
      refine jj_iload_n (j := 3) (by decide +kernel) rfl ?_
      refine mq_cv (mq_v hq (fun g hm => m_lay (d := d - 1) hG hk (by omega) hm)) (fun o1 h1 hC => jj_callV ok_MO_lay ml_MO_166 im_MO_lay se_MO_MO_lay (by decide +kernel) hq.rcv rfl (by omega) (Nat.le_of_ble_eq_true rfl) hC) (fun u8 h hp8 hq => ?_)
      refine jj_iload (i := 4) (by decide +kernel) rfl ?_
      refine jj_iconst (n := 2) (v := 2) (by decide +kernel) (by decide) ?_
      refine jj_iadd (by decide +kernel) ?_
      refine jj_istore (i := 4) (by decide +kernel) (by decide) rfl ?_
      refine jj_goto (off := (-40)) (tgt := 48) (by decide +kernel) (by decide) ?_
      exact jj_wk (js_s (js_s (js_s (js_s (js_s js_0))))) (ih _ _ _ u8 _ (by omega) (by omega) hq)
set_option maxRecDepth 100000 in
set_option maxHeartbeats 4000000 in
theorem b_MO_flow_32 {l : Launch} {G : jj_G} {C : mo_C} {u0 o d : Nat} {m : Nat} {x1 : Int32} {u : Nat} {h : jj_H} {x2 : Int32} (hG : jj_tyG G) (hk : mo_k C) (ho : u0 = 0 ∨ o + m = 41) (hdd : 20 + 20 * m ≤ d) (hle : u ≤ u0) (hq : Pq G C u o h) : jj_P l G y_MO_flow d (mq_V G C o (fun u' => u' ≤ u0)) 32 [some (.ref (C.2.1 0)), some (.int x1), some (.int x2), none, none] [] h := by
  refine jj_aload_n (j := 0) (by decide +kernel) rfl ?_
  refine mq_ci (q_MO_elements (d := d - 1) (m := m) hG hk (by omega) (by omega) hq) (fun o1 h1 hC => jj_callV ok_MO_elements ml_MO_335 im_MO_elements se_MO_MO_elements (by decide +kernel) hq.rcv rfl (by omega) (Nat.le_of_ble_eq_true rfl) hC) (fun v1 u1 h hp1 hq => ?_)
  refine jj_istore_n (j := 3) (by decide +kernel) (by decide) rfl ?_
  refine jj_aload_n (j := 0) (by decide +kernel) rfl ?_
  refine jj_bipush (n := 48) (v := 48) (by decide +kernel) (by decide) ?_
  refine jj_iconst (n := 0) (v := 0) (by decide +kernel) (by decide) ?_
  refine jj_iload_n (j := 3) (by decide +kernel) rfl ?_
  refine mq_cv (mq_v hq (fun g hm => m_lay (d := d - 1) hG hk (by omega) hm)) (fun o1 h1 hC => jj_callV ok_MO_lay ml_MO_166 im_MO_lay se_MO_MO_lay (by decide +kernel) hq.rcv rfl (by omega) (Nat.le_of_ble_eq_true rfl) hC) (fun u2 h hp2 hq => ?_)
  refine jj_iconst (n := 3) (v := 3) (by decide +kernel) (by decide) ?_
  refine jj_istore (i := 4) (by decide +kernel) (by decide) rfl ?_
  exact jj_wk (js_s (js_s (js_s (js_s (js_s js_0))))) (b_MO_flow_48 (o := o) hG hk ho hdd _ _ _ _ u2 _ (Nat.lt_succ_self _) (by omega) hq)
set_option maxRecDepth 100000 in
set_option maxHeartbeats 4000000 in
theorem b_MO_flow_0 {l : Launch} {G : jj_G} {C : mo_C} {u0 o d : Nat} {m : Nat} {x1 : Int32} {u : Nat} {h : jj_H} (hG : jj_tyG G) (hk : mo_k C) (ho : u0 = 0 ∨ o + m = 41) (hdd : 20 + 20 * m ≤ d) (hle : u ≤ u0) (hq : Pq G C u o h) : jj_P l G y_MO_flow d (mq_V G C o (fun u' => u' ≤ u0)) 0 [some (.ref (C.2.1 0)), some (.int x1), none, none, none] [] h := by
  refine jj_aload_n (j := 0) (by decide +kernel) rfl ?_
  refine jj_iload_n (j := 1) (by decide +kernel) rfl ?_
  refine mq_cv (q_MO_target (d := d - 1) (m := m) hG hk (by omega) (by omega) hq) (fun o1 h1 hC => jj_callV ok_MO_target ml_MO_329 im_MO_target se_MO_MO_target (by decide +kernel) hq.rcv rfl (by omega) (Nat.le_of_ble_eq_true rfl) hC) (fun u1 h hp1 hq => ?_)
  refine jj_aload_n (j := 0) (by decide +kernel) rfl ?_
  refine jj_aload_n (j := 0) (by decide +kernel) rfl ?_
  refine jj_bipush (n := 60) (v := 60) (by decide +kernel) (by decide) ?_
  refine mq_ci (mq_k hq (fun g hm => m_takesTwo (d := d - 1) (x := 60) hG hk (by decide) (by decide) (by omega) hm)) (fun o1 h1 hC => jj_callV ok_MO_takesTwo ml_MO_223 im_MO_takesTwo se_MO_MO_takesTwo (by decide +kernel) hq.rcv rfl (by omega) (Nat.le_of_ble_eq_true rfl) hC) (fun v2 u2 h hp2 hq => ?_)
  obtain ⟨hp2, hf2⟩ := hp2
  refine mq_cv (mq_must (d := d - 1) hG hk (by omega) hq) (fun o1 h1 hC => jj_callV ok_MO_must ml_MO_153 im_MO_must se_MO_MO_must (by decide +kernel) hq.rcv rfl (by omega) (Nat.le_of_ble_eq_true rfl) hC) (fun u3 h hp3 hq => ?_)
  refine jj_aload_n (j := 0) (by decide +kernel) rfl ?_
  refine mq_ci (q_MO_mode (d := d - 1) (m := m) hG hk (by omega) (by omega) hq) (fun o1 h1 hC => jj_callV ok_MO_mode ml_MO_332 im_MO_mode se_MO_MO_mode (by decide +kernel) hq.rcv rfl (by omega) (Nat.le_of_ble_eq_true rfl) hC) (fun v4 u4 h hp4 hq => ?_)
  refine jj_istore_n (j := 2) (by decide +kernel) (by decide) rfl ?_
  refine jj_iload_n (j := 2) (by decide +kernel) rfl ?_
  refine jj_iconst (n := 2) (v := 2) (by decide +kernel) (by decide) ?_
  refine jj_icmp_ge (off := 10) (tgt := 32) (by decide +kernel) (by decide) (fun c5 => ?_) (fun c5 => ?_)
  · skip
    exact jj_wk (js_s (js_s (js_s (js_n (js_n js_0))))) (b_MO_flow_32 (o := o) hG hk ho hdd (by omega) hq)
  · skip
    refine jj_aload_n (j := 0) (by decide +kernel) rfl ?_
    refine jj_iconst (n := 0) (v := 0) (by decide +kernel) (by decide) ?_
    refine jj_iconst (n := 0) (v := 0) (by decide +kernel) (by decide) ?_
    refine jj_iconst (n := 0) (v := 0) (by decide +kernel) (by decide) ?_
    refine mq_cv (mq_v hq (fun g hm => m_lay (d := d - 1) hG hk (by omega) hm)) (fun o1 h1 hC => jj_callV ok_MO_lay ml_MO_166 im_MO_lay se_MO_MO_lay (by decide +kernel) hq.rcv rfl (by omega) (Nat.le_of_ble_eq_true rfl) hC) (fun u6 h hp6 hq => ?_)
    exact jj_wk (js_s (js_s (js_s (js_n (js_n js_0))))) (b_MO_flow_32 (o := o) hG hk ho hdd (by omega) hq)
theorem q_MO_flow {l : Launch} {G : jj_G} {C : mo_C} {u0 o d : Nat} {m : Nat} {x1 : Int32} {h : jj_H} (hG : jj_tyG G) (hk : mo_k C) (ho : u0 = 0 ∨ o + m = 41) (hdd : 20 + 20 * m ≤ d) (hq : Pq G C u0 o h) : jj_Q l G y_MO_flow d [.ref (C.2.1 0), .int x1] h (mq_V G C o (fun u' => u' ≤ u0)) :=
  jj_Q.of (by decide +kernel) (Nat.le_of_ble_eq_true rfl) (b_MO_flow_0 (o := o) hG hk ho hdd (Nat.le_refl _) hq)
set_option maxRecDepth 100000 in
set_option maxHeartbeats 4000000 in
theorem b_MO_several_127 {l : Launch} {G : jj_G} {C : mo_C} {u0 o d : Nat} {m : Nat} {x1 : Int32} {u : Nat} {h : jj_H} {x2 y1 y2 y3 : Int32} (hG : jj_tyG G) (hk : mo_k C) (ho : u0 = 0 ∨ o + m = 41) (hdd : 20 + 20 * m ≤ d) (hle : u ≤ u0 - 1) (hfx2 : ∃ z : Nat, z ≤ 16384 ∧ x2 = nI z) (hfy2 : ∃ z : Nat, z ≤ 16384 ∧ y2 = nI z) (hq : Pq G C u o h) : jj_P l G y_MO_several d (mq_I G C o (fun _ u' => u' ≤ u0 - 1)) 127 [some (.ref (C.2.1 0)), some (.int x1), some (.int x2), none] [.int y3, .int y2, .int y1, .ref (C.2.1 0)] h := by
  refine mq_ci (q_MO_again (d := d - 1) hG hk  hfy2 (by omega) hq) (fun o1 h1 hC => jj_callV ok_MO_again ml_MO_229 im_MO_again se_MO_MO_again (by decide +kernel) hq.rcv rfl (by omega) (Nat.le_of_ble_eq_true rfl) hC) (fun v1 u1 h hp1 hq => ?_)
  exact jj_iret .int (by decide +kernel) rfl rfl ⟨_, u1, rfl, by omega, hq⟩
set_option maxRecDepth 100000 in
set_option maxHeartbeats 4000000 in
theorem b_MO_several_113 {l : Launch} {G : jj_G} {C : mo_C} {u0 o d : Nat} {m : Nat} {x1 : Int32} {u : Nat} {h : jj_H} {x2 : Int32} (hG : jj_tyG G) (hk : mo_k C) (ho : u0 = 0 ∨ o + m = 41) (hdd : 20 + 20 * m ≤ d) (hle : u ≤ u0 - 1) (hfx2 : ∃ z : Nat, z ≤ 16384 ∧ x2 = nI z) (hq : Pq G C u o h) : jj_P l G y_MO_several d (mq_I G C o (fun _ u' => u' ≤ u0 - 1)) 113 [some (.ref (C.2.1 0)), some (.int x1), some (.int x2), none] [] h := by
  refine jj_aload_n (j := 0) (by decide +kernel) rfl ?_
  refine jj_iload_n (j := 1) (by decide +kernel) rfl ?_
  refine jj_iload_n (j := 2) (by decide +kernel) rfl ?_
  refine jj_iload_n (j := 1) (by decide +kernel) rfl ?_
  refine jj_bipush (n := 72) (v := 72) (by decide +kernel) (by decide) ?_
  refine jj_icmp_ne (off := 7) (tgt := 126) (by decide +kernel) (by decide) (fun c1 => ?_) (fun c1 => ?_)
  · skip
    refine jj_iconst (n := 2) (v := 2) (by decide +kernel) (by decide) ?_
    exact jj_wk (js_s (js_s (js_s (js_n js_0)))) (b_MO_several_127 (o := o) hG hk ho hdd (by omega) hfx2 hfx2 hq)
  · skip
    refine jj_iconst (n := 3) (v := 3) (by decide +kernel) (by decide) ?_
    refine jj_goto (off := 4) (tgt := 127) (by decide +kernel) (by decide) ?_
    exact jj_wk (js_s (js_s (js_s (js_n js_0)))) (b_MO_several_127 (o := o) hG hk ho hdd (by omega) hfx2 hfx2 hq)
set_option maxRecDepth 100000 in
set_option maxHeartbeats 4000000 in
theorem b_MO_several_86 {l : Launch} {G : jj_G} {C : mo_C} {u0 o d : Nat} {m : Nat} {x1 : Int32} {u : Nat} {h : jj_H} {x2 : Int32} (hG : jj_tyG G) (hk : mo_k C) (ho : u0 = 0 ∨ o + m = 41) (hdd : 20 + 20 * m ≤ d) (hle : u ≤ u0 - 1) (hfx2 : ∃ z : Nat, z ≤ 16384 ∧ x2 = nI z) (hq : Pq G C u o h) : jj_P l G y_MO_several d (mq_I G C o (fun _ u' => u' ≤ u0 - 1)) 86 [some (.ref (C.2.1 0)), some (.int x1), some (.int x2), none] [] h := by
  refine jj_aload_n (j := 0) (by decide +kernel) rfl ?_
  refine mq_cv (q_MO_type (d := d - 1) (m := m) hG hk (by omega) (by omega) hq) (fun o1 h1 hC => jj_callV ok_MO_type ml_MO_220 im_MO_type se_MO_MO_type (by decide +kernel) hq.rcv rfl (by omega) (Nat.le_of_ble_eq_true rfl) hC) (fun u1 h hp1 hq => ?_)
  refine jj_aload_n (j := 0) (by decide +kernel) rfl ?_
  refine jj_bipush (n := 58) (v := 58) (by decide +kernel) (by decide) ?_
  refine mq_ci (mq_k hq (fun g hm => m_takesTwo (d := d - 1) (x := 58) hG hk (by decide) (by decide) (by omega) hm)) (fun o1 h1 hC => jj_callV ok_MO_takesTwo ml_MO_223 im_MO_takesTwo se_MO_MO_takesTwo (by decide +kernel) hq.rcv rfl (by omega) (Nat.le_of_ble_eq_true rfl) hC) (fun v2 u2 h hp2 hq => ?_)
  obtain ⟨hp2, hf2⟩ := hp2
  refine jj_if_eq (off := 10) (tgt := 106) (by decide +kernel) (by decide) (fun c3 => ?_) (fun c3 => ?_)
  · skip
    refine jj_aload_n (j := 0) (by decide +kernel) rfl ?_
    refine jj_iconst (n := 0) (v := 0) (by decide +kernel) (by decide) ?_
    refine jj_iconst (n := 0) (v := 0) (by decide +kernel) (by decide) ?_
    refine jj_iconst (n := 0) (v := 0) (by decide +kernel) (by decide) ?_
    refine mq_cv (mq_v hq (fun g hm => m_lay (d := d - 1) hG hk (by omega) hm)) (fun o1 h1 hC => jj_callV ok_MO_lay ml_MO_166 im_MO_lay se_MO_MO_lay (by decide +kernel) hq.rcv rfl (by omega) (Nat.le_of_ble_eq_true rfl) hC) (fun u4 h hp4 hq => ?_)
    exact jj_wk (js_s (js_s (js_s (js_n js_0)))) (b_MO_several_113 (o := o) hG hk ho hdd (by omega) hfx2 hq)
  · skip
    have hz3 := hf2 c3
    refine jj_aload_n (j := 0) (by decide +kernel) rfl ?_
    refine mq_cv (mexpr_all hG hk m _ _ _ (d - 1) (by omega) hq (by omega)) (fun o1 h1 hC => jj_callV ok_MO_expression ml_MO_226 im_MO_expression se_MO_MO_expression (by decide +kernel) hq.rcv rfl (by omega) (Nat.le_of_ble_eq_true rfl) hC) (fun u5 h hp5 hq => ?_)
    refine jj_goto (off := 10) (tgt := 113) (by decide +kernel) (by decide) ?_
    exact jj_wk (js_s (js_s (js_s (js_n js_0)))) (b_MO_several_113 (o := o) hG hk ho hdd (by omega) hfx2 hq)
set_option maxRecDepth 100000 in
set_option maxHeartbeats 4000000 in
theorem b_MO_several_76 {l : Launch} {G : jj_G} {C : mo_C} {u0 o d : Nat} {m : Nat} {x1 : Int32} {u : Nat} {h : jj_H} {x2 x3 y1 : Int32} (hG : jj_tyG G) (hk : mo_k C) (ho : u0 = 0 ∨ o + m = 41) (hdd : 20 + 20 * m ≤ d) (hle : u ≤ u0 - 1) (hfx2 : ∃ z : Nat, z ≤ 16384 ∧ x2 = nI z) (hq : Pq G C u o h) : jj_P l G y_MO_several d (mq_I G C o (fun _ u' => u' ≤ u0 - 1)) 76 [some (.ref (C.2.1 0)), some (.int x1), some (.int x2), some (.int x3)] [.int y1, .ref (C.2.1 0)] h := by
  refine mq_cv (mq_must (d := d - 1) hG hk (by omega) hq) (fun o1 h1 hC => jj_callV ok_MO_must ml_MO_153 im_MO_must se_MO_MO_must (by decide +kernel) hq.rcv rfl (by omega) (Nat.le_of_ble_eq_true rfl) hC) (fun u1 h hp1 hq => ?_)
  refine jj_aload_n (j := 0) (by decide +kernel) rfl ?_
  refine jj_iconst (n := 2) (v := 2) (by decide +kernel) (by decide) ?_
  refine jj_iload_n (j := 3) (by decide +kernel) rfl ?_
  refine jj_iconst (n := 0) (v := 0) (by decide +kernel) (by decide) ?_
  refine mq_cv (mq_v hq (fun g hm => m_lay (d := d - 1) hG hk (by omega) hm)) (fun o1 h1 hC => jj_callV ok_MO_lay ml_MO_166 im_MO_lay se_MO_MO_lay (by decide +kernel) hq.rcv rfl (by omega) (Nat.le_of_ble_eq_true rfl) hC) (fun u2 h hp2 hq => ?_)
  exact jj_wk (js_s (js_s (js_s (js_n js_0)))) (b_MO_several_86 (o := o) hG hk ho hdd (by omega) hfx2 hq)
set_option maxRecDepth 100000 in
set_option maxHeartbeats 4000000 in
theorem b_MO_several_42 {l : Launch} {G : jj_G} {C : mo_C} {u0 o d : Nat} {m : Nat} {x1 : Int32} {u : Nat} {h : jj_H} {x2 y0 : Int32} (hG : jj_tyG G) (hk : mo_k C) (ho : u0 = 0 ∨ o + m = 41) (hdd : 20 + 20 * m ≤ d) (hle : u ≤ u0 - 1) (hfx2 : ∃ z : Nat, z ≤ 16384 ∧ x2 = nI z) (hfy0 : y0 ≠ 2 → 0 < u ∧ mo_nl C u) (hq : Pq G C u o h) : jj_P l G y_MO_several d (mq_I G C o (fun _ u' => u' ≤ u0 - 1)) 42 [some (.ref (C.2.1 0)), some (.int x1), some (.int x2), none] [.int y0] h := by
  refine jj_istore_n (j := 3) (by decide +kernel) (by decide) rfl ?_
  refine jj_aload_n (j := 0) (by decide +kernel) rfl ?_
  refine jj_aload_n (j := 0) (by decide +kernel) rfl ?_
  refine jj_ldcS (index := 214) (i := 18) (tx := "in") (by decide +kernel) (List.mem_of_getElem? (i := 19) rfl) ?_
  refine mq_ci (mq_k hq (fun g hm => m_takes (d := d - 1) (i := 18) hG hk (by decide) (by omega) hm)) (fun o1 h1 hC => jj_callV ok_MO_takes ml_MO_150 im_MO_takes se_MO_MO_takes (by decide +kernel) hq.rcv rfl (by omega) (Nat.le_of_ble_eq_true rfl) hC) (fun v1 u1 h hp1 hq => ?_)
  obtain ⟨hp1, hf1⟩ := hp1
  refine jj_if_ne (off := 21) (tgt := 71) (by decide +kernel) (by decide) (fun c2 => ?_) (fun c2 => ?_)
  · skip
    have hz2 := hf1 c2
    refine jj_iconst (n := 1) (v := 1) (by decide +kernel) (by decide) ?_
    refine jj_goto (off := 4) (tgt := 76) (by decide +kernel) (by decide) ?_
    exact jj_wk (js_s (js_s (js_s (js_s js_0)))) (b_MO_several_76 (o := o) hG hk ho hdd (by omega) hfx2 hq)
  · skip
    refine jj_aload_n (j := 0) (by decide +kernel) rfl ?_
    refine jj_ldcS (index := 216) (i := 19) (tx := "out") (by decide +kernel) (List.mem_of_getElem? (i := 20) rfl) ?_
    refine mq_ci (mq_k hq (fun g hm => m_takes (d := d - 1) (i := 19) hG hk (by decide) (by omega) hm)) (fun o1 h1 hC => jj_callV ok_MO_takes ml_MO_150 im_MO_takes se_MO_MO_takes (by decide +kernel) hq.rcv rfl (by omega) (Nat.le_of_ble_eq_true rfl) hC) (fun v3 u3 h hp3 hq => ?_)
    obtain ⟨hp3, hf3⟩ := hp3
    refine jj_if_ne (off := 12) (tgt := 71) (by decide +kernel) (by decide) (fun c4 => ?_) (fun c4 => ?_)
    · skip
      have hz4 := hf3 c4
      refine jj_iconst (n := 1) (v := 1) (by decide +kernel) (by decide) ?_
      refine jj_goto (off := 4) (tgt := 76) (by decide +kernel) (by decide) ?_
      exact jj_wk (js_s (js_s (js_s (js_s js_0)))) (b_MO_several_76 (o := o) hG hk ho hdd (by omega) hfx2 hq)
    · skip
      refine jj_aload_n (j := 0) (by decide +kernel) rfl ?_
      refine jj_ldcS (index := 218) (i := 20) (tx := "inout") (by decide +kernel) (List.mem_of_getElem? (i := 21) rfl) ?_
      refine mq_ci (mq_k hq (fun g hm => m_takes (d := d - 1) (i := 20) hG hk (by decide) (by omega) hm)) (fun o1 h1 hC => jj_callV ok_MO_takes ml_MO_150 im_MO_takes se_MO_MO_takes (by decide +kernel) hq.rcv rfl (by omega) (Nat.le_of_ble_eq_true rfl) hC) (fun v5 u5 h hp5 hq => ?_)
      obtain ⟨hp5, hf5⟩ := hp5
      refine jj_if_eq (off := 7) (tgt := 75) (by decide +kernel) (by decide) (fun c6 => ?_) (fun c6 => ?_)
      · skip
        refine jj_iconst (n := 0) (v := 0) (by decide +kernel) (by decide) ?_
        exact jj_wk (js_s (js_s (js_s (js_s js_0)))) (b_MO_several_76 (o := o) hG hk ho hdd (by omega) hfx2 hq)
      · skip
        have hz6 := hf5 c6
        refine jj_iconst (n := 1) (v := 1) (by decide +kernel) (by decide) ?_
        refine jj_goto (off := 4) (tgt := 76) (by decide +kernel) (by decide) ?_
        exact jj_wk (js_s (js_s (js_s (js_s js_0)))) (b_MO_several_76 (o := o) hG hk ho hdd (by omega) hfx2 hq)
set_option maxRecDepth 100000 in
set_option maxHeartbeats 4000000 in
theorem b_MO_several_0 {l : Launch} {G : jj_G} {C : mo_C} {u0 o d : Nat} {m : Nat} {x1 : Int32} {u : Nat} {h : jj_H} (hG : jj_tyG G) (hk : mo_k C) (ho : u0 = 0 ∨ o + m = 41) (hdd : 20 + 20 * m ≤ d) (hle : u ≤ u0) (hq : Pq G C u o h) : jj_P l G y_MO_several d (mq_I G C o (fun _ u' => u' ≤ u0 - 1)) 0 [some (.ref (C.2.1 0)), some (.int x1), none, none] [] h := by
  refine jj_aload_n (j := 0) (by decide +kernel) rfl ?_
  refine mq_cv (q_MO_groupNames (d := d - 1) hG hk  (by omega) hq) (fun o1 h1 hC => jj_callV ok_MO_groupNames ml_MO_211 im_MO_groupNames se_MO_MO_groupNames (by decide +kernel) hq.rcv rfl (by omega) (Nat.le_of_ble_eq_true rfl) hC) (fun u1 h hp1 hq => ?_)
  refine jj_aload_n (j := 0) (by decide +kernel) rfl ?_
  obtain ⟨g, wr, nw, ow, hb, hu⟩ := id hq
  obtain ⟨th, wh, S, b0, hS, hg, ⟨a1, a5, a6, a7, a9, a10⟩, nd, fr, hz⟩ := id hb
  refine jj_getfield 15 ck_MO fl_MO_160 (by decide) (by decide +kernel) b0 rfl ?_
  refine jj_istore_n (j := 2) (by decide +kernel) (by decide) rfl ?_
  refine jj_iload_n (j := 1) (by decide +kernel) rfl ?_
  refine jj_bipush (n := 72) (v := 72) (by decide +kernel) (by decide) ?_
  refine jj_icmp_ne (off := 74) (tgt := 86) (by decide +kernel) (by decide) (fun c2 => ?_) (fun c2 => ?_)
  · skip
    exact jj_wk (js_s (js_s (js_s (js_n js_0)))) (b_MO_several_86 (o := o) hG hk ho hdd (by omega) ⟨S, hS, rfl⟩ hq)
  · skip
    refine jj_aload_n (j := 0) (by decide +kernel) rfl ?_
    refine jj_ldcS (index := 214) (i := 18) (tx := "in") (by decide +kernel) (List.mem_of_getElem? (i := 19) rfl) ?_
    refine mq_ci (mq_i hq (fun g hm => m_isWord (d := d - 1) (i := 18) hG hk (by decide) (by omega) hm) (fun _ _ q => q)) (fun o1 h1 hC => jj_callV ok_MO_isWord ml_MO_137 im_MO_isWord se_MO_MO_isWord (by decide +kernel) hq.rcv rfl (by omega) (Nat.le_of_ble_eq_true rfl) hC) (fun v3 u3 h hp3 hq => ?_)
    obtain ⟨e3, -, hf3⟩ := hp3
    rw [e3] at hq
    refine jj_if_eq (off := 7) (tgt := 28) (by decide +kernel) (by decide) (fun c4 => ?_) (fun c4 => ?_)
    · skip
      refine jj_aload_n (j := 0) (by decide +kernel) rfl ?_
      refine jj_ldcS (index := 216) (i := 19) (tx := "out") (by decide +kernel) (List.mem_of_getElem? (i := 20) rfl) ?_
      refine mq_ci (mq_i hq (fun g hm => m_isWord (d := d - 1) (i := 19) hG hk (by decide) (by omega) hm) (fun _ _ q => q)) (fun o1 h1 hC => jj_callV ok_MO_isWord ml_MO_137 im_MO_isWord se_MO_MO_isWord (by decide +kernel) hq.rcv rfl (by omega) (Nat.le_of_ble_eq_true rfl) hC) (fun v5 u5 h hp5 hq => ?_)
      obtain ⟨e5, -, hf5⟩ := hp5
      rw [e5] at hq
      refine jj_if_eq (off := 7) (tgt := 41) (by decide +kernel) (by decide) (fun c6 => ?_) (fun c6 => ?_)
      · skip
        refine jj_iconst (n := 2) (v := 2) (by decide +kernel) (by decide) ?_
        exact jj_wk (js_s (js_s (js_s (js_n js_0)))) (b_MO_several_42 (o := o) hG hk ho hdd (by omega) ⟨S, hS, rfl⟩ (fun q => absurd rfl q) hq)
      · skip
        have hz6 := hf5 c6
        refine jj_iconst (n := 1) (v := 1) (by decide +kernel) (by decide) ?_
        refine jj_goto (off := 4) (tgt := 42) (by decide +kernel) (by decide) ?_
        exact jj_wk (js_s (js_s (js_s (js_n js_0)))) (b_MO_several_42 (o := o) hG hk ho hdd (by omega) ⟨S, hS, rfl⟩ (fun _ => ⟨by omega, hz6.2⟩) hq)
    · skip
      have hz4 := hf3 c4
      refine jj_iconst (n := 0) (v := 0) (by decide +kernel) (by decide) ?_
      refine jj_goto (off := 17) (tgt := 42) (by decide +kernel) (by decide) ?_
      exact jj_wk (js_s (js_s (js_s (js_n js_0)))) (b_MO_several_42 (o := o) hG hk ho hdd (by omega) ⟨S, hS, rfl⟩ (fun _ => ⟨by omega, hz4.2⟩) hq)
theorem q_MO_several {l : Launch} {G : jj_G} {C : mo_C} {u0 o d : Nat} {m : Nat} {x1 : Int32} {h : jj_H} (hG : jj_tyG G) (hk : mo_k C) (ho : u0 = 0 ∨ o + m = 41) (hdd : 20 + 20 * m ≤ d) (hq : Pq G C u0 o h) : jj_Q l G y_MO_several d [.ref (C.2.1 0), .int x1] h (mq_I G C o (fun _ u' => u' ≤ u0 - 1)) :=
  jj_Q.of (by decide +kernel) (Nat.le_of_ble_eq_true rfl) (b_MO_several_0 (o := o) hG hk ho hdd (Nat.le_refl _) hq)
set_option maxRecDepth 100000 in
set_option maxHeartbeats 4000000 in
theorem b_MO_lists_46 {l : Launch} {G : jj_G} {C : mo_C} {u0 o d : Nat} {m : Nat} {i : Nat} {x2 : Int32} {u : Nat} {h : jj_H} {x3 x4 : Int32} (hG : jj_tyG G) (hk : mo_k C) (ho : u0 = 0 ∨ o + m = 41) (hi : i < jj_nS) (hdd : 21 + 20 * m ≤ d) (hle : u ≤ u0) (hq : Pq G C u o h) : jj_P l G y_MO_lists d (mq_V G C o (fun u' => u' ≤ u0)) 46 [some (.ref (C.2.1 0)), some (.ref (G.2.2.2.1 i)), some (.int x2), some (.int x3), some (.int x4)] [] h := by
  refine jj_aload_n (j := 0) (by decide +kernel) rfl ?_
  refine jj_bipush (n := 48) (v := 48) (by decide +kernel) (by decide) ?_
  refine jj_iconst (n := 0) (v := 0) (by decide +kernel) (by decide) ?_
  refine jj_iload_n (j := 3) (by decide +kernel) rfl ?_
  refine mq_cv (mq_v hq (fun g hm => m_lay (d := d - 1) hG hk (by omega) hm)) (fun o1 h1 hC => jj_callV ok_MO_lay ml_MO_166 im_MO_lay se_MO_MO_lay (by decide +kernel) hq.rcv rfl (by omega) (Nat.le_of_ble_eq_true rfl) hC) (fun u1 h hp1 hq => ?_)
  refine jj_iload (i := 4) (by decide +kernel) rfl ?_
  refine jj_if_eq (off := 15) (tgt := 71) (by decide +kernel) (by decide) (fun c2 => ?_) (fun c2 => ?_)
  · skip
    exact jj_vret (by decide +kernel) rfl ⟨rfl, u1, by omega, hq⟩
  · skip
    refine jj_aload_n (j := 0) (by decide +kernel) rfl ?_
    refine jj_bipush (n := 41) (v := 41) (by decide +kernel) (by decide) ?_
    refine mq_cv (mq_v hq (fun g hm => m_sign (d := d - 1) (x := 41) hG hk (by decide) (by decide) (by omega) hm)) (fun o1 h1 hC => jj_callV ok_MO_sign ml_MO_172 im_MO_sign se_MO_MO_sign (by decide +kernel) hq.rcv rfl (by omega) (Nat.le_of_ble_eq_true rfl) hC) (fun u3 h hp3 hq => ?_)
    refine jj_aload_n (j := 0) (by decide +kernel) rfl ?_
    refine jj_bipush (n := 59) (v := 59) (by decide +kernel) (by decide) ?_
    refine mq_cv (mq_v hq (fun g hm => m_sign (d := d - 1) (x := 59) hG hk (by decide) (by decide) (by omega) hm)) (fun o1 h1 hC => jj_callV ok_MO_sign ml_MO_172 im_MO_sign se_MO_MO_sign (by decide +kernel) hq.rcv rfl (by omega) (Nat.le_of_ble_eq_true rfl) hC) (fun u4 h hp4 hq => ?_)
    exact jj_vret (by decide +kernel) rfl ⟨rfl, u4, by omega, hq⟩
set_option maxRecDepth 100000 in
set_option maxHeartbeats 4000000 in
theorem b_MO_lists_26 {l : Launch} {G : jj_G} {C : mo_C} {u0 o d : Nat} {m : Nat} {i : Nat} {x2 : Int32} (hG : jj_tyG G) (hk : mo_k C) (ho : u0 = 0 ∨ o + m = 41) (hi : i < jj_nS) (hdd : 21 + 20 * m ≤ d) : ∀ (n : Nat) (x3 : Int32) (x4 : Int32) (u : Nat) (h : jj_H), u < n → u ≤ u0 - 1 → Pq G C u o h → jj_P l G y_MO_lists d (mq_V G C o (fun u' => u' ≤ u0)) 26 [some (.ref (C.2.1 0)), some (.ref (G.2.2.2.1 i)), some (.int x2), some (.int x3), some (.int x4)] [] h := by
  intro n
  induction n with
  | zero => intro x3 x4 u h hn0; exact absurd hn0 (Nat.not_lt_zero _)
  | succ n ih =>
    intro x3 x4 u h hn0 hle hq
    refine jj_aload_n (j := 0) (by decide +kernel) rfl ?_
    refine jj_bipush (n := 59) (v := 59) (by decide +kernel) (by decide) ?_
    refine mq_ci (mq_k hq (fun g hm => m_takesMark (d := d - 1) (x := 59) hG hk (by decide) (by decide) (by omega) hm)) (fun o1 h1 hC => jj_callV ok_MO_takesMark ml_MO_157 im_MO_takesMark se_MO_MO_takesMark (by decide +kernel) hq.rcv rfl (by omega) (Nat.le_of_ble_eq_true rfl) hC) (fun v1 u1 h hp1 hq => ?_)
    obtain ⟨hp1, hf1⟩ := hp1
    refine jj_if_eq (off := 14) (tgt := 46) (by decide +kernel) (by decide) (fun c2 => ?_) (fun c2 => ?_)
    · skip
      exact jj_wk (js_s (js_s (js_s (js_s (js_s js_0))))) (b_MO_lists_46 (o := o) hG hk ho hi hdd (by omega) hq)
    · skip
      have hz2 := hf1 c2
      refine jj_iload_n (j := 3) (by decide +kernel) rfl ?_
      refine jj_aload_n (j := 0) (by decide +kernel) rfl ?_
      refine jj_iload_n (j := 2) (by decide +kernel) rfl ?_
      refine mq_ci (q_MO_several (d := d - 1) (m := m) hG hk (by omega) (by omega) hq) (fun o1 h1 hC => jj_callV ok_MO_several ml_MO_205 im_MO_several se_MO_MO_several (by decide +kernel) hq.rcv rfl (by omega) (Nat.le_of_ble_eq_true rfl) hC) (fun v3 u3 h hp3 hq => ?_)
      refine jj_iadd (by decide +kernel) ?_
      refine jj_istore_n (j := 3) (by decide +kernel) (by decide) rfl ?_
      refine jj_goto (off := (-17)) (tgt := 26) (by decide +kernel) (by decide) ?_
      exact jj_wk (js_s (js_s (js_s (js_s (js_s js_0))))) (ih _ _ u3 _ (by omega) (by omega) hq)
set_option maxRecDepth 100000 in
set_option maxHeartbeats 4000000 in
theorem b_MO_lists_0 {l : Launch} {G : jj_G} {C : mo_C} {u0 o d : Nat} {m : Nat} {i : Nat} {x2 : Int32} {u : Nat} {h : jj_H} (hG : jj_tyG G) (hk : mo_k C) (ho : u0 = 0 ∨ o + m = 41) (hi : i < jj_nS) (hdd : 21 + 20 * m ≤ d) (hle : u ≤ u0) (hq : Pq G C u o h) : jj_P l G y_MO_lists d (mq_V G C o (fun u' => u' ≤ u0)) 0 [some (.ref (C.2.1 0)), some (.ref (G.2.2.2.1 i)), some (.int x2), none, none] [] h := by
  refine jj_iconst (n := 0) (v := 0) (by decide +kernel) (by decide) ?_
  refine jj_istore_n (j := 3) (by decide +kernel) (by decide) rfl ?_
  refine jj_aload_n (j := 0) (by decide +kernel) rfl ?_
  refine jj_aload_n (j := 1) (by decide +kernel) rfl ?_
  refine mq_ci (mq_k hq (fun g hm => m_takes (d := d - 1) (i := i) hG hk hi (by omega) hm)) (fun o1 h1 hC => jj_callV ok_MO_takes ml_MO_150 im_MO_takes se_MO_MO_takes (by decide +kernel) hq.rcv rfl (by omega) (Nat.le_of_ble_eq_true rfl) hC) (fun v1 u1 h hp1 hq => ?_)
  obtain ⟨hp1, hf1⟩ := hp1
  refine jj_istore (i := 4) (by decide +kernel) (by decide) rfl ?_
  refine jj_iload (i := 4) (by decide +kernel) rfl ?_
  refine jj_if_eq (off := 35) (tgt := 46) (by decide +kernel) (by decide) (fun c2 => ?_) (fun c2 => ?_)
  · skip
    exact jj_wk (js_s (js_s (js_s (js_s (js_s js_0))))) (b_MO_lists_46 (o := o) hG hk ho hi hdd (by omega) hq)
  · skip
    have hz2 := hf1 c2
    refine jj_aload_n (j := 0) (by decide +kernel) rfl ?_
    refine jj_bipush (n := 40) (v := 40) (by decide +kernel) (by decide) ?_
    refine mq_cv (mq_v hq (fun g hm => m_sign (d := d - 1) (x := 40) hG hk (by decide) (by decide) (by omega) hm)) (fun o1 h1 hC => jj_callV ok_MO_sign ml_MO_172 im_MO_sign se_MO_MO_sign (by decide +kernel) hq.rcv rfl (by omega) (Nat.le_of_ble_eq_true rfl) hC) (fun u3 h hp3 hq => ?_)
    refine jj_aload_n (j := 0) (by decide +kernel) rfl ?_
    refine jj_iload_n (j := 2) (by decide +kernel) rfl ?_
    refine mq_ci (q_MO_several (d := d - 1) (m := m) hG hk (by omega) (by omega) hq) (fun o1 h1 hC => jj_callV ok_MO_several ml_MO_205 im_MO_several se_MO_MO_several (by decide +kernel) hq.rcv rfl (by omega) (Nat.le_of_ble_eq_true rfl) hC) (fun v4 u4 h hp4 hq => ?_)
    refine jj_istore_n (j := 3) (by decide +kernel) (by decide) rfl ?_
    exact jj_wk (js_s (js_s (js_s (js_s (js_s js_0))))) (b_MO_lists_26 (o := o) hG hk ho hi hdd _ _ _ u4 _ (Nat.lt_succ_self _) (by omega) hq)
theorem q_MO_lists {l : Launch} {G : jj_G} {C : mo_C} {u0 o d : Nat} {m : Nat} {i : Nat} {x2 : Int32} {h : jj_H} (hG : jj_tyG G) (hk : mo_k C) (ho : u0 = 0 ∨ o + m = 41) (hi : i < jj_nS) (hdd : 21 + 20 * m ≤ d) (hq : Pq G C u0 o h) : jj_Q l G y_MO_lists d [.ref (C.2.1 0), .ref (G.2.2.2.1 i), .int x2] h (mq_V G C o (fun u' => u' ≤ u0)) :=
  jj_Q.of (by decide +kernel) (Nat.le_of_ble_eq_true rfl) (b_MO_lists_0 (o := o) hG hk ho hi hdd (Nat.le_refl _) hq)
set_option maxRecDepth 100000 in
set_option maxHeartbeats 4000000 in
theorem b_MO_objects_63 {l : Launch} {G : jj_G} {C : mo_C} {u0 o d : Nat} {m : Nat} {x1 : Int32} {u : Nat} {h : jj_H} {x2 : Int32} (hG : jj_tyG G) (hk : mo_k C) (ho : u0 = 0 ∨ o + m = 41) (hdd : 20 + 20 * m ≤ d) (hle : u ≤ u0 - 1) (hfx2 : ∃ z : Nat, z ≤ 16384 ∧ x2 = nI z) (hq : Pq G C u o h) : jj_P l G y_MO_objects d (mq_I G C o (fun _ u' => u' ≤ u0 - 1)) 63 [some (.ref (C.2.1 0)), some (.int x1), some (.int x2)] [] h := by
  refine jj_aload_n (j := 0) (by decide +kernel) rfl ?_
  refine jj_bipush (n := 59) (v := 59) (by decide +kernel) (by decide) ?_
  refine mq_cv (mq_v hq (fun g hm => m_sign (d := d - 1) (x := 59) hG hk (by decide) (by decide) (by omega) hm)) (fun o1 h1 hC => jj_callV ok_MO_sign ml_MO_172 im_MO_sign se_MO_MO_sign (by decide +kernel) hq.rcv rfl (by omega) (Nat.le_of_ble_eq_true rfl) hC) (fun u1 h hp1 hq => ?_)
  refine jj_aload_n (j := 0) (by decide +kernel) rfl ?_
  refine jj_iload_n (j := 1) (by decide +kernel) rfl ?_
  refine jj_iload_n (j := 2) (by decide +kernel) rfl ?_
  refine jj_iconst (n := 2) (v := 2) (by decide +kernel) (by decide) ?_
  refine mq_ci (q_MO_again (d := d - 1) hG hk  hfx2 (by omega) hq) (fun o1 h1 hC => jj_callV ok_MO_again ml_MO_229 im_MO_again se_MO_MO_again (by decide +kernel) hq.rcv rfl (by omega) (Nat.le_of_ble_eq_true rfl) hC) (fun v2 u2 h hp2 hq => ?_)
  exact jj_iret .int (by decide +kernel) rfl rfl ⟨_, u2, rfl, by omega, hq⟩
set_option maxRecDepth 100000 in
set_option maxHeartbeats 4000000 in
theorem b_MO_objects_0 {l : Launch} {G : jj_G} {C : mo_C} {u0 o d : Nat} {m : Nat} {x1 : Int32} {u : Nat} {h : jj_H} (hG : jj_tyG G) (hk : mo_k C) (ho : u0 = 0 ∨ o + m = 41) (hdd : 20 + 20 * m ≤ d) (hle : u ≤ u0) (hn : mo_nl C u) (hps : 0 < u) (hq : Pq G C u o h) : jj_P l G y_MO_objects d (mq_I G C o (fun _ u' => u' ≤ u0 - 1)) 0 [some (.ref (C.2.1 0)), some (.int x1), none] [] h := by
  refine jj_aload_n (j := 0) (by decide +kernel) rfl ?_
  refine mq_cv (mq_v hq (fun g hm => m_on (d := d - 1) hG hk hn (by omega) hm)) (fun o1 h1 hC => jj_callV ok_MO_on ml_MO_141 im_MO_on se_MO_MO_on (by decide +kernel) hq.rcv rfl (by omega) (Nat.le_of_ble_eq_true rfl) hC) (fun u1 h hp1 hq => ?_)
  refine jj_aload_n (j := 0) (by decide +kernel) rfl ?_
  refine mq_cv (q_MO_groupNames (d := d - 1) hG hk  (by omega) hq) (fun o1 h1 hC => jj_callV ok_MO_groupNames ml_MO_211 im_MO_groupNames se_MO_MO_groupNames (by decide +kernel) hq.rcv rfl (by omega) (Nat.le_of_ble_eq_true rfl) hC) (fun u2 h hp2 hq => ?_)
  refine jj_aload_n (j := 0) (by decide +kernel) rfl ?_
  obtain ⟨g, wr, nw, ow, hb, hu⟩ := id hq
  obtain ⟨th, wh, S, b0, hS, hg, ⟨a1, a5, a6, a7, a9, a10⟩, nd, fr, hz⟩ := id hb
  refine jj_getfield 15 ck_MO fl_MO_160 (by decide) (by decide +kernel) b0 rfl ?_
  refine jj_istore_n (j := 2) (by decide +kernel) (by decide) rfl ?_
  refine jj_aload_n (j := 0) (by decide +kernel) rfl ?_
  refine mq_cv (q_MO_type (d := d - 1) (m := m) hG hk (by omega) (by omega) hq) (fun o1 h1 hC => jj_callV ok_MO_type ml_MO_220 im_MO_type se_MO_MO_type (by decide +kernel) hq.rcv rfl (by omega) (Nat.le_of_ble_eq_true rfl) hC) (fun u3 h hp3 hq => ?_)
  refine jj_iload_n (j := 1) (by decide +kernel) rfl ?_
  refine jj_bipush (n := 51) (v := 51) (by decide +kernel) (by decide) ?_
  refine jj_icmp_ne (off := 20) (tgt := 40) (by decide +kernel) (by decide) (fun c4 => ?_) (fun c4 => ?_)
  · skip
    refine jj_aload_n (j := 0) (by decide +kernel) rfl ?_
    refine jj_bipush (n := 58) (v := 58) (by decide +kernel) (by decide) ?_
    refine mq_ci (mq_k hq (fun g hm => m_takesTwo (d := d - 1) (x := 58) hG hk (by decide) (by decide) (by omega) hm)) (fun o1 h1 hC => jj_callV ok_MO_takesTwo ml_MO_223 im_MO_takesTwo se_MO_MO_takesTwo (by decide +kernel) hq.rcv rfl (by omega) (Nat.le_of_ble_eq_true rfl) hC) (fun v5 u5 h hp5 hq => ?_)
    obtain ⟨hp5, hf5⟩ := hp5
    refine jj_if_eq (off := 10) (tgt := 56) (by decide +kernel) (by decide) (fun c6 => ?_) (fun c6 => ?_)
    · skip
      refine jj_aload_n (j := 0) (by decide +kernel) rfl ?_
      refine jj_iconst (n := 0) (v := 0) (by decide +kernel) (by decide) ?_
      refine jj_iconst (n := 0) (v := 0) (by decide +kernel) (by decide) ?_
      refine jj_iconst (n := 0) (v := 0) (by decide +kernel) (by decide) ?_
      refine mq_cv (mq_v hq (fun g hm => m_lay (d := d - 1) hG hk (by omega) hm)) (fun o1 h1 hC => jj_callV ok_MO_lay ml_MO_166 im_MO_lay se_MO_MO_lay (by decide +kernel) hq.rcv rfl (by omega) (Nat.le_of_ble_eq_true rfl) hC) (fun u7 h hp7 hq => ?_)
      exact jj_wk (js_s (js_s (js_s js_0))) (b_MO_objects_63 (o := o) hG hk ho hdd (by omega) ⟨S, hS, rfl⟩ hq)
    · skip
      have hz6 := hf5 c6
      refine jj_aload_n (j := 0) (by decide +kernel) rfl ?_
      refine mq_cv (mexpr_all hG hk m _ _ _ (d - 1) (by omega) hq (by omega)) (fun o1 h1 hC => jj_callV ok_MO_expression ml_MO_226 im_MO_expression se_MO_MO_expression (by decide +kernel) hq.rcv rfl (by omega) (Nat.le_of_ble_eq_true rfl) hC) (fun u8 h hp8 hq => ?_)
      refine jj_goto (off := 10) (tgt := 63) (by decide +kernel) (by decide) ?_
      exact jj_wk (js_s (js_s (js_s js_0))) (b_MO_objects_63 (o := o) hG hk ho hdd (by omega) ⟨S, hS, rfl⟩ hq)
  · skip
    refine jj_aload_n (j := 0) (by decide +kernel) rfl ?_
    refine jj_aload_n (j := 0) (by decide +kernel) rfl ?_
    refine jj_bipush (n := 58) (v := 58) (by decide +kernel) (by decide) ?_
    refine mq_ci (mq_k hq (fun g hm => m_takesTwo (d := d - 1) (x := 58) hG hk (by decide) (by decide) (by omega) hm)) (fun o1 h1 hC => jj_callV ok_MO_takesTwo ml_MO_223 im_MO_takesTwo se_MO_MO_takesTwo (by decide +kernel) hq.rcv rfl (by omega) (Nat.le_of_ble_eq_true rfl) hC) (fun v9 u9 h hp9 hq => ?_)
    obtain ⟨hp9, hf9⟩ := hp9
    refine mq_cv (mq_must (d := d - 1) hG hk (by omega) hq) (fun o1 h1 hC => jj_callV ok_MO_must ml_MO_153 im_MO_must se_MO_MO_must (by decide +kernel) hq.rcv rfl (by omega) (Nat.le_of_ble_eq_true rfl) hC) (fun u10 h hp10 hq => ?_)
    refine jj_aload_n (j := 0) (by decide +kernel) rfl ?_
    refine mq_cv (mexpr_all hG hk m _ _ _ (d - 1) (by omega) hq (by omega)) (fun o1 h1 hC => jj_callV ok_MO_expression ml_MO_226 im_MO_expression se_MO_MO_expression (by decide +kernel) hq.rcv rfl (by omega) (Nat.le_of_ble_eq_true rfl) hC) (fun u11 h hp11 hq => ?_)
    refine jj_goto (off := 26) (tgt := 63) (by decide +kernel) (by decide) ?_
    exact jj_wk (js_s (js_s (js_s js_0))) (b_MO_objects_63 (o := o) hG hk ho hdd (by omega) ⟨S, hS, rfl⟩ hq)
theorem q_MO_objects {l : Launch} {G : jj_G} {C : mo_C} {u0 o d : Nat} {m : Nat} {x1 : Int32} {h : jj_H} (hG : jj_tyG G) (hk : mo_k C) (ho : u0 = 0 ∨ o + m = 41) (hdd : 20 + 20 * m ≤ d) (hn : mo_nl C u0) (hps : 0 < u0) (hq : Pq G C u0 o h) : jj_Q l G y_MO_objects d [.ref (C.2.1 0), .int x1] h (mq_I G C o (fun _ u' => u' ≤ u0 - 1)) :=
  jj_Q.of (by decide +kernel) (Nat.le_of_ble_eq_true rfl) (b_MO_objects_0 (o := o) hG hk ho hdd (Nat.le_refl _) hn hps hq)
set_option maxRecDepth 100000 in
set_option maxHeartbeats 4000000 in
theorem b_MO_enumeration_27 {l : Launch} {G : jj_G} {C : mo_C} {u0 o d : Nat} (hG : jj_tyG G) (hk : mo_k C) (hdd : 9 ≤ d) : ∀ (n : Nat) (x1 : Int32) (x2 : Int32) (u : Nat) (h : jj_H), u < n → u ≤ u0 - 1 → Pq G C u o h → jj_P l G y_MO_enumeration d (mq_I G C o (fun _ u' => u' ≤ u0 - 1)) 27 [some (.ref (C.2.1 0)), some (.int x1), some (.int x2)] [] h := by
  intro n
  induction n with
  | zero => intro x1 x2 u h hn0; exact absurd hn0 (Nat.not_lt_zero _)
  | succ n ih =>
    intro x1 x2 u h hn0 hle hq
    refine jj_aload_n (j := 0) (by decide +kernel) rfl ?_
    refine jj_bipush (n := 44) (v := 44) (by decide +kernel) (by decide) ?_
    refine mq_ci (mq_k hq (fun g hm => m_takesMark (d := d - 1) (x := 44) hG hk (by decide) (by decide) (by omega) hm)) (fun o1 h1 hC => jj_callV ok_MO_takesMark ml_MO_157 im_MO_takesMark se_MO_MO_takesMark (by decide +kernel) hq.rcv rfl (by omega) (Nat.le_of_ble_eq_true rfl) hC) (fun v1 u1 h hp1 hq => ?_)
    obtain ⟨hp1, hf1⟩ := hp1
    refine jj_if_eq (off := 13) (tgt := 46) (by decide +kernel) (by decide) (fun c2 => ?_) (fun c2 => ?_)
    · skip
      refine jj_aload_n (j := 0) (by decide +kernel) rfl ?_
      refine jj_bipush (n := 41) (v := 41) (by decide +kernel) (by decide) ?_
      refine mq_cv (mq_v hq (fun g hm => m_sign (d := d - 1) (x := 41) hG hk (by decide) (by decide) (by omega) hm)) (fun o1 h1 hC => jj_callV ok_MO_sign ml_MO_172 im_MO_sign se_MO_MO_sign (by decide +kernel) hq.rcv rfl (by omega) (Nat.le_of_ble_eq_true rfl) hC) (fun u3 h hp3 hq => ?_)
      refine jj_aload_n (j := 0) (by decide +kernel) rfl ?_
      refine jj_bipush (n := 59) (v := 59) (by decide +kernel) (by decide) ?_
      refine mq_cv (mq_v hq (fun g hm => m_sign (d := d - 1) (x := 59) hG hk (by decide) (by decide) (by omega) hm)) (fun o1 h1 hC => jj_callV ok_MO_sign ml_MO_172 im_MO_sign se_MO_MO_sign (by decide +kernel) hq.rcv rfl (by omega) (Nat.le_of_ble_eq_true rfl) hC) (fun u4 h hp4 hq => ?_)
      refine jj_aload_n (j := 0) (by decide +kernel) rfl ?_
      refine jj_bipush (n := 53) (v := 53) (by decide +kernel) (by decide) ?_
      refine jj_iload_n (j := 1) (by decide +kernel) rfl ?_
      refine jj_iload_n (j := 2) (by decide +kernel) rfl ?_
      refine mq_cv (mq_v hq (fun g hm => m_lay (d := d - 1) hG hk (by omega) hm)) (fun o1 h1 hC => jj_callV ok_MO_lay ml_MO_166 im_MO_lay se_MO_MO_lay (by decide +kernel) hq.rcv rfl (by omega) (Nat.le_of_ble_eq_true rfl) hC) (fun u5 h hp5 hq => ?_)
      refine jj_iconst (n := 1) (v := 1) (by decide +kernel) (by decide) ?_
      exact jj_iret .int (by decide +kernel) rfl rfl ⟨_, u5, rfl, by omega, hq⟩
    · skip
      have hz2 := hf1 c2
      refine jj_aload_n (j := 0) (by decide +kernel) rfl ?_
      refine mq_cv (mq_v hq (fun g hm => m_nameNode (d := d - 1) hG hk (by omega) hm)) (fun o1 h1 hC => jj_callV ok_MO_nameNode ml_MO_241 im_MO_nameNode se_MO_MO_nameNode (by decide +kernel) hq.rcv rfl (by omega) (Nat.le_of_ble_eq_true rfl) hC) (fun u6 h hp6 hq => ?_)
      refine jj_iinc (i := 2) (n := 1) (by decide +kernel) rfl rfl (by decide) rfl ?_
      refine jj_goto (off := (-16)) (tgt := 27) (by decide +kernel) (by decide) ?_
      exact jj_wk (js_s (js_s (js_s js_0))) (ih _ _ u6 _ (by omega) (by omega) hq)
set_option maxRecDepth 100000 in
set_option maxHeartbeats 4000000 in
theorem b_MO_enumeration_0 {l : Launch} {G : jj_G} {C : mo_C} {u0 o d : Nat} {u : Nat} {h : jj_H} (hG : jj_tyG G) (hk : mo_k C) (hdd : 9 ≤ d) (hle : u ≤ u0) (hn : mo_nl C u) (hps : 0 < u) (hq : Pq G C u o h) : jj_P l G y_MO_enumeration d (mq_I G C o (fun _ u' => u' ≤ u0 - 1)) 0 [some (.ref (C.2.1 0)), none, none] [] h := by
  refine jj_aload_n (j := 0) (by decide +kernel) rfl ?_
  refine mq_cv (mq_v hq (fun g hm => m_on (d := d - 1) hG hk hn (by omega) hm)) (fun o1 h1 hC => jj_callV ok_MO_on ml_MO_141 im_MO_on se_MO_MO_on (by decide +kernel) hq.rcv rfl (by omega) (Nat.le_of_ble_eq_true rfl) hC) (fun u1 h hp1 hq => ?_)
  refine jj_aload_n (j := 0) (by decide +kernel) rfl ?_
  refine mq_ci (mq_i hq (fun g hm => m_aName (d := d - 1) hG hk (by omega) hm) (fun _ _ q => q)) (fun o1 h1 hC => jj_callV ok_MO_aName ml_MO_163 im_MO_aName se_MO_MO_aName (by decide +kernel) hq.rcv rfl (by omega) (Nat.le_of_ble_eq_true rfl) hC) (fun v2 u2 h hp2 hq => ?_)
  refine jj_istore_n (j := 1) (by decide +kernel) (by decide) rfl ?_
  refine jj_aload_n (j := 0) (by decide +kernel) rfl ?_
  refine jj_ldcS (index := 186) (i := 16) (tx := "is") (by decide +kernel) (List.mem_of_getElem? (i := 17) rfl) ?_
  refine mq_cv (mq_v hq (fun g hm => m_word (d := d - 1) (i := 16) hG hk (by decide) (by omega) hm)) (fun o1 h1 hC => jj_callV ok_MO_word ml_MO_188 im_MO_word se_MO_MO_word (by decide +kernel) hq.rcv rfl (by omega) (Nat.le_of_ble_eq_true rfl) hC) (fun u3 h hp3 hq => ?_)
  refine jj_aload_n (j := 0) (by decide +kernel) rfl ?_
  refine jj_bipush (n := 40) (v := 40) (by decide +kernel) (by decide) ?_
  refine mq_cv (mq_v hq (fun g hm => m_sign (d := d - 1) (x := 40) hG hk (by decide) (by decide) (by omega) hm)) (fun o1 h1 hC => jj_callV ok_MO_sign ml_MO_172 im_MO_sign se_MO_MO_sign (by decide +kernel) hq.rcv rfl (by omega) (Nat.le_of_ble_eq_true rfl) hC) (fun u4 h hp4 hq => ?_)
  refine jj_iconst (n := 1) (v := 1) (by decide +kernel) (by decide) ?_
  refine jj_istore_n (j := 2) (by decide +kernel) (by decide) rfl ?_
  refine jj_aload_n (j := 0) (by decide +kernel) rfl ?_
  refine mq_cv (mq_v hq (fun g hm => m_nameNode (d := d - 1) hG hk (by omega) hm)) (fun o1 h1 hC => jj_callV ok_MO_nameNode ml_MO_241 im_MO_nameNode se_MO_MO_nameNode (by decide +kernel) hq.rcv rfl (by omega) (Nat.le_of_ble_eq_true rfl) hC) (fun u5 h hp5 hq => ?_)
  exact jj_wk (js_s (js_s (js_s js_0))) (b_MO_enumeration_27 (o := o) hG hk hdd _ _ _ u5 _ (Nat.lt_succ_self _) (by omega) hq)
theorem q_MO_enumeration {l : Launch} {G : jj_G} {C : mo_C} {u0 o d : Nat} {h : jj_H} (hG : jj_tyG G) (hk : mo_k C) (hdd : 9 ≤ d) (hn : mo_nl C u0) (hps : 0 < u0) (hq : Pq G C u0 o h) : jj_Q l G y_MO_enumeration d [.ref (C.2.1 0)] h (mq_I G C o (fun _ u' => u' ≤ u0 - 1)) :=
  jj_Q.of (by decide +kernel) (Nat.le_of_ble_eq_true rfl) (b_MO_enumeration_0 (o := o) hG hk hdd (Nat.le_refl _) hn hps hq)
set_option maxRecDepth 100000 in
set_option maxHeartbeats 4000000 in
theorem b_MO_subtype_0 {l : Launch} {G : jj_G} {C : mo_C} {u0 o d : Nat} {m : Nat} {u : Nat} {h : jj_H} (hG : jj_tyG G) (hk : mo_k C) (ho : u0 = 0 ∨ o + m = 41) (hdd : 20 + 20 * m ≤ d) (hle : u ≤ u0) (hn : mo_nl C u) (hps : 0 < u) (hq : Pq G C u o h) : jj_P l G y_MO_subtype d (mq_I G C o (fun _ u' => u' ≤ u0 - 1)) 0 [some (.ref (C.2.1 0)), none] [] h := by
  refine jj_aload_n (j := 0) (by decide +kernel) rfl ?_
  refine mq_cv (mq_v hq (fun g hm => m_on (d := d - 1) hG hk hn (by omega) hm)) (fun o1 h1 hC => jj_callV ok_MO_on ml_MO_141 im_MO_on se_MO_MO_on (by decide +kernel) hq.rcv rfl (by omega) (Nat.le_of_ble_eq_true rfl) hC) (fun u1 h hp1 hq => ?_)
  refine jj_aload_n (j := 0) (by decide +kernel) rfl ?_
  refine mq_ci (mq_i hq (fun g hm => m_aName (d := d - 1) hG hk (by omega) hm) (fun _ _ q => q)) (fun o1 h1 hC => jj_callV ok_MO_aName ml_MO_163 im_MO_aName se_MO_MO_aName (by decide +kernel) hq.rcv rfl (by omega) (Nat.le_of_ble_eq_true rfl) hC) (fun v2 u2 h hp2 hq => ?_)
  refine jj_istore_n (j := 1) (by decide +kernel) (by decide) rfl ?_
  refine jj_aload_n (j := 0) (by decide +kernel) rfl ?_
  refine jj_ldcS (index := 186) (i := 16) (tx := "is") (by decide +kernel) (List.mem_of_getElem? (i := 17) rfl) ?_
  refine mq_cv (mq_v hq (fun g hm => m_word (d := d - 1) (i := 16) hG hk (by decide) (by omega) hm)) (fun o1 h1 hC => jj_callV ok_MO_word ml_MO_188 im_MO_word se_MO_MO_word (by decide +kernel) hq.rcv rfl (by omega) (Nat.le_of_ble_eq_true rfl) hC) (fun u3 h hp3 hq => ?_)
  refine jj_aload_n (j := 0) (by decide +kernel) rfl ?_
  refine mq_cv (q_MO_type (d := d - 1) (m := m) hG hk (by omega) (by omega) hq) (fun o1 h1 hC => jj_callV ok_MO_type ml_MO_220 im_MO_type se_MO_MO_type (by decide +kernel) hq.rcv rfl (by omega) (Nat.le_of_ble_eq_true rfl) hC) (fun u4 h hp4 hq => ?_)
  refine jj_aload_n (j := 0) (by decide +kernel) rfl ?_
  refine jj_bipush (n := 59) (v := 59) (by decide +kernel) (by decide) ?_
  refine mq_cv (mq_v hq (fun g hm => m_sign (d := d - 1) (x := 59) hG hk (by decide) (by decide) (by omega) hm)) (fun o1 h1 hC => jj_callV ok_MO_sign ml_MO_172 im_MO_sign se_MO_MO_sign (by decide +kernel) hq.rcv rfl (by omega) (Nat.le_of_ble_eq_true rfl) hC) (fun u5 h hp5 hq => ?_)
  refine jj_aload_n (j := 0) (by decide +kernel) rfl ?_
  refine jj_bipush (n := 54) (v := 54) (by decide +kernel) (by decide) ?_
  refine jj_iload_n (j := 1) (by decide +kernel) rfl ?_
  refine jj_iconst (n := 1) (v := 1) (by decide +kernel) (by decide) ?_
  refine mq_cv (mq_v hq (fun g hm => m_lay (d := d - 1) hG hk (by omega) hm)) (fun o1 h1 hC => jj_callV ok_MO_lay ml_MO_166 im_MO_lay se_MO_MO_lay (by decide +kernel) hq.rcv rfl (by omega) (Nat.le_of_ble_eq_true rfl) hC) (fun u6 h hp6 hq => ?_)
  refine jj_iconst (n := 1) (v := 1) (by decide +kernel) (by decide) ?_
  exact jj_iret .int (by decide +kernel) rfl rfl ⟨_, u6, rfl, by omega, hq⟩
theorem q_MO_subtype {l : Launch} {G : jj_G} {C : mo_C} {u0 o d : Nat} {m : Nat} {h : jj_H} (hG : jj_tyG G) (hk : mo_k C) (ho : u0 = 0 ∨ o + m = 41) (hdd : 20 + 20 * m ≤ d) (hn : mo_nl C u0) (hps : 0 < u0) (hq : Pq G C u0 o h) : jj_Q l G y_MO_subtype d [.ref (C.2.1 0)] h (mq_I G C o (fun _ u' => u' ≤ u0 - 1)) :=
  jj_Q.of (by decide +kernel) (Nat.le_of_ble_eq_true rfl) (b_MO_subtype_0 (o := o) hG hk ho hdd (Nat.le_refl _) hn hps hq)
