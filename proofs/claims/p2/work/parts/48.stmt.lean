set_option maxRecDepth 100000 in
set_option maxHeartbeats 4000000 in
theorem b_MO_assignment_82 {l : Launch} {G : jj_G} {C : mo_C} {u0 o d : Nat} {m : Nat} {u : Nat} {h : jj_H} {x1 x2 x3 y2 y3 : Int32} (hG : jj_tyG G) (hk : mo_k C) (ho : u0 = 0 ∨ o + m = 41) (hdd : 20 + 20 * m ≤ d) (hle : u ≤ u0 - 1) (hq : Pq G C u o h) : jj_P l G y_MO_assignment d (mq_V G C o (fun u' => u' ≤ u0 - 1)) 82 [some (.ref (C.2.1 0)), some (.int x1), some (.int x2), some (.int x3)] [.int y3, .int y2, .int 30, .ref (C.2.1 0)] h := by
  refine mq_cv (mq_v hq (fun g hm => m_lay (d := d - 1) hG hk (by omega) hm)) (fun o1 h1 hC => jj_callV ok_MO_lay ml_MO_166 im_MO_lay se_MO_MO_lay (by decide +kernel) hq.rcv rfl (by omega) (Nat.le_of_ble_eq_true rfl) hC) (fun u1 h hp1 hq => ?_)
  exact jj_vret (by decide +kernel) rfl ⟨rfl, u1, by omega, hq⟩
set_option maxRecDepth 100000 in
set_option maxHeartbeats 4000000 in
theorem b_MO_assignment_0 {l : Launch} {G : jj_G} {C : mo_C} {u0 o d : Nat} {m : Nat} {u : Nat} {h : jj_H} (hG : jj_tyG G) (hk : mo_k C) (ho : u0 = 0 ∨ o + m = 41) (hdd : 20 + 20 * m ≤ d) (hle : u ≤ u0) (hq : Pq G C u o h) : jj_P l G y_MO_assignment d (mq_V G C o (fun u' => u' ≤ u0 - 1)) 0 [some (.ref (C.2.1 0)), none, none, none] [] h := by
  refine jj_aload_n (j := 0) (by decide +kernel) rfl ?_
  refine mq_ci (mq_i hq (fun g hm => m_aName (d := d - 1) hG hk (by omega) hm) (fun _ _ q => q)) (fun o1 h1 hC => jj_callV ok_MO_aName ml_MO_163 im_MO_aName se_MO_MO_aName (by decide +kernel) hq.rcv rfl (by omega) (Nat.le_of_ble_eq_true rfl) hC) (fun v1 u1 h hp1 hq => ?_)
  refine jj_istore_n (j := 1) (by decide +kernel) (by decide) rfl ?_
  refine jj_aload_n (j := 0) (by decide +kernel) rfl ?_
  refine jj_iload_n (j := 1) (by decide +kernel) rfl ?_
  refine mq_cv (q_MO_target (d := d - 1) (m := m) hG hk (by omega) (by omega) hq) (fun o1 h1 hC => jj_callV ok_MO_target ml_MO_329 im_MO_target se_MO_MO_target (by decide +kernel) hq.rcv rfl (by omega) (Nat.le_of_ble_eq_true rfl) hC) (fun u2 h hp2 hq => ?_)
  refine jj_aload_n (j := 0) (by decide +kernel) rfl ?_
  refine jj_bipush (n := 58) (v := 58) (by decide +kernel) (by decide) ?_
  refine mq_ci (mq_k hq (fun g hm => m_takesTwo (d := d - 1) (x := 58) hG hk (by decide) (by decide) (by omega) hm)) (fun o1 h1 hC => jj_callV ok_MO_takesTwo ml_MO_223 im_MO_takesTwo se_MO_MO_takesTwo (by decide +kernel) hq.rcv rfl (by omega) (Nat.le_of_ble_eq_true rfl) hC) (fun v3 u3 h hp3 hq => ?_)
  obtain ⟨hp3, hf3⟩ := hp3
  refine jj_if_eq (off := 22) (tgt := 38) (by decide +kernel) (by decide) (fun c4 => ?_) (fun c4 => ?_)
  · skip
    refine jj_aload_n (j := 0) (by decide +kernel) rfl ?_
    refine jj_aload_n (j := 0) (by decide +kernel) rfl ?_
    refine jj_bipush (n := 60) (v := 60) (by decide +kernel) (by decide) ?_
    refine mq_ci (mq_k hq (fun g hm => m_takesTwo (d := d - 1) (x := 60) hG hk (by decide) (by decide) (by omega) hm)) (fun o1 h1 hC => jj_callV ok_MO_takesTwo ml_MO_223 im_MO_takesTwo se_MO_MO_takesTwo (by decide +kernel) hq.rcv rfl (by omega) (Nat.le_of_ble_eq_true rfl) hC) (fun v5 u5 h hp5 hq => ?_)
    obtain ⟨hp5, hf5⟩ := hp5
    refine mq_cv (mq_must (d := d - 1) hG hk (by omega) hq) (fun o1 h1 hC => jj_callV ok_MO_must ml_MO_153 im_MO_must se_MO_MO_must (by decide +kernel) hq.rcv rfl (by omega) (Nat.le_of_ble_eq_true rfl) hC) (fun u6 h hp6 hq => ?_)
    refine jj_aload_n (j := 0) (by decide +kernel) rfl ?_
    refine mq_ci (q_MO_mode (d := d - 1) (m := m) hG hk (by omega) (by omega) hq) (fun o1 h1 hC => jj_callV ok_MO_mode ml_MO_332 im_MO_mode se_MO_MO_mode (by decide +kernel) hq.rcv rfl (by omega) (Nat.le_of_ble_eq_true rfl) hC) (fun v7 u7 h hp7 hq => ?_)
    refine jj_istore_n (j := 2) (by decide +kernel) (by decide) rfl ?_
    refine jj_aload_n (j := 0) (by decide +kernel) rfl ?_
    refine mq_ci (q_MO_elements (d := d - 1) (m := m) hG hk (by omega) (by omega) hq) (fun o1 h1 hC => jj_callV ok_MO_elements ml_MO_335 im_MO_elements se_MO_MO_elements (by decide +kernel) hq.rcv rfl (by omega) (Nat.le_of_ble_eq_true rfl) hC) (fun v8 u8 h hp8 hq => ?_)
    refine jj_istore_n (j := 3) (by decide +kernel) (by decide) rfl ?_
    refine jj_aload_n (j := 0) (by decide +kernel) rfl ?_
    refine jj_bipush (n := 59) (v := 59) (by decide +kernel) (by decide) ?_
    refine mq_cv (mq_v hq (fun g hm => m_sign (d := d - 1) (x := 59) hG hk (by decide) (by decide) (by omega) hm)) (fun o1 h1 hC => jj_callV ok_MO_sign ml_MO_172 im_MO_sign se_MO_MO_sign (by decide +kernel) hq.rcv rfl (by omega) (Nat.le_of_ble_eq_true rfl) hC) (fun u9 h hp9 hq => ?_)
    refine jj_aload_n (j := 0) (by decide +kernel) rfl ?_
    refine jj_bipush (n := 30) (v := 30) (by decide +kernel) (by decide) ?_
    refine jj_iload_n (j := 2) (by decide +kernel) rfl ?_
    refine jj_iload_n (j := 2) (by decide +kernel) rfl ?_
    refine jj_iconst (n := 2) (v := 2) (by decide +kernel) (by decide) ?_
    refine jj_icmp_ne (off := 9) (tgt := 79) (by decide +kernel) (by decide) (fun c10 => ?_) (fun c10 => ?_)
    · skip
      refine jj_iload_n (j := 3) (by decide +kernel) rfl ?_
      refine jj_iconst (n := 1) (v := 1) (by decide +kernel) (by decide) ?_
      refine jj_iadd (by decide +kernel) ?_
      exact jj_wk (js_s (js_s (js_s (js_s js_0)))) (b_MO_assignment_82 (o := o) hG hk ho hdd (by omega) hq)
    · skip
      refine jj_iload_n (j := 3) (by decide +kernel) rfl ?_
      refine jj_iconst (n := 2) (v := 2) (by decide +kernel) (by decide) ?_
      refine jj_iadd (by decide +kernel) ?_
      refine jj_goto (off := 6) (tgt := 82) (by decide +kernel) (by decide) ?_
      exact jj_wk (js_s (js_s (js_s (js_s js_0)))) (b_MO_assignment_82 (o := o) hG hk ho hdd (by omega) hq)
  · skip
    have hz4 := hf3 c4
    refine jj_aload_n (j := 0) (by decide +kernel) rfl ?_
    refine mq_cv (mexpr_all hG hk m _ _ _ (d - 1) (by omega) hq (by omega)) (fun o1 h1 hC => jj_callV ok_MO_expression ml_MO_226 im_MO_expression se_MO_MO_expression (by decide +kernel) hq.rcv rfl (by omega) (Nat.le_of_ble_eq_true rfl) hC) (fun u11 h hp11 hq => ?_)
    refine jj_aload_n (j := 0) (by decide +kernel) rfl ?_
    refine jj_bipush (n := 59) (v := 59) (by decide +kernel) (by decide) ?_
    refine mq_cv (mq_v hq (fun g hm => m_sign (d := d - 1) (x := 59) hG hk (by decide) (by decide) (by omega) hm)) (fun o1 h1 hC => jj_callV ok_MO_sign ml_MO_172 im_MO_sign se_MO_MO_sign (by decide +kernel) hq.rcv rfl (by omega) (Nat.le_of_ble_eq_true rfl) hC) (fun u12 h hp12 hq => ?_)
    refine jj_aload_n (j := 0) (by decide +kernel) rfl ?_
    refine jj_bipush (n := 33) (v := 33) (by decide +kernel) (by decide) ?_
    refine jj_iconst (n := 0) (v := 0) (by decide +kernel) (by decide) ?_
    refine jj_iconst (n := 2) (v := 2) (by decide +kernel) (by decide) ?_
    refine mq_cv (mq_v hq (fun g hm => m_lay (d := d - 1) hG hk (by omega) hm)) (fun o1 h1 hC => jj_callV ok_MO_lay ml_MO_166 im_MO_lay se_MO_MO_lay (by decide +kernel) hq.rcv rfl (by omega) (Nat.le_of_ble_eq_true rfl) hC) (fun u13 h hp13 hq => ?_)
    exact jj_vret (by decide +kernel) rfl ⟨rfl, u13, by omega, hq⟩
theorem q_MO_assignment {l : Launch} {G : jj_G} {C : mo_C} {u0 o d : Nat} {m : Nat} {h : jj_H} (hG : jj_tyG G) (hk : mo_k C) (ho : u0 = 0 ∨ o + m = 41) (hdd : 20 + 20 * m ≤ d) (hq : Pq G C u0 o h) : jj_Q l G y_MO_assignment d [.ref (C.2.1 0)] h (mq_V G C o (fun u' => u' ≤ u0 - 1)) :=
  jj_Q.of (by decide +kernel) (Nat.le_of_ble_eq_true rfl) (b_MO_assignment_0 (o := o) hG hk ho hdd (Nat.le_refl _) hq)
set_option maxRecDepth 100000 in
set_option maxHeartbeats 4000000 in
theorem b_MO_leave_28 {l : Launch} {G : jj_G} {C : mo_C} {u0 o d : Nat} {m : Nat} {x1 : Int32} {u : Nat} {h : jj_H} (hG : jj_tyG G) (hk : mo_k C) (ho : u0 = 0 ∨ o + m = 41) (hdd : 19 + 20 * m ≤ d) (hle : u ≤ u0 - 1) (hq : Pq G C u o h) : jj_P l G y_MO_leave d (mq_V G C o (fun u' => u' ≤ u0 - 1)) 28 [some (.ref (C.2.1 0)), some (.int x1)] [] h := by
  refine jj_aload_n (j := 0) (by decide +kernel) rfl ?_
  refine jj_bipush (n := 59) (v := 59) (by decide +kernel) (by decide) ?_
  refine mq_cv (mq_v hq (fun g hm => m_sign (d := d - 1) (x := 59) hG hk (by decide) (by decide) (by omega) hm)) (fun o1 h1 hC => jj_callV ok_MO_sign ml_MO_172 im_MO_sign se_MO_MO_sign (by decide +kernel) hq.rcv rfl (by omega) (Nat.le_of_ble_eq_true rfl) hC) (fun u1 h hp1 hq => ?_)
  refine jj_aload_n (j := 0) (by decide +kernel) rfl ?_
  refine jj_iload_n (j := 1) (by decide +kernel) rfl ?_
  refine jj_iconst (n := 0) (v := 0) (by decide +kernel) (by decide) ?_
  refine jj_iconst (n := 1) (v := 1) (by decide +kernel) (by decide) ?_
  refine mq_cv (mq_v hq (fun g hm => m_lay (d := d - 1) hG hk (by omega) hm)) (fun o1 h1 hC => jj_callV ok_MO_lay ml_MO_166 im_MO_lay se_MO_MO_lay (by decide +kernel) hq.rcv rfl (by omega) (Nat.le_of_ble_eq_true rfl) hC) (fun u2 h hp2 hq => ?_)
  exact jj_vret (by decide +kernel) rfl ⟨rfl, u2, by omega, hq⟩
set_option maxRecDepth 100000 in
set_option maxHeartbeats 4000000 in
theorem b_MO_leave_0 {l : Launch} {G : jj_G} {C : mo_C} {u0 o d : Nat} {m : Nat} {x1 : Int32} {u : Nat} {h : jj_H} (hG : jj_tyG G) (hk : mo_k C) (ho : u0 = 0 ∨ o + m = 41) (hdd : 19 + 20 * m ≤ d) (hle : u ≤ u0) (hn : mo_nl C u) (hps : 0 < u) (hq : Pq G C u o h) : jj_P l G y_MO_leave d (mq_V G C o (fun u' => u' ≤ u0 - 1)) 0 [some (.ref (C.2.1 0)), some (.int x1)] [] h := by
  refine jj_aload_n (j := 0) (by decide +kernel) rfl ?_
  refine mq_cv (mq_v hq (fun g hm => m_on (d := d - 1) hG hk hn (by omega) hm)) (fun o1 h1 hC => jj_callV ok_MO_on ml_MO_141 im_MO_on se_MO_MO_on (by decide +kernel) hq.rcv rfl (by omega) (Nat.le_of_ble_eq_true rfl) hC) (fun u1 h hp1 hq => ?_)
  refine jj_aload_n (j := 0) (by decide +kernel) rfl ?_
  refine jj_ldcW (index := 338) (i := 56) (tx := "when") (by decide +kernel) (List.mem_of_getElem? (i := 57) rfl) ?_
  refine mq_ci (mq_k hq (fun g hm => m_takes (d := d - 1) (i := 56) hG hk (by decide) (by omega) hm)) (fun o1 h1 hC => jj_callV ok_MO_takes ml_MO_150 im_MO_takes se_MO_MO_takes (by decide +kernel) hq.rcv rfl (by omega) (Nat.le_of_ble_eq_true rfl) hC) (fun v2 u2 h hp2 hq => ?_)
  obtain ⟨hp2, hf2⟩ := hp2
  refine jj_if_eq (off := 10) (tgt := 21) (by decide +kernel) (by decide) (fun c3 => ?_) (fun c3 => ?_)
  · skip
    refine jj_aload_n (j := 0) (by decide +kernel) rfl ?_
    refine jj_iconst (n := 0) (v := 0) (by decide +kernel) (by decide) ?_
    refine jj_iconst (n := 0) (v := 0) (by decide +kernel) (by decide) ?_
    refine jj_iconst (n := 0) (v := 0) (by decide +kernel) (by decide) ?_
    refine mq_cv (mq_v hq (fun g hm => m_lay (d := d - 1) hG hk (by omega) hm)) (fun o1 h1 hC => jj_callV ok_MO_lay ml_MO_166 im_MO_lay se_MO_MO_lay (by decide +kernel) hq.rcv rfl (by omega) (Nat.le_of_ble_eq_true rfl) hC) (fun u4 h hp4 hq => ?_)
    exact jj_wk (js_s (js_s js_0)) (b_MO_leave_28 (o := o) hG hk ho hdd (by omega) hq)
  · skip
    have hz3 := hf2 c3
    refine jj_aload_n (j := 0) (by decide +kernel) rfl ?_
    refine mq_cv (mexpr_all hG hk m _ _ _ (d - 1) (by omega) hq (by omega)) (fun o1 h1 hC => jj_callV ok_MO_expression ml_MO_226 im_MO_expression se_MO_MO_expression (by decide +kernel) hq.rcv rfl (by omega) (Nat.le_of_ble_eq_true rfl) hC) (fun u5 h hp5 hq => ?_)
    refine jj_goto (off := 10) (tgt := 28) (by decide +kernel) (by decide) ?_
    exact jj_wk (js_s (js_s js_0)) (b_MO_leave_28 (o := o) hG hk ho hdd (by omega) hq)
theorem q_MO_leave {l : Launch} {G : jj_G} {C : mo_C} {u0 o d : Nat} {m : Nat} {x1 : Int32} {h : jj_H} (hG : jj_tyG G) (hk : mo_k C) (ho : u0 = 0 ∨ o + m = 41) (hdd : 19 + 20 * m ≤ d) (hn : mo_nl C u0) (hps : 0 < u0) (hq : Pq G C u0 o h) : jj_Q l G y_MO_leave d [.ref (C.2.1 0), .int x1] h (mq_V G C o (fun u' => u' ≤ u0 - 1)) :=
  jj_Q.of (by decide +kernel) (Nat.le_of_ble_eq_true rfl) (b_MO_leave_0 (o := o) hG hk ho hdd (Nat.le_refl _) hn hps hq)
set_option maxRecDepth 100000 in
set_option maxHeartbeats 4000000 in
theorem b_MO_waits_79 {l : Launch} {G : jj_G} {C : mo_C} {u0 o d : Nat} {m : Nat} {u : Nat} {h : jj_H} {x1 : Int32} (hG : jj_tyG G) (hk : mo_k C) (ho : u0 = 0 ∨ o + m = 41) (hdd : 19 + 20 * m ≤ d) (hle : u ≤ u0 - 1) (hq : Pq G C u o h) : jj_P l G y_MO_waits d (mq_V G C o (fun u' => u' ≤ u0 - 1)) 79 [some (.ref (C.2.1 0)), some (.int x1)] [] h := by
  refine jj_aload_n (j := 0) (by decide +kernel) rfl ?_
  refine jj_bipush (n := 59) (v := 59) (by decide +kernel) (by decide) ?_
  refine mq_cv (mq_v hq (fun g hm => m_sign (d := d - 1) (x := 59) hG hk (by decide) (by decide) (by omega) hm)) (fun o1 h1 hC => jj_callV ok_MO_sign ml_MO_172 im_MO_sign se_MO_MO_sign (by decide +kernel) hq.rcv rfl (by omega) (Nat.le_of_ble_eq_true rfl) hC) (fun u1 h hp1 hq => ?_)
  refine jj_aload_n (j := 0) (by decide +kernel) rfl ?_
  refine jj_bipush (n := 44) (v := 44) (by decide +kernel) (by decide) ?_
  refine jj_iconst (n := 0) (v := 0) (by decide +kernel) (by decide) ?_
  refine jj_iconst (n := 3) (v := 3) (by decide +kernel) (by decide) ?_
  refine mq_cv (mq_v hq (fun g hm => m_lay (d := d - 1) hG hk (by omega) hm)) (fun o1 h1 hC => jj_callV ok_MO_lay ml_MO_166 im_MO_lay se_MO_MO_lay (by decide +kernel) hq.rcv rfl (by omega) (Nat.le_of_ble_eq_true rfl) hC) (fun u2 h hp2 hq => ?_)
  exact jj_vret (by decide +kernel) rfl ⟨rfl, u2, by omega, hq⟩
set_option maxRecDepth 100000 in
set_option maxHeartbeats 4000000 in
theorem b_MO_waits_55 {l : Launch} {G : jj_G} {C : mo_C} {u0 o d : Nat} {m : Nat} {u : Nat} {h : jj_H} {x1 : Int32} (hG : jj_tyG G) (hk : mo_k C) (ho : u0 = 0 ∨ o + m = 41) (hdd : 19 + 20 * m ≤ d) (hle : u ≤ u0 - 1) (hq : Pq G C u o h) : jj_P l G y_MO_waits d (mq_V G C o (fun u' => u' ≤ u0 - 1)) 55 [some (.ref (C.2.1 0)), some (.int x1)] [] h := by
  refine jj_aload_n (j := 0) (by decide +kernel) rfl ?_
  refine jj_ldcW (index := 282) (i := 58) (tx := "for") (by decide +kernel) (List.mem_of_getElem? (i := 59) rfl) ?_
  refine mq_ci (mq_k hq (fun g hm => m_takes (d := d - 1) (i := 58) hG hk (by decide) (by omega) hm)) (fun o1 h1 hC => jj_callV ok_MO_takes ml_MO_150 im_MO_takes se_MO_MO_takes (by decide +kernel) hq.rcv rfl (by omega) (Nat.le_of_ble_eq_true rfl) hC) (fun v1 u1 h hp1 hq => ?_)
  obtain ⟨hp1, hf1⟩ := hp1
  refine jj_if_eq (off := 10) (tgt := 72) (by decide +kernel) (by decide) (fun c2 => ?_) (fun c2 => ?_)
  · skip
    refine jj_aload_n (j := 0) (by decide +kernel) rfl ?_
    refine jj_iconst (n := 0) (v := 0) (by decide +kernel) (by decide) ?_
    refine jj_iconst (n := 0) (v := 0) (by decide +kernel) (by decide) ?_
    refine jj_iconst (n := 0) (v := 0) (by decide +kernel) (by decide) ?_
    refine mq_cv (mq_v hq (fun g hm => m_lay (d := d - 1) hG hk (by omega) hm)) (fun o1 h1 hC => jj_callV ok_MO_lay ml_MO_166 im_MO_lay se_MO_MO_lay (by decide +kernel) hq.rcv rfl (by omega) (Nat.le_of_ble_eq_true rfl) hC) (fun u3 h hp3 hq => ?_)
    exact jj_wk (js_s (js_s js_0)) (b_MO_waits_79 (o := o) hG hk ho hdd (by omega) hq)
  · skip
    have hz2 := hf1 c2
    refine jj_aload_n (j := 0) (by decide +kernel) rfl ?_
    refine mq_cv (q_MO_time (d := d - 1) (m := m) hG hk (by omega) (by omega) hq) (fun o1 h1 hC => jj_callV ok_MO_time ml_MO_319 im_MO_time se_MO_MO_time (by decide +kernel) hq.rcv rfl (by omega) (Nat.le_of_ble_eq_true rfl) hC) (fun u4 h hp4 hq => ?_)
    refine jj_goto (off := 10) (tgt := 79) (by decide +kernel) (by decide) ?_
    exact jj_wk (js_s (js_s js_0)) (b_MO_waits_79 (o := o) hG hk ho hdd (by omega) hq)
set_option maxRecDepth 100000 in
set_option maxHeartbeats 4000000 in
theorem b_MO_waits_22 {l : Launch} {G : jj_G} {C : mo_C} {u0 o d : Nat} {m : Nat} {u : Nat} {h : jj_H} {y0 : Int32} (hG : jj_tyG G) (hk : mo_k C) (ho : u0 = 0 ∨ o + m = 41) (hdd : 19 + 20 * m ≤ d) (hle : u ≤ u0 - 1) (hq : Pq G C u o h) : jj_P l G y_MO_waits d (mq_V G C o (fun u' => u' ≤ u0 - 1)) 22 [some (.ref (C.2.1 0)), none] [.int y0] h := by
  refine jj_istore_n (j := 1) (by decide +kernel) (by decide) rfl ?_
  refine jj_aload_n (j := 0) (by decide +kernel) rfl ?_
  refine jj_bipush (n := 48) (v := 48) (by decide +kernel) (by decide) ?_
  refine jj_iconst (n := 0) (v := 0) (by decide +kernel) (by decide) ?_
  refine jj_iload_n (j := 1) (by decide +kernel) rfl ?_
  refine mq_cv (mq_v hq (fun g hm => m_lay (d := d - 1) hG hk (by omega) hm)) (fun o1 h1 hC => jj_callV ok_MO_lay ml_MO_166 im_MO_lay se_MO_MO_lay (by decide +kernel) hq.rcv rfl (by omega) (Nat.le_of_ble_eq_true rfl) hC) (fun u1 h hp1 hq => ?_)
  refine jj_aload_n (j := 0) (by decide +kernel) rfl ?_
  refine jj_ldcW (index := 393) (i := 65) (tx := "until") (by decide +kernel) (List.mem_of_getElem? (i := 66) rfl) ?_
  refine mq_ci (mq_k hq (fun g hm => m_takes (d := d - 1) (i := 65) hG hk (by decide) (by omega) hm)) (fun o1 h1 hC => jj_callV ok_MO_takes ml_MO_150 im_MO_takes se_MO_MO_takes (by decide +kernel) hq.rcv rfl (by omega) (Nat.le_of_ble_eq_true rfl) hC) (fun v2 u2 h hp2 hq => ?_)
  obtain ⟨hp2, hf2⟩ := hp2
  refine jj_if_eq (off := 10) (tgt := 48) (by decide +kernel) (by decide) (fun c3 => ?_) (fun c3 => ?_)
  · skip
    refine jj_aload_n (j := 0) (by decide +kernel) rfl ?_
    refine jj_iconst (n := 0) (v := 0) (by decide +kernel) (by decide) ?_
    refine jj_iconst (n := 0) (v := 0) (by decide +kernel) (by decide) ?_
    refine jj_iconst (n := 0) (v := 0) (by decide +kernel) (by decide) ?_
    refine mq_cv (mq_v hq (fun g hm => m_lay (d := d - 1) hG hk (by omega) hm)) (fun o1 h1 hC => jj_callV ok_MO_lay ml_MO_166 im_MO_lay se_MO_MO_lay (by decide +kernel) hq.rcv rfl (by omega) (Nat.le_of_ble_eq_true rfl) hC) (fun u4 h hp4 hq => ?_)
    exact jj_wk (js_s (js_s js_0)) (b_MO_waits_55 (o := o) hG hk ho hdd (by omega) hq)
  · skip
    have hz3 := hf2 c3
    refine jj_aload_n (j := 0) (by decide +kernel) rfl ?_
    refine mq_cv (mexpr_all hG hk m _ _ _ (d - 1) (by omega) hq (by omega)) (fun o1 h1 hC => jj_callV ok_MO_expression ml_MO_226 im_MO_expression se_MO_MO_expression (by decide +kernel) hq.rcv rfl (by omega) (Nat.le_of_ble_eq_true rfl) hC) (fun u5 h hp5 hq => ?_)
    refine jj_goto (off := 10) (tgt := 55) (by decide +kernel) (by decide) ?_
    exact jj_wk (js_s (js_s js_0)) (b_MO_waits_55 (o := o) hG hk ho hdd (by omega) hq)
set_option maxRecDepth 100000 in
set_option maxHeartbeats 4000000 in
theorem b_MO_waits_0 {l : Launch} {G : jj_G} {C : mo_C} {u0 o d : Nat} {m : Nat} {u : Nat} {h : jj_H} (hG : jj_tyG G) (hk : mo_k C) (ho : u0 = 0 ∨ o + m = 41) (hdd : 19 + 20 * m ≤ d) (hle : u ≤ u0) (hn : mo_nl C u) (hps : 0 < u) (hq : Pq G C u o h) : jj_P l G y_MO_waits d (mq_V G C o (fun u' => u' ≤ u0 - 1)) 0 [some (.ref (C.2.1 0)), none] [] h := by
  refine jj_aload_n (j := 0) (by decide +kernel) rfl ?_
  refine mq_cv (mq_v hq (fun g hm => m_on (d := d - 1) hG hk hn (by omega) hm)) (fun o1 h1 hC => jj_callV ok_MO_on ml_MO_141 im_MO_on se_MO_MO_on (by decide +kernel) hq.rcv rfl (by omega) (Nat.le_of_ble_eq_true rfl) hC) (fun u1 h hp1 hq => ?_)
  refine jj_aload_n (j := 0) (by decide +kernel) rfl ?_
  refine jj_ldcW (index := 392) (i := 64) (tx := "on") (by decide +kernel) (List.mem_of_getElem? (i := 65) rfl) ?_
  refine mq_ci (mq_k hq (fun g hm => m_takes (d := d - 1) (i := 64) hG hk (by decide) (by omega) hm)) (fun o1 h1 hC => jj_callV ok_MO_takes ml_MO_150 im_MO_takes se_MO_MO_takes (by decide +kernel) hq.rcv rfl (by omega) (Nat.le_of_ble_eq_true rfl) hC) (fun v2 u2 h hp2 hq => ?_)
  obtain ⟨hp2, hf2⟩ := hp2
  refine jj_if_eq (off := 10) (tgt := 21) (by decide +kernel) (by decide) (fun c3 => ?_) (fun c3 => ?_)
  · skip
    refine jj_iconst (n := 0) (v := 0) (by decide +kernel) (by decide) ?_
    exact jj_wk (js_s (js_n js_0)) (b_MO_waits_22 (o := o) hG hk ho hdd (by omega) hq)
  · skip
    have hz3 := hf2 c3
    refine jj_aload_n (j := 0) (by decide +kernel) rfl ?_
    refine mq_ci (q_MO_nameNodes (d := d - 1) hG hk  (by omega) hq) (fun o1 h1 hC => jj_callV ok_MO_nameNodes ml_MO_292 im_MO_nameNodes se_MO_MO_nameNodes (by decide +kernel) hq.rcv rfl (by omega) (Nat.le_of_ble_eq_true rfl) hC) (fun v4 u4 h hp4 hq => ?_)
    refine jj_goto (off := 4) (tgt := 22) (by decide +kernel) (by decide) ?_
    exact jj_wk (js_s (js_n js_0)) (b_MO_waits_22 (o := o) hG hk ho hdd (by omega) hq)
theorem q_MO_waits {l : Launch} {G : jj_G} {C : mo_C} {u0 o d : Nat} {m : Nat} {h : jj_H} (hG : jj_tyG G) (hk : mo_k C) (ho : u0 = 0 ∨ o + m = 41) (hdd : 19 + 20 * m ≤ d) (hn : mo_nl C u0) (hps : 0 < u0) (hq : Pq G C u0 o h) : jj_Q l G y_MO_waits d [.ref (C.2.1 0)] h (mq_V G C o (fun u' => u' ≤ u0 - 1)) :=
  jj_Q.of (by decide +kernel) (Nat.le_of_ble_eq_true rfl) (b_MO_waits_0 (o := o) hG hk ho hdd (Nat.le_refl _) hn hps hq)
set_option maxRecDepth 100000 in
set_option maxHeartbeats 4000000 in
theorem b_MO_nothing_0 {l : Launch} {G : jj_G} {C : mo_C} {u0 o d : Nat} {u : Nat} {h : jj_H} (hG : jj_tyG G) (hk : mo_k C) (hdd : 5 ≤ d) (hle : u ≤ u0) (hn : mo_nl C u) (hps : 0 < u) (hq : Pq G C u o h) : jj_P l G y_MO_nothing d (mq_V G C o (fun u' => u' ≤ u0 - 1)) 0 [some (.ref (C.2.1 0))] [] h := by
  refine jj_aload_n (j := 0) (by decide +kernel) rfl ?_
  refine mq_cv (mq_v hq (fun g hm => m_on (d := d - 1) hG hk hn (by omega) hm)) (fun o1 h1 hC => jj_callV ok_MO_on ml_MO_141 im_MO_on se_MO_MO_on (by decide +kernel) hq.rcv rfl (by omega) (Nat.le_of_ble_eq_true rfl) hC) (fun u1 h hp1 hq => ?_)
  refine jj_aload_n (j := 0) (by decide +kernel) rfl ?_
  refine jj_bipush (n := 59) (v := 59) (by decide +kernel) (by decide) ?_
  refine mq_cv (mq_v hq (fun g hm => m_sign (d := d - 1) (x := 59) hG hk (by decide) (by decide) (by omega) hm)) (fun o1 h1 hC => jj_callV ok_MO_sign ml_MO_172 im_MO_sign se_MO_MO_sign (by decide +kernel) hq.rcv rfl (by omega) (Nat.le_of_ble_eq_true rfl) hC) (fun u2 h hp2 hq => ?_)
  refine jj_aload_n (j := 0) (by decide +kernel) rfl ?_
  refine jj_bipush (n := 45) (v := 45) (by decide +kernel) (by decide) ?_
  refine jj_iconst (n := 0) (v := 0) (by decide +kernel) (by decide) ?_
  refine jj_iconst (n := 0) (v := 0) (by decide +kernel) (by decide) ?_
  refine mq_cv (mq_v hq (fun g hm => m_lay (d := d - 1) hG hk (by omega) hm)) (fun o1 h1 hC => jj_callV ok_MO_lay ml_MO_166 im_MO_lay se_MO_MO_lay (by decide +kernel) hq.rcv rfl (by omega) (Nat.le_of_ble_eq_true rfl) hC) (fun u3 h hp3 hq => ?_)
  exact jj_vret (by decide +kernel) rfl ⟨rfl, u3, by omega, hq⟩
theorem q_MO_nothing {l : Launch} {G : jj_G} {C : mo_C} {u0 o d : Nat} {h : jj_H} (hG : jj_tyG G) (hk : mo_k C) (hdd : 5 ≤ d) (hn : mo_nl C u0) (hps : 0 < u0) (hq : Pq G C u0 o h) : jj_Q l G y_MO_nothing d [.ref (C.2.1 0)] h (mq_V G C o (fun u' => u' ≤ u0 - 1)) :=
  jj_Q.of (by decide +kernel) (Nat.le_of_ble_eq_true rfl) (b_MO_nothing_0 (o := o) hG hk hdd (Nat.le_refl _) hn hps hq)
set_option maxRecDepth 100000 in
set_option maxHeartbeats 4000000 in
theorem b_MO_report_25 {l : Launch} {G : jj_G} {C : mo_C} {u0 o d : Nat} {m : Nat} {x1 : Int32} {u : Nat} {h : jj_H} (hG : jj_tyG G) (hk : mo_k C) (ho : u0 = 0 ∨ o + m = 41) (hdd : 19 + 20 * m ≤ d) (hle : u ≤ u0 - 1) (hq : Pq G C u o h) : jj_P l G y_MO_report d (mq_V G C o (fun u' => u' ≤ u0 - 1)) 25 [some (.ref (C.2.1 0)), some (.int x1)] [] h := by
  refine jj_aload_n (j := 0) (by decide +kernel) rfl ?_
  refine jj_bipush (n := 59) (v := 59) (by decide +kernel) (by decide) ?_
  refine mq_cv (mq_v hq (fun g hm => m_sign (d := d - 1) (x := 59) hG hk (by decide) (by decide) (by omega) hm)) (fun o1 h1 hC => jj_callV ok_MO_sign ml_MO_172 im_MO_sign se_MO_MO_sign (by decide +kernel) hq.rcv rfl (by omega) (Nat.le_of_ble_eq_true rfl) hC) (fun u1 h hp1 hq => ?_)
  refine jj_aload_n (j := 0) (by decide +kernel) rfl ?_
  refine jj_iload_n (j := 1) (by decide +kernel) rfl ?_
  refine jj_iconst (n := 0) (v := 0) (by decide +kernel) (by decide) ?_
  refine jj_iload_n (j := 1) (by decide +kernel) rfl ?_
  refine jj_bipush (n := 45) (v := 45) (by decide +kernel) (by decide) ?_
  refine jj_isub (by decide +kernel) ?_
  refine mq_cv (mq_v hq (fun g hm => m_lay (d := d - 1) hG hk (by omega) hm)) (fun o1 h1 hC => jj_callV ok_MO_lay ml_MO_166 im_MO_lay se_MO_MO_lay (by decide +kernel) hq.rcv rfl (by omega) (Nat.le_of_ble_eq_true rfl) hC) (fun u2 h hp2 hq => ?_)
  exact jj_vret (by decide +kernel) rfl ⟨rfl, u2, by omega, hq⟩
set_option maxRecDepth 100000 in
set_option maxHeartbeats 4000000 in
theorem b_MO_report_0 {l : Launch} {G : jj_G} {C : mo_C} {u0 o d : Nat} {m : Nat} {x1 : Int32} {u : Nat} {h : jj_H} (hG : jj_tyG G) (hk : mo_k C) (ho : u0 = 0 ∨ o + m = 41) (hdd : 19 + 20 * m ≤ d) (hle : u ≤ u0) (hn : mo_nl C u) (hps : 0 < u) (hq : Pq G C u o h) : jj_P l G y_MO_report d (mq_V G C o (fun u' => u' ≤ u0 - 1)) 0 [some (.ref (C.2.1 0)), some (.int x1)] [] h := by
  refine jj_aload_n (j := 0) (by decide +kernel) rfl ?_
  refine mq_cv (mq_v hq (fun g hm => m_on (d := d - 1) hG hk hn (by omega) hm)) (fun o1 h1 hC => jj_callV ok_MO_on ml_MO_141 im_MO_on se_MO_MO_on (by decide +kernel) hq.rcv rfl (by omega) (Nat.le_of_ble_eq_true rfl) hC) (fun u1 h hp1 hq => ?_)
  refine jj_aload_n (j := 0) (by decide +kernel) rfl ?_
  refine mq_cv (mexpr_all hG hk m _ _ _ (d - 1) (by omega) hq (by omega)) (fun o1 h1 hC => jj_callV ok_MO_expression ml_MO_226 im_MO_expression se_MO_MO_expression (by decide +kernel) hq.rcv rfl (by omega) (Nat.le_of_ble_eq_true rfl) hC) (fun u2 h hp2 hq => ?_)
  refine jj_iload_n (j := 1) (by decide +kernel) rfl ?_
  refine jj_bipush (n := 47) (v := 47) (by decide +kernel) (by decide) ?_
  refine jj_icmp_ne (off := 14) (tgt := 25) (by decide +kernel) (by decide) (fun c3 => ?_) (fun c3 => ?_)
  · skip
    exact jj_wk (js_s (js_s js_0)) (b_MO_report_25 (o := o) hG hk ho hdd (by omega) hq)
  · skip
    refine jj_aload_n (j := 0) (by decide +kernel) rfl ?_
    refine jj_ldcW (index := 380) (i := 67) (tx := "report") (by decide +kernel) (List.mem_of_getElem? (i := 68) rfl) ?_
    refine mq_cv (mq_v hq (fun g hm => m_word (d := d - 1) (i := 67) hG hk (by decide) (by omega) hm)) (fun o1 h1 hC => jj_callV ok_MO_word ml_MO_188 im_MO_word se_MO_MO_word (by decide +kernel) hq.rcv rfl (by omega) (Nat.le_of_ble_eq_true rfl) hC) (fun u4 h hp4 hq => ?_)
    refine jj_aload_n (j := 0) (by decide +kernel) rfl ?_
    refine mq_cv (mexpr_all hG hk m _ _ _ (d - 1) (by omega) hq (by omega)) (fun o1 h1 hC => jj_callV ok_MO_expression ml_MO_226 im_MO_expression se_MO_MO_expression (by decide +kernel) hq.rcv rfl (by omega) (Nat.le_of_ble_eq_true rfl) hC) (fun u5 h hp5 hq => ?_)
    exact jj_wk (js_s (js_s js_0)) (b_MO_report_25 (o := o) hG hk ho hdd (by omega) hq)
theorem q_MO_report {l : Launch} {G : jj_G} {C : mo_C} {u0 o d : Nat} {m : Nat} {x1 : Int32} {h : jj_H} (hG : jj_tyG G) (hk : mo_k C) (ho : u0 = 0 ∨ o + m = 41) (hdd : 19 + 20 * m ≤ d) (hn : mo_nl C u0) (hps : 0 < u0) (hq : Pq G C u0 o h) : jj_Q l G y_MO_report d [.ref (C.2.1 0), .int x1] h (mq_V G C o (fun u' => u' ≤ u0 - 1)) :=
  jj_Q.of (by decide +kernel) (Nat.le_of_ble_eq_true rfl) (b_MO_report_0 (o := o) hG hk ho hdd (Nat.le_refl _) hn hps hq)
set_option maxRecDepth 100000 in
set_option maxHeartbeats 4000000 in
theorem b_MO_branches_59 {l : Launch} {G : jj_G} {C : mo_C} {u0 o d : Nat} {m : Nat} {u : Nat} {h : jj_H} {x1 x2 : Int32} (hG : jj_tyG G) (hk : mo_k C) (ho : u0 = 0 ∨ o + m = 41) (hT : 0 < m → mo_St l G C (m - 1)) (hdd : 20 + 20 * m ≤ d) (hm1 : 0 < m) (hle : u ≤ u0 - 1) (hq : Pq G C u (o + 1) h) : jj_P l G y_MO_branches d (mq_V G C o (fun u' => u' ≤ u0 - 1)) 59 [some (.ref (C.2.1 0)), some (.int x1), some (.int x2)] [] h := by
  refine jj_aload_n (j := 0) (by decide +kernel) rfl ?_
  refine jj_ldcS (index := 200) (i := 37) (tx := "end") (by decide +kernel) (List.mem_of_getElem? (i := 38) rfl) ?_
  refine mq_cv (mq_v hq (fun g hm => m_word (d := d - 1) (i := 37) hG hk (by decide) (by omega) hm)) (fun o1 h1 hC => jj_callV ok_MO_word ml_MO_188 im_MO_word se_MO_MO_word (by decide +kernel) hq.rcv rfl (by omega) (Nat.le_of_ble_eq_true rfl) hC) (fun u1 h hp1 hq => ?_)
  refine jj_aload_n (j := 0) (by decide +kernel) rfl ?_
  refine jj_ldcW (index := 287) (i := 51) (tx := "if") (by decide +kernel) (List.mem_of_getElem? (i := 52) rfl) ?_
  refine mq_cv (mq_v hq (fun g hm => m_word (d := d - 1) (i := 51) hG hk (by decide) (by omega) hm)) (fun o1 h1 hC => jj_callV ok_MO_word ml_MO_188 im_MO_word se_MO_MO_word (by decide +kernel) hq.rcv rfl (by omega) (Nat.le_of_ble_eq_true rfl) hC) (fun u2 h hp2 hq => ?_)
  refine jj_aload_n (j := 0) (by decide +kernel) rfl ?_
  refine jj_bipush (n := 59) (v := 59) (by decide +kernel) (by decide) ?_
  refine mq_cv (mq_v hq (fun g hm => m_closes (d := d - 1) (x := 59) hG hk (by decide) (by decide) (by omega) hm)) (fun o1 h1 hC => jj_callV ok_MO_closes ml_MO_312 im_MO_closes se_MO_MO_closes (by decide +kernel) hq.rcv rfl (by omega) (Nat.le_of_ble_eq_true rfl) hC) (fun u3 h hp3 hq => ?_)
  refine jj_aload_n (j := 0) (by decide +kernel) rfl ?_
  refine jj_bipush (n := 34) (v := 34) (by decide +kernel) (by decide) ?_
  refine jj_iconst (n := 0) (v := 0) (by decide +kernel) (by decide) ?_
  refine jj_iload_n (j := 1) (by decide +kernel) rfl ?_
  refine mq_cv (mq_v hq (fun g hm => m_lay (d := d - 1) hG hk (by omega) hm)) (fun o1 h1 hC => jj_callV ok_MO_lay ml_MO_166 im_MO_lay se_MO_MO_lay (by decide +kernel) hq.rcv rfl (by omega) (Nat.le_of_ble_eq_true rfl) hC) (fun u4 h hp4 hq => ?_)
  exact jj_vret (by decide +kernel) rfl ⟨rfl, u4, by omega, hq⟩
set_option maxRecDepth 100000 in
set_option maxHeartbeats 4000000 in
theorem b_MO_branches_8 {l : Launch} {G : jj_G} {C : mo_C} {u0 o d : Nat} {m : Nat} (hG : jj_tyG G) (hk : mo_k C) (ho : u0 = 0 ∨ o + m = 41) (hT : 0 < m → mo_St l G C (m - 1)) (hdd : 20 + 20 * m ≤ d) (hm1 : 0 < m) : ∀ (n : Nat) (x1 : Int32) (x2 : Int32) (u : Nat) (h : jj_H), (x2 = 0 ∨ u + 1 < n) ∧ 0 < n → u ≤ u0 - 1 → Pq G C u (o + 1) h → jj_P l G y_MO_branches d (mq_V G C o (fun u' => u' ≤ u0 - 1)) 8 [some (.ref (C.2.1 0)), some (.int x1), some (.int x2)] [] h := by
  intro n
  induction n with
  | zero => intro x1 x2 u h hn0; exact absurd hn0.2 (Nat.lt_irrefl _)
  | succ n ih =>
    intro x1 x2 u h hn0 hle hq
    refine jj_iload_n (j := 2) (by decide +kernel) rfl ?_
    refine jj_if_eq (off := 33) (tgt := 42) (by decide +kernel) (by decide) (fun c1 => ?_) (fun c1 => ?_)
    · skip
      refine jj_aload_n (j := 0) (by decide +kernel) rfl ?_
      refine jj_ldcW (index := 340) (i := 54) (tx := "else") (by decide +kernel) (List.mem_of_getElem? (i := 55) rfl) ?_
      refine mq_ci (mq_k hq (fun g hm => m_takes (d := d - 1) (i := 54) hG hk (by decide) (by omega) hm)) (fun o1 h1 hC => jj_callV ok_MO_takes ml_MO_150 im_MO_takes se_MO_MO_takes (by decide +kernel) hq.rcv rfl (by omega) (Nat.le_of_ble_eq_true rfl) hC) (fun v2 u2 h hp2 hq => ?_)
      obtain ⟨hp2, hf2⟩ := hp2
      refine jj_if_eq (off := 10) (tgt := 59) (by decide +kernel) (by decide) (fun c3 => ?_) (fun c3 => ?_)
      · skip
        exact jj_wk (js_s (js_s (js_s js_0))) (b_MO_branches_59 (o := o) hG hk ho hT hdd hm1 (by omega) hq)
      · skip
        have hz3 := hf2 c3
        refine jj_aload_n (j := 0) (by decide +kernel) rfl ?_
        refine mq_cv (hT hm1 _ _ _ (d - 1) (by omega) hq (by omega)) (fun o1 h1 hC => jj_callV ok_MO_statements ml_MO_295 im_MO_statements se_MO_MO_statements (by decide +kernel) hq.rcv rfl (by omega) (Nat.le_of_ble_eq_true rfl) hC) (fun u4 h hp4 hq => ?_)
        refine jj_iinc (i := 1) (n := 1) (by decide +kernel) rfl rfl (by decide) rfl ?_
        exact jj_wk (js_s (js_s (js_s js_0))) (b_MO_branches_59 (o := o) hG hk ho hT hdd hm1 (by omega) hq)
    · skip
      have hn0 := hn0.1.resolve_left c1
      refine jj_aload_n (j := 0) (by decide +kernel) rfl ?_
      refine mq_cv (mexpr_all hG hk (m - 1) _ _ _ (d - 1) (by omega) hq (by omega)) (fun o1 h1 hC => jj_callV ok_MO_expression ml_MO_226 im_MO_expression se_MO_MO_expression (by decide +kernel) hq.rcv rfl (by omega) (Nat.le_of_ble_eq_true rfl) hC) (fun u5 h hp5 hq => ?_)
      refine jj_aload_n (j := 0) (by decide +kernel) rfl ?_
      refine jj_ldcW (index := 386) (i := 52) (tx := "then") (by decide +kernel) (List.mem_of_getElem? (i := 53) rfl) ?_
      refine mq_cv (mq_v hq (fun g hm => m_word (d := d - 1) (i := 52) hG hk (by decide) (by omega) hm)) (fun o1 h1 hC => jj_callV ok_MO_word ml_MO_188 im_MO_word se_MO_MO_word (by decide +kernel) hq.rcv rfl (by omega) (Nat.le_of_ble_eq_true rfl) hC) (fun u6 h hp6 hq => ?_)
      refine jj_aload_n (j := 0) (by decide +kernel) rfl ?_
      refine mq_cv (hT hm1 _ _ _ (d - 1) (by omega) hq (by omega)) (fun o1 h1 hC => jj_callV ok_MO_statements ml_MO_295 im_MO_statements se_MO_MO_statements (by decide +kernel) hq.rcv rfl (by omega) (Nat.le_of_ble_eq_true rfl) hC) (fun u7 h hp7 hq => ?_)
      refine jj_iload_n (j := 1) (by decide +kernel) rfl ?_
      refine jj_iconst (n := 2) (v := 2) (by decide +kernel) (by decide) ?_
      refine jj_iadd (by decide +kernel) ?_
      refine jj_istore_n (j := 1) (by decide +kernel) (by decide) rfl ?_
      refine jj_aload_n (j := 0) (by decide +kernel) rfl ?_
      refine jj_ldcW (index := 388) (i := 53) (tx := "elsif") (by decide +kernel) (List.mem_of_getElem? (i := 54) rfl) ?_
      refine mq_ci (mq_k hq (fun g hm => m_takes (d := d - 1) (i := 53) hG hk (by decide) (by omega) hm)) (fun o1 h1 hC => jj_callV ok_MO_takes ml_MO_150 im_MO_takes se_MO_MO_takes (by decide +kernel) hq.rcv rfl (by omega) (Nat.le_of_ble_eq_true rfl) hC) (fun v8 u8 h hp8 hq => ?_)
      obtain ⟨hp8, hf8⟩ := hp8
      refine jj_istore_n (j := 2) (by decide +kernel) (by decide) rfl ?_
      refine jj_goto (off := (-31)) (tgt := 8) (by decide +kernel) (by decide) ?_
      exact jj_wk (js_s (js_s (js_s js_0))) (ih _ _ u8 _ ⟨(Classical.em (_ = 0)).elim Or.inl (fun z => Or.inr (by have z9 := hf8 z; omega)), by omega⟩ (by omega) hq)
set_option maxRecDepth 100000 in
set_option maxHeartbeats 4000000 in
theorem b_MO_branches_0 {l : Launch} {G : jj_G} {C : mo_C} {u0 o d : Nat} {m : Nat} {u : Nat} {h : jj_H} (hG : jj_tyG G) (hk : mo_k C) (ho : u0 = 0 ∨ o + m = 41) (hT : 0 < m → mo_St l G C (m - 1)) (hdd : 20 + 20 * m ≤ d) (hle : u ≤ u0) (hn : mo_nl C u) (hps : 0 < u) (hq : Pq G C u o h) : jj_P l G y_MO_branches d (mq_V G C o (fun u' => u' ≤ u0 - 1)) 0 [some (.ref (C.2.1 0)), none, none] [] h := by
  refine jj_aload_n (j := 0) (by decide +kernel) rfl ?_
  have hm1 : 0 < m := by have h40 := hq.le (by omega); omega
  refine mq_cv (mq_v hq (fun g hm => m_opens (d := d - 1) hG hk hn (by omega) hm)) (fun o1 h1 hC => jj_callV ok_MO_opens ml_MO_304 im_MO_opens se_MO_MO_opens (by decide +kernel) hq.rcv rfl (by omega) (Nat.le_of_ble_eq_true rfl) hC) (fun u1 h hp1 hq => ?_)
  obtain ⟨hp1, hq1⟩ := hp1
  refine jj_iconst (n := 0) (v := 0) (by decide +kernel) (by decide) ?_
  refine jj_istore_n (j := 1) (by decide +kernel) (by decide) rfl ?_
  refine jj_iconst (n := 1) (v := 1) (by decide +kernel) (by decide) ?_
  refine jj_istore_n (j := 2) (by decide +kernel) (by decide) rfl ?_
  exact jj_wk (js_s (js_s (js_s js_0))) (b_MO_branches_8 (o := o) hG hk ho hT hdd hm1 (u1 + 2) _ _ u1 _ ⟨Or.inr (by omega), by omega⟩ (by omega) hq)
theorem q_MO_branches {l : Launch} {G : jj_G} {C : mo_C} {u0 o d : Nat} {m : Nat} {h : jj_H} (hG : jj_tyG G) (hk : mo_k C) (ho : u0 = 0 ∨ o + m = 41) (hT : 0 < m → mo_St l G C (m - 1)) (hdd : 20 + 20 * m ≤ d) (hn : mo_nl C u0) (hps : 0 < u0) (hq : Pq G C u0 o h) : jj_Q l G y_MO_branches d [.ref (C.2.1 0)] h (mq_V G C o (fun u' => u' ≤ u0 - 1)) :=
  jj_Q.of (by decide +kernel) (Nat.le_of_ble_eq_true rfl) (b_MO_branches_0 (o := o) hG hk ho hT hdd (Nat.le_refl _) hn hps hq)
set_option maxRecDepth 100000 in
set_option maxHeartbeats 4000000 in
theorem b_MO_cases_34 {l : Launch} {G : jj_G} {C : mo_C} {u0 o d : Nat} {m : Nat} {x1 x2 : Int32} (hG : jj_tyG G) (hk : mo_k C) (hm1 : 0 < m) (ho : u0 = 0 ∨ o + m = 41) (hdd : 20 + 20 * m ≤ d) : ∀ (n : Nat) (x3 x4 : Int32) (u : Nat) (h : jj_H), ((x4 = 0 ∨ u + 1 < n) ∧ 0 < n) → Pq G C u (o + 1) h → u ≤ u0 → (∀ (x3 : Int32) (u' : Nat) (h : jj_H), u' ≤ u → Pq G C u' (o + 1) h → jj_P l G y_MO_cases d (mq_V G C o (fun u' => u' ≤ u0 - 1)) 78 [some (.ref (C.2.1 0)), some (.int x1), some (.int x2), some (.int x3), none] [] h) → (0 < u → o < 40) → jj_P l G y_MO_cases d (mq_V G C o (fun u' => u' ≤ u0 - 1)) 34 [some (.ref (C.2.1 0)), some (.int x1), some (.int x2), some (.int x3), some (.int x4)] [] h := by
  intro n
  induction n with
  | zero => intro x3 x4 u h hn0; exact absurd hn0.2 (Nat.lt_irrefl _)
  | succ n ih0 =>
    intro x3 x4 u h hn0 hq hle kk h40
    have ih : ∀ (x3 x4 : Int32) (u1 : Nat) (h : jj_H), ((x4 = 0 ∨ u1 + 1 < n) ∧ 0 < n) → Pq G C u1 (o + 1) h → (∀ (x3 : Int32) (u' : Nat) (h : jj_H), u' ≤ u1 → Pq G C u' (o + 1) h → jj_P l G y_MO_cases d (mq_V G C o (fun u' => u' ≤ u0 - 1)) 78 [some (.ref (C.2.1 0)), some (.int x1), some (.int x2), some (.int x3), none] [] h) → u1 ≤ u → jj_P l G y_MO_cases d (mq_V G C o (fun u' => u' ≤ u0 - 1)) 34 [some (.ref (C.2.1 0)), some (.int x1), some (.int x2), some (.int x3), some (.int x4)] [] h := fun x3 x4 u1 h a b c e => ih0 x3 x4 u1 h a b (by omega) c (fun q => h40 (by omega))
    refine jj_iload (i := 4) (by decide +kernel) rfl ?_
    refine jj_if_eq (off := 42) (tgt := 78) (by decide +kernel) (by decide) (fun c1 => ?_) (fun c1 => ?_)
    · exact jj_wk (js_s (js_s (js_s (js_s (js_n js_0))))) (kk x3 u h (Nat.le_refl _) hq)
    · have hn1 := hn0.1.resolve_left c1
      refine jj_aload_n (j := 0) (by decide +kernel) rfl ?_
      refine jj_ldcW (index := 390) (i := 57) (tx := "others") (by decide +kernel) (List.mem_of_getElem? (i := 58) rfl) ?_
      refine mq_ci (mq_k hq (fun g hm => m_takes (d := d - 1) (i := 57) hG hk (by decide) (by omega) hm)) (fun o1 h1 hC => jj_callV ok_MO_takes ml_MO_150 im_MO_takes se_MO_MO_takes (by decide +kernel) hq.rcv rfl (by omega) (Nat.le_of_ble_eq_true rfl) hC) (fun v2 u2 h hp2 hq => ?_)
      obtain ⟨hp2, hf2⟩ := hp2
      refine jj_if_eq (off := 14) (tgt := 60) (by decide +kernel) (by decide) (fun c2 => ?_) (fun c2 => ?_)
      · refine jj_aload_n (j := 0) (by decide +kernel) rfl ?_
        refine mq_cv (mexpr_all hG hk (m - 1) _ _ _ (d - 1) (by omega) hq (by omega)) (fun o1 h1 hC => jj_callV ok_MO_expression ml_MO_226 im_MO_expression se_MO_MO_expression (by decide +kernel) hq.rcv rfl (by omega) (Nat.le_of_ble_eq_true rfl) hC) (fun u3 h hp3 hq => ?_)
        refine jj_iinc (i := 3) (n := 1) (by decide +kernel) rfl rfl (by decide) rfl ?_
        refine jj_aload_n (j := 0) (by decide +kernel) rfl ?_
        refine jj_bipush (n := 124) (v := 124) (by decide +kernel) (by decide) ?_
        refine mq_ci (mq_k hq (fun g hm => m_takesMark (d := d - 1) (x := 124) hG hk (by decide) (by decide) (by omega) hm)) (fun o1 h1 hC => jj_callV ok_MO_takesMark ml_MO_157 im_MO_takesMark se_MO_MO_takesMark (by decide +kernel) hq.rcv rfl (by omega) (Nat.le_of_ble_eq_true rfl) hC) (fun v8 u8 h hp8 hq => ?_)
        obtain ⟨hp8, hf8⟩ := hp8
        refine jj_istore (i := 4) (by decide +kernel) (by decide) rfl ?_
        refine jj_goto (off := (-41)) (tgt := 34) (by decide +kernel) (by decide) ?_
        exact ih _ v8 u8 _ ⟨(Classical.em (v8 = 0)).elim Or.inl (fun z => Or.inr (by have z9 := hf8 z; omega)), by omega⟩ hq (fun y3 u9 h9 hu9 hq9 => kk y3 u9 h9 (by omega) hq9) (by omega)
      · refine jj_aload_n (j := 0) (by decide +kernel) rfl ?_
        refine jj_bipush (n := 37) (v := 37) (by decide +kernel) (by decide) ?_
        refine jj_iconst (n := 0) (v := 0) (by decide +kernel) (by decide) ?_
        refine jj_iconst (n := 0) (v := 0) (by decide +kernel) (by decide) ?_
        refine mq_cv (mq_v hq (fun g hm => m_lay (d := d - 1) hG hk (by omega) hm)) (fun o1 h1 hC => jj_callV ok_MO_lay ml_MO_166 im_MO_lay se_MO_MO_lay (by decide +kernel) hq.rcv rfl (by omega) (Nat.le_of_ble_eq_true rfl) hC) (fun u3 h hp3 hq => ?_)
        refine jj_goto (off := 7) (tgt := 64) (by decide +kernel) (by decide) ?_
        refine jj_iinc (i := 3) (n := 1) (by decide +kernel) rfl rfl (by decide) rfl ?_
        refine jj_aload_n (j := 0) (by decide +kernel) rfl ?_
        refine jj_bipush (n := 124) (v := 124) (by decide +kernel) (by decide) ?_
        refine mq_ci (mq_k hq (fun g hm => m_takesMark (d := d - 1) (x := 124) hG hk (by decide) (by decide) (by omega) hm)) (fun o1 h1 hC => jj_callV ok_MO_takesMark ml_MO_157 im_MO_takesMark se_MO_MO_takesMark (by decide +kernel) hq.rcv rfl (by omega) (Nat.le_of_ble_eq_true rfl) hC) (fun v8 u8 h hp8 hq => ?_)
        obtain ⟨hp8, hf8⟩ := hp8
        refine jj_istore (i := 4) (by decide +kernel) (by decide) rfl ?_
        refine jj_goto (off := (-41)) (tgt := 34) (by decide +kernel) (by decide) ?_
        exact ih _ v8 u8 _ ⟨(Classical.em (v8 = 0)).elim Or.inl (fun z => Or.inr (by have z9 := hf8 z; omega)), by omega⟩ hq (fun y3 u9 h9 hu9 hq9 => kk y3 u9 h9 (by omega) hq9) (by omega)
set_option maxRecDepth 100000 in
set_option maxHeartbeats 4000000 in
theorem b_MO_cases_18 {l : Launch} {G : jj_G} {C : mo_C} {u0 o d : Nat} {m : Nat} (hG : jj_tyG G) (hk : mo_k C) (ho : u0 = 0 ∨ o + m = 41) (hT : 0 < m → mo_St l G C (m - 1)) (hdd : 20 + 20 * m ≤ d) (hm1 : 0 < m) : ∀ (n : Nat) (x1 : Int32) (x2 : Int32) (u : Nat) (h : jj_H), (x2 = 0 ∨ u + 1 < n) ∧ 0 < n → u ≤ u0 - 1 → Pq G C u (o + 1) h → jj_P l G y_MO_cases d (mq_V G C o (fun u' => u' ≤ u0 - 1)) 18 [some (.ref (C.2.1 0)), some (.int x1), some (.int x2), none, none] [] h := by
  intro n
  induction n with
  | zero => intro x1 x2 u h hn0; exact absurd hn0.2 (Nat.lt_irrefl _)
  | succ n ih =>
    intro x1 x2 u h hn0 hle hq
    refine jj_iload_n (j := 2) (by decide +kernel) rfl ?_
    refine jj_if_eq (off := 103) (tgt := 122) (by decide +kernel) (by decide) (fun c1 => ?_) (fun c1 => ?_)
    · skip
      refine jj_aload_n (j := 0) (by decide +kernel) rfl ?_
      refine jj_ldcS (index := 200) (i := 37) (tx := "end") (by decide +kernel) (List.mem_of_getElem? (i := 38) rfl) ?_
      refine mq_cv (mq_v hq (fun g hm => m_word (d := d - 1) (i := 37) hG hk (by decide) (by omega) hm)) (fun o1 h1 hC => jj_callV ok_MO_word ml_MO_188 im_MO_word se_MO_MO_word (by decide +kernel) hq.rcv rfl (by omega) (Nat.le_of_ble_eq_true rfl) hC) (fun u2 h hp2 hq => ?_)
      refine jj_aload_n (j := 0) (by decide +kernel) rfl ?_
      refine jj_ldcW (index := 352) (i := 55) (tx := "case") (by decide +kernel) (List.mem_of_getElem? (i := 56) rfl) ?_
      refine mq_cv (mq_v hq (fun g hm => m_word (d := d - 1) (i := 55) hG hk (by decide) (by omega) hm)) (fun o1 h1 hC => jj_callV ok_MO_word ml_MO_188 im_MO_word se_MO_MO_word (by decide +kernel) hq.rcv rfl (by omega) (Nat.le_of_ble_eq_true rfl) hC) (fun u3 h hp3 hq => ?_)
      refine jj_aload_n (j := 0) (by decide +kernel) rfl ?_
      refine jj_bipush (n := 59) (v := 59) (by decide +kernel) (by decide) ?_
      refine mq_cv (mq_v hq (fun g hm => m_closes (d := d - 1) (x := 59) hG hk (by decide) (by decide) (by omega) hm)) (fun o1 h1 hC => jj_callV ok_MO_closes ml_MO_312 im_MO_closes se_MO_MO_closes (by decide +kernel) hq.rcv rfl (by omega) (Nat.le_of_ble_eq_true rfl) hC) (fun u4 h hp4 hq => ?_)
      refine jj_aload_n (j := 0) (by decide +kernel) rfl ?_
      refine jj_bipush (n := 35) (v := 35) (by decide +kernel) (by decide) ?_
      refine jj_iconst (n := 0) (v := 0) (by decide +kernel) (by decide) ?_
      refine jj_iload_n (j := 1) (by decide +kernel) rfl ?_
      refine mq_cv (mq_v hq (fun g hm => m_lay (d := d - 1) hG hk (by omega) hm)) (fun o1 h1 hC => jj_callV ok_MO_lay ml_MO_166 im_MO_lay se_MO_MO_lay (by decide +kernel) hq.rcv rfl (by omega) (Nat.le_of_ble_eq_true rfl) hC) (fun u5 h hp5 hq => ?_)
      exact jj_vret (by decide +kernel) rfl ⟨rfl, u5, by omega, hq⟩
    · skip
      have hn0 := hn0.1.resolve_left c1
      refine jj_aload_n (j := 0) (by decide +kernel) rfl ?_
      refine jj_ldcW (index := 338) (i := 56) (tx := "when") (by decide +kernel) (List.mem_of_getElem? (i := 57) rfl) ?_
      refine mq_cv (mq_v hq (fun g hm => m_word (d := d - 1) (i := 56) hG hk (by decide) (by omega) hm)) (fun o1 h1 hC => jj_callV ok_MO_word ml_MO_188 im_MO_word se_MO_MO_word (by decide +kernel) hq.rcv rfl (by omega) (Nat.le_of_ble_eq_true rfl) hC) (fun u6 h hp6 hq => ?_)
      refine jj_iconst (n := 0) (v := 0) (by decide +kernel) (by decide) ?_
      refine jj_istore_n (j := 3) (by decide +kernel) (by decide) rfl ?_
      refine jj_iconst (n := 1) (v := 1) (by decide +kernel) (by decide) ?_
      refine jj_istore (i := 4) (by decide +kernel) (by decide) rfl ?_
      refine b_MO_cases_34 (m := m) (u0 := u0) hG hk hm1 ho hdd (u6 + 2) _ _ u6 _ ⟨Or.inr (by omega), by omega⟩ hq (by omega) (fun x3 u9 h hp9 hq => ?_) (fun q9 => by rcases ho with q8 | q8 <;> (have q7 := hq.le q9; omega))
      refine jj_aload_n (j := 0) (by decide +kernel) rfl ?_
      refine jj_bipush (n := 48) (v := 48) (by decide +kernel) (by decide) ?_
      refine jj_iconst (n := 0) (v := 0) (by decide +kernel) (by decide) ?_
      refine jj_iload_n (j := 3) (by decide +kernel) rfl ?_
      refine mq_cv (mq_v hq (fun g hm => m_lay (d := d - 1) hG hk (by omega) hm)) (fun o1 h1 hC => jj_callV ok_MO_lay ml_MO_166 im_MO_lay se_MO_MO_lay (by decide +kernel) hq.rcv rfl (by omega) (Nat.le_of_ble_eq_true rfl) hC) (fun u7 h hp7 hq => ?_)
      refine jj_aload_n (j := 0) (by decide +kernel) rfl ?_
      refine jj_aload_n (j := 0) (by decide +kernel) rfl ?_
      refine jj_bipush (n := 61) (v := 61) (by decide +kernel) (by decide) ?_
      refine mq_ci (mq_k hq (fun g hm => m_takesTwo (d := d - 1) (x := 61) hG hk (by decide) (by decide) (by omega) hm)) (fun o1 h1 hC => jj_callV ok_MO_takesTwo ml_MO_223 im_MO_takesTwo se_MO_MO_takesTwo (by decide +kernel) hq.rcv rfl (by omega) (Nat.le_of_ble_eq_true rfl) hC) (fun v8 u8 h hp8 hq => ?_)
      obtain ⟨hp8, hf8⟩ := hp8
      refine mq_cv (mq_must (d := d - 1) hG hk (by omega) hq) (fun o1 h1 hC => jj_callV ok_MO_must ml_MO_153 im_MO_must se_MO_MO_must (by decide +kernel) hq.rcv rfl (by omega) (Nat.le_of_ble_eq_true rfl) hC) (fun u9 h hp9 hq => ?_)
      refine jj_aload_n (j := 0) (by decide +kernel) rfl ?_
      refine mq_cv (hT hm1 _ _ _ (d - 1) (by omega) hq (by omega)) (fun o1 h1 hC => jj_callV ok_MO_statements ml_MO_295 im_MO_statements se_MO_MO_statements (by decide +kernel) hq.rcv rfl (by omega) (Nat.le_of_ble_eq_true rfl) hC) (fun u10 h hp10 hq => ?_)
      refine jj_aload_n (j := 0) (by decide +kernel) rfl ?_
      refine jj_bipush (n := 36) (v := 36) (by decide +kernel) (by decide) ?_
      refine jj_iconst (n := 0) (v := 0) (by decide +kernel) (by decide) ?_
      refine jj_iconst (n := 2) (v := 2) (by decide +kernel) (by decide) ?_
      refine mq_cv (mq_v hq (fun g hm => m_lay (d := d - 1) hG hk (by omega) hm)) (fun o1 h1 hC => jj_callV ok_MO_lay ml_MO_166 im_MO_lay se_MO_MO_lay (by decide +kernel) hq.rcv rfl (by omega) (Nat.le_of_ble_eq_true rfl) hC) (fun u11 h hp11 hq => ?_)
      refine jj_iinc (i := 1) (n := 1) (by decide +kernel) rfl rfl (by decide) rfl ?_
      refine jj_aload_n (j := 0) (by decide +kernel) rfl ?_
      refine jj_ldcW (index := 338) (i := 56) (tx := "when") (by decide +kernel) (List.mem_of_getElem? (i := 57) rfl) ?_
      refine mq_ci (mq_i hq (fun g hm => m_isWord (d := d - 1) (i := 56) hG hk (by decide) (by omega) hm) (fun _ _ q => q)) (fun o1 h1 hC => jj_callV ok_MO_isWord ml_MO_137 im_MO_isWord se_MO_MO_isWord (by decide +kernel) hq.rcv rfl (by omega) (Nat.le_of_ble_eq_true rfl) hC) (fun v12 u12 h hp12 hq => ?_)
      obtain ⟨e12, -, hf12⟩ := hp12
      rw [e12] at hq
      refine jj_istore_n (j := 2) (by decide +kernel) (by decide) rfl ?_
      refine jj_goto (off := (-101)) (tgt := 18) (by decide +kernel) (by decide) ?_
      exact jj_wk (js_s (js_s (js_s (js_n (js_n js_0))))) (ih _ _ u11 _ ⟨(Classical.em (_ = 0)).elim Or.inl (fun z => Or.inr (by have z9 := hf12 z; omega)), by omega⟩ (by omega) hq)
set_option maxRecDepth 100000 in
set_option maxHeartbeats 4000000 in
theorem b_MO_cases_0 {l : Launch} {G : jj_G} {C : mo_C} {u0 o d : Nat} {m : Nat} {u : Nat} {h : jj_H} (hG : jj_tyG G) (hk : mo_k C) (ho : u0 = 0 ∨ o + m = 41) (hT : 0 < m → mo_St l G C (m - 1)) (hdd : 20 + 20 * m ≤ d) (hle : u ≤ u0) (hn : mo_nl C u) (hps : 0 < u) (hq : Pq G C u o h) : jj_P l G y_MO_cases d (mq_V G C o (fun u' => u' ≤ u0 - 1)) 0 [some (.ref (C.2.1 0)), none, none, none, none] [] h := by
  refine jj_aload_n (j := 0) (by decide +kernel) rfl ?_
  have hm1 : 0 < m := by have h40 := hq.le (by omega); omega
  refine mq_cv (mq_v hq (fun g hm => m_opens (d := d - 1) hG hk hn (by omega) hm)) (fun o1 h1 hC => jj_callV ok_MO_opens ml_MO_304 im_MO_opens se_MO_MO_opens (by decide +kernel) hq.rcv rfl (by omega) (Nat.le_of_ble_eq_true rfl) hC) (fun u1 h hp1 hq => ?_)
  obtain ⟨hp1, hq1⟩ := hp1
  refine jj_aload_n (j := 0) (by decide +kernel) rfl ?_
  refine mq_cv (mexpr_all hG hk (m - 1) _ _ _ (d - 1) (by omega) hq (by omega)) (fun o1 h1 hC => jj_callV ok_MO_expression ml_MO_226 im_MO_expression se_MO_MO_expression (by decide +kernel) hq.rcv rfl (by omega) (Nat.le_of_ble_eq_true rfl) hC) (fun u2 h hp2 hq => ?_)
  refine jj_aload_n (j := 0) (by decide +kernel) rfl ?_
  refine jj_ldcS (index := 186) (i := 16) (tx := "is") (by decide +kernel) (List.mem_of_getElem? (i := 17) rfl) ?_
  refine mq_cv (mq_v hq (fun g hm => m_word (d := d - 1) (i := 16) hG hk (by decide) (by omega) hm)) (fun o1 h1 hC => jj_callV ok_MO_word ml_MO_188 im_MO_word se_MO_MO_word (by decide +kernel) hq.rcv rfl (by omega) (Nat.le_of_ble_eq_true rfl) hC) (fun u3 h hp3 hq => ?_)
  refine jj_iconst (n := 1) (v := 1) (by decide +kernel) (by decide) ?_
  refine jj_istore_n (j := 1) (by decide +kernel) (by decide) rfl ?_
  refine jj_iconst (n := 1) (v := 1) (by decide +kernel) (by decide) ?_
  refine jj_istore_n (j := 2) (by decide +kernel) (by decide) rfl ?_
  exact jj_wk (js_s (js_s (js_s (js_n (js_n js_0))))) (b_MO_cases_18 (o := o) hG hk ho hT hdd hm1 (u3 + 2) _ _ u3 _ ⟨Or.inr (by omega), by omega⟩ (by omega) hq)
theorem q_MO_cases {l : Launch} {G : jj_G} {C : mo_C} {u0 o d : Nat} {m : Nat} {h : jj_H} (hG : jj_tyG G) (hk : mo_k C) (ho : u0 = 0 ∨ o + m = 41) (hT : 0 < m → mo_St l G C (m - 1)) (hdd : 20 + 20 * m ≤ d) (hn : mo_nl C u0) (hps : 0 < u0) (hq : Pq G C u0 o h) : jj_Q l G y_MO_cases d [.ref (C.2.1 0)] h (mq_V G C o (fun u' => u' ≤ u0 - 1)) :=
  jj_Q.of (by decide +kernel) (Nat.le_of_ble_eq_true rfl) (b_MO_cases_0 (o := o) hG hk ho hT hdd (Nat.le_refl _) hn hps hq)
set_option maxRecDepth 100000 in
set_option maxHeartbeats 4000000 in
theorem b_MO_loop_182 {l : Launch} {G : jj_G} {C : mo_C} {u0 o d : Nat} {m : Nat} {u : Nat} {h : jj_H} {x1 x2 x3 x4 y1 y2 y3 : Int32} (hG : jj_tyG G) (hk : mo_k C) (ho : u0 = 0 ∨ o + m = 41) (hT : 0 < m → mo_St l G C (m - 1)) (hdd : 20 + 20 * m ≤ d) (hle : u ≤ u0 - 1) (hq : Pq G C u o h) : jj_P l G y_MO_loop d (mq_V G C o (fun u' => u' ≤ u0 - 1)) 182 [some (.ref (C.2.1 0)), some (.int x1), some (.int x2), some (.int x3), some (.int x4)] [.int y3, .int y2, .int y1, .ref (C.2.1 0)] h := by
  refine mq_cv (mq_v hq (fun g hm => m_lay (d := d - 1) hG hk (by omega) hm)) (fun o1 h1 hC => jj_callV ok_MO_lay ml_MO_166 im_MO_lay se_MO_MO_lay (by decide +kernel) hq.rcv rfl (by omega) (Nat.le_of_ble_eq_true rfl) hC) (fun u1 h hp1 hq => ?_)
  exact jj_vret (by decide +kernel) rfl ⟨rfl, u1, by omega, hq⟩
set_option maxRecDepth 100000 in
set_option maxHeartbeats 4000000 in
theorem b_MO_loop_138 {l : Launch} {G : jj_G} {C : mo_C} {u0 o d : Nat} {m : Nat} {u : Nat} {h : jj_H} {x1 x2 x3 x4 : Int32} (hG : jj_tyG G) (hk : mo_k C) (ho : u0 = 0 ∨ o + m = 41) (hT : 0 < m → mo_St l G C (m - 1)) (hdd : 20 + 20 * m ≤ d) (hm1 : 0 < m) (hle : u ≤ u0 - 1) (hq : Pq G C u (o + 1) h) : jj_P l G y_MO_loop d (mq_V G C o (fun u' => u' ≤ u0 - 1)) 138 [some (.ref (C.2.1 0)), some (.int x1), some (.int x2), some (.int x3), some (.int x4)] [] h := by
  refine jj_aload_n (j := 0) (by decide +kernel) rfl ?_
  refine mq_cv (hT hm1 _ _ _ (d - 1) (by omega) hq (by omega)) (fun o1 h1 hC => jj_callV ok_MO_statements ml_MO_295 im_MO_statements se_MO_MO_statements (by decide +kernel) hq.rcv rfl (by omega) (Nat.le_of_ble_eq_true rfl) hC) (fun u1 h hp1 hq => ?_)
  refine jj_aload_n (j := 0) (by decide +kernel) rfl ?_
  refine jj_ldcS (index := 200) (i := 37) (tx := "end") (by decide +kernel) (List.mem_of_getElem? (i := 38) rfl) ?_
  refine mq_cv (mq_v hq (fun g hm => m_word (d := d - 1) (i := 37) hG hk (by decide) (by omega) hm)) (fun o1 h1 hC => jj_callV ok_MO_word ml_MO_188 im_MO_word se_MO_MO_word (by decide +kernel) hq.rcv rfl (by omega) (Nat.le_of_ble_eq_true rfl) hC) (fun u2 h hp2 hq => ?_)
  refine jj_aload_n (j := 0) (by decide +kernel) rfl ?_
  refine jj_ldcW (index := 359) (i := 60) (tx := "loop") (by decide +kernel) (List.mem_of_getElem? (i := 61) rfl) ?_
  refine mq_cv (mq_v hq (fun g hm => m_word (d := d - 1) (i := 60) hG hk (by decide) (by omega) hm)) (fun o1 h1 hC => jj_callV ok_MO_word ml_MO_188 im_MO_word se_MO_MO_word (by decide +kernel) hq.rcv rfl (by omega) (Nat.le_of_ble_eq_true rfl) hC) (fun u3 h hp3 hq => ?_)
  refine jj_aload_n (j := 0) (by decide +kernel) rfl ?_
  refine jj_bipush (n := 59) (v := 59) (by decide +kernel) (by decide) ?_
  refine mq_cv (mq_v hq (fun g hm => m_closes (d := d - 1) (x := 59) hG hk (by decide) (by decide) (by omega) hm)) (fun o1 h1 hC => jj_callV ok_MO_closes ml_MO_312 im_MO_closes se_MO_MO_closes (by decide +kernel) hq.rcv rfl (by omega) (Nat.le_of_ble_eq_true rfl) hC) (fun u4 h hp4 hq => ?_)
  refine jj_aload_n (j := 0) (by decide +kernel) rfl ?_
  refine jj_iload (i := 4) (by decide +kernel) rfl ?_
  refine jj_iload_n (j := 3) (by decide +kernel) rfl ?_
  refine jj_iload_n (j := 1) (by decide +kernel) rfl ?_
  refine jj_if_eq (off := 7) (tgt := 173) (by decide +kernel) (by decide) (fun c5 => ?_) (fun c5 => ?_)
  · skip
    refine jj_iload_n (j := 2) (by decide +kernel) rfl ?_
    refine jj_if_eq (off := 7) (tgt := 181) (by decide +kernel) (by decide) (fun c6 => ?_) (fun c6 => ?_)
    · skip
      refine jj_iconst (n := 1) (v := 1) (by decide +kernel) (by decide) ?_
      exact jj_wk (js_s (js_s (js_s (js_s (js_s js_0))))) (b_MO_loop_182 (o := o) hG hk ho hT hdd (by omega) hq)
    · skip
      refine jj_iconst (n := 2) (v := 2) (by decide +kernel) (by decide) ?_
      refine jj_goto (off := 4) (tgt := 182) (by decide +kernel) (by decide) ?_
      exact jj_wk (js_s (js_s (js_s (js_s (js_s js_0))))) (b_MO_loop_182 (o := o) hG hk ho hT hdd (by omega) hq)
  · skip
    refine jj_iconst (n := 3) (v := 3) (by decide +kernel) (by decide) ?_
    refine jj_goto (off := 12) (tgt := 182) (by decide +kernel) (by decide) ?_
    exact jj_wk (js_s (js_s (js_s (js_s (js_s js_0))))) (b_MO_loop_182 (o := o) hG hk ho hT hdd (by omega) hq)
set_option maxRecDepth 100000 in
set_option maxHeartbeats 4000000 in
theorem b_MO_loop_131 {l : Launch} {G : jj_G} {C : mo_C} {u0 o d : Nat} {m : Nat} {u : Nat} {h : jj_H} {x1 x2 x3 x4 : Int32} (hG : jj_tyG G) (hk : mo_k C) (ho : u0 = 0 ∨ o + m = 41) (hT : 0 < m → mo_St l G C (m - 1)) (hdd : 20 + 20 * m ≤ d) (hm1 : 0 < m) (hle : u ≤ u0 - 1) (hq : Pq G C u (o + 1) h) : jj_P l G y_MO_loop d (mq_V G C o (fun u' => u' ≤ u0 - 1)) 131 [some (.ref (C.2.1 0)), some (.int x1), some (.int x2), some (.int x3), some (.int x4)] [] h := by
  refine jj_aload_n (j := 0) (by decide +kernel) rfl ?_
  refine jj_ldcW (index := 359) (i := 60) (tx := "loop") (by decide +kernel) (List.mem_of_getElem? (i := 61) rfl) ?_
  refine mq_cv (mq_v hq (fun g hm => m_word (d := d - 1) (i := 60) hG hk (by decide) (by omega) hm)) (fun o1 h1 hC => jj_callV ok_MO_word ml_MO_188 im_MO_word se_MO_MO_word (by decide +kernel) hq.rcv rfl (by omega) (Nat.le_of_ble_eq_true rfl) hC) (fun u1 h hp1 hq => ?_)
  exact jj_wk (js_s (js_s (js_s (js_s (js_s js_0))))) (b_MO_loop_138 (o := o) hG hk ho hT hdd hm1 (by omega) hq)
set_option maxRecDepth 100000 in
set_option maxHeartbeats 4000000 in
theorem b_MO_loop_123 {l : Launch} {G : jj_G} {C : mo_C} {u0 o d : Nat} {m : Nat} {u : Nat} {h : jj_H} {x1 x2 x3 x4 : Int32} (hG : jj_tyG G) (hk : mo_k C) (ho : u0 = 0 ∨ o + m = 41) (hT : 0 < m → mo_St l G C (m - 1)) (hdd : 20 + 20 * m ≤ d) (hm1 : 0 < m) (hle : u ≤ u0 - 1) (hq : Pq G C u (o + 1) h) : jj_P l G y_MO_loop d (mq_V G C o (fun u' => u' ≤ u0 - 1)) 123 [some (.ref (C.2.1 0)), some (.int x1), some (.int x2), some (.int x3), some (.int x4)] [] h := by
  refine jj_iload_n (j := 1) (by decide +kernel) rfl ?_
  refine jj_if_ne (off := 7) (tgt := 131) (by decide +kernel) (by decide) (fun c1 => ?_) (fun c1 => ?_)
  · skip
    exact jj_wk (js_s (js_s (js_s (js_s (js_s js_0))))) (b_MO_loop_131 (o := o) hG hk ho hT hdd hm1 (by omega) hq)
  · skip
    refine jj_iload_n (j := 2) (by decide +kernel) rfl ?_
    refine jj_if_eq (off := 10) (tgt := 138) (by decide +kernel) (by decide) (fun c2 => ?_) (fun c2 => ?_)
    · skip
      exact jj_wk (js_s (js_s (js_s (js_s (js_s js_0))))) (b_MO_loop_138 (o := o) hG hk ho hT hdd hm1 (by omega) hq)
    · skip
      exact jj_wk (js_s (js_s (js_s (js_s (js_s js_0))))) (b_MO_loop_131 (o := o) hG hk ho hT hdd hm1 (by omega) hq)
set_option maxRecDepth 100000 in
set_option maxHeartbeats 4000000 in
theorem b_MO_loop_105 {l : Launch} {G : jj_G} {C : mo_C} {u0 o d : Nat} {m : Nat} {u : Nat} {h : jj_H} {x1 x2 x3 x4 y1 : Int32} (hG : jj_tyG G) (hk : mo_k C) (ho : u0 = 0 ∨ o + m = 41) (hT : 0 < m → mo_St l G C (m - 1)) (hdd : 20 + 20 * m ≤ d) (hm1 : 0 < m) (hle : u ≤ u0 - 1) (hq : Pq G C u (o + 1) h) : jj_P l G y_MO_loop d (mq_V G C o (fun u' => u' ≤ u0 - 1)) 105 [some (.ref (C.2.1 0)), some (.int x1), some (.int x2), some (.int x3), some (.int x4)] [.int y1, .ref (C.2.1 0)] h := by
  refine mq_cv (mq_must (d := d - 1) hG hk (by omega) hq) (fun o1 h1 hC => jj_callV ok_MO_must ml_MO_153 im_MO_must se_MO_MO_must (by decide +kernel) hq.rcv rfl (by omega) (Nat.le_of_ble_eq_true rfl) hC) (fun u1 h hp1 hq => ?_)
  refine jj_aload_n (j := 0) (by decide +kernel) rfl ?_
  refine mq_cv (mexpr_all hG hk (m - 1) _ _ _ (d - 1) (by omega) hq (by omega)) (fun o1 h1 hC => jj_callV ok_MO_expression ml_MO_226 im_MO_expression se_MO_MO_expression (by decide +kernel) hq.rcv rfl (by omega) (Nat.le_of_ble_eq_true rfl) hC) (fun u2 h hp2 hq => ?_)
  refine jj_goto (off := 11) (tgt := 123) (by decide +kernel) (by decide) ?_
  exact jj_wk (js_s (js_s (js_s (js_s (js_s js_0))))) (b_MO_loop_123 (o := o) hG hk ho hT hdd hm1 (by omega) hq)
set_option maxRecDepth 100000 in
set_option maxHeartbeats 4000000 in
theorem b_MO_loop_79 {l : Launch} {G : jj_G} {C : mo_C} {u0 o d : Nat} {m : Nat} {u : Nat} {h : jj_H} {x1 x2 x3 x4 y0 : Int32} (hG : jj_tyG G) (hk : mo_k C) (ho : u0 = 0 ∨ o + m = 41) (hT : 0 < m → mo_St l G C (m - 1)) (hdd : 20 + 20 * m ≤ d) (hm1 : 0 < m) (hle : u ≤ u0 - 1) (hfy0 : y0 ≠ 38 → 0 < u ∧ mo_nl C u) (hq : Pq G C u (o + 1) h) : jj_P l G y_MO_loop d (mq_V G C o (fun u' => u' ≤ u0 - 1)) 79 [some (.ref (C.2.1 0)), some (.int x1), some (.int x2), some (.int x3), some (.int x4)] [.int y0] h := by
  refine jj_istore (i := 4) (by decide +kernel) (by decide) rfl ?_
  refine jj_aload_n (j := 0) (by decide +kernel) rfl ?_
  refine jj_aload_n (j := 0) (by decide +kernel) rfl ?_
  refine jj_ldcS (index := 235) (i := 24) (tx := "to") (by decide +kernel) (List.mem_of_getElem? (i := 25) rfl) ?_
  refine mq_ci (mq_k hq (fun g hm => m_takes (d := d - 1) (i := 24) hG hk (by decide) (by omega) hm)) (fun o1 h1 hC => jj_callV ok_MO_takes ml_MO_150 im_MO_takes se_MO_MO_takes (by decide +kernel) hq.rcv rfl (by omega) (Nat.le_of_ble_eq_true rfl) hC) (fun v1 u1 h hp1 hq => ?_)
  obtain ⟨hp1, hf1⟩ := hp1
  refine jj_if_ne (off := 12) (tgt := 100) (by decide +kernel) (by decide) (fun c2 => ?_) (fun c2 => ?_)
  · skip
    have hz2 := hf1 c2
    refine jj_iconst (n := 1) (v := 1) (by decide +kernel) (by decide) ?_
    refine jj_goto (off := 4) (tgt := 105) (by decide +kernel) (by decide) ?_
    exact jj_wk (js_s (js_s (js_s (js_s (js_s js_0))))) (b_MO_loop_105 (o := o) hG hk ho hT hdd hm1 (by omega) hq)
  · skip
    refine jj_aload_n (j := 0) (by decide +kernel) rfl ?_
    refine jj_ldcS (index := 237) (i := 25) (tx := "downto") (by decide +kernel) (List.mem_of_getElem? (i := 26) rfl) ?_
    refine mq_ci (mq_k hq (fun g hm => m_takes (d := d - 1) (i := 25) hG hk (by decide) (by omega) hm)) (fun o1 h1 hC => jj_callV ok_MO_takes ml_MO_150 im_MO_takes se_MO_MO_takes (by decide +kernel) hq.rcv rfl (by omega) (Nat.le_of_ble_eq_true rfl) hC) (fun v3 u3 h hp3 hq => ?_)
    obtain ⟨hp3, hf3⟩ := hp3
    refine jj_if_eq (off := 7) (tgt := 104) (by decide +kernel) (by decide) (fun c4 => ?_) (fun c4 => ?_)
    · skip
      refine jj_iconst (n := 0) (v := 0) (by decide +kernel) (by decide) ?_
      exact jj_wk (js_s (js_s (js_s (js_s (js_s js_0))))) (b_MO_loop_105 (o := o) hG hk ho hT hdd hm1 (by omega) hq)
    · skip
      have hz4 := hf3 c4
      refine jj_iconst (n := 1) (v := 1) (by decide +kernel) (by decide) ?_
      refine jj_goto (off := 4) (tgt := 105) (by decide +kernel) (by decide) ?_
      exact jj_wk (js_s (js_s (js_s (js_s (js_s js_0))))) (b_MO_loop_105 (o := o) hG hk ho hT hdd hm1 (by omega) hq)
set_option maxRecDepth 100000 in
set_option maxHeartbeats 4000000 in
theorem b_MO_loop_42 {l : Launch} {G : jj_G} {C : mo_C} {u0 o d : Nat} {m : Nat} {u : Nat} {h : jj_H} {x1 x2 y0 : Int32} (hG : jj_tyG G) (hk : mo_k C) (ho : u0 = 0 ∨ o + m = 41) (hT : 0 < m → mo_St l G C (m - 1)) (hdd : 20 + 20 * m ≤ d) (hm1 : 0 < m) (hle : u ≤ u0 - 1) (hq : Pq G C u (o + 1) h) : jj_P l G y_MO_loop d (mq_V G C o (fun u' => u' ≤ u0 - 1)) 42 [some (.ref (C.2.1 0)), some (.int x1), some (.int x2), some (.int 0), none] [.int y0] h := by
  refine jj_istore (i := 4) (by decide +kernel) (by decide) rfl ?_
  refine jj_iload_n (j := 1) (by decide +kernel) rfl ?_
  refine jj_if_eq (off := 70) (tgt := 115) (by decide +kernel) (by decide) (fun c1 => ?_) (fun c1 => ?_)
  · skip
    refine jj_iload_n (j := 2) (by decide +kernel) rfl ?_
    refine jj_if_eq (off := 7) (tgt := 123) (by decide +kernel) (by decide) (fun c2 => ?_) (fun c2 => ?_)
    · skip
      exact jj_wk (js_s (js_s (js_s (js_s (js_s js_0))))) (b_MO_loop_123 (o := o) hG hk ho hT hdd hm1 (by omega) hq)
    · skip
      refine jj_aload_n (j := 0) (by decide +kernel) rfl ?_
      refine mq_cv (mexpr_all hG hk (m - 1) _ _ _ (d - 1) (by omega) hq (by omega)) (fun o1 h1 hC => jj_callV ok_MO_expression ml_MO_226 im_MO_expression se_MO_MO_expression (by decide +kernel) hq.rcv rfl (by omega) (Nat.le_of_ble_eq_true rfl) hC) (fun u3 h hp3 hq => ?_)
      exact jj_wk (js_s (js_s (js_s (js_s (js_s js_0))))) (b_MO_loop_123 (o := o) hG hk ho hT hdd hm1 (by omega) hq)
  · skip
    refine jj_aload_n (j := 0) (by decide +kernel) rfl ?_
    refine mq_ci (mq_i hq (fun g hm => m_aName (d := d - 1) hG hk (by omega) hm) (fun _ _ q => q)) (fun o1 h1 hC => jj_callV ok_MO_aName ml_MO_163 im_MO_aName se_MO_MO_aName (by decide +kernel) hq.rcv rfl (by omega) (Nat.le_of_ble_eq_true rfl) hC) (fun v4 u4 h hp4 hq => ?_)
    refine jj_istore_n (j := 3) (by decide +kernel) (by decide) rfl ?_
    refine jj_aload_n (j := 0) (by decide +kernel) rfl ?_
    refine jj_ldcS (index := 214) (i := 18) (tx := "in") (by decide +kernel) (List.mem_of_getElem? (i := 19) rfl) ?_
    refine mq_cv (mq_v hq (fun g hm => m_word (d := d - 1) (i := 18) hG hk (by decide) (by omega) hm)) (fun o1 h1 hC => jj_callV ok_MO_word ml_MO_188 im_MO_word se_MO_MO_word (by decide +kernel) hq.rcv rfl (by omega) (Nat.le_of_ble_eq_true rfl) hC) (fun u5 h hp5 hq => ?_)
    refine jj_aload_n (j := 0) (by decide +kernel) rfl ?_
    refine mq_cv (mexpr_all hG hk (m - 1) _ _ _ (d - 1) (by omega) hq (by omega)) (fun o1 h1 hC => jj_callV ok_MO_expression ml_MO_226 im_MO_expression se_MO_MO_expression (by decide +kernel) hq.rcv rfl (by omega) (Nat.le_of_ble_eq_true rfl) hC) (fun u6 h hp6 hq => ?_)
    refine jj_aload_n (j := 0) (by decide +kernel) rfl ?_
    refine jj_ldcS (index := 237) (i := 25) (tx := "downto") (by decide +kernel) (List.mem_of_getElem? (i := 26) rfl) ?_
    refine mq_ci (mq_i hq (fun g hm => m_isWord (d := d - 1) (i := 25) hG hk (by decide) (by omega) hm) (fun _ _ q => q)) (fun o1 h1 hC => jj_callV ok_MO_isWord ml_MO_137 im_MO_isWord se_MO_MO_isWord (by decide +kernel) hq.rcv rfl (by omega) (Nat.le_of_ble_eq_true rfl) hC) (fun v7 u7 h hp7 hq => ?_)
    obtain ⟨e7, -, hf7⟩ := hp7
    rw [e7] at hq
    refine jj_if_eq (off := 8) (tgt := 77) (by decide +kernel) (by decide) (fun c8 => ?_) (fun c8 => ?_)
    · skip
      refine jj_bipush (n := 38) (v := 38) (by decide +kernel) (by decide) ?_
      exact jj_wk (js_s (js_s (js_s (js_s (js_s js_0))))) (b_MO_loop_79 (o := o) hG hk ho hT hdd hm1 (by omega) (fun q => absurd rfl q) hq)
    · skip
      have hz8 := hf7 c8
      refine jj_bipush (n := 39) (v := 39) (by decide +kernel) (by decide) ?_
      refine jj_goto (off := 5) (tgt := 79) (by decide +kernel) (by decide) ?_
      exact jj_wk (js_s (js_s (js_s (js_s (js_s js_0))))) (b_MO_loop_79 (o := o) hG hk ho hT hdd hm1 (by omega) (fun _ => ⟨by omega, hz8.2⟩) hq)
set_option maxRecDepth 100000 in
set_option maxHeartbeats 4000000 in
theorem b_MO_loop_0 {l : Launch} {G : jj_G} {C : mo_C} {u0 o d : Nat} {m : Nat} {u : Nat} {h : jj_H} (hG : jj_tyG G) (hk : mo_k C) (ho : u0 = 0 ∨ o + m = 41) (hT : 0 < m → mo_St l G C (m - 1)) (hdd : 20 + 20 * m ≤ d) (hle : u ≤ u0) (hn : mo_nl C u) (hps : 0 < u) (hq : Pq G C u o h) : jj_P l G y_MO_loop d (mq_V G C o (fun u' => u' ≤ u0 - 1)) 0 [some (.ref (C.2.1 0)), none, none, none, none] [] h := by
  refine jj_aload_n (j := 0) (by decide +kernel) rfl ?_
  refine jj_ldcW (index := 282) (i := 58) (tx := "for") (by decide +kernel) (List.mem_of_getElem? (i := 59) rfl) ?_
  refine mq_ci (mq_i hq (fun g hm => m_isWord (d := d - 1) (i := 58) hG hk (by decide) (by omega) hm) (fun _ _ q => q)) (fun o1 h1 hC => jj_callV ok_MO_isWord ml_MO_137 im_MO_isWord se_MO_MO_isWord (by decide +kernel) hq.rcv rfl (by omega) (Nat.le_of_ble_eq_true rfl) hC) (fun v1 u1 h hp1 hq => ?_)
  obtain ⟨e1, -, hf1⟩ := hp1
  rw [e1] at hq
  refine jj_istore_n (j := 1) (by decide +kernel) (by decide) rfl ?_
  refine jj_aload_n (j := 0) (by decide +kernel) rfl ?_
  refine jj_ldcW (index := 357) (i := 59) (tx := "while") (by decide +kernel) (List.mem_of_getElem? (i := 60) rfl) ?_
  refine mq_ci (mq_i hq (fun g hm => m_isWord (d := d - 1) (i := 59) hG hk (by decide) (by omega) hm) (fun _ _ q => q)) (fun o1 h1 hC => jj_callV ok_MO_isWord ml_MO_137 im_MO_isWord se_MO_MO_isWord (by decide +kernel) hq.rcv rfl (by omega) (Nat.le_of_ble_eq_true rfl) hC) (fun v2 u2 h hp2 hq => ?_)
  obtain ⟨e2, -, hf2⟩ := hp2
  rw [e2] at hq
  refine jj_istore_n (j := 2) (by decide +kernel) (by decide) rfl ?_
  refine jj_aload_n (j := 0) (by decide +kernel) rfl ?_
  have hm1 : 0 < m := by have h40 := hq.le (by omega); omega
  refine mq_cv (mq_v hq (fun g hm => m_opens (d := d - 1) hG hk hn (by omega) hm)) (fun o1 h1 hC => jj_callV ok_MO_opens ml_MO_304 im_MO_opens se_MO_MO_opens (by decide +kernel) hq.rcv rfl (by omega) (Nat.le_of_ble_eq_true rfl) hC) (fun u3 h hp3 hq => ?_)
  obtain ⟨hp3, hq3⟩ := hp3
  refine jj_iconst (n := 0) (v := 0) (by decide +kernel) (by decide) ?_
  refine jj_istore_n (j := 3) (by decide +kernel) (by decide) rfl ?_
  refine jj_iload_n (j := 1) (by decide +kernel) rfl ?_
  refine jj_if_eq (off := 8) (tgt := 31) (by decide +kernel) (by decide) (fun c4 => ?_) (fun c4 => ?_)
  · skip
    refine jj_iload_n (j := 2) (by decide +kernel) rfl ?_
    refine jj_if_eq (off := 8) (tgt := 40) (by decide +kernel) (by decide) (fun c5 => ?_) (fun c5 => ?_)
    · skip
      refine jj_bipush (n := 41) (v := 41) (by decide +kernel) (by decide) ?_
      exact jj_wk (js_s (js_s (js_s (js_s (js_n js_0))))) (b_MO_loop_42 (o := o) hG hk ho hT hdd hm1 (by omega) hq)
    · skip
      refine jj_bipush (n := 40) (v := 40) (by decide +kernel) (by decide) ?_
      refine jj_goto (off := 5) (tgt := 42) (by decide +kernel) (by decide) ?_
      exact jj_wk (js_s (js_s (js_s (js_s (js_n js_0))))) (b_MO_loop_42 (o := o) hG hk ho hT hdd hm1 (by omega) hq)
  · skip
    refine jj_bipush (n := 38) (v := 38) (by decide +kernel) (by decide) ?_
    refine jj_goto (off := 14) (tgt := 42) (by decide +kernel) (by decide) ?_
    exact jj_wk (js_s (js_s (js_s (js_s (js_n js_0))))) (b_MO_loop_42 (o := o) hG hk ho hT hdd hm1 (by omega) hq)
theorem q_MO_loop {l : Launch} {G : jj_G} {C : mo_C} {u0 o d : Nat} {m : Nat} {h : jj_H} (hG : jj_tyG G) (hk : mo_k C) (ho : u0 = 0 ∨ o + m = 41) (hT : 0 < m → mo_St l G C (m - 1)) (hdd : 20 + 20 * m ≤ d) (hn : mo_nl C u0) (hps : 0 < u0) (hq : Pq G C u0 o h) : jj_Q l G y_MO_loop d [.ref (C.2.1 0)] h (mq_V G C o (fun u' => u' ≤ u0 - 1)) :=
  jj_Q.of (by decide +kernel) (Nat.le_of_ble_eq_true rfl) (b_MO_loop_0 (o := o) hG hk ho hT hdd (Nat.le_refl _) hn hps hq)
set_option maxRecDepth 100000 in
set_option maxHeartbeats 4000000 in
theorem b_MO_statement_81 {l : Launch} {G : jj_G} {C : mo_C} {u0 o d : Nat} {m : Nat} {u : Nat} {h : jj_H} (hG : jj_tyG G) (hk : mo_k C) (ho : u0 = 0 ∨ o + m = 41) (hT : 0 < m → mo_St l G C (m - 1)) (hdd : 22 + 20 * m ≤ d) (hle : u ≤ u0) (hn : mo_nl C u) (hps : 0 < u) (hq : Pq G C u o h) : jj_P l G y_MO_statement d (mq_I G C o (mq_K u0)) 81 [some (.ref (C.2.1 0))] [] h := by
  refine jj_aload_n (j := 0) (by decide +kernel) rfl ?_
  refine mq_cv (q_MO_loop (d := d - 1) (m := m) hG hk (by omega) hT (by omega) hn (by omega) hq) (fun o1 h1 hC => jj_callV ok_MO_loop ml_MO_361 im_MO_loop se_MO_MO_loop (by decide +kernel) hq.rcv rfl (by omega) (Nat.le_of_ble_eq_true rfl) hC) (fun u1 h hp1 hq => ?_)
  refine jj_goto (off := 115) (tgt := 200) (by decide +kernel) (by decide) ?_
  refine jj_iconst (n := 1) (v := 1) (by decide +kernel) (by decide) ?_
  exact jj_iret .boolean (by decide +kernel) rfl rfl ⟨_, u1, rfl, ⟨by omega, fun _ => ⟨by omega, by omega⟩⟩, hq⟩
set_option maxRecDepth 100000 in
set_option maxHeartbeats 4000000 in
theorem b_MO_statement_0 {l : Launch} {G : jj_G} {C : mo_C} {u0 o d : Nat} {m : Nat} {u : Nat} {h : jj_H} (hG : jj_tyG G) (hk : mo_k C) (ho : u0 = 0 ∨ o + m = 41) (hT : 0 < m → mo_St l G C (m - 1)) (hdd : 22 + 20 * m ≤ d) (hle : u ≤ u0) (hq : Pq G C u o h) : jj_P l G y_MO_statement d (mq_I G C o (mq_K u0)) 0 [some (.ref (C.2.1 0))] [] h := by
  refine jj_aload_n (j := 0) (by decide +kernel) rfl ?_
  refine mq_ci (mq_i hq (fun g hm => m_kind (d := d - 1) hG hk hm) (fun _ _ q => q)) (fun o1 h1 hC => jj_callV ok_MO_kind ml_MO_130 im_MO_kind se_MO_MO_kind (by decide +kernel) hq.rcv rfl (by omega) (Nat.le_of_ble_eq_true rfl) hC) (fun v1 u1 h hp1 hq => ?_)
  obtain ⟨e1, hf1⟩ := hp1
  rw [e1] at hq
  refine jj_sipush (n := 2000) (v := 2000) (by decide +kernel) (by decide) ?_
  refine jj_icmp_ne (off := 10) (tgt := 17) (by decide +kernel) (by decide) (fun c2 => ?_) (fun c2 => ?_)
  · skip
    refine jj_aload_n (j := 0) (by decide +kernel) rfl ?_
    refine jj_ldcW (index := 287) (i := 51) (tx := "if") (by decide +kernel) (List.mem_of_getElem? (i := 52) rfl) ?_
    refine mq_ci (mq_i hq (fun g hm => m_isWord (d := d - 1) (i := 51) hG hk (by decide) (by omega) hm) (fun _ _ q => q)) (fun o1 h1 hC => jj_callV ok_MO_isWord ml_MO_137 im_MO_isWord se_MO_MO_isWord (by decide +kernel) hq.rcv rfl (by omega) (Nat.le_of_ble_eq_true rfl) hC) (fun v3 u3 h hp3 hq => ?_)
    obtain ⟨e3, -, hf3⟩ := hp3
    rw [e3] at hq
    refine jj_if_eq (off := 10) (tgt := 34) (by decide +kernel) (by decide) (fun c4 => ?_) (fun c4 => ?_)
    · skip
      refine jj_aload_n (j := 0) (by decide +kernel) rfl ?_
      refine jj_ldcW (index := 352) (i := 55) (tx := "case") (by decide +kernel) (List.mem_of_getElem? (i := 56) rfl) ?_
      refine mq_ci (mq_i hq (fun g hm => m_isWord (d := d - 1) (i := 55) hG hk (by decide) (by omega) hm) (fun _ _ q => q)) (fun o1 h1 hC => jj_callV ok_MO_isWord ml_MO_137 im_MO_isWord se_MO_MO_isWord (by decide +kernel) hq.rcv rfl (by omega) (Nat.le_of_ble_eq_true rfl) hC) (fun v5 u5 h hp5 hq => ?_)
      obtain ⟨e5, -, hf5⟩ := hp5
      rw [e5] at hq
      refine jj_if_eq (off := 10) (tgt := 51) (by decide +kernel) (by decide) (fun c6 => ?_) (fun c6 => ?_)
      · skip
        refine jj_aload_n (j := 0) (by decide +kernel) rfl ?_
        refine jj_ldcW (index := 282) (i := 58) (tx := "for") (by decide +kernel) (List.mem_of_getElem? (i := 59) rfl) ?_
        refine mq_ci (mq_i hq (fun g hm => m_isWord (d := d - 1) (i := 58) hG hk (by decide) (by omega) hm) (fun _ _ q => q)) (fun o1 h1 hC => jj_callV ok_MO_isWord ml_MO_137 im_MO_isWord se_MO_MO_isWord (by decide +kernel) hq.rcv rfl (by omega) (Nat.le_of_ble_eq_true rfl) hC) (fun v7 u7 h hp7 hq => ?_)
        obtain ⟨e7, -, hf7⟩ := hp7
        rw [e7] at hq
        refine jj_if_ne (off := 23) (tgt := 81) (by decide +kernel) (by decide) (fun c8 => ?_) (fun c8 => ?_)
        · skip
          have hz8 := hf7 c8
          exact jj_wk (js_s js_0) (b_MO_statement_81 (o := o) hG hk ho hT hdd (by omega) hz8.2 (by omega) hq)
        · skip
          refine jj_aload_n (j := 0) (by decide +kernel) rfl ?_
          refine jj_ldcW (index := 357) (i := 59) (tx := "while") (by decide +kernel) (List.mem_of_getElem? (i := 60) rfl) ?_
          refine mq_ci (mq_i hq (fun g hm => m_isWord (d := d - 1) (i := 59) hG hk (by decide) (by omega) hm) (fun _ _ q => q)) (fun o1 h1 hC => jj_callV ok_MO_isWord ml_MO_137 im_MO_isWord se_MO_MO_isWord (by decide +kernel) hq.rcv rfl (by omega) (Nat.le_of_ble_eq_true rfl) hC) (fun v9 u9 h hp9 hq => ?_)
          obtain ⟨e9, -, hf9⟩ := hp9
          rw [e9] at hq
          refine jj_if_ne (off := 13) (tgt := 81) (by decide +kernel) (by decide) (fun c10 => ?_) (fun c10 => ?_)
          · skip
            have hz10 := hf9 c10
            exact jj_wk (js_s js_0) (b_MO_statement_81 (o := o) hG hk ho hT hdd (by omega) hz10.2 (by omega) hq)
          · skip
            refine jj_aload_n (j := 0) (by decide +kernel) rfl ?_
            refine jj_ldcW (index := 359) (i := 60) (tx := "loop") (by decide +kernel) (List.mem_of_getElem? (i := 61) rfl) ?_
            refine mq_ci (mq_i hq (fun g hm => m_isWord (d := d - 1) (i := 60) hG hk (by decide) (by omega) hm) (fun _ _ q => q)) (fun o1 h1 hC => jj_callV ok_MO_isWord ml_MO_137 im_MO_isWord se_MO_MO_isWord (by decide +kernel) hq.rcv rfl (by omega) (Nat.le_of_ble_eq_true rfl) hC) (fun v11 u11 h hp11 hq => ?_)
            obtain ⟨e11, -, hf11⟩ := hp11
            rw [e11] at hq
            refine jj_if_eq (off := 10) (tgt := 88) (by decide +kernel) (by decide) (fun c12 => ?_) (fun c12 => ?_)
            · skip
              refine jj_aload_n (j := 0) (by decide +kernel) rfl ?_
              refine jj_ldcW (index := 363) (i := 61) (tx := "exit") (by decide +kernel) (List.mem_of_getElem? (i := 62) rfl) ?_
              refine mq_ci (mq_i hq (fun g hm => m_isWord (d := d - 1) (i := 61) hG hk (by decide) (by omega) hm) (fun _ _ q => q)) (fun o1 h1 hC => jj_callV ok_MO_isWord ml_MO_137 im_MO_isWord se_MO_MO_isWord (by decide +kernel) hq.rcv rfl (by omega) (Nat.le_of_ble_eq_true rfl) hC) (fun v13 u13 h hp13 hq => ?_)
              obtain ⟨e13, -, hf13⟩ := hp13
              rw [e13] at hq
              refine jj_if_eq (off := 12) (tgt := 107) (by decide +kernel) (by decide) (fun c14 => ?_) (fun c14 => ?_)
              · skip
                refine jj_aload_n (j := 0) (by decide +kernel) rfl ?_
                refine jj_ldcW (index := 368) (i := 62) (tx := "next") (by decide +kernel) (List.mem_of_getElem? (i := 63) rfl) ?_
                refine mq_ci (mq_i hq (fun g hm => m_isWord (d := d - 1) (i := 62) hG hk (by decide) (by omega) hm) (fun _ _ q => q)) (fun o1 h1 hC => jj_callV ok_MO_isWord ml_MO_137 im_MO_isWord se_MO_MO_isWord (by decide +kernel) hq.rcv rfl (by omega) (Nat.le_of_ble_eq_true rfl) hC) (fun v15 u15 h hp15 hq => ?_)
                obtain ⟨e15, -, hf15⟩ := hp15
                rw [e15] at hq
                refine jj_if_eq (off := 12) (tgt := 126) (by decide +kernel) (by decide) (fun c16 => ?_) (fun c16 => ?_)
                · skip
                  refine jj_aload_n (j := 0) (by decide +kernel) rfl ?_
                  refine jj_ldcW (index := 370) (i := 63) (tx := "wait") (by decide +kernel) (List.mem_of_getElem? (i := 64) rfl) ?_
                  refine mq_ci (mq_i hq (fun g hm => m_isWord (d := d - 1) (i := 63) hG hk (by decide) (by omega) hm) (fun _ _ q => q)) (fun o1 h1 hC => jj_callV ok_MO_isWord ml_MO_137 im_MO_isWord se_MO_MO_isWord (by decide +kernel) hq.rcv rfl (by omega) (Nat.le_of_ble_eq_true rfl) hC) (fun v17 u17 h hp17 hq => ?_)
                  obtain ⟨e17, -, hf17⟩ := hp17
                  rw [e17] at hq
                  refine jj_if_eq (off := 10) (tgt := 143) (by decide +kernel) (by decide) (fun c18 => ?_) (fun c18 => ?_)
                  · skip
                    refine jj_aload_n (j := 0) (by decide +kernel) rfl ?_
                    refine jj_ldcW (index := 375) (i := 66) (tx := "null") (by decide +kernel) (List.mem_of_getElem? (i := 67) rfl) ?_
                    refine mq_ci (mq_i hq (fun g hm => m_isWord (d := d - 1) (i := 66) hG hk (by decide) (by omega) hm) (fun _ _ q => q)) (fun o1 h1 hC => jj_callV ok_MO_isWord ml_MO_137 im_MO_isWord se_MO_MO_isWord (by decide +kernel) hq.rcv rfl (by omega) (Nat.le_of_ble_eq_true rfl) hC) (fun v19 u19 h hp19 hq => ?_)
                    obtain ⟨e19, -, hf19⟩ := hp19
                    rw [e19] at hq
                    refine jj_if_eq (off := 10) (tgt := 160) (by decide +kernel) (by decide) (fun c20 => ?_) (fun c20 => ?_)
                    · skip
                      refine jj_aload_n (j := 0) (by decide +kernel) rfl ?_
                      refine jj_ldcW (index := 380) (i := 67) (tx := "report") (by decide +kernel) (List.mem_of_getElem? (i := 68) rfl) ?_
                      refine mq_ci (mq_i hq (fun g hm => m_isWord (d := d - 1) (i := 67) hG hk (by decide) (by omega) hm) (fun _ _ q => q)) (fun o1 h1 hC => jj_callV ok_MO_isWord ml_MO_137 im_MO_isWord se_MO_MO_isWord (by decide +kernel) hq.rcv rfl (by omega) (Nat.le_of_ble_eq_true rfl) hC) (fun v21 u21 h hp21 hq => ?_)
                      obtain ⟨e21, -, hf21⟩ := hp21
                      rw [e21] at hq
                      refine jj_if_eq (off := 12) (tgt := 179) (by decide +kernel) (by decide) (fun c22 => ?_) (fun c22 => ?_)
                      · skip
                        refine jj_aload_n (j := 0) (by decide +kernel) rfl ?_
                        refine jj_ldcW (index := 384) (i := 68) (tx := "assert") (by decide +kernel) (List.mem_of_getElem? (i := 69) rfl) ?_
                        refine mq_ci (mq_i hq (fun g hm => m_isWord (d := d - 1) (i := 68) hG hk (by decide) (by omega) hm) (fun _ _ q => q)) (fun o1 h1 hC => jj_callV ok_MO_isWord ml_MO_137 im_MO_isWord se_MO_MO_isWord (by decide +kernel) hq.rcv rfl (by omega) (Nat.le_of_ble_eq_true rfl) hC) (fun v23 u23 h hp23 hq => ?_)
                        obtain ⟨e23, -, hf23⟩ := hp23
                        rw [e23] at hq
                        refine jj_if_eq (off := 12) (tgt := 198) (by decide +kernel) (by decide) (fun c24 => ?_) (fun c24 => ?_)
                        · skip
                          refine jj_iconst (n := 0) (v := 0) (by decide +kernel) (by decide) ?_
                          exact jj_iret .boolean (by decide +kernel) rfl rfl ⟨_, u, rfl, ⟨by omega, fun q => absurd rfl q⟩, hq⟩
                        · skip
                          have hz24 := hf23 c24
                          refine jj_aload_n (j := 0) (by decide +kernel) rfl ?_
                          refine jj_bipush (n := 47) (v := 47) (by decide +kernel) (by decide) ?_
                          refine mq_cv (q_MO_report (d := d - 1) (m := m) hG hk (by omega) (by omega) hz24.2 (by omega) hq) (fun o1 h1 hC => jj_callV ok_MO_report ml_MO_382 im_MO_report se_MO_MO_report (by decide +kernel) hq.rcv rfl (by omega) (Nat.le_of_ble_eq_true rfl) hC) (fun u25 h hp25 hq => ?_)
                          refine jj_goto (off := 5) (tgt := 200) (by decide +kernel) (by decide) ?_
                          refine jj_iconst (n := 1) (v := 1) (by decide +kernel) (by decide) ?_
                          exact jj_iret .boolean (by decide +kernel) rfl rfl ⟨_, u25, rfl, ⟨by omega, fun _ => ⟨by omega, by omega⟩⟩, hq⟩
                      · skip
                        have hz22 := hf21 c22
                        refine jj_aload_n (j := 0) (by decide +kernel) rfl ?_
                        refine jj_bipush (n := 46) (v := 46) (by decide +kernel) (by decide) ?_
                        refine mq_cv (q_MO_report (d := d - 1) (m := m) hG hk (by omega) (by omega) hz22.2 (by omega) hq) (fun o1 h1 hC => jj_callV ok_MO_report ml_MO_382 im_MO_report se_MO_MO_report (by decide +kernel) hq.rcv rfl (by omega) (Nat.le_of_ble_eq_true rfl) hC) (fun u26 h hp26 hq => ?_)
                        refine jj_goto (off := 24) (tgt := 200) (by decide +kernel) (by decide) ?_
                        refine jj_iconst (n := 1) (v := 1) (by decide +kernel) (by decide) ?_
                        exact jj_iret .boolean (by decide +kernel) rfl rfl ⟨_, u26, rfl, ⟨by omega, fun _ => ⟨by omega, by omega⟩⟩, hq⟩
                    · skip
                      have hz20 := hf19 c20
                      refine jj_aload_n (j := 0) (by decide +kernel) rfl ?_
                      refine mq_cv (q_MO_nothing (d := d - 1) hG hk  (by omega) hz20.2 (by omega) hq) (fun o1 h1 hC => jj_callV ok_MO_nothing ml_MO_377 im_MO_nothing se_MO_MO_nothing (by decide +kernel) hq.rcv rfl (by omega) (Nat.le_of_ble_eq_true rfl) hC) (fun u27 h hp27 hq => ?_)
                      refine jj_goto (off := 43) (tgt := 200) (by decide +kernel) (by decide) ?_
                      refine jj_iconst (n := 1) (v := 1) (by decide +kernel) (by decide) ?_
                      exact jj_iret .boolean (by decide +kernel) rfl rfl ⟨_, u27, rfl, ⟨by omega, fun _ => ⟨by omega, by omega⟩⟩, hq⟩
                  · skip
                    have hz18 := hf17 c18
                    refine jj_aload_n (j := 0) (by decide +kernel) rfl ?_
                    refine mq_cv (q_MO_waits (d := d - 1) (m := m) hG hk (by omega) (by omega) hz18.2 (by omega) hq) (fun o1 h1 hC => jj_callV ok_MO_waits ml_MO_372 im_MO_waits se_MO_MO_waits (by decide +kernel) hq.rcv rfl (by omega) (Nat.le_of_ble_eq_true rfl) hC) (fun u28 h hp28 hq => ?_)
                    refine jj_goto (off := 60) (tgt := 200) (by decide +kernel) (by decide) ?_
                    refine jj_iconst (n := 1) (v := 1) (by decide +kernel) (by decide) ?_
                    exact jj_iret .boolean (by decide +kernel) rfl rfl ⟨_, u28, rfl, ⟨by omega, fun _ => ⟨by omega, by omega⟩⟩, hq⟩
                · skip
                  have hz16 := hf15 c16
                  refine jj_aload_n (j := 0) (by decide +kernel) rfl ?_
                  refine jj_bipush (n := 43) (v := 43) (by decide +kernel) (by decide) ?_
                  refine mq_cv (q_MO_leave (d := d - 1) (m := m) hG hk (by omega) (by omega) hz16.2 (by omega) hq) (fun o1 h1 hC => jj_callV ok_MO_leave ml_MO_365 im_MO_leave se_MO_MO_leave (by decide +kernel) hq.rcv rfl (by omega) (Nat.le_of_ble_eq_true rfl) hC) (fun u29 h hp29 hq => ?_)
                  refine jj_goto (off := 77) (tgt := 200) (by decide +kernel) (by decide) ?_
                  refine jj_iconst (n := 1) (v := 1) (by decide +kernel) (by decide) ?_
                  exact jj_iret .boolean (by decide +kernel) rfl rfl ⟨_, u29, rfl, ⟨by omega, fun _ => ⟨by omega, by omega⟩⟩, hq⟩
              · skip
                have hz14 := hf13 c14
                refine jj_aload_n (j := 0) (by decide +kernel) rfl ?_
                refine jj_bipush (n := 42) (v := 42) (by decide +kernel) (by decide) ?_
                refine mq_cv (q_MO_leave (d := d - 1) (m := m) hG hk (by omega) (by omega) hz14.2 (by omega) hq) (fun o1 h1 hC => jj_callV ok_MO_leave ml_MO_365 im_MO_leave se_MO_MO_leave (by decide +kernel) hq.rcv rfl (by omega) (Nat.le_of_ble_eq_true rfl) hC) (fun u30 h hp30 hq => ?_)
                refine jj_goto (off := 96) (tgt := 200) (by decide +kernel) (by decide) ?_
                refine jj_iconst (n := 1) (v := 1) (by decide +kernel) (by decide) ?_
                exact jj_iret .boolean (by decide +kernel) rfl rfl ⟨_, u30, rfl, ⟨by omega, fun _ => ⟨by omega, by omega⟩⟩, hq⟩
            · skip
              have hz12 := hf11 c12
              exact jj_wk (js_s js_0) (b_MO_statement_81 (o := o) hG hk ho hT hdd (by omega) hz12.2 (by omega) hq)
      · skip
        have hz6 := hf5 c6
        refine jj_aload_n (j := 0) (by decide +kernel) rfl ?_
        refine mq_cv (q_MO_cases (d := d - 1) (m := m) hG hk (by omega) hT (by omega) hz6.2 (by omega) hq) (fun o1 h1 hC => jj_callV ok_MO_cases ml_MO_354 im_MO_cases se_MO_MO_cases (by decide +kernel) hq.rcv rfl (by omega) (Nat.le_of_ble_eq_true rfl) hC) (fun u31 h hp31 hq => ?_)
        refine jj_goto (off := 152) (tgt := 200) (by decide +kernel) (by decide) ?_
        refine jj_iconst (n := 1) (v := 1) (by decide +kernel) (by decide) ?_
        exact jj_iret .boolean (by decide +kernel) rfl rfl ⟨_, u31, rfl, ⟨by omega, fun _ => ⟨by omega, by omega⟩⟩, hq⟩
    · skip
      have hz4 := hf3 c4
      refine jj_aload_n (j := 0) (by decide +kernel) rfl ?_
      refine mq_cv (q_MO_branches (d := d - 1) (m := m) hG hk (by omega) hT (by omega) hz4.2 (by omega) hq) (fun o1 h1 hC => jj_callV ok_MO_branches ml_MO_349 im_MO_branches se_MO_MO_branches (by decide +kernel) hq.rcv rfl (by omega) (Nat.le_of_ble_eq_true rfl) hC) (fun u32 h hp32 hq => ?_)
      refine jj_goto (off := 169) (tgt := 200) (by decide +kernel) (by decide) ?_
      refine jj_iconst (n := 1) (v := 1) (by decide +kernel) (by decide) ?_
      exact jj_iret .boolean (by decide +kernel) rfl rfl ⟨_, u32, rfl, ⟨by omega, fun _ => ⟨by omega, by omega⟩⟩, hq⟩
  · skip
    have hz2 := mo_kd.pos hf1 (by rw [c2]; decide)
    refine jj_aload_n (j := 0) (by decide +kernel) rfl ?_
    refine mq_cv (q_MO_assignment (d := d - 1) (m := m) hG hk (by omega) (by omega) hq) (fun o1 h1 hC => jj_callV ok_MO_assignment ml_MO_346 im_MO_assignment se_MO_MO_assignment (by decide +kernel) hq.rcv rfl (by omega) (Nat.le_of_ble_eq_true rfl) hC) (fun u33 h hp33 hq => ?_)
    refine jj_goto (off := 186) (tgt := 200) (by decide +kernel) (by decide) ?_
    refine jj_iconst (n := 1) (v := 1) (by decide +kernel) (by decide) ?_
    exact jj_iret .boolean (by decide +kernel) rfl rfl ⟨_, u33, rfl, ⟨by omega, fun _ => ⟨by omega, by omega⟩⟩, hq⟩
theorem q_MO_statement {l : Launch} {G : jj_G} {C : mo_C} {u0 o d : Nat} {m : Nat} {h : jj_H} (hG : jj_tyG G) (hk : mo_k C) (ho : u0 = 0 ∨ o + m = 41) (hT : 0 < m → mo_St l G C (m - 1)) (hdd : 22 + 20 * m ≤ d) (hq : Pq G C u0 o h) : jj_Q l G y_MO_statement d [.ref (C.2.1 0)] h (mq_I G C o (mq_K u0)) :=
  jj_Q.of (by decide +kernel) (Nat.le_of_ble_eq_true rfl) (b_MO_statement_0 (o := o) hG hk ho hT hdd (Nat.le_refl _) hq)
set_option maxRecDepth 100000 in
set_option maxHeartbeats 4000000 in
theorem b_MO_statements_2 {l : Launch} {G : jj_G} {C : mo_C} {u0 o d : Nat} {m : Nat} (hG : jj_tyG G) (hk : mo_k C) (ho : u0 = 0 ∨ o + m = 41) (hT : 0 < m → mo_St l G C (m - 1)) (hdd : 23 + 20 * m ≤ d) : ∀ (n : Nat) (x1 : Int32) (u : Nat) (h : jj_H), u < n → u ≤ u0 → Pq G C u o h → jj_P l G y_MO_statements d (mq_V G C o (fun u' => u' ≤ u0)) 2 [some (.ref (C.2.1 0)), some (.int x1)] [] h := by
  intro n
  induction n with
  | zero => intro x1 u h hn0; exact absurd hn0 (Nat.not_lt_zero _)
  | succ n ih =>
    intro x1 u h hn0 hle hq
    refine jj_aload_n (j := 0) (by decide +kernel) rfl ?_
    refine mq_ci (q_MO_statement (d := d - 1) (m := m) hG hk (by omega) hT (by omega) hq) (fun o1 h1 hC => jj_callV ok_MO_statement ml_MO_342 im_MO_statement se_MO_MO_statement (by decide +kernel) hq.rcv rfl (by omega) (Nat.le_of_ble_eq_true rfl) hC) (fun v1 u1 h hp1 hq => ?_)
    obtain ⟨hp1, hf1⟩ := hp1
    refine jj_if_eq (off := 9) (tgt := 15) (by decide +kernel) (by decide) (fun c2 => ?_) (fun c2 => ?_)
    · skip
      refine jj_aload_n (j := 0) (by decide +kernel) rfl ?_
      refine jj_bipush (n := 48) (v := 48) (by decide +kernel) (by decide) ?_
      refine jj_iconst (n := 0) (v := 0) (by decide +kernel) (by decide) ?_
      refine jj_iload_n (j := 1) (by decide +kernel) rfl ?_
      refine mq_cv (mq_v hq (fun g hm => m_lay (d := d - 1) hG hk (by omega) hm)) (fun o1 h1 hC => jj_callV ok_MO_lay ml_MO_166 im_MO_lay se_MO_MO_lay (by decide +kernel) hq.rcv rfl (by omega) (Nat.le_of_ble_eq_true rfl) hC) (fun u3 h hp3 hq => ?_)
      exact jj_vret (by decide +kernel) rfl ⟨rfl, u3, by omega, hq⟩
    · skip
      have hz2 := hf1 c2
      refine jj_iinc (i := 1) (n := 1) (by decide +kernel) rfl rfl (by decide) rfl ?_
      refine jj_goto (off := (-10)) (tgt := 2) (by decide +kernel) (by decide) ?_
      exact jj_wk (js_s (js_s js_0)) (ih _ u1 _ (by omega) (by omega) hq)
set_option maxRecDepth 100000 in
set_option maxHeartbeats 4000000 in
theorem b_MO_statements_0 {l : Launch} {G : jj_G} {C : mo_C} {u0 o d : Nat} {m : Nat} {u : Nat} {h : jj_H} (hG : jj_tyG G) (hk : mo_k C) (ho : u0 = 0 ∨ o + m = 41) (hT : 0 < m → mo_St l G C (m - 1)) (hdd : 23 + 20 * m ≤ d) (hle : u ≤ u0) (hq : Pq G C u o h) : jj_P l G y_MO_statements d (mq_V G C o (fun u' => u' ≤ u0)) 0 [some (.ref (C.2.1 0)), none] [] h := by
  refine jj_iconst (n := 0) (v := 0) (by decide +kernel) (by decide) ?_
  refine jj_istore_n (j := 1) (by decide +kernel) (by decide) rfl ?_
  exact jj_wk (js_s (js_s js_0)) (b_MO_statements_2 (o := o) hG hk ho hT hdd _ _ u _ (Nat.lt_succ_self _) (by omega) hq)
theorem q_MO_statements {l : Launch} {G : jj_G} {C : mo_C} {u0 o d : Nat} {m : Nat} {h : jj_H} (hG : jj_tyG G) (hk : mo_k C) (ho : u0 = 0 ∨ o + m = 41) (hT : 0 < m → mo_St l G C (m - 1)) (hdd : 23 + 20 * m ≤ d) (hq : Pq G C u0 o h) : jj_Q l G y_MO_statements d [.ref (C.2.1 0)] h (mq_V G C o (fun u' => u' ≤ u0)) :=
  jj_Q.of (by decide +kernel) (Nat.le_of_ble_eq_true rfl) (b_MO_statements_0 (o := o) hG hk ho hT hdd (Nat.le_refl _) hq)
theorem mst_all {l : Launch} {G : jj_G} {C : mo_C} (hG : jj_tyG G) (hk : mo_k C) : ∀ m, mo_St l G C m := by
  intro m
  induction m with
  | zero => exact fun u o h d ho hq hdd => q_MO_statements hG hk ho (fun q => absurd q (by decide)) hdd hq
  | succ m ih => exact fun u o h d ho hq hdd => q_MO_statements hG hk ho (fun _ => ih) hdd hq
