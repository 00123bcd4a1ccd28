set_option maxRecDepth 100000 in
set_option maxHeartbeats 4000000 in
theorem b_MO_declarations_139 {l : Launch} {G : jj_G} {C : mo_C} {u0 o d : Nat} {m : Nat} {x1 : Int32} {u : Nat} {h : jj_H} {x2 x3 : Int32} (hG : jj_tyG G) (hk : mo_k C) (ho : u0 = 0 ∨ o + m = 41) (hdd : 21 + 20 * m ≤ d) (hle : u ≤ u0) (hq : Pq G C u o h) : jj_P l G y_MO_declarations d (mq_V G C o (fun u' => u' ≤ u0)) 139 [some (.ref (C.2.1 0)), some (.int x1), some (.int x2), some (.int x3)] [] h := by
  refine jj_aload_n (j := 0) (by decide +kernel) rfl ?_
  refine jj_bipush (n := 48) (v := 48) (by decide +kernel) (by decide) ?_
  refine jj_iconst (n := 0) (v := 0) (by decide +kernel) (by decide) ?_
  refine jj_iload_n (j := 2) (by decide +kernel) rfl ?_
  refine mq_cv (mq_v hq (fun g hm => m_lay (d := d - 1) hG hk (by omega) hm)) (fun o1 h1 hC => jj_callV ok_MO_lay ml_MO_166 im_MO_lay se_MO_MO_lay (by decide +kernel) hq.rcv rfl (by omega) (Nat.le_of_ble_eq_true rfl) hC) (fun u1 h hp1 hq => ?_)
  exact jj_vret (by decide +kernel) rfl ⟨rfl, u1, by omega, hq⟩
set_option maxRecDepth 100000 in
set_option maxHeartbeats 4000000 in
theorem b_MO_declarations_115 {l : Launch} {G : jj_G} {C : mo_C} {u0 o d : Nat} {m : Nat} {x1 : Int32} {u : Nat} {h : jj_H} {x2 : Int32} (hG : jj_tyG G) (hk : mo_k C) (ho : u0 = 0 ∨ o + m = 41) (hdd : 21 + 20 * m ≤ d) {n : Nat} (ih : ∀ (x2 : Int32) (x3 : Int32) (u : Nat) (h : jj_H), (x2 = x3 ∨ u < n) ∧ 0 < n → u ≤ u0 → Pq G C u o h → jj_P l G y_MO_declarations d (mq_V G C o (fun u' => u' ≤ u0)) 4 [some (.ref (C.2.1 0)), some (.int x1), some (.int x2), some (.int x3)] [] h) (hn0 : u < n + 1) (hps9 : 0 < u) (hle : u ≤ u0) (hq : Pq G C u o h) : jj_P l G y_MO_declarations d (mq_V G C o (fun u' => u' ≤ u0)) 115 [some (.ref (C.2.1 0)), some (.int x1), some (.int x2), some (.int x2)] [] h := by
  refine jj_iload_n (j := 1) (by decide +kernel) rfl ?_
  refine jj_if_ne (off := (-112)) (tgt := 4) (by decide +kernel) (by decide) (fun c1 => ?_) (fun c1 => ?_)
  · skip
    exact jj_wk (js_s (js_s (js_s (js_s js_0)))) (ih _ _ u _ ⟨by first | exact Or.inl rfl | exact Or.inr (by omega), by omega⟩ (by omega) hq)
  · skip
    refine jj_aload_n (j := 0) (by decide +kernel) rfl ?_
    refine jj_ldcW (index := 265) (i := 44) (tx := "subtype") (by decide +kernel) (List.mem_of_getElem? (i := 45) rfl) ?_
    refine mq_ci (mq_i hq (fun g hm => m_isWord (d := d - 1) (i := 44) hG hk (by decide) (by omega) hm) (fun _ _ q => q)) (fun o1 h1 hC => jj_callV ok_MO_isWord ml_MO_137 im_MO_isWord se_MO_MO_isWord (by decide +kernel) hq.rcv rfl (by omega) (Nat.le_of_ble_eq_true rfl) hC) (fun v2 u2 h hp2 hq => ?_)
    obtain ⟨e2, -, hf2⟩ := hp2
    rw [e2] at hq
    refine jj_if_eq (off := (-122)) (tgt := 4) (by decide +kernel) (by decide) (fun c3 => ?_) (fun c3 => ?_)
    · skip
      exact jj_wk (js_s (js_s (js_s (js_s js_0)))) (ih _ _ u _ ⟨by first | exact Or.inl rfl | exact Or.inr (by omega), by omega⟩ (by omega) hq)
    · skip
      have hz3 := hf2 c3
      refine jj_iload_n (j := 2) (by decide +kernel) rfl ?_
      refine jj_aload_n (j := 0) (by decide +kernel) rfl ?_
      refine mq_ci (q_MO_subtype (d := d - 1) (m := m) hG hk (by omega) (by omega) hz3.2 (by omega) hq) (fun o1 h1 hC => jj_callV ok_MO_subtype ml_MO_267 im_MO_subtype se_MO_MO_subtype (by decide +kernel) hq.rcv rfl (by omega) (Nat.le_of_ble_eq_true rfl) hC) (fun v4 u4 h hp4 hq => ?_)
      refine jj_iadd (by decide +kernel) ?_
      refine jj_istore_n (j := 2) (by decide +kernel) (by decide) rfl ?_
      refine jj_goto (off := (-132)) (tgt := 4) (by decide +kernel) (by decide) ?_
      exact jj_wk (js_s (js_s (js_s (js_s js_0)))) (ih _ _ u4 _ ⟨by first | exact Or.inl rfl | exact Or.inr (by omega), by omega⟩ (by omega) hq)
set_option maxRecDepth 100000 in
set_option maxHeartbeats 4000000 in
theorem b_MO_declarations_91 {l : Launch} {G : jj_G} {C : mo_C} {u0 o d : Nat} {m : Nat} {x1 : Int32} {u : Nat} {h : jj_H} {x2 : Int32} (hG : jj_tyG G) (hk : mo_k C) (ho : u0 = 0 ∨ o + m = 41) (hdd : 21 + 20 * m ≤ d) {n : Nat} (ih : ∀ (x2 : Int32) (x3 : Int32) (u : Nat) (h : jj_H), (x2 = x3 ∨ u < n) ∧ 0 < n → u ≤ u0 → Pq G C u o h → jj_P l G y_MO_declarations d (mq_V G C o (fun u' => u' ≤ u0)) 4 [some (.ref (C.2.1 0)), some (.int x1), some (.int x2), some (.int x3)] [] h) (hn0 : u < n + 1) (hps9 : 0 < u) (hle : u ≤ u0) (hq : Pq G C u o h) : jj_P l G y_MO_declarations d (mq_V G C o (fun u' => u' ≤ u0)) 91 [some (.ref (C.2.1 0)), some (.int x1), some (.int x2), some (.int x2)] [] h := by
  refine jj_iload_n (j := 1) (by decide +kernel) rfl ?_
  refine jj_if_ne (off := 23) (tgt := 115) (by decide +kernel) (by decide) (fun c1 => ?_) (fun c1 => ?_)
  · skip
    exact jj_wk (js_s (js_s (js_s (js_s js_0)))) (b_MO_declarations_115 (o := o) hG hk ho hdd ih (by omega) (by omega) (by omega) hq)
  · skip
    refine jj_aload_n (j := 0) (by decide +kernel) rfl ?_
    refine jj_ldcW (index := 261) (i := 43) (tx := "type") (by decide +kernel) (List.mem_of_getElem? (i := 44) rfl) ?_
    refine mq_ci (mq_i hq (fun g hm => m_isWord (d := d - 1) (i := 43) hG hk (by decide) (by omega) hm) (fun _ _ q => q)) (fun o1 h1 hC => jj_callV ok_MO_isWord ml_MO_137 im_MO_isWord se_MO_MO_isWord (by decide +kernel) hq.rcv rfl (by omega) (Nat.le_of_ble_eq_true rfl) hC) (fun v2 u2 h hp2 hq => ?_)
    obtain ⟨e2, -, hf2⟩ := hp2
    rw [e2] at hq
    refine jj_if_eq (off := 13) (tgt := 115) (by decide +kernel) (by decide) (fun c3 => ?_) (fun c3 => ?_)
    · skip
      exact jj_wk (js_s (js_s (js_s (js_s js_0)))) (b_MO_declarations_115 (o := o) hG hk ho hdd ih (by omega) (by omega) (by omega) hq)
    · skip
      have hz3 := hf2 c3
      refine jj_iload_n (j := 2) (by decide +kernel) rfl ?_
      refine jj_aload_n (j := 0) (by decide +kernel) rfl ?_
      refine mq_ci (q_MO_enumeration (d := d - 1) hG hk  (by omega) hz3.2 (by omega) hq) (fun o1 h1 hC => jj_callV ok_MO_enumeration ml_MO_262 im_MO_enumeration se_MO_MO_enumeration (by decide +kernel) hq.rcv rfl (by omega) (Nat.le_of_ble_eq_true rfl) hC) (fun v4 u4 h hp4 hq => ?_)
      refine jj_iadd (by decide +kernel) ?_
      refine jj_istore_n (j := 2) (by decide +kernel) (by decide) rfl ?_
      refine jj_goto (off := (-108)) (tgt := 4) (by decide +kernel) (by decide) ?_
      exact jj_wk (js_s (js_s (js_s (js_s js_0)))) (ih _ _ u4 _ ⟨by first | exact Or.inl rfl | exact Or.inr (by omega), by omega⟩ (by omega) hq)
set_option maxRecDepth 100000 in
set_option maxHeartbeats 4000000 in
theorem b_MO_declarations_65 {l : Launch} {G : jj_G} {C : mo_C} {u0 o d : Nat} {m : Nat} {x1 : Int32} {u : Nat} {h : jj_H} {x2 : Int32} (hG : jj_tyG G) (hk : mo_k C) (ho : u0 = 0 ∨ o + m = 41) (hdd : 21 + 20 * m ≤ d) {n : Nat} (ih : ∀ (x2 : Int32) (x3 : Int32) (u : Nat) (h : jj_H), (x2 = x3 ∨ u < n) ∧ 0 < n → u ≤ u0 → Pq G C u o h → jj_P l G y_MO_declarations d (mq_V G C o (fun u' => u' ≤ u0)) 4 [some (.ref (C.2.1 0)), some (.int x1), some (.int x2), some (.int x3)] [] h) (hn0 : u < n + 1) (hps9 : 0 < u) (hle : u ≤ u0) (hq : Pq G C u o h) : jj_P l G y_MO_declarations d (mq_V G C o (fun u' => u' ≤ u0)) 65 [some (.ref (C.2.1 0)), some (.int x1), some (.int x2), some (.int x2)] [] h := by
  refine jj_iload_n (j := 1) (by decide +kernel) rfl ?_
  refine jj_if_ne (off := 25) (tgt := 91) (by decide +kernel) (by decide) (fun c1 => ?_) (fun c1 => ?_)
  · skip
    exact jj_wk (js_s (js_s (js_s (js_s js_0)))) (b_MO_declarations_91 (o := o) hG hk ho hdd ih (by omega) (by omega) (by omega) hq)
  · skip
    refine jj_aload_n (j := 0) (by decide +kernel) rfl ?_
    refine jj_ldcW (index := 259) (i := 42) (tx := "signal") (by decide +kernel) (List.mem_of_getElem? (i := 43) rfl) ?_
    refine mq_ci (mq_i hq (fun g hm => m_isWord (d := d - 1) (i := 42) hG hk (by decide) (by omega) hm) (fun _ _ q => q)) (fun o1 h1 hC => jj_callV ok_MO_isWord ml_MO_137 im_MO_isWord se_MO_MO_isWord (by decide +kernel) hq.rcv rfl (by omega) (Nat.le_of_ble_eq_true rfl) hC) (fun v2 u2 h hp2 hq => ?_)
    obtain ⟨e2, -, hf2⟩ := hp2
    rw [e2] at hq
    refine jj_if_eq (off := 15) (tgt := 91) (by decide +kernel) (by decide) (fun c3 => ?_) (fun c3 => ?_)
    · skip
      exact jj_wk (js_s (js_s (js_s (js_s js_0)))) (b_MO_declarations_91 (o := o) hG hk ho hdd ih (by omega) (by omega) (by omega) hq)
    · skip
      have hz3 := hf2 c3
      refine jj_iload_n (j := 2) (by decide +kernel) rfl ?_
      refine jj_aload_n (j := 0) (by decide +kernel) rfl ?_
      refine jj_bipush (n := 50) (v := 50) (by decide +kernel) (by decide) ?_
      refine mq_ci (q_MO_objects (d := d - 1) (m := m) hG hk (by omega) (by omega) hz3.2 (by omega) hq) (fun o1 h1 hC => jj_callV ok_MO_objects ml_MO_254 im_MO_objects se_MO_MO_objects (by decide +kernel) hq.rcv rfl (by omega) (Nat.le_of_ble_eq_true rfl) hC) (fun v4 u4 h hp4 hq => ?_)
      refine jj_iadd (by decide +kernel) ?_
      refine jj_istore_n (j := 2) (by decide +kernel) (by decide) rfl ?_
      refine jj_goto (off := (-84)) (tgt := 4) (by decide +kernel) (by decide) ?_
      exact jj_wk (js_s (js_s (js_s (js_s js_0)))) (ih _ _ u4 _ ⟨by first | exact Or.inl rfl | exact Or.inr (by omega), by omega⟩ (by omega) hq)
set_option maxRecDepth 100000 in
set_option maxHeartbeats 4000000 in
theorem b_MO_declarations_4 {l : Launch} {G : jj_G} {C : mo_C} {u0 o d : Nat} {m : Nat} {x1 : Int32} (hG : jj_tyG G) (hk : mo_k C) (ho : u0 = 0 ∨ o + m = 41) (hdd : 21 + 20 * m ≤ d) : ∀ (n : Nat) (x2 : Int32) (x3 : Int32) (u : Nat) (h : jj_H), (x2 = x3 ∨ u < n) ∧ 0 < n → u ≤ u0 → Pq G C u o h → jj_P l G y_MO_declarations d (mq_V G C o (fun u' => u' ≤ u0)) 4 [some (.ref (C.2.1 0)), some (.int x1), some (.int x2), some (.int x3)] [] h := by
  intro n
  induction n with
  | zero => intro x2 x3 u h hn0; exact absurd hn0.2 (Nat.lt_irrefl _)
  | succ n ih =>
    intro x2 x3 u h hn0 hle hq
    refine jj_iload_n (j := 2) (by decide +kernel) rfl ?_
    refine jj_iload_n (j := 3) (by decide +kernel) rfl ?_
    refine jj_icmp_eq (off := 133) (tgt := 139) (by decide +kernel) (by decide) (fun c1 => ?_) (fun c1 => ?_)
    · skip
      exact jj_wk (js_s (js_s (js_s (js_s js_0)))) (b_MO_declarations_139 (o := o) hG hk ho hdd (by omega) hq)
    · skip
      have hn0 := hn0.1.resolve_left c1
      refine jj_aload_n (j := 0) (by decide +kernel) rfl ?_
      obtain ⟨g, wr, nw, ow, hb, hu⟩ := id hq
      obtain ⟨th, wh, S, b0, hS, hg, ⟨a1, a5, a6, a7, a9, a10⟩, nd, fr, hz⟩ := id hb
      refine jj_getfield 3 ck_MO fl_MO_120 (by decide) (by decide +kernel) b0 rfl ?_
      refine jj_if_ne (off := 126) (tgt := 139) (by decide +kernel) (by decide) (fun c2 => ?_) (fun c2 => ?_)
      · skip
        exact jj_wk (js_s (js_s (js_s (js_s js_0)))) (b_MO_declarations_139 (o := o) hG hk ho hdd (by omega) hq)
      · skip
        have hp2 : 0 < u := by
          rcases hu with ⟨-, q9⟩ | ⟨q9, -⟩
          · rw [c2] at q9; exact absurd q9 (by decide)
          · exact q9
        refine jj_iload_n (j := 2) (by decide +kernel) rfl ?_
        refine jj_istore_n (j := 3) (by decide +kernel) (by decide) rfl ?_
        refine jj_aload_n (j := 0) (by decide +kernel) rfl ?_
        refine jj_ldcS (index := 252) (i := 40) (tx := "constant") (by decide +kernel) (List.mem_of_getElem? (i := 41) rfl) ?_
        refine mq_ci (mq_i hq (fun g hm => m_isWord (d := d - 1) (i := 40) hG hk (by decide) (by omega) hm) (fun _ _ q => q)) (fun o1 h1 hC => jj_callV ok_MO_isWord ml_MO_137 im_MO_isWord se_MO_MO_isWord (by decide +kernel) hq.rcv rfl (by omega) (Nat.le_of_ble_eq_true rfl) hC) (fun v3 u3 h hp3 hq => ?_)
        obtain ⟨e3, -, hf3⟩ := hp3
        rw [e3] at hq
        refine jj_if_eq (off := 15) (tgt := 39) (by decide +kernel) (by decide) (fun c4 => ?_) (fun c4 => ?_)
        · skip
          refine jj_iload_n (j := 1) (by decide +kernel) rfl ?_
          refine jj_if_eq (off := 25) (tgt := 65) (by decide +kernel) (by decide) (fun c5 => ?_) (fun c5 => ?_)
          · skip
            exact jj_wk (js_s (js_s (js_s (js_s js_0)))) (b_MO_declarations_65 (o := o) hG hk ho hdd ih (by omega) (by omega) (by omega) hq)
          · skip
            refine jj_aload_n (j := 0) (by decide +kernel) rfl ?_
            refine jj_ldcW (index := 257) (i := 41) (tx := "variable") (by decide +kernel) (List.mem_of_getElem? (i := 42) rfl) ?_
            refine mq_ci (mq_i hq (fun g hm => m_isWord (d := d - 1) (i := 41) hG hk (by decide) (by omega) hm) (fun _ _ q => q)) (fun o1 h1 hC => jj_callV ok_MO_isWord ml_MO_137 im_MO_isWord se_MO_MO_isWord (by decide +kernel) hq.rcv rfl (by omega) (Nat.le_of_ble_eq_true rfl) hC) (fun v6 u6 h hp6 hq => ?_)
            obtain ⟨e6, -, hf6⟩ := hp6
            rw [e6] at hq
            refine jj_if_eq (off := 15) (tgt := 65) (by decide +kernel) (by decide) (fun c7 => ?_) (fun c7 => ?_)
            · skip
              exact jj_wk (js_s (js_s (js_s (js_s js_0)))) (b_MO_declarations_65 (o := o) hG hk ho hdd ih (by omega) (by omega) (by omega) hq)
            · skip
              have hz7 := hf6 c7
              refine jj_iload_n (j := 2) (by decide +kernel) rfl ?_
              refine jj_aload_n (j := 0) (by decide +kernel) rfl ?_
              refine jj_bipush (n := 52) (v := 52) (by decide +kernel) (by decide) ?_
              refine mq_ci (q_MO_objects (d := d - 1) (m := m) hG hk (by omega) (by omega) hz7.2 (by omega) hq) (fun o1 h1 hC => jj_callV ok_MO_objects ml_MO_254 im_MO_objects se_MO_MO_objects (by decide +kernel) hq.rcv rfl (by omega) (Nat.le_of_ble_eq_true rfl) hC) (fun v8 u8 h hp8 hq => ?_)
              refine jj_iadd (by decide +kernel) ?_
              refine jj_istore_n (j := 2) (by decide +kernel) (by decide) rfl ?_
              refine jj_goto (off := (-58)) (tgt := 4) (by decide +kernel) (by decide) ?_
              exact jj_wk (js_s (js_s (js_s (js_s js_0)))) (ih _ _ u8 _ ⟨by first | exact Or.inl rfl | exact Or.inr (by omega), by omega⟩ (by omega) hq)
        · skip
          have hz4 := hf3 c4
          refine jj_iload_n (j := 2) (by decide +kernel) rfl ?_
          refine jj_aload_n (j := 0) (by decide +kernel) rfl ?_
          refine jj_bipush (n := 51) (v := 51) (by decide +kernel) (by decide) ?_
          refine mq_ci (q_MO_objects (d := d - 1) (m := m) hG hk (by omega) (by omega) hz4.2 (by omega) hq) (fun o1 h1 hC => jj_callV ok_MO_objects ml_MO_254 im_MO_objects se_MO_MO_objects (by decide +kernel) hq.rcv rfl (by omega) (Nat.le_of_ble_eq_true rfl) hC) (fun v9 u9 h hp9 hq => ?_)
          refine jj_iadd (by decide +kernel) ?_
          refine jj_istore_n (j := 2) (by decide +kernel) (by decide) rfl ?_
          refine jj_goto (off := (-32)) (tgt := 4) (by decide +kernel) (by decide) ?_
          exact jj_wk (js_s (js_s (js_s (js_s js_0)))) (ih _ _ u9 _ ⟨by first | exact Or.inl rfl | exact Or.inr (by omega), by omega⟩ (by omega) hq)
set_option maxRecDepth 100000 in
set_option maxHeartbeats 4000000 in
theorem b_MO_declarations_0 {l : Launch} {G : jj_G} {C : mo_C} {u0 o d : Nat} {m : Nat} {x1 : Int32} {u : Nat} {h : jj_H} (hG : jj_tyG G) (hk : mo_k C) (ho : u0 = 0 ∨ o + m = 41) (hdd : 21 + 20 * m ≤ d) (hle : u ≤ u0) (hq : Pq G C u o h) : jj_P l G y_MO_declarations d (mq_V G C o (fun u' => u' ≤ u0)) 0 [some (.ref (C.2.1 0)), some (.int x1), none, none] [] h := by
  refine jj_iconst (n := 0) (v := 0) (by decide +kernel) (by decide) ?_
  refine jj_istore_n (j := 2) (by decide +kernel) (by decide) rfl ?_
  refine jj_iconst (n := (-1)) (v := (-1)) (by decide +kernel) (by decide) ?_
  refine jj_istore_n (j := 3) (by decide +kernel) (by decide) rfl ?_
  exact jj_wk (js_s (js_s (js_s (js_s js_0)))) (b_MO_declarations_4 (o := o) hG hk ho hdd (u + 2) _ _ u _ ⟨Or.inr (by omega), by omega⟩ (by omega) hq)
theorem q_MO_declarations {l : Launch} {G : jj_G} {C : mo_C} {u0 o d : Nat} {m : Nat} {x1 : Int32} {h : jj_H} (hG : jj_tyG G) (hk : mo_k C) (ho : u0 = 0 ∨ o + m = 41) (hdd : 21 + 20 * m ≤ d) (hq : Pq G C u0 o h) : jj_Q l G y_MO_declarations d [.ref (C.2.1 0), .int x1] h (mq_V G C o (fun u' => u' ≤ u0)) :=
  jj_Q.of (by decide +kernel) (Nat.le_of_ble_eq_true rfl) (b_MO_declarations_0 (o := o) hG hk ho hdd (Nat.le_refl _) hq)
set_option maxRecDepth 100000 in
set_option maxHeartbeats 4000000 in
theorem b_MO_process_87 {l : Launch} {G : jj_G} {C : mo_C} {u0 o d : Nat} {m : Nat} {x1 : Int32} {u : Nat} {h : jj_H} {x2 : Int32} (hG : jj_tyG G) (hk : mo_k C) (ho : u0 = 0 ∨ o + m = 41) (hdd : 24 + 20 * m ≤ d) (hle : u ≤ u0 - 1) (hq : Pq G C u o h) : jj_P l G y_MO_process d (mq_V G C o (fun u' => u' ≤ u0 - 1)) 87 [some (.ref (C.2.1 0)), some (.int x1), some (.int x2)] [] h := by
  refine jj_aload_n (j := 0) (by decide +kernel) rfl ?_
  refine jj_bipush (n := 59) (v := 59) (by decide +kernel) (by decide) ?_
  refine mq_cv (mq_v hq (fun g hm => m_sign (d := d - 1) (x := 59) hG hk (by decide) (by decide) (by omega) hm)) (fun o1 h1 hC => jj_callV ok_MO_sign ml_MO_172 im_MO_sign se_MO_MO_sign (by decide +kernel) hq.rcv rfl (by omega) (Nat.le_of_ble_eq_true rfl) hC) (fun u1 h hp1 hq => ?_)
  refine jj_aload_n (j := 0) (by decide +kernel) rfl ?_
  refine jj_bipush (n := 60) (v := 60) (by decide +kernel) (by decide) ?_
  refine jj_iload_n (j := 1) (by decide +kernel) rfl ?_
  refine jj_iconst (n := 3) (v := 3) (by decide +kernel) (by decide) ?_
  refine mq_cv (mq_v hq (fun g hm => m_lay (d := d - 1) hG hk (by omega) hm)) (fun o1 h1 hC => jj_callV ok_MO_lay ml_MO_166 im_MO_lay se_MO_MO_lay (by decide +kernel) hq.rcv rfl (by omega) (Nat.le_of_ble_eq_true rfl) hC) (fun u2 h hp2 hq => ?_)
  exact jj_vret (by decide +kernel) rfl ⟨rfl, u2, by omega, hq⟩
set_option maxRecDepth 100000 in
set_option maxHeartbeats 4000000 in
theorem b_MO_process_42 {l : Launch} {G : jj_G} {C : mo_C} {u0 o d : Nat} {m : Nat} {x1 : Int32} {u : Nat} {h : jj_H} (hG : jj_tyG G) (hk : mo_k C) (ho : u0 = 0 ∨ o + m = 41) (hdd : 24 + 20 * m ≤ d) (hle : u ≤ u0 - 1) (hq : Pq G C u o h) : jj_P l G y_MO_process d (mq_V G C o (fun u' => u' ≤ u0 - 1)) 42 [some (.ref (C.2.1 0)), some (.int x1), none] [] h := by
  refine jj_aload_n (j := 0) (by decide +kernel) rfl ?_
  refine jj_ldcS (index := 186) (i := 16) (tx := "is") (by decide +kernel) (List.mem_of_getElem? (i := 17) rfl) ?_
  refine mq_ci (mq_k hq (fun g hm => m_takes (d := d - 1) (i := 16) hG hk (by decide) (by omega) hm)) (fun o1 h1 hC => jj_callV ok_MO_takes ml_MO_150 im_MO_takes se_MO_MO_takes (by decide +kernel) hq.rcv rfl (by omega) (Nat.le_of_ble_eq_true rfl) hC) (fun v1 u1 h hp1 hq => ?_)
  obtain ⟨hp1, hf1⟩ := hp1
  refine jj_istore_n (j := 2) (by decide +kernel) (by decide) rfl ?_
  refine jj_aload_n (j := 0) (by decide +kernel) rfl ?_
  refine jj_iconst (n := 1) (v := 1) (by decide +kernel) (by decide) ?_
  refine mq_cv (q_MO_declarations (d := d - 1) (m := m) hG hk (by omega) (by omega) hq) (fun o1 h1 hC => jj_callV ok_MO_declarations ml_MO_244 im_MO_declarations se_MO_MO_declarations (by decide +kernel) hq.rcv rfl (by omega) (Nat.le_of_ble_eq_true rfl) hC) (fun u2 h hp2 hq => ?_)
  refine jj_aload_n (j := 0) (by decide +kernel) rfl ?_
  refine jj_ldcS (index := 247) (i := 45) (tx := "begin") (by decide +kernel) (List.mem_of_getElem? (i := 46) rfl) ?_
  refine mq_cv (mq_v hq (fun g hm => m_word (d := d - 1) (i := 45) hG hk (by decide) (by omega) hm)) (fun o1 h1 hC => jj_callV ok_MO_word ml_MO_188 im_MO_word se_MO_MO_word (by decide +kernel) hq.rcv rfl (by omega) (Nat.le_of_ble_eq_true rfl) hC) (fun u3 h hp3 hq => ?_)
  refine jj_aload_n (j := 0) (by decide +kernel) rfl ?_
  refine mq_cv (mst_all hG hk m _ _ _ (d - 1) (by omega) hq (by omega)) (fun o1 h1 hC => jj_callV ok_MO_statements ml_MO_295 im_MO_statements se_MO_MO_statements (by decide +kernel) hq.rcv rfl (by omega) (Nat.le_of_ble_eq_true rfl) hC) (fun u4 h hp4 hq => ?_)
  refine jj_aload_n (j := 0) (by decide +kernel) rfl ?_
  refine jj_ldcS (index := 200) (i := 37) (tx := "end") (by decide +kernel) (List.mem_of_getElem? (i := 38) rfl) ?_
  refine mq_cv (mq_v hq (fun g hm => m_word (d := d - 1) (i := 37) hG hk (by decide) (by omega) hm)) (fun o1 h1 hC => jj_callV ok_MO_word ml_MO_188 im_MO_word se_MO_MO_word (by decide +kernel) hq.rcv rfl (by omega) (Nat.le_of_ble_eq_true rfl) hC) (fun u5 h hp5 hq => ?_)
  refine jj_aload_n (j := 0) (by decide +kernel) rfl ?_
  refine jj_ldcW (index := 269) (i := 46) (tx := "process") (by decide +kernel) (List.mem_of_getElem? (i := 47) rfl) ?_
  refine mq_cv (mq_v hq (fun g hm => m_word (d := d - 1) (i := 46) hG hk (by decide) (by omega) hm)) (fun o1 h1 hC => jj_callV ok_MO_word ml_MO_188 im_MO_word se_MO_MO_word (by decide +kernel) hq.rcv rfl (by omega) (Nat.le_of_ble_eq_true rfl) hC) (fun u6 h hp6 hq => ?_)
  refine jj_iload_n (j := 1) (by decide +kernel) rfl ?_
  refine jj_iconst (n := (-1)) (v := (-1)) (by decide +kernel) (by decide) ?_
  refine jj_icmp_eq (off := 8) (tgt := 87) (by decide +kernel) (by decide) (fun c7 => ?_) (fun c7 => ?_)
  · skip
    exact jj_wk (js_s (js_s (js_s js_0))) (b_MO_process_87 (o := o) hG hk ho hdd (by omega) hq)
  · skip
    refine jj_aload_n (j := 0) (by decide +kernel) rfl ?_
    refine jj_iload_n (j := 1) (by decide +kernel) rfl ?_
    refine mq_cv (mq_v hq (fun g hm => m_ownName (d := d - 1) hG hk (by omega) hm)) (fun o1 h1 hC => jj_callV ok_MO_ownName ml_MO_202 im_MO_ownName se_MO_MO_ownName (by decide +kernel) hq.rcv rfl (by omega) (Nat.le_of_ble_eq_true rfl) hC) (fun u8 h hp8 hq => ?_)
    exact jj_wk (js_s (js_s (js_s js_0))) (b_MO_process_87 (o := o) hG hk ho hdd (by omega) hq)
set_option maxRecDepth 100000 in
set_option maxHeartbeats 4000000 in
theorem b_MO_process_0 {l : Launch} {G : jj_G} {C : mo_C} {u0 o d : Nat} {m : Nat} {x1 : Int32} {u : Nat} {h : jj_H} (hG : jj_tyG G) (hk : mo_k C) (ho : u0 = 0 ∨ o + m = 41) (hdd : 24 + 20 * m ≤ d) (hle : u ≤ u0) (hn : mo_nl C u) (hps : 0 < u) (hq : Pq G C u o h) : jj_P l G y_MO_process d (mq_V G C o (fun u' => u' ≤ u0 - 1)) 0 [some (.ref (C.2.1 0)), some (.int x1), none] [] h := by
  refine jj_aload_n (j := 0) (by decide +kernel) rfl ?_
  refine mq_cv (mq_v hq (fun g hm => m_on (d := d - 1) hG hk hn (by omega) hm)) (fun o1 h1 hC => jj_callV ok_MO_on ml_MO_141 im_MO_on se_MO_MO_on (by decide +kernel) hq.rcv rfl (by omega) (Nat.le_of_ble_eq_true rfl) hC) (fun u1 h hp1 hq => ?_)
  refine jj_aload_n (j := 0) (by decide +kernel) rfl ?_
  refine jj_bipush (n := 40) (v := 40) (by decide +kernel) (by decide) ?_
  refine mq_ci (mq_k hq (fun g hm => m_takesMark (d := d - 1) (x := 40) hG hk (by decide) (by decide) (by omega) hm)) (fun o1 h1 hC => jj_callV ok_MO_takesMark ml_MO_157 im_MO_takesMark se_MO_MO_takesMark (by decide +kernel) hq.rcv rfl (by omega) (Nat.le_of_ble_eq_true rfl) hC) (fun v2 u2 h hp2 hq => ?_)
  obtain ⟨hp2, hf2⟩ := hp2
  refine jj_if_eq (off := 25) (tgt := 35) (by decide +kernel) (by decide) (fun c3 => ?_) (fun c3 => ?_)
  · skip
    refine jj_aload_n (j := 0) (by decide +kernel) rfl ?_
    refine jj_iconst (n := 0) (v := 0) (by decide +kernel) (by decide) ?_
    refine jj_iconst (n := 0) (v := 0) (by decide +kernel) (by decide) ?_
    refine jj_iconst (n := 0) (v := 0) (by decide +kernel) (by decide) ?_
    refine mq_cv (mq_v hq (fun g hm => m_lay (d := d - 1) hG hk (by omega) hm)) (fun o1 h1 hC => jj_callV ok_MO_lay ml_MO_166 im_MO_lay se_MO_MO_lay (by decide +kernel) hq.rcv rfl (by omega) (Nat.le_of_ble_eq_true rfl) hC) (fun u4 h hp4 hq => ?_)
    exact jj_wk (js_s (js_s (js_n js_0))) (b_MO_process_42 (o := o) hG hk ho hdd (by omega) hq)
  · skip
    have hz3 := hf2 c3
    refine jj_aload_n (j := 0) (by decide +kernel) rfl ?_
    refine mq_ci (q_MO_nameNodes (d := d - 1) hG hk  (by omega) hq) (fun o1 h1 hC => jj_callV ok_MO_nameNodes ml_MO_292 im_MO_nameNodes se_MO_MO_nameNodes (by decide +kernel) hq.rcv rfl (by omega) (Nat.le_of_ble_eq_true rfl) hC) (fun v5 u5 h hp5 hq => ?_)
    refine jj_istore_n (j := 2) (by decide +kernel) (by decide) rfl ?_
    refine jj_aload_n (j := 0) (by decide +kernel) rfl ?_
    refine jj_bipush (n := 48) (v := 48) (by decide +kernel) (by decide) ?_
    refine jj_iconst (n := 0) (v := 0) (by decide +kernel) (by decide) ?_
    refine jj_iload_n (j := 2) (by decide +kernel) rfl ?_
    refine mq_cv (mq_v hq (fun g hm => m_lay (d := d - 1) hG hk (by omega) hm)) (fun o1 h1 hC => jj_callV ok_MO_lay ml_MO_166 im_MO_lay se_MO_MO_lay (by decide +kernel) hq.rcv rfl (by omega) (Nat.le_of_ble_eq_true rfl) hC) (fun u6 h hp6 hq => ?_)
    refine jj_aload_n (j := 0) (by decide +kernel) rfl ?_
    refine jj_bipush (n := 41) (v := 41) (by decide +kernel) (by decide) ?_
    refine mq_cv (mq_v hq (fun g hm => m_sign (d := d - 1) (x := 41) hG hk (by decide) (by decide) (by omega) hm)) (fun o1 h1 hC => jj_callV ok_MO_sign ml_MO_172 im_MO_sign se_MO_MO_sign (by decide +kernel) hq.rcv rfl (by omega) (Nat.le_of_ble_eq_true rfl) hC) (fun u7 h hp7 hq => ?_)
    refine jj_goto (off := 10) (tgt := 42) (by decide +kernel) (by decide) ?_
    exact jj_wk (js_s (js_s (js_n js_0))) (b_MO_process_42 (o := o) hG hk ho hdd (by omega) hq)
theorem q_MO_process {l : Launch} {G : jj_G} {C : mo_C} {u0 o d : Nat} {m : Nat} {x1 : Int32} {h : jj_H} (hG : jj_tyG G) (hk : mo_k C) (ho : u0 = 0 ∨ o + m = 41) (hdd : 24 + 20 * m ≤ d) (hn : mo_nl C u0) (hps : 0 < u0) (hq : Pq G C u0 o h) : jj_Q l G y_MO_process d [.ref (C.2.1 0), .int x1] h (mq_V G C o (fun u' => u' ≤ u0 - 1)) :=
  jj_Q.of (by decide +kernel) (Nat.le_of_ble_eq_true rfl) (b_MO_process_0 (o := o) hG hk ho hdd (Nat.le_refl _) hn hps hq)
set_option maxRecDepth 100000 in
set_option maxHeartbeats 4000000 in
theorem b_MO_instance_0 {l : Launch} {G : jj_G} {C : mo_C} {u0 o d : Nat} {m : Nat} {x1 : Int32} {u : Nat} {h : jj_H} (hG : jj_tyG G) (hk : mo_k C) (ho : u0 = 0 ∨ o + m = 41) (hdd : 20 + 20 * m ≤ d) (hle : u ≤ u0) (hn : mo_nl C u) (hps : 0 < u) (hq : Pq G C u o h) : jj_P l G y_MO_instance d (mq_V G C o (fun u' => u' ≤ u0 - 1)) 0 [some (.ref (C.2.1 0)), some (.int x1)] [] h := by
  refine jj_aload_n (j := 0) (by decide +kernel) rfl ?_
  refine mq_cv (mq_v hq (fun g hm => m_on (d := d - 1) hG hk hn (by omega) hm)) (fun o1 h1 hC => jj_callV ok_MO_on ml_MO_141 im_MO_on se_MO_MO_on (by decide +kernel) hq.rcv rfl (by omega) (Nat.le_of_ble_eq_true rfl) hC) (fun u1 h hp1 hq => ?_)
  refine jj_aload_n (j := 0) (by decide +kernel) rfl ?_
  refine mq_cv (mq_v hq (fun g hm => m_nameNode (d := d - 1) hG hk (by omega) hm)) (fun o1 h1 hC => jj_callV ok_MO_nameNode ml_MO_241 im_MO_nameNode se_MO_MO_nameNode (by decide +kernel) hq.rcv rfl (by omega) (Nat.le_of_ble_eq_true rfl) hC) (fun u2 h hp2 hq => ?_)
  refine jj_aload_n (j := 0) (by decide +kernel) rfl ?_
  refine jj_ldcS (index := 192) (i := 17) (tx := "generic") (by decide +kernel) (List.mem_of_getElem? (i := 18) rfl) ?_
  refine mq_cv (q_MO_maps (d := d - 1) (m := m) (i := 17) hG hk (by omega) (by decide) (by omega) hq) (fun o1 h1 hC => jj_callV ok_MO_maps ml_MO_298 im_MO_maps se_MO_MO_maps (by decide +kernel) hq.rcv rfl (by omega) (Nat.le_of_ble_eq_true rfl) hC) (fun u3 h hp3 hq => ?_)
  refine jj_aload_n (j := 0) (by decide +kernel) rfl ?_
  refine jj_ldcS (index := 198) (i := 36) (tx := "port") (by decide +kernel) (List.mem_of_getElem? (i := 37) rfl) ?_
  refine mq_cv (q_MO_maps (d := d - 1) (m := m) (i := 36) hG hk (by omega) (by decide) (by omega) hq) (fun o1 h1 hC => jj_callV ok_MO_maps ml_MO_298 im_MO_maps se_MO_MO_maps (by decide +kernel) hq.rcv rfl (by omega) (Nat.le_of_ble_eq_true rfl) hC) (fun u4 h hp4 hq => ?_)
  refine jj_aload_n (j := 0) (by decide +kernel) rfl ?_
  refine jj_bipush (n := 59) (v := 59) (by decide +kernel) (by decide) ?_
  refine mq_cv (mq_v hq (fun g hm => m_sign (d := d - 1) (x := 59) hG hk (by decide) (by decide) (by omega) hm)) (fun o1 h1 hC => jj_callV ok_MO_sign ml_MO_172 im_MO_sign se_MO_MO_sign (by decide +kernel) hq.rcv rfl (by omega) (Nat.le_of_ble_eq_true rfl) hC) (fun u5 h hp5 hq => ?_)
  refine jj_aload_n (j := 0) (by decide +kernel) rfl ?_
  refine jj_bipush (n := 62) (v := 62) (by decide +kernel) (by decide) ?_
  refine jj_iload_n (j := 1) (by decide +kernel) rfl ?_
  refine jj_iconst (n := 3) (v := 3) (by decide +kernel) (by decide) ?_
  refine mq_cv (mq_v hq (fun g hm => m_lay (d := d - 1) hG hk (by omega) hm)) (fun o1 h1 hC => jj_callV ok_MO_lay ml_MO_166 im_MO_lay se_MO_MO_lay (by decide +kernel) hq.rcv rfl (by omega) (Nat.le_of_ble_eq_true rfl) hC) (fun u6 h hp6 hq => ?_)
  exact jj_vret (by decide +kernel) rfl ⟨rfl, u6, by omega, hq⟩
theorem q_MO_instance {l : Launch} {G : jj_G} {C : mo_C} {u0 o d : Nat} {m : Nat} {x1 : Int32} {h : jj_H} (hG : jj_tyG G) (hk : mo_k C) (ho : u0 = 0 ∨ o + m = 41) (hdd : 20 + 20 * m ≤ d) (hn : mo_nl C u0) (hps : 0 < u0) (hq : Pq G C u0 o h) : jj_Q l G y_MO_instance d [.ref (C.2.1 0), .int x1] h (mq_V G C o (fun u' => u' ≤ u0 - 1)) :=
  jj_Q.of (by decide +kernel) (Nat.le_of_ble_eq_true rfl) (b_MO_instance_0 (o := o) hG hk ho hdd (Nat.le_refl _) hn hps hq)
set_option maxRecDepth 100000 in
set_option maxHeartbeats 4000000 in
theorem b_MO_inside_0 {l : Launch} {G : jj_G} {C : mo_C} {u0 o d : Nat} {m : Nat} {x1 : Int32} {u : Nat} {h : jj_H} (hG : jj_tyG G) (hk : mo_k C) (ho : u0 = 0 ∨ o + m = 41) (hO : 0 < m → mo_Co l G C (m - 1)) (hdd : 15 + 20 * m ≤ d) (hm1 : 0 < m) (hle : u ≤ u0) (hq : Pq G C u (o + 1) h) : jj_P l G y_MO_inside d (mq_V G C o (fun u' => u' ≤ u0 - 1)) 0 [some (.ref (C.2.1 0)), some (.int x1)] [] h := by
  refine jj_aload_n (j := 0) (by decide +kernel) rfl ?_
  refine jj_ldcW (index := 310) (i := 71) (tx := "generate") (by decide +kernel) (List.mem_of_getElem? (i := 72) rfl) ?_
  refine mq_cv (mq_v hq (fun g hm => m_word (d := d - 1) (i := 71) hG hk (by decide) (by omega) hm)) (fun o1 h1 hC => jj_callV ok_MO_word ml_MO_188 im_MO_word se_MO_MO_word (by decide +kernel) hq.rcv rfl (by omega) (Nat.le_of_ble_eq_true rfl) hC) (fun u1 h hp1 hq => ?_)
  refine jj_aload_n (j := 0) (by decide +kernel) rfl ?_
  refine mq_cv (hO hm1 _ _ _ (d - 1) (by omega) hq (by omega)) (fun o1 h1 hC => jj_callV ok_MO_concurrents ml_MO_249 im_MO_concurrents se_MO_MO_concurrents (by decide +kernel) hq.rcv rfl (by omega) (Nat.le_of_ble_eq_true rfl) hC) (fun u2 h hp2 hq => ?_)
  refine jj_aload_n (j := 0) (by decide +kernel) rfl ?_
  refine jj_ldcS (index := 200) (i := 37) (tx := "end") (by decide +kernel) (List.mem_of_getElem? (i := 38) rfl) ?_
  refine mq_cv (mq_v hq (fun g hm => m_word (d := d - 1) (i := 37) hG hk (by decide) (by omega) hm)) (fun o1 h1 hC => jj_callV ok_MO_word ml_MO_188 im_MO_word se_MO_MO_word (by decide +kernel) hq.rcv rfl (by omega) (Nat.le_of_ble_eq_true rfl) hC) (fun u3 h hp3 hq => ?_)
  refine jj_aload_n (j := 0) (by decide +kernel) rfl ?_
  refine jj_ldcW (index := 310) (i := 71) (tx := "generate") (by decide +kernel) (List.mem_of_getElem? (i := 72) rfl) ?_
  refine mq_cv (mq_v hq (fun g hm => m_word (d := d - 1) (i := 71) hG hk (by decide) (by omega) hm)) (fun o1 h1 hC => jj_callV ok_MO_word ml_MO_188 im_MO_word se_MO_MO_word (by decide +kernel) hq.rcv rfl (by omega) (Nat.le_of_ble_eq_true rfl) hC) (fun u4 h hp4 hq => ?_)
  refine jj_aload_n (j := 0) (by decide +kernel) rfl ?_
  refine jj_iload_n (j := 1) (by decide +kernel) rfl ?_
  refine mq_cv (mq_v hq (fun g hm => m_ownName (d := d - 1) hG hk (by omega) hm)) (fun o1 h1 hC => jj_callV ok_MO_ownName ml_MO_202 im_MO_ownName se_MO_MO_ownName (by decide +kernel) hq.rcv rfl (by omega) (Nat.le_of_ble_eq_true rfl) hC) (fun u5 h hp5 hq => ?_)
  refine jj_aload_n (j := 0) (by decide +kernel) rfl ?_
  refine jj_bipush (n := 59) (v := 59) (by decide +kernel) (by decide) ?_
  refine mq_cv (mq_v hq (fun g hm => m_closes (d := d - 1) (x := 59) hG hk (by decide) (by decide) (by omega) hm)) (fun o1 h1 hC => jj_callV ok_MO_closes ml_MO_312 im_MO_closes se_MO_MO_closes (by decide +kernel) hq.rcv rfl (by omega) (Nat.le_of_ble_eq_true rfl) hC) (fun u6 h hp6 hq => ?_)
  exact jj_vret (by decide +kernel) rfl ⟨rfl, u6, by omega, hq⟩
theorem q_MO_inside {l : Launch} {G : jj_G} {C : mo_C} {u0 o d : Nat} {m : Nat} {x1 : Int32} {h : jj_H} (hG : jj_tyG G) (hk : mo_k C) (ho : u0 = 0 ∨ o + m = 41) (hO : 0 < m → mo_Co l G C (m - 1)) (hdd : 15 + 20 * m ≤ d) (hm1 : 0 < m) (hq : Pq G C u0 (o + 1) h) : jj_Q l G y_MO_inside d [.ref (C.2.1 0), .int x1] h (mq_V G C o (fun u' => u' ≤ u0 - 1)) :=
  jj_Q.of (by decide +kernel) (Nat.le_of_ble_eq_true rfl) (b_MO_inside_0 (o := o) hG hk ho hO hdd hm1 (Nat.le_refl _) hq)
set_option maxRecDepth 100000 in
set_option maxHeartbeats 4000000 in
theorem b_MO_manyTimes_0 {l : Launch} {G : jj_G} {C : mo_C} {u0 o d : Nat} {m : Nat} {x1 : Int32} {u : Nat} {h : jj_H} (hG : jj_tyG G) (hk : mo_k C) (ho : u0 = 0 ∨ o + m = 41) (hO : 0 < m → mo_Co l G C (m - 1)) (hdd : 20 + 20 * m ≤ d) (hle : u ≤ u0) (hn : mo_nl C u) (hps : 0 < u) (hq : Pq G C u o h) : jj_P l G y_MO_manyTimes d (mq_V G C o (fun u' => u' ≤ u0 - 1)) 0 [some (.ref (C.2.1 0)), some (.int x1)] [] h := by
  refine jj_aload_n (j := 0) (by decide +kernel) rfl ?_
  have hm1 : 0 < m := by have h40 := hq.le (by omega); omega
  refine mq_cv (mq_v hq (fun g hm => m_opens (d := d - 1) hG hk hn (by omega) hm)) (fun o1 h1 hC => jj_callV ok_MO_opens ml_MO_304 im_MO_opens se_MO_MO_opens (by decide +kernel) hq.rcv rfl (by omega) (Nat.le_of_ble_eq_true rfl) hC) (fun u1 h hp1 hq => ?_)
  obtain ⟨hp1, hq1⟩ := hp1
  refine jj_aload_n (j := 0) (by decide +kernel) rfl ?_
  refine mq_cv (mq_v hq (fun g hm => m_nameNode (d := d - 1) hG hk (by omega) hm)) (fun o1 h1 hC => jj_callV ok_MO_nameNode ml_MO_241 im_MO_nameNode se_MO_MO_nameNode (by decide +kernel) hq.rcv rfl (by omega) (Nat.le_of_ble_eq_true rfl) hC) (fun u2 h hp2 hq => ?_)
  refine jj_aload_n (j := 0) (by decide +kernel) rfl ?_
  refine jj_ldcS (index := 214) (i := 18) (tx := "in") (by decide +kernel) (List.mem_of_getElem? (i := 19) rfl) ?_
  refine mq_cv (mq_v hq (fun g hm => m_word (d := d - 1) (i := 18) hG hk (by decide) (by omega) hm)) (fun o1 h1 hC => jj_callV ok_MO_word ml_MO_188 im_MO_word se_MO_MO_word (by decide +kernel) hq.rcv rfl (by omega) (Nat.le_of_ble_eq_true rfl) hC) (fun u3 h hp3 hq => ?_)
  refine jj_aload_n (j := 0) (by decide +kernel) rfl ?_
  refine mq_cv (mexpr_all hG hk (m - 1) _ _ _ (d - 1) (by omega) hq (by omega)) (fun o1 h1 hC => jj_callV ok_MO_expression ml_MO_226 im_MO_expression se_MO_MO_expression (by decide +kernel) hq.rcv rfl (by omega) (Nat.le_of_ble_eq_true rfl) hC) (fun u4 h hp4 hq => ?_)
  refine jj_aload_n (j := 0) (by decide +kernel) rfl ?_
  refine jj_ldcS (index := 235) (i := 24) (tx := "to") (by decide +kernel) (List.mem_of_getElem? (i := 25) rfl) ?_
  refine mq_cv (mq_v hq (fun g hm => m_word (d := d - 1) (i := 24) hG hk (by decide) (by omega) hm)) (fun o1 h1 hC => jj_callV ok_MO_word ml_MO_188 im_MO_word se_MO_MO_word (by decide +kernel) hq.rcv rfl (by omega) (Nat.le_of_ble_eq_true rfl) hC) (fun u5 h hp5 hq => ?_)
  refine jj_aload_n (j := 0) (by decide +kernel) rfl ?_
  refine mq_cv (mexpr_all hG hk (m - 1) _ _ _ (d - 1) (by omega) hq (by omega)) (fun o1 h1 hC => jj_callV ok_MO_expression ml_MO_226 im_MO_expression se_MO_MO_expression (by decide +kernel) hq.rcv rfl (by omega) (Nat.le_of_ble_eq_true rfl) hC) (fun u6 h hp6 hq => ?_)
  refine jj_aload_n (j := 0) (by decide +kernel) rfl ?_
  refine jj_iload_n (j := 1) (by decide +kernel) rfl ?_
  refine mq_cv (q_MO_inside (d := d - 1) (m := m) hG hk (by omega) hO (by omega) hm1 hq) (fun o1 h1 hC => jj_callV ok_MO_inside ml_MO_307 im_MO_inside se_MO_MO_inside (by decide +kernel) hq.rcv rfl (by omega) (Nat.le_of_ble_eq_true rfl) hC) (fun u7 h hp7 hq => ?_)
  refine jj_aload_n (j := 0) (by decide +kernel) rfl ?_
  refine jj_bipush (n := 64) (v := 64) (by decide +kernel) (by decide) ?_
  refine jj_iload_n (j := 1) (by decide +kernel) rfl ?_
  refine jj_iconst (n := 4) (v := 4) (by decide +kernel) (by decide) ?_
  refine mq_cv (mq_v hq (fun g hm => m_lay (d := d - 1) hG hk (by omega) hm)) (fun o1 h1 hC => jj_callV ok_MO_lay ml_MO_166 im_MO_lay se_MO_MO_lay (by decide +kernel) hq.rcv rfl (by omega) (Nat.le_of_ble_eq_true rfl) hC) (fun u8 h hp8 hq => ?_)
  exact jj_vret (by decide +kernel) rfl ⟨rfl, u8, by omega, hq⟩
theorem q_MO_manyTimes {l : Launch} {G : jj_G} {C : mo_C} {u0 o d : Nat} {m : Nat} {x1 : Int32} {h : jj_H} (hG : jj_tyG G) (hk : mo_k C) (ho : u0 = 0 ∨ o + m = 41) (hO : 0 < m → mo_Co l G C (m - 1)) (hdd : 20 + 20 * m ≤ d) (hn : mo_nl C u0) (hps : 0 < u0) (hq : Pq G C u0 o h) : jj_Q l G y_MO_manyTimes d [.ref (C.2.1 0), .int x1] h (mq_V G C o (fun u' => u' ≤ u0 - 1)) :=
  jj_Q.of (by decide +kernel) (Nat.le_of_ble_eq_true rfl) (b_MO_manyTimes_0 (o := o) hG hk ho hO hdd (Nat.le_refl _) hn hps hq)
set_option maxRecDepth 100000 in
set_option maxHeartbeats 4000000 in
theorem b_MO_perhaps_0 {l : Launch} {G : jj_G} {C : mo_C} {u0 o d : Nat} {m : Nat} {x1 : Int32} {u : Nat} {h : jj_H} (hG : jj_tyG G) (hk : mo_k C) (ho : u0 = 0 ∨ o + m = 41) (hO : 0 < m → mo_Co l G C (m - 1)) (hdd : 20 + 20 * m ≤ d) (hle : u ≤ u0) (hn : mo_nl C u) (hps : 0 < u) (hq : Pq G C u o h) : jj_P l G y_MO_perhaps d (mq_V G C o (fun u' => u' ≤ u0 - 1)) 0 [some (.ref (C.2.1 0)), some (.int x1)] [] h := by
  refine jj_aload_n (j := 0) (by decide +kernel) rfl ?_
  have hm1 : 0 < m := by have h40 := hq.le (by omega); omega
  refine mq_cv (mq_v hq (fun g hm => m_opens (d := d - 1) hG hk hn (by omega) hm)) (fun o1 h1 hC => jj_callV ok_MO_opens ml_MO_304 im_MO_opens se_MO_MO_opens (by decide +kernel) hq.rcv rfl (by omega) (Nat.le_of_ble_eq_true rfl) hC) (fun u1 h hp1 hq => ?_)
  obtain ⟨hp1, hq1⟩ := hp1
  refine jj_aload_n (j := 0) (by decide +kernel) rfl ?_
  refine mq_cv (mexpr_all hG hk (m - 1) _ _ _ (d - 1) (by omega) hq (by omega)) (fun o1 h1 hC => jj_callV ok_MO_expression ml_MO_226 im_MO_expression se_MO_MO_expression (by decide +kernel) hq.rcv rfl (by omega) (Nat.le_of_ble_eq_true rfl) hC) (fun u2 h hp2 hq => ?_)
  refine jj_aload_n (j := 0) (by decide +kernel) rfl ?_
  refine jj_iload_n (j := 1) (by decide +kernel) rfl ?_
  refine mq_cv (q_MO_inside (d := d - 1) (m := m) hG hk (by omega) hO (by omega) hm1 hq) (fun o1 h1 hC => jj_callV ok_MO_inside ml_MO_307 im_MO_inside se_MO_MO_inside (by decide +kernel) hq.rcv rfl (by omega) (Nat.le_of_ble_eq_true rfl) hC) (fun u3 h hp3 hq => ?_)
  refine jj_aload_n (j := 0) (by decide +kernel) rfl ?_
  refine jj_bipush (n := 65) (v := 65) (by decide +kernel) (by decide) ?_
  refine jj_iload_n (j := 1) (by decide +kernel) rfl ?_
  refine jj_iconst (n := 2) (v := 2) (by decide +kernel) (by decide) ?_
  refine mq_cv (mq_v hq (fun g hm => m_lay (d := d - 1) hG hk (by omega) hm)) (fun o1 h1 hC => jj_callV ok_MO_lay ml_MO_166 im_MO_lay se_MO_MO_lay (by decide +kernel) hq.rcv rfl (by omega) (Nat.le_of_ble_eq_true rfl) hC) (fun u4 h hp4 hq => ?_)
  exact jj_vret (by decide +kernel) rfl ⟨rfl, u4, by omega, hq⟩
theorem q_MO_perhaps {l : Launch} {G : jj_G} {C : mo_C} {u0 o d : Nat} {m : Nat} {x1 : Int32} {h : jj_H} (hG : jj_tyG G) (hk : mo_k C) (ho : u0 = 0 ∨ o + m = 41) (hO : 0 < m → mo_Co l G C (m - 1)) (hdd : 20 + 20 * m ≤ d) (hn : mo_nl C u0) (hps : 0 < u0) (hq : Pq G C u0 o h) : jj_Q l G y_MO_perhaps d [.ref (C.2.1 0), .int x1] h (mq_V G C o (fun u' => u' ≤ u0 - 1)) :=
  jj_Q.of (by decide +kernel) (Nat.le_of_ble_eq_true rfl) (b_MO_perhaps_0 (o := o) hG hk ho hO hdd (Nat.le_refl _) hn hps hq)
set_option maxRecDepth 100000 in
set_option maxHeartbeats 4000000 in
theorem b_MO_concurrent_0 {l : Launch} {G : jj_G} {C : mo_C} {u0 o d : Nat} {m : Nat} {u : Nat} {h : jj_H} (hG : jj_tyG G) (hk : mo_k C) (ho : u0 = 0 ∨ o + m = 41) (hO : 0 < m → mo_Co l G C (m - 1)) (hdd : 25 + 20 * m ≤ d) (hle : u ≤ u0) (hq : Pq G C u o h) : jj_P l G y_MO_concurrent d (mq_V G C o (fun u' => u' ≤ u0 - 1)) 0 [some (.ref (C.2.1 0)), none] [] h := by
  refine jj_aload_n (j := 0) (by decide +kernel) rfl ?_
  refine jj_ldcW (index := 269) (i := 46) (tx := "process") (by decide +kernel) (List.mem_of_getElem? (i := 47) rfl) ?_
  refine mq_ci (mq_i hq (fun g hm => m_isWord (d := d - 1) (i := 46) hG hk (by decide) (by omega) hm) (fun _ _ q => q)) (fun o1 h1 hC => jj_callV ok_MO_isWord ml_MO_137 im_MO_isWord se_MO_MO_isWord (by decide +kernel) hq.rcv rfl (by omega) (Nat.le_of_ble_eq_true rfl) hC) (fun v1 u1 h hp1 hq => ?_)
  obtain ⟨e1, -, hf1⟩ := hp1
  rw [e1] at hq
  refine jj_if_eq (off := 9) (tgt := 16) (by decide +kernel) (by decide) (fun c2 => ?_) (fun c2 => ?_)
  · skip
    refine jj_aload_n (j := 0) (by decide +kernel) rfl ?_
    refine mq_ci (mq_i hq (fun g hm => m_aName (d := d - 1) hG hk (by omega) hm) (fun _ _ q => q)) (fun o1 h1 hC => jj_callV ok_MO_aName ml_MO_163 im_MO_aName se_MO_MO_aName (by decide +kernel) hq.rcv rfl (by omega) (Nat.le_of_ble_eq_true rfl) hC) (fun v3 u3 h hp3 hq => ?_)
    refine jj_istore_n (j := 1) (by decide +kernel) (by decide) rfl ?_
    refine jj_aload_n (j := 0) (by decide +kernel) rfl ?_
    refine jj_bipush (n := 58) (v := 58) (by decide +kernel) (by decide) ?_
    refine mq_ci (mq_k hq (fun g hm => m_takesMark (d := d - 1) (x := 58) hG hk (by decide) (by decide) (by omega) hm)) (fun o1 h1 hC => jj_callV ok_MO_takesMark ml_MO_157 im_MO_takesMark se_MO_MO_takesMark (by decide +kernel) hq.rcv rfl (by omega) (Nat.le_of_ble_eq_true rfl) hC) (fun v4 u4 h hp4 hq => ?_)
    obtain ⟨hp4, hf4⟩ := hp4
    refine jj_if_ne (off := 11) (tgt := 38) (by decide +kernel) (by decide) (fun c5 => ?_) (fun c5 => ?_)
    · skip
      have hz5 := hf4 c5
      refine jj_aload_n (j := 0) (by decide +kernel) rfl ?_
      refine jj_ldcW (index := 269) (i := 46) (tx := "process") (by decide +kernel) (List.mem_of_getElem? (i := 47) rfl) ?_
      refine mq_ci (mq_i hq (fun g hm => m_isWord (d := d - 1) (i := 46) hG hk (by decide) (by omega) hm) (fun _ _ q => q)) (fun o1 h1 hC => jj_callV ok_MO_isWord ml_MO_137 im_MO_isWord se_MO_MO_isWord (by decide +kernel) hq.rcv rfl (by omega) (Nat.le_of_ble_eq_true rfl) hC) (fun v6 u6 h hp6 hq => ?_)
      obtain ⟨e6, -, hf6⟩ := hp6
      rw [e6] at hq
      refine jj_if_eq (off := 11) (tgt := 56) (by decide +kernel) (by decide) (fun c7 => ?_) (fun c7 => ?_)
      · skip
        refine jj_aload_n (j := 0) (by decide +kernel) rfl ?_
        refine jj_ldcS (index := 178) (i := 15) (tx := "unit") (by decide +kernel) (List.mem_of_getElem? (i := 16) rfl) ?_
        refine mq_ci (mq_i hq (fun g hm => m_isWord (d := d - 1) (i := 15) hG hk (by decide) (by omega) hm) (fun _ _ q => q)) (fun o1 h1 hC => jj_callV ok_MO_isWord ml_MO_137 im_MO_isWord se_MO_MO_isWord (by decide +kernel) hq.rcv rfl (by omega) (Nat.le_of_ble_eq_true rfl) hC) (fun v8 u8 h hp8 hq => ?_)
        obtain ⟨e8, -, hf8⟩ := hp8
        rw [e8] at hq
        refine jj_if_eq (off := 11) (tgt := 73) (by decide +kernel) (by decide) (fun c9 => ?_) (fun c9 => ?_)
        · skip
          refine jj_aload_n (j := 0) (by decide +kernel) rfl ?_
          refine jj_ldcW (index := 282) (i := 58) (tx := "for") (by decide +kernel) (List.mem_of_getElem? (i := 59) rfl) ?_
          refine mq_ci (mq_i hq (fun g hm => m_isWord (d := d - 1) (i := 58) hG hk (by decide) (by omega) hm) (fun _ _ q => q)) (fun o1 h1 hC => jj_callV ok_MO_isWord ml_MO_137 im_MO_isWord se_MO_MO_isWord (by decide +kernel) hq.rcv rfl (by omega) (Nat.le_of_ble_eq_true rfl) hC) (fun v10 u10 h hp10 hq => ?_)
          obtain ⟨e10, -, hf10⟩ := hp10
          rw [e10] at hq
          refine jj_if_eq (off := 11) (tgt := 91) (by decide +kernel) (by decide) (fun c11 => ?_) (fun c11 => ?_)
          · skip
            refine jj_aload_n (j := 0) (by decide +kernel) rfl ?_
            refine jj_ldcW (index := 287) (i := 51) (tx := "if") (by decide +kernel) (List.mem_of_getElem? (i := 52) rfl) ?_
            refine mq_ci (mq_i hq (fun g hm => m_isWord (d := d - 1) (i := 51) hG hk (by decide) (by omega) hm) (fun _ _ q => q)) (fun o1 h1 hC => jj_callV ok_MO_isWord ml_MO_137 im_MO_isWord se_MO_MO_isWord (by decide +kernel) hq.rcv rfl (by omega) (Nat.le_of_ble_eq_true rfl) hC) (fun v12 u12 h hp12 hq => ?_)
            obtain ⟨e12, -, hf12⟩ := hp12
            rw [e12] at hq
            refine jj_if_eq (off := 11) (tgt := 109) (by decide +kernel) (by decide) (fun c13 => ?_) (fun c13 => ?_)
            · skip
              refine jj_aload_n (j := 0) (by decide +kernel) rfl ?_
              refine jj_aload_n (j := 0) (by decide +kernel) rfl ?_
              refine mq_ci (mq_i hq (fun g hm => m_aName (d := d - 1) hG hk (by omega) hm) (fun _ _ q => q)) (fun o1 h1 hC => jj_callV ok_MO_aName ml_MO_163 im_MO_aName se_MO_MO_aName (by decide +kernel) hq.rcv rfl (by omega) (Nat.le_of_ble_eq_true rfl) hC) (fun v14 u14 h hp14 hq => ?_)
              refine mq_cv (q_MO_flow (d := d - 1) (m := m) hG hk (by omega) (by omega) hq) (fun o1 h1 hC => jj_callV ok_MO_flow ml_MO_276 im_MO_flow se_MO_MO_flow (by decide +kernel) hq.rcv rfl (by omega) (Nat.le_of_ble_eq_true rfl) hC) (fun u15 h hp15 hq => ?_)
              exact jj_vret (by decide +kernel) rfl ⟨rfl, u15, by omega, hq⟩
            · skip
              have hz13 := hf12 c13
              refine jj_aload_n (j := 0) (by decide +kernel) rfl ?_
              refine jj_iload_n (j := 1) (by decide +kernel) rfl ?_
              refine mq_cv (q_MO_perhaps (d := d - 1) (m := m) hG hk (by omega) hO (by omega) hz13.2 (by omega) hq) (fun o1 h1 hC => jj_callV ok_MO_perhaps ml_MO_289 im_MO_perhaps se_MO_MO_perhaps (by decide +kernel) hq.rcv rfl (by omega) (Nat.le_of_ble_eq_true rfl) hC) (fun u16 h hp16 hq => ?_)
              refine jj_goto (off := 11) (tgt := 117) (by decide +kernel) (by decide) ?_
              exact jj_vret (by decide +kernel) rfl ⟨rfl, u16, by omega, hq⟩
          · skip
            have hz11 := hf10 c11
            refine jj_aload_n (j := 0) (by decide +kernel) rfl ?_
            refine jj_iload_n (j := 1) (by decide +kernel) rfl ?_
            refine mq_cv (q_MO_manyTimes (d := d - 1) (m := m) hG hk (by omega) hO (by omega) hz11.2 (by omega) hq) (fun o1 h1 hC => jj_callV ok_MO_manyTimes ml_MO_284 im_MO_manyTimes se_MO_MO_manyTimes (by decide +kernel) hq.rcv rfl (by omega) (Nat.le_of_ble_eq_true rfl) hC) (fun u17 h hp17 hq => ?_)
            refine jj_goto (off := 29) (tgt := 117) (by decide +kernel) (by decide) ?_
            exact jj_vret (by decide +kernel) rfl ⟨rfl, u17, by omega, hq⟩
        · skip
          have hz9 := hf8 c9
          refine jj_aload_n (j := 0) (by decide +kernel) rfl ?_
          refine jj_iload_n (j := 1) (by decide +kernel) rfl ?_
          refine mq_cv (q_MO_instance (d := d - 1) (m := m) hG hk (by omega) (by omega) hz9.2 (by omega) hq) (fun o1 h1 hC => jj_callV ok_MO_instance ml_MO_279 im_MO_instance se_MO_MO_instance (by decide +kernel) hq.rcv rfl (by omega) (Nat.le_of_ble_eq_true rfl) hC) (fun u18 h hp18 hq => ?_)
          refine jj_goto (off := 47) (tgt := 117) (by decide +kernel) (by decide) ?_
          exact jj_vret (by decide +kernel) rfl ⟨rfl, u18, by omega, hq⟩
      · skip
        have hz7 := hf6 c7
        refine jj_aload_n (j := 0) (by decide +kernel) rfl ?_
        refine jj_iload_n (j := 1) (by decide +kernel) rfl ?_
        refine mq_cv (q_MO_process (d := d - 1) (m := m) hG hk (by omega) (by omega) hz7.2 (by omega) hq) (fun o1 h1 hC => jj_callV ok_MO_process ml_MO_274 im_MO_process se_MO_MO_process (by decide +kernel) hq.rcv rfl (by omega) (Nat.le_of_ble_eq_true rfl) hC) (fun u19 h hp19 hq => ?_)
        refine jj_goto (off := 64) (tgt := 117) (by decide +kernel) (by decide) ?_
        exact jj_vret (by decide +kernel) rfl ⟨rfl, u19, by omega, hq⟩
    · skip
      refine jj_aload_n (j := 0) (by decide +kernel) rfl ?_
      refine jj_iload_n (j := 1) (by decide +kernel) rfl ?_
      refine mq_cv (q_MO_flow (d := d - 1) (m := m) hG hk (by omega) (by omega) hq) (fun o1 h1 hC => jj_callV ok_MO_flow ml_MO_276 im_MO_flow se_MO_MO_flow (by decide +kernel) hq.rcv rfl (by omega) (Nat.le_of_ble_eq_true rfl) hC) (fun u20 h hp20 hq => ?_)
      refine jj_goto (off := 82) (tgt := 117) (by decide +kernel) (by decide) ?_
      exact jj_vret (by decide +kernel) rfl ⟨rfl, u20, by omega, hq⟩
  · skip
    have hz2 := hf1 c2
    refine jj_aload_n (j := 0) (by decide +kernel) rfl ?_
    refine jj_iconst (n := (-1)) (v := (-1)) (by decide +kernel) (by decide) ?_
    refine mq_cv (q_MO_process (d := d - 1) (m := m) hG hk (by omega) (by omega) hz2.2 (by omega) hq) (fun o1 h1 hC => jj_callV ok_MO_process ml_MO_274 im_MO_process se_MO_MO_process (by decide +kernel) hq.rcv rfl (by omega) (Nat.le_of_ble_eq_true rfl) hC) (fun u21 h hp21 hq => ?_)
    exact jj_vret (by decide +kernel) rfl ⟨rfl, u21, by omega, hq⟩
theorem q_MO_concurrent {l : Launch} {G : jj_G} {C : mo_C} {u0 o d : Nat} {m : Nat} {h : jj_H} (hG : jj_tyG G) (hk : mo_k C) (ho : u0 = 0 ∨ o + m = 41) (hO : 0 < m → mo_Co l G C (m - 1)) (hdd : 25 + 20 * m ≤ d) (hq : Pq G C u0 o h) : jj_Q l G y_MO_concurrent d [.ref (C.2.1 0)] h (mq_V G C o (fun u' => u' ≤ u0 - 1)) :=
  jj_Q.of (by decide +kernel) (Nat.le_of_ble_eq_true rfl) (b_MO_concurrent_0 (o := o) hG hk ho hO hdd (Nat.le_refl _) hq)
set_option maxRecDepth 100000 in
set_option maxHeartbeats 4000000 in
theorem b_MO_concurrents_22 {l : Launch} {G : jj_G} {C : mo_C} {u0 o d : Nat} {m : Nat} {u : Nat} {h : jj_H} {x1 : Int32} (hG : jj_tyG G) (hk : mo_k C) (ho : u0 = 0 ∨ o + m = 41) (hO : 0 < m → mo_Co l G C (m - 1)) (hdd : 26 + 20 * m ≤ d) {n : Nat} (ih : ∀ (x1 : Int32) (u : Nat) (h : jj_H), u < n → u ≤ u0 → Pq G C u o h → jj_P l G y_MO_concurrents d (mq_V G C o (fun u' => u' ≤ u0)) 2 [some (.ref (C.2.1 0)), some (.int x1)] [] h) (hn0 : u < n + 1) (hps9 : 0 < u) (hle : u ≤ u0) (hn : mo_nl C u) (hps : 0 < u) (hq : Pq G C u o h) : jj_P l G y_MO_concurrents d (mq_V G C o (fun u' => u' ≤ u0)) 22 [some (.ref (C.2.1 0)), some (.int x1)] [] h := by
  refine jj_aload_n (j := 0) (by decide +kernel) rfl ?_
  refine mq_cv (q_MO_concurrent (d := d - 1) (m := m) hG hk (by omega) hO (by omega) hq) (fun o1 h1 hC => jj_callV ok_MO_concurrent ml_MO_271 im_MO_concurrent se_MO_MO_concurrent (by decide +kernel) hq.rcv rfl (by omega) (Nat.le_of_ble_eq_true rfl) hC) (fun u1 h hp1 hq => ?_)
  refine jj_iinc (i := 1) (n := 1) (by decide +kernel) rfl rfl (by decide) rfl ?_
  refine jj_goto (off := (-27)) (tgt := 2) (by decide +kernel) (by decide) ?_
  exact jj_wk (js_s (js_s js_0)) (ih _ u1 _ (by omega) (by omega) hq)
set_option maxRecDepth 100000 in
set_option maxHeartbeats 4000000 in
theorem b_MO_concurrents_2 {l : Launch} {G : jj_G} {C : mo_C} {u0 o d : Nat} {m : Nat} (hG : jj_tyG G) (hk : mo_k C) (ho : u0 = 0 ∨ o + m = 41) (hO : 0 < m → mo_Co l G C (m - 1)) (hdd : 26 + 20 * m ≤ d) : ∀ (n : Nat) (x1 : Int32) (u : Nat) (h : jj_H), u < n → u ≤ u0 → Pq G C u o h → jj_P l G y_MO_concurrents d (mq_V G C o (fun u' => u' ≤ u0)) 2 [some (.ref (C.2.1 0)), some (.int x1)] [] h := by
  intro n
  induction n with
  | zero => intro x1 u h hn0; exact absurd hn0 (Nat.not_lt_zero _)
  | succ n ih =>
    intro x1 u h hn0 hle hq
    refine jj_aload_n (j := 0) (by decide +kernel) rfl ?_
    refine mq_ci (mq_i hq (fun g hm => m_kind (d := d - 1) hG hk hm) (fun _ _ q => q)) (fun o1 h1 hC => jj_callV ok_MO_kind ml_MO_130 im_MO_kind se_MO_MO_kind (by decide +kernel) hq.rcv rfl (by omega) (Nat.le_of_ble_eq_true rfl) hC) (fun v1 u1 h hp1 hq => ?_)
    obtain ⟨e1, hf1⟩ := hp1
    rw [e1] at hq
    refine jj_sipush (n := 2000) (v := 2000) (by decide +kernel) (by decide) ?_
    refine jj_icmp_eq (off := 13) (tgt := 22) (by decide +kernel) (by decide) (fun c2 => ?_) (fun c2 => ?_)
    · skip
      have hz2 := mo_kd.pos hf1 (by rw [c2]; decide)
      exact jj_wk (js_s (js_s js_0)) (b_MO_concurrents_22 (o := o) hG hk ho hO hdd ih (by omega) (by omega) (by omega) (mo_nl.of hf1 (by rw [c2]; decide)) (by omega) hq)
    · skip
      refine jj_aload_n (j := 0) (by decide +kernel) rfl ?_
      refine jj_ldcW (index := 269) (i := 46) (tx := "process") (by decide +kernel) (List.mem_of_getElem? (i := 47) rfl) ?_
      refine mq_ci (mq_i hq (fun g hm => m_isWord (d := d - 1) (i := 46) hG hk (by decide) (by omega) hm) (fun _ _ q => q)) (fun o1 h1 hC => jj_callV ok_MO_isWord ml_MO_137 im_MO_isWord se_MO_MO_isWord (by decide +kernel) hq.rcv rfl (by omega) (Nat.le_of_ble_eq_true rfl) hC) (fun v3 u3 h hp3 hq => ?_)
      obtain ⟨e3, -, hf3⟩ := hp3
      rw [e3] at hq
      refine jj_if_eq (off := 13) (tgt := 32) (by decide +kernel) (by decide) (fun c4 => ?_) (fun c4 => ?_)
      · skip
        refine jj_aload_n (j := 0) (by decide +kernel) rfl ?_
        refine jj_bipush (n := 48) (v := 48) (by decide +kernel) (by decide) ?_
        refine jj_iconst (n := 0) (v := 0) (by decide +kernel) (by decide) ?_
        refine jj_iload_n (j := 1) (by decide +kernel) rfl ?_
        refine mq_cv (mq_v hq (fun g hm => m_lay (d := d - 1) hG hk (by omega) hm)) (fun o1 h1 hC => jj_callV ok_MO_lay ml_MO_166 im_MO_lay se_MO_MO_lay (by decide +kernel) hq.rcv rfl (by omega) (Nat.le_of_ble_eq_true rfl) hC) (fun u5 h hp5 hq => ?_)
        exact jj_vret (by decide +kernel) rfl ⟨rfl, u5, by omega, hq⟩
      · skip
        have hz4 := hf3 c4
        exact jj_wk (js_s (js_s js_0)) (b_MO_concurrents_22 (o := o) hG hk ho hO hdd ih (by omega) (by omega) (by omega) hz4.2 (by omega) hq)
set_option maxRecDepth 100000 in
set_option maxHeartbeats 4000000 in
theorem b_MO_concurrents_0 {l : Launch} {G : jj_G} {C : mo_C} {u0 o d : Nat} {m : Nat} {u : Nat} {h : jj_H} (hG : jj_tyG G) (hk : mo_k C) (ho : u0 = 0 ∨ o + m = 41) (hO : 0 < m → mo_Co l G C (m - 1)) (hdd : 26 + 20 * m ≤ d) (hle : u ≤ u0) (hq : Pq G C u o h) : jj_P l G y_MO_concurrents d (mq_V G C o (fun u' => u' ≤ u0)) 0 [some (.ref (C.2.1 0)), none] [] h := by
  refine jj_iconst (n := 0) (v := 0) (by decide +kernel) (by decide) ?_
  refine jj_istore_n (j := 1) (by decide +kernel) (by decide) rfl ?_
  exact jj_wk (js_s (js_s js_0)) (b_MO_concurrents_2 (o := o) hG hk ho hO hdd _ _ u _ (Nat.lt_succ_self _) (by omega) hq)
theorem q_MO_concurrents {l : Launch} {G : jj_G} {C : mo_C} {u0 o d : Nat} {m : Nat} {h : jj_H} (hG : jj_tyG G) (hk : mo_k C) (ho : u0 = 0 ∨ o + m = 41) (hO : 0 < m → mo_Co l G C (m - 1)) (hdd : 26 + 20 * m ≤ d) (hq : Pq G C u0 o h) : jj_Q l G y_MO_concurrents d [.ref (C.2.1 0)] h (mq_V G C o (fun u' => u' ≤ u0)) :=
  jj_Q.of (by decide +kernel) (Nat.le_of_ble_eq_true rfl) (b_MO_concurrents_0 (o := o) hG hk ho hO hdd (Nat.le_refl _) hq)
theorem mco_all {l : Launch} {G : jj_G} {C : mo_C} (hG : jj_tyG G) (hk : mo_k C) : ∀ m, mo_Co l G C m := by
  intro m
  induction m with
  | zero => exact fun u o h d ho hq hdd => q_MO_concurrents hG hk ho (fun q => absurd q (by decide)) hdd hq
  | succ m ih => exact fun u o h d ho hq hdd => q_MO_concurrents hG hk ho (fun _ => ih) hdd hq
set_option maxRecDepth 100000 in
set_option maxHeartbeats 4000000 in
theorem b_MO_unit_0 {l : Launch} {G : jj_G} {C : mo_C} {u0 o d : Nat} {m : Nat} {u : Nat} {h : jj_H} (hG : jj_tyG G) (hk : mo_k C) (ho : u0 = 0 ∨ o + m = 41) (hdd : 22 + 20 * m ≤ d) (hle : u ≤ u0) (hn : mo_nl C u) (hps : 0 < u) (hq : Pq G C u o h) : jj_P l G y_MO_unit d (mq_V G C o (fun u' => u' ≤ u0 - 1)) 0 [some (.ref (C.2.1 0)), none, none] [] h := by
  refine jj_aload_n (j := 0) (by decide +kernel) rfl ?_
  refine mq_cv (mq_v hq (fun g hm => m_on (d := d - 1) hG hk hn (by omega) hm)) (fun o1 h1 hC => jj_callV ok_MO_on ml_MO_141 im_MO_on se_MO_MO_on (by decide +kernel) hq.rcv rfl (by omega) (Nat.le_of_ble_eq_true rfl) hC) (fun u1 h hp1 hq => ?_)
  refine jj_aload_n (j := 0) (by decide +kernel) rfl ?_
  refine mq_ci (mq_i hq (fun g hm => m_aName (d := d - 1) hG hk (by omega) hm) (fun _ _ q => q)) (fun o1 h1 hC => jj_callV ok_MO_aName ml_MO_163 im_MO_aName se_MO_MO_aName (by decide +kernel) hq.rcv rfl (by omega) (Nat.le_of_ble_eq_true rfl) hC) (fun v2 u2 h hp2 hq => ?_)
  refine jj_istore_n (j := 1) (by decide +kernel) (by decide) rfl ?_
  refine jj_aload_n (j := 0) (by decide +kernel) rfl ?_
  refine jj_ldcS (index := 186) (i := 16) (tx := "is") (by decide +kernel) (List.mem_of_getElem? (i := 17) rfl) ?_
  refine mq_cv (mq_v hq (fun g hm => m_word (d := d - 1) (i := 16) hG hk (by decide) (by omega) hm)) (fun o1 h1 hC => jj_callV ok_MO_word ml_MO_188 im_MO_word se_MO_MO_word (by decide +kernel) hq.rcv rfl (by omega) (Nat.le_of_ble_eq_true rfl) hC) (fun u3 h hp3 hq => ?_)
  refine jj_aload_n (j := 0) (by decide +kernel) rfl ?_
  refine jj_ldcS (index := 192) (i := 17) (tx := "generic") (by decide +kernel) (List.mem_of_getElem? (i := 18) rfl) ?_
  refine jj_bipush (n := 71) (v := 71) (by decide +kernel) (by decide) ?_
  refine mq_cv (q_MO_lists (d := d - 1) (m := m) (i := 17) hG hk (by omega) (by decide) (by omega) hq) (fun o1 h1 hC => jj_callV ok_MO_lists ml_MO_194 im_MO_lists se_MO_MO_lists (by decide +kernel) hq.rcv rfl (by omega) (Nat.le_of_ble_eq_true rfl) hC) (fun u4 h hp4 hq => ?_)
  refine jj_aload_n (j := 0) (by decide +kernel) rfl ?_
  refine jj_ldcS (index := 198) (i := 36) (tx := "port") (by decide +kernel) (List.mem_of_getElem? (i := 37) rfl) ?_
  refine jj_bipush (n := 72) (v := 72) (by decide +kernel) (by decide) ?_
  refine mq_cv (q_MO_lists (d := d - 1) (m := m) (i := 36) hG hk (by omega) (by decide) (by omega) hq) (fun o1 h1 hC => jj_callV ok_MO_lists ml_MO_194 im_MO_lists se_MO_MO_lists (by decide +kernel) hq.rcv rfl (by omega) (Nat.le_of_ble_eq_true rfl) hC) (fun u5 h hp5 hq => ?_)
  refine jj_aload_n (j := 0) (by decide +kernel) rfl ?_
  refine jj_ldcS (index := 200) (i := 37) (tx := "end") (by decide +kernel) (List.mem_of_getElem? (i := 38) rfl) ?_
  refine mq_cv (mq_v hq (fun g hm => m_word (d := d - 1) (i := 37) hG hk (by decide) (by omega) hm)) (fun o1 h1 hC => jj_callV ok_MO_word ml_MO_188 im_MO_word se_MO_MO_word (by decide +kernel) hq.rcv rfl (by omega) (Nat.le_of_ble_eq_true rfl) hC) (fun u6 h hp6 hq => ?_)
  refine jj_aload_n (j := 0) (by decide +kernel) rfl ?_
  refine jj_ldcS (index := 178) (i := 15) (tx := "unit") (by decide +kernel) (List.mem_of_getElem? (i := 16) rfl) ?_
  refine mq_ci (mq_k hq (fun g hm => m_takes (d := d - 1) (i := 15) hG hk (by decide) (by omega) hm)) (fun o1 h1 hC => jj_callV ok_MO_takes ml_MO_150 im_MO_takes se_MO_MO_takes (by decide +kernel) hq.rcv rfl (by omega) (Nat.le_of_ble_eq_true rfl) hC) (fun v7 u7 h hp7 hq => ?_)
  obtain ⟨hp7, hf7⟩ := hp7
  refine jj_istore_n (j := 2) (by decide +kernel) (by decide) rfl ?_
  refine jj_aload_n (j := 0) (by decide +kernel) rfl ?_
  refine jj_iload_n (j := 1) (by decide +kernel) rfl ?_
  refine mq_cv (mq_v hq (fun g hm => m_ownName (d := d - 1) hG hk (by omega) hm)) (fun o1 h1 hC => jj_callV ok_MO_ownName ml_MO_202 im_MO_ownName se_MO_MO_ownName (by decide +kernel) hq.rcv rfl (by omega) (Nat.le_of_ble_eq_true rfl) hC) (fun u8 h hp8 hq => ?_)
  refine jj_aload_n (j := 0) (by decide +kernel) rfl ?_
  refine jj_bipush (n := 59) (v := 59) (by decide +kernel) (by decide) ?_
  refine mq_cv (mq_v hq (fun g hm => m_sign (d := d - 1) (x := 59) hG hk (by decide) (by decide) (by omega) hm)) (fun o1 h1 hC => jj_callV ok_MO_sign ml_MO_172 im_MO_sign se_MO_MO_sign (by decide +kernel) hq.rcv rfl (by omega) (Nat.le_of_ble_eq_true rfl) hC) (fun u9 h hp9 hq => ?_)
  refine jj_aload_n (j := 0) (by decide +kernel) rfl ?_
  refine jj_bipush (n := 70) (v := 70) (by decide +kernel) (by decide) ?_
  refine jj_iload_n (j := 1) (by decide +kernel) rfl ?_
  refine jj_iconst (n := 2) (v := 2) (by decide +kernel) (by decide) ?_
  refine mq_cv (mq_v hq (fun g hm => m_lay (d := d - 1) hG hk (by omega) hm)) (fun o1 h1 hC => jj_callV ok_MO_lay ml_MO_166 im_MO_lay se_MO_MO_lay (by decide +kernel) hq.rcv rfl (by omega) (Nat.le_of_ble_eq_true rfl) hC) (fun u10 h hp10 hq => ?_)
  exact jj_vret (by decide +kernel) rfl ⟨rfl, u10, by omega, hq⟩
theorem q_MO_unit {l : Launch} {G : jj_G} {C : mo_C} {u0 o d : Nat} {m : Nat} {h : jj_H} (hG : jj_tyG G) (hk : mo_k C) (ho : u0 = 0 ∨ o + m = 41) (hdd : 22 + 20 * m ≤ d) (hn : mo_nl C u0) (hps : 0 < u0) (hq : Pq G C u0 o h) : jj_Q l G y_MO_unit d [.ref (C.2.1 0)] h (mq_V G C o (fun u' => u' ≤ u0 - 1)) :=
  jj_Q.of (by decide +kernel) (Nat.le_of_ble_eq_true rfl) (b_MO_unit_0 (o := o) hG hk ho hdd (Nat.le_refl _) hn hps hq)
set_option maxRecDepth 100000 in
set_option maxHeartbeats 4000000 in
theorem b_MO_body_0 {l : Launch} {G : jj_G} {C : mo_C} {u0 o d : Nat} {m : Nat} {u : Nat} {h : jj_H} (hG : jj_tyG G) (hk : mo_k C) (ho : u0 = 0 ∨ o + m = 41) (hdd : 27 + 20 * m ≤ d) (hle : u ≤ u0) (hn : mo_nl C u) (hps : 0 < u) (hq : Pq G C u o h) : jj_P l G y_MO_body d (mq_V G C o (fun u' => u' ≤ u0 - 1)) 0 [some (.ref (C.2.1 0)), none, none] [] h := by
  refine jj_aload_n (j := 0) (by decide +kernel) rfl ?_
  refine mq_cv (mq_v hq (fun g hm => m_on (d := d - 1) hG hk hn (by omega) hm)) (fun o1 h1 hC => jj_callV ok_MO_on ml_MO_141 im_MO_on se_MO_MO_on (by decide +kernel) hq.rcv rfl (by omega) (Nat.le_of_ble_eq_true rfl) hC) (fun u1 h hp1 hq => ?_)
  refine jj_aload_n (j := 0) (by decide +kernel) rfl ?_
  refine mq_ci (mq_i hq (fun g hm => m_aName (d := d - 1) hG hk (by omega) hm) (fun _ _ q => q)) (fun o1 h1 hC => jj_callV ok_MO_aName ml_MO_163 im_MO_aName se_MO_MO_aName (by decide +kernel) hq.rcv rfl (by omega) (Nat.le_of_ble_eq_true rfl) hC) (fun v2 u2 h hp2 hq => ?_)
  refine jj_istore_n (j := 1) (by decide +kernel) (by decide) rfl ?_
  refine jj_aload_n (j := 0) (by decide +kernel) rfl ?_
  refine jj_ldcS (index := 239) (i := 39) (tx := "of") (by decide +kernel) (List.mem_of_getElem? (i := 40) rfl) ?_
  refine mq_cv (mq_v hq (fun g hm => m_word (d := d - 1) (i := 39) hG hk (by decide) (by omega) hm)) (fun o1 h1 hC => jj_callV ok_MO_word ml_MO_188 im_MO_word se_MO_MO_word (by decide +kernel) hq.rcv rfl (by omega) (Nat.le_of_ble_eq_true rfl) hC) (fun u3 h hp3 hq => ?_)
  refine jj_aload_n (j := 0) (by decide +kernel) rfl ?_
  refine mq_cv (mq_v hq (fun g hm => m_nameNode (d := d - 1) hG hk (by omega) hm)) (fun o1 h1 hC => jj_callV ok_MO_nameNode ml_MO_241 im_MO_nameNode se_MO_MO_nameNode (by decide +kernel) hq.rcv rfl (by omega) (Nat.le_of_ble_eq_true rfl) hC) (fun u4 h hp4 hq => ?_)
  refine jj_aload_n (j := 0) (by decide +kernel) rfl ?_
  refine jj_ldcS (index := 186) (i := 16) (tx := "is") (by decide +kernel) (List.mem_of_getElem? (i := 17) rfl) ?_
  refine mq_cv (mq_v hq (fun g hm => m_word (d := d - 1) (i := 16) hG hk (by decide) (by omega) hm)) (fun o1 h1 hC => jj_callV ok_MO_word ml_MO_188 im_MO_word se_MO_MO_word (by decide +kernel) hq.rcv rfl (by omega) (Nat.le_of_ble_eq_true rfl) hC) (fun u5 h hp5 hq => ?_)
  refine jj_aload_n (j := 0) (by decide +kernel) rfl ?_
  refine jj_iconst (n := 0) (v := 0) (by decide +kernel) (by decide) ?_
  refine mq_cv (q_MO_declarations (d := d - 1) (m := m) hG hk (by omega) (by omega) hq) (fun o1 h1 hC => jj_callV ok_MO_declarations ml_MO_244 im_MO_declarations se_MO_MO_declarations (by decide +kernel) hq.rcv rfl (by omega) (Nat.le_of_ble_eq_true rfl) hC) (fun u6 h hp6 hq => ?_)
  refine jj_aload_n (j := 0) (by decide +kernel) rfl ?_
  refine jj_ldcS (index := 247) (i := 45) (tx := "begin") (by decide +kernel) (List.mem_of_getElem? (i := 46) rfl) ?_
  refine mq_cv (mq_v hq (fun g hm => m_word (d := d - 1) (i := 45) hG hk (by decide) (by omega) hm)) (fun o1 h1 hC => jj_callV ok_MO_word ml_MO_188 im_MO_word se_MO_MO_word (by decide +kernel) hq.rcv rfl (by omega) (Nat.le_of_ble_eq_true rfl) hC) (fun u7 h hp7 hq => ?_)
  refine jj_aload_n (j := 0) (by decide +kernel) rfl ?_
  refine mq_cv (mco_all hG hk m _ _ _ (d - 1) (by omega) hq (by omega)) (fun o1 h1 hC => jj_callV ok_MO_concurrents ml_MO_249 im_MO_concurrents se_MO_MO_concurrents (by decide +kernel) hq.rcv rfl (by omega) (Nat.le_of_ble_eq_true rfl) hC) (fun u8 h hp8 hq => ?_)
  refine jj_aload_n (j := 0) (by decide +kernel) rfl ?_
  refine jj_ldcS (index := 200) (i := 37) (tx := "end") (by decide +kernel) (List.mem_of_getElem? (i := 38) rfl) ?_
  refine mq_cv (mq_v hq (fun g hm => m_word (d := d - 1) (i := 37) hG hk (by decide) (by omega) hm)) (fun o1 h1 hC => jj_callV ok_MO_word ml_MO_188 im_MO_word se_MO_MO_word (by decide +kernel) hq.rcv rfl (by omega) (Nat.le_of_ble_eq_true rfl) hC) (fun u9 h hp9 hq => ?_)
  refine jj_aload_n (j := 0) (by decide +kernel) rfl ?_
  refine jj_ldcS (index := 182) (i := 38) (tx := "body") (by decide +kernel) (List.mem_of_getElem? (i := 39) rfl) ?_
  refine mq_ci (mq_k hq (fun g hm => m_takes (d := d - 1) (i := 38) hG hk (by decide) (by omega) hm)) (fun o1 h1 hC => jj_callV ok_MO_takes ml_MO_150 im_MO_takes se_MO_MO_takes (by decide +kernel) hq.rcv rfl (by omega) (Nat.le_of_ble_eq_true rfl) hC) (fun v10 u10 h hp10 hq => ?_)
  obtain ⟨hp10, hf10⟩ := hp10
  refine jj_istore_n (j := 2) (by decide +kernel) (by decide) rfl ?_
  refine jj_aload_n (j := 0) (by decide +kernel) rfl ?_
  refine jj_iload_n (j := 1) (by decide +kernel) rfl ?_
  refine mq_cv (mq_v hq (fun g hm => m_ownName (d := d - 1) hG hk (by omega) hm)) (fun o1 h1 hC => jj_callV ok_MO_ownName ml_MO_202 im_MO_ownName se_MO_MO_ownName (by decide +kernel) hq.rcv rfl (by omega) (Nat.le_of_ble_eq_true rfl) hC) (fun u11 h hp11 hq => ?_)
  refine jj_aload_n (j := 0) (by decide +kernel) rfl ?_
  refine jj_bipush (n := 59) (v := 59) (by decide +kernel) (by decide) ?_
  refine mq_cv (mq_v hq (fun g hm => m_sign (d := d - 1) (x := 59) hG hk (by decide) (by decide) (by omega) hm)) (fun o1 h1 hC => jj_callV ok_MO_sign ml_MO_172 im_MO_sign se_MO_MO_sign (by decide +kernel) hq.rcv rfl (by omega) (Nat.le_of_ble_eq_true rfl) hC) (fun u12 h hp12 hq => ?_)
  refine jj_aload_n (j := 0) (by decide +kernel) rfl ?_
  refine jj_bipush (n := 73) (v := 73) (by decide +kernel) (by decide) ?_
  refine jj_iload_n (j := 1) (by decide +kernel) rfl ?_
  refine jj_iconst (n := 3) (v := 3) (by decide +kernel) (by decide) ?_
  refine mq_cv (mq_v hq (fun g hm => m_lay (d := d - 1) hG hk (by omega) hm)) (fun o1 h1 hC => jj_callV ok_MO_lay ml_MO_166 im_MO_lay se_MO_MO_lay (by decide +kernel) hq.rcv rfl (by omega) (Nat.le_of_ble_eq_true rfl) hC) (fun u13 h hp13 hq => ?_)
  exact jj_vret (by decide +kernel) rfl ⟨rfl, u13, by omega, hq⟩
theorem q_MO_body {l : Launch} {G : jj_G} {C : mo_C} {u0 o d : Nat} {m : Nat} {h : jj_H} (hG : jj_tyG G) (hk : mo_k C) (ho : u0 = 0 ∨ o + m = 41) (hdd : 27 + 20 * m ≤ d) (hn : mo_nl C u0) (hps : 0 < u0) (hq : Pq G C u0 o h) : jj_Q l G y_MO_body d [.ref (C.2.1 0)] h (mq_V G C o (fun u' => u' ≤ u0 - 1)) :=
  jj_Q.of (by decide +kernel) (Nat.le_of_ble_eq_true rfl) (b_MO_body_0 (o := o) hG hk ho hdd (Nat.le_refl _) hn hps hq)
