/-! the reference's small methods, on -/
/-- a string constant's character -/
def jj_ch (i j : Nat) : Int32 := ((((jj_bS.getD i []).getD j 0) &&& 255).toUInt32 % 65536).toInt32
def cd_v (i : Nat) : Nat → Int32
  | 0 => 0
  | k + 1 => 27 * cd_v i k + jj_ch i k - 96
def cd (i : Nat) : Int32 := 4096 + cd_v i (min (jj_lS.getD i 0) 6)
theorem cd_ok : ∀ i, i < jj_nS → cd i ≠ 2004 ∧ cd i ≠ 2005 := by decide +kernel
set_option maxRecDepth 100000 in
set_option maxHeartbeats 4000000 in
theorem e_JL_charAt {l : Launch} {G : jj_G} {d : Nat} {h : jj_H} {i j : Nat} (hi : i < jj_nS) (hj : j < jj_lS.getD i 0) (hdd : 2 ≤ d) : jj_Q l G y_JL_charAt d [.ref (G.2.2.2.2.1 i), .int (nI j)] h (fun out h' => out = .inl (some (.int (jj_ch i j))) ∧ h' = h) := by
  have hlen := lS_small i hi
  refine jj_Q.of (by decide +kernel) (Nat.le_of_ble_eq_true rfl) ?_
  refine jj_iload_n (j := 1) (by decide +kernel) rfl ?_
  refine jj_aload_n (j := 0) (by decide +kernel) rfl ?_
  refine jj_strlen hi (by decide +kernel) ?_
  refine jj_callr (c_JS_checkIndex (d := d - 1) (nI_pos (by omega)) (nI_lt hj (by omega)) (by omega)) (fun o1 h1 hC => jj_callS ok_JS_checkIndex ml_JL_9 st_JS_checkIndex (by decide +kernel) rfl (by omega) (Nat.le_of_ble_eq_true rfl) hC) (by rintro E h1 ⟨q, -⟩; cases q) ?_
  rintro v h1 ⟨hv, rfl⟩
  cases hv
  refine jj_aload_n (j := 0) (by decide +kernel) rfl ?_
  refine jj_iload_n (j := 1) (by decide +kernel) rfl ?_
  refine jj_strbyte hi (vp_in_nI hj (by omega)) (by decide +kernel) ?_
  rw [nI_clamp (show j < 2 ^ 31 by omega)]
  refine jj_sipush (n := 255) (v := 255) (by decide +kernel) (by decide) ?_
  refine jj_iand (by decide +kernel) ?_
  refine jj_i2c (by decide +kernel) ?_
  exact jj_iret .char (by decide +kernel) rfl (pk_nc _) ⟨rfl, rfl⟩
set_option maxRecDepth 100000 in
set_option maxHeartbeats 4000000 in
theorem e_JS_charAt {l : Launch} {G : jj_G} {d : Nat} {h : jj_H} {i j : Nat} (hi : i < jj_nS) (hj : j < jj_lS.getD i 0) (hdd : 3 ≤ d) : jj_Q l G y_JS_charAt d [.ref (G.2.2.2.1 i), .int (nI j)] h (fun out h' => out = .inl (some (.int (jj_ch i j))) ∧ h' = h) := by
  refine jj_Q.of (by decide +kernel) (Nat.le_of_ble_eq_true rfl) ?_
  refine jj_aload_n (j := 0) (by decide +kernel) rfl ?_
  refine jj_callr (c_JS_isLatin1 (d := d - 1) hi) (fun o1 h1 hC => jj_callV ok_JS_isLatin1 ml_JS_492 im_JS_isLatin1 se_JS_JS_isLatin1 (by decide +kernel) (jj_rcv.str hi) rfl (by omega) (Nat.le_of_ble_eq_true rfl) hC) (by rintro E h1 ⟨q, -⟩; cases q) ?_
  rintro v h1 ⟨hv, rfl⟩
  cases hv
  refine jj_if_eq (off := 12) (tgt := 16) (by decide +kernel) (by decide) (fun c1 => absurd c1 (by decide)) (fun _ => ?_)
  refine jj_aload_n (j := 0) (by decide +kernel) rfl ?_
  refine jj_value hi wl_JS_9 (by decide +kernel) ?_
  refine jj_iload_n (j := 1) (by decide +kernel) rfl ?_
  refine jj_callr (e_JL_charAt (d := d - 1) hi hj (by omega)) (fun o1 h1 hC => jj_callS ok_JL_charAt ml_JS_495 st_JL_charAt (by decide +kernel) rfl (by omega) (Nat.le_of_ble_eq_true rfl) hC) (by rintro E h1 ⟨q, -⟩; cases q) ?_
  rintro v h1 ⟨hv, rfl⟩
  cases hv
  exact jj_iret .char (by decide +kernel) rfl (pk_nc _) ⟨rfl, rfl⟩
set_option maxRecDepth 100000 in
set_option maxHeartbeats 4000000 in
theorem b_MO_codeOf_4 {l : Launch} {G : jj_G} {d : Nat} {h : jj_H} {i : Nat} (hi : i < jj_nS) (hdd : 4 ≤ d) : ∀ (n j : Nat), 6 - j < n → j ≤ jj_lS.getD i 0 → j ≤ 6 → jj_P l G y_MO_codeOf d (fun out h' => out = .inl (some (.int (cd i))) ∧ h' = h) 4 [some (.ref (G.2.2.2.1 i)), some (.int (cd_v i j)), some (.int (nI j))] [] h := by
  have hlen := lS_small i hi
  intro n
  induction n with
  | zero => intro j hn; exact absurd hn (Nat.not_lt_zero _)
  | succ n ih =>
    intro j hn hj1 hj2
    have fin : j = min (jj_lS.getD i 0) 6 → jj_P l G y_MO_codeOf d (fun out h' => out = .inl (some (.int (cd i))) ∧ h' = h) 38 [some (.ref (G.2.2.2.1 i)), some (.int (cd_v i j)), some (.int (nI j))] [] h := by
      intro e
      refine jj_sipush (n := 4096) (v := 4096) (by decide +kernel) (by decide) ?_
      refine jj_iload_n (j := 1) (by decide +kernel) rfl ?_
      refine jj_iadd (by decide +kernel) ?_
      exact jj_iret .int (by decide +kernel) rfl rfl ⟨by unfold cd; rw [← e], rfl⟩
    refine jj_iload_n (j := 2) (by decide +kernel) rfl ?_
    refine jj_aload_n (j := 0) (by decide +kernel) rfl ?_
    refine jj_callr (c_JS_length (d := d - 1) hi (by omega)) (fun o1 h1 hC => jj_callV ok_JS_length ml_MO_59 im_JS_length se_JS_JS_length (by decide +kernel) (jj_rcv.str hi) rfl (by omega) (Nat.le_of_ble_eq_true rfl) hC) (by rintro E h1 ⟨q, -⟩; cases q) ?_
    rintro v h1 ⟨hv, rfl⟩
    cases hv
    refine jj_icmp_ge (off := 29) (tgt := 38) (by decide +kernel) (by decide) (fun c1 => ?_) (fun c1 => ?_)
    · have := (nI_leI (by omega) (by omega)).mp c1
      exact fin (by omega)
    · have hlt : j < jj_lS.getD i 0 := Nat.not_le.mp (fun q => c1 (nI_le q (by omega)))
      refine jj_iload_n (j := 2) (by decide +kernel) rfl ?_
      refine jj_bipush (n := 6) (v := nI 6) (by decide +kernel) (by decide) ?_
      refine jj_icmp_ge (off := 23) (tgt := 38) (by decide +kernel) (by decide) (fun c2 => ?_) (fun c2 => ?_)
      · have := (nI_leI (by omega) (by omega)).mp c2
        exact fin (by omega)
      · have hlt6 : j < 6 := Nat.not_le.mp (fun q => c2 (nI_le q (by omega)))
        refine jj_bipush (n := 27) (v := 27) (by decide +kernel) (by decide) ?_
        refine jj_iload_n (j := 1) (by decide +kernel) rfl ?_
        refine jj_imul (by decide +kernel) ?_
        refine jj_aload_n (j := 0) (by decide +kernel) rfl ?_
        refine jj_iload_n (j := 2) (by decide +kernel) rfl ?_
        refine jj_callr (e_JS_charAt (d := d - 1) hi hlt (by omega)) (fun o1 h1 hC => jj_callV ok_JS_charAt ml_MO_64 im_JS_charAt se_JS_JS_charAt (by decide +kernel) (jj_rcv.str hi) rfl (by omega) (Nat.le_of_ble_eq_true rfl) hC) (by rintro E h1 ⟨q, -⟩; cases q) ?_
        rintro v h1 ⟨hv, rfl⟩
        cases hv
        refine jj_iadd (by decide +kernel) ?_
        refine jj_bipush (n := 96) (v := 96) (by decide +kernel) (by decide) ?_
        refine jj_isub (by decide +kernel) ?_
        refine jj_istore_n (j := 1) (by decide +kernel) (by decide) rfl ?_
        refine jj_iinc (i := 2) (n := 1) (v := nI (j + 1)) (by decide +kernel) rfl (by rw [show Int32.ofInt 1 = 1 from rfl]; exact nI_1 j) (by decide) rfl ?_
        refine jj_goto (off := (-31)) (tgt := 4) (by decide +kernel) (by decide) ?_
        exact ih (j + 1) (by omega) (by omega) (by omega)
set_option maxRecDepth 100000 in
set_option maxHeartbeats 4000000 in
theorem m_codeOf {l : Launch} {G : jj_G} {d : Nat} {h : jj_H} {i : Nat} (hi : i < jj_nS) (hdd : 4 ≤ d) : jj_Q l G y_MO_codeOf d [.ref (G.2.2.2.1 i)] h (fun out h' => out = .inl (some (.int (cd i))) ∧ h' = h) := by
  refine jj_Q.of (by decide +kernel) (Nat.le_of_ble_eq_true rfl) ?_
  refine jj_iconst (n := 0) (v := 0) (by decide +kernel) (by decide) ?_
  refine jj_istore_n (j := 1) (by decide +kernel) (by decide) rfl ?_
  refine jj_iconst (n := 0) (v := 0) (by decide +kernel) (by decide) ?_
  refine jj_istore_n (j := 2) (by decide +kernel) (by decide) rfl ?_
  exact b_MO_codeOf_4 hi hdd _ 0 (Nat.lt_succ_self _) (Nat.zero_le _) (Nat.zero_le _)
/-- a question of the token: if it is answered yes, one is there and it is not the last -/
def mo_B (C : mo_C) (u : Nat) : Int32 → Nat → Prop := fun v u' => u' = u ∧ (v = 0 ∨ v = 1) ∧ (v ≠ 0 → 0 < u ∧ mo_nl C u)
/-- a token that may be taken -/
def mo_K (u : Nat) : Int32 → Nat → Prop := fun v u' => (v = 0 ∧ u' = u) ∨ (v = 1 ∧ 0 < u ∧ u' ≤ u - 1)
set_option maxRecDepth 100000 in
set_option maxHeartbeats 4000000 in
theorem m_isMark {l : Launch} {G : jj_G} {C : mo_C} {u o g d : Nat} {h : jj_H} {x : Int32} (hG : jj_tyG G) (hk : mo_k C) (h4 : x + 500 ≠ 2004) (h5 : x + 500 ≠ 2005) (hdd : 1 ≤ d) (hm : Pm G C u o g h) : jj_Q l G y_MO_isMark d [.ref (C.2.1 0), .int x] h (mo_I G C o g (mo_B C u)) := by
  refine jj_Q.of (by decide +kernel) (Nat.le_of_ble_eq_true rfl) ?_
  refine jj_aload_n (j := 0) (by decide +kernel) rfl ?_
  refine mo_ci (m_kind (d := d - 1) hG hk hm) (fun o1 h1 hC => jj_callV ok_MO_kind ml_MO_130 im_MO_kind se_MO_MO_kind (by decide +kernel) hm.rcv rfl (by omega) (Nat.le_of_ble_eq_true rfl) hC) (fun v u' h hP hm => ?_)
  obtain ⟨hu9, hkd⟩ := hP
  rw [hu9] at hm
  refine jj_iload_n (j := 1) (by decide +kernel) rfl ?_
  refine jj_sipush (n := 500) (v := 500) (by decide +kernel) (by decide) ?_
  refine jj_iadd (by decide +kernel) ?_
  refine jj_icmp_ne (off := 7) (tgt := 16) (by decide +kernel) (by decide) (fun c1 => ?_) (fun c1 => ?_)
  · refine jj_iconst (n := 0) (v := 0) (by decide +kernel) (by decide) ?_
    exact jj_iret .boolean (by decide +kernel) rfl rfl ⟨0, _, rfl, ⟨rfl, Or.inl rfl, fun q => absurd rfl q⟩, hm⟩
  · refine jj_iconst (n := 1) (v := 1) (by decide +kernel) (by decide) ?_
    refine jj_goto (off := 4) (tgt := 17) (by decide +kernel) (by decide) ?_
    exact jj_iret .boolean (by decide +kernel) rfl rfl ⟨1, _, rfl, ⟨rfl, Or.inr rfl, fun _ => ⟨hkd.pos (by rw [c1]; exact h5), mo_nl.of hkd (by rw [c1]; exact h4)⟩⟩, hm⟩
set_option maxRecDepth 100000 in
set_option maxHeartbeats 4000000 in
theorem m_isTwo {l : Launch} {G : jj_G} {C : mo_C} {u o g d : Nat} {h : jj_H} {x : Int32} (hG : jj_tyG G) (hk : mo_k C) (h4 : x + 1000 ≠ 2004) (h5 : x + 1000 ≠ 2005) (hdd : 1 ≤ d) (hm : Pm G C u o g h) : jj_Q l G y_MO_isTwo d [.ref (C.2.1 0), .int x] h (mo_I G C o g (mo_B C u)) := by
  refine jj_Q.of (by decide +kernel) (Nat.le_of_ble_eq_true rfl) ?_
  refine jj_aload_n (j := 0) (by decide +kernel) rfl ?_
  refine mo_ci (m_kind (d := d - 1) hG hk hm) (fun o1 h1 hC => jj_callV ok_MO_kind ml_MO_130 im_MO_kind se_MO_MO_kind (by decide +kernel) hm.rcv rfl (by omega) (Nat.le_of_ble_eq_true rfl) hC) (fun v u' h hP hm => ?_)
  obtain ⟨hu9, hkd⟩ := hP
  rw [hu9] at hm
  refine jj_iload_n (j := 1) (by decide +kernel) rfl ?_
  refine jj_sipush (n := 1000) (v := 1000) (by decide +kernel) (by decide) ?_
  refine jj_iadd (by decide +kernel) ?_
  refine jj_icmp_ne (off := 7) (tgt := 16) (by decide +kernel) (by decide) (fun c1 => ?_) (fun c1 => ?_)
  · refine jj_iconst (n := 0) (v := 0) (by decide +kernel) (by decide) ?_
    exact jj_iret .boolean (by decide +kernel) rfl rfl ⟨0, _, rfl, ⟨rfl, Or.inl rfl, fun q => absurd rfl q⟩, hm⟩
  · refine jj_iconst (n := 1) (v := 1) (by decide +kernel) (by decide) ?_
    refine jj_goto (off := 4) (tgt := 17) (by decide +kernel) (by decide) ?_
    exact jj_iret .boolean (by decide +kernel) rfl rfl ⟨1, _, rfl, ⟨rfl, Or.inr rfl, fun _ => ⟨hkd.pos (by rw [c1]; exact h5), mo_nl.of hkd (by rw [c1]; exact h4)⟩⟩, hm⟩
set_option maxRecDepth 100000 in
set_option maxHeartbeats 4000000 in
theorem m_isWord {l : Launch} {G : jj_G} {C : mo_C} {u o g d : Nat} {h : jj_H} {i : Nat} (hG : jj_tyG G) (hk : mo_k C) (hi : i < jj_nS) (hdd : 5 ≤ d) (hm : Pm G C u o g h) : jj_Q l G y_MO_isWord d [.ref (C.2.1 0), .ref (G.2.2.2.1 i)] h (mo_I G C o g (mo_B C u)) := by
  refine jj_Q.of (by decide +kernel) (Nat.le_of_ble_eq_true rfl) ?_
  refine jj_aload_n (j := 0) (by decide +kernel) rfl ?_
  refine mo_ci (m_kind (d := d - 1) hG hk hm) (fun o1 h1 hC => jj_callV ok_MO_kind ml_MO_130 im_MO_kind se_MO_MO_kind (by decide +kernel) hm.rcv rfl (by omega) (Nat.le_of_ble_eq_true rfl) hC) (fun v u' h hP hm => ?_)
  obtain ⟨hu9, hkd⟩ := hP
  rw [hu9] at hm
  refine jj_aload_n (j := 1) (by decide +kernel) rfl ?_
  refine jj_callr (m_codeOf (d := d - 1) hi (by omega)) (fun o1 h1 hC => jj_callS ok_MO_codeOf ml_MO_133 st_MO_codeOf (by decide +kernel) rfl (by omega) (Nat.le_of_ble_eq_true rfl) hC) (by rintro E h1 ⟨q, -⟩; cases q) ?_
  rintro v h1 ⟨hv, rfl⟩
  cases hv
  refine jj_icmp_ne (off := 7) (tgt := 15) (by decide +kernel) (by decide) (fun c1 => ?_) (fun c1 => ?_)
  · refine jj_iconst (n := 0) (v := 0) (by decide +kernel) (by decide) ?_
    exact jj_iret .boolean (by decide +kernel) rfl rfl ⟨0, _, rfl, ⟨rfl, Or.inl rfl, fun q => absurd rfl q⟩, hm⟩
  · refine jj_iconst (n := 1) (v := 1) (by decide +kernel) (by decide) ?_
    refine jj_goto (off := 4) (tgt := 16) (by decide +kernel) (by decide) ?_
    exact jj_iret .boolean (by decide +kernel) rfl rfl ⟨1, _, rfl, ⟨rfl, Or.inr rfl, fun _ => ⟨hkd.pos (by rw [c1]; exact (cd_ok i hi).2), mo_nl.of hkd (by rw [c1]; exact (cd_ok i hi).1)⟩⟩, hm⟩
set_option maxRecDepth 100000 in
set_option maxHeartbeats 4000000 in
theorem m_takesMark {l : Launch} {G : jj_G} {C : mo_C} {u o g d : Nat} {h : jj_H} {x : Int32} (hG : jj_tyG G) (hk : mo_k C) (h4 : x + 500 ≠ 2004) (h5 : x + 500 ≠ 2005) (hdd : 3 ≤ d) (hm : Pm G C u o g h) : jj_Q l G y_MO_takesMark d [.ref (C.2.1 0), .int x] h (mo_I G C o g (mo_K u)) := by
  refine jj_Q.of (by decide +kernel) (Nat.le_of_ble_eq_true rfl) ?_
  refine jj_aload_n (j := 0) (by decide +kernel) rfl ?_
  refine jj_iload_n (j := 1) (by decide +kernel) rfl ?_
  refine mo_ci (m_isMark (d := d - 1) hG hk h4 h5 (by omega) hm) (fun o1 h1 hC => jj_callV ok_MO_isMark ml_MO_144 im_MO_isMark se_MO_MO_isMark (by decide +kernel) hm.rcv rfl (by omega) (Nat.le_of_ble_eq_true rfl) hC) (fun v u' h hP hm => ?_)
  obtain ⟨hu9, hv, hy⟩ := hP
  rw [hu9] at hm
  refine jj_istore_n (j := 2) (by decide +kernel) (by decide) rfl ?_
  refine jj_iload_n (j := 2) (by decide +kernel) rfl ?_
  refine jj_if_eq (off := 7) (tgt := 14) (by decide +kernel) (by decide) (fun c1 => ?_) (fun c1 => ?_)
  · refine jj_iload_n (j := 2) (by decide +kernel) rfl ?_
    subst c1
    exact jj_iret .boolean (by decide +kernel) rfl rfl ⟨0, _, rfl, Or.inl ⟨rfl, rfl⟩, hm⟩
  · have e1 : v = 1 := hv.resolve_left c1
    subst e1
    refine jj_aload_n (j := 0) (by decide +kernel) rfl ?_
    refine mo_cv (m_on (d := d - 1) hG hk (hy c1).2 (by omega) hm) (fun o1 h1 hC => jj_callV ok_MO_on ml_MO_141 im_MO_on se_MO_MO_on (by decide +kernel) hm.rcv rfl (by omega) (Nat.le_of_ble_eq_true rfl) hC) (fun u2 h hu2 hm => ?_)
    refine jj_iload_n (j := 2) (by decide +kernel) rfl ?_
    exact jj_iret .boolean (by decide +kernel) rfl rfl ⟨1, u2, rfl, Or.inr ⟨rfl, (hy c1).1, hu2⟩, hm⟩
set_option maxRecDepth 100000 in
set_option maxHeartbeats 4000000 in
theorem m_takesTwo {l : Launch} {G : jj_G} {C : mo_C} {u o g d : Nat} {h : jj_H} {x : Int32} (hG : jj_tyG G) (hk : mo_k C) (h4 : x + 1000 ≠ 2004) (h5 : x + 1000 ≠ 2005) (hdd : 3 ≤ d) (hm : Pm G C u o g h) : jj_Q l G y_MO_takesTwo d [.ref (C.2.1 0), .int x] h (mo_I G C o g (mo_K u)) := by
  refine jj_Q.of (by decide +kernel) (Nat.le_of_ble_eq_true rfl) ?_
  refine jj_aload_n (j := 0) (by decide +kernel) rfl ?_
  refine jj_iload_n (j := 1) (by decide +kernel) rfl ?_
  refine mo_ci (m_isTwo (d := d - 1) hG hk h4 h5 (by omega) hm) (fun o1 h1 hC => jj_callV ok_MO_isTwo ml_MO_147 im_MO_isTwo se_MO_MO_isTwo (by decide +kernel) hm.rcv rfl (by omega) (Nat.le_of_ble_eq_true rfl) hC) (fun v u' h hP hm => ?_)
  obtain ⟨hu9, hv, hy⟩ := hP
  rw [hu9] at hm
  refine jj_istore_n (j := 2) (by decide +kernel) (by decide) rfl ?_
  refine jj_iload_n (j := 2) (by decide +kernel) rfl ?_
  refine jj_if_eq (off := 7) (tgt := 14) (by decide +kernel) (by decide) (fun c1 => ?_) (fun c1 => ?_)
  · refine jj_iload_n (j := 2) (by decide +kernel) rfl ?_
    subst c1
    exact jj_iret .boolean (by decide +kernel) rfl rfl ⟨0, _, rfl, Or.inl ⟨rfl, rfl⟩, hm⟩
  · have e1 : v = 1 := hv.resolve_left c1
    subst e1
    refine jj_aload_n (j := 0) (by decide +kernel) rfl ?_
    refine mo_cv (m_on (d := d - 1) hG hk (hy c1).2 (by omega) hm) (fun o1 h1 hC => jj_callV ok_MO_on ml_MO_141 im_MO_on se_MO_MO_on (by decide +kernel) hm.rcv rfl (by omega) (Nat.le_of_ble_eq_true rfl) hC) (fun u2 h hu2 hm => ?_)
    refine jj_iload_n (j := 2) (by decide +kernel) rfl ?_
    exact jj_iret .boolean (by decide +kernel) rfl rfl ⟨1, u2, rfl, Or.inr ⟨rfl, (hy c1).1, hu2⟩, hm⟩
set_option maxRecDepth 100000 in
set_option maxHeartbeats 4000000 in
theorem m_takes {l : Launch} {G : jj_G} {C : mo_C} {u o g d : Nat} {h : jj_H} {i : Nat} (hG : jj_tyG G) (hk : mo_k C) (hi : i < jj_nS) (hdd : 7 ≤ d) (hm : Pm G C u o g h) : jj_Q l G y_MO_takes d [.ref (C.2.1 0), .ref (G.2.2.2.1 i)] h (mo_I G C o g (mo_K u)) := by
  refine jj_Q.of (by decide +kernel) (Nat.le_of_ble_eq_true rfl) ?_
  refine jj_aload_n (j := 0) (by decide +kernel) rfl ?_
  refine jj_aload_n (j := 1) (by decide +kernel) rfl ?_
  refine mo_ci (m_isWord (d := d - 1) hG hk hi (by omega) hm) (fun o1 h1 hC => jj_callV ok_MO_isWord ml_MO_137 im_MO_isWord se_MO_MO_isWord (by decide +kernel) hm.rcv rfl (by omega) (Nat.le_of_ble_eq_true rfl) hC) (fun v u' h hP hm => ?_)
  obtain ⟨hu9, hv, hy⟩ := hP
  rw [hu9] at hm
  refine jj_istore_n (j := 2) (by decide +kernel) (by decide) rfl ?_
  refine jj_iload_n (j := 2) (by decide +kernel) rfl ?_
  refine jj_if_eq (off := 7) (tgt := 14) (by decide +kernel) (by decide) (fun c1 => ?_) (fun c1 => ?_)
  · refine jj_iload_n (j := 2) (by decide +kernel) rfl ?_
    subst c1
    exact jj_iret .boolean (by decide +kernel) rfl rfl ⟨0, _, rfl, Or.inl ⟨rfl, rfl⟩, hm⟩
  · have e1 : v = 1 := hv.resolve_left c1
    subst e1
    refine jj_aload_n (j := 0) (by decide +kernel) rfl ?_
    refine mo_cv (m_on (d := d - 1) hG hk (hy c1).2 (by omega) hm) (fun o1 h1 hC => jj_callV ok_MO_on ml_MO_141 im_MO_on se_MO_MO_on (by decide +kernel) hm.rcv rfl (by omega) (Nat.le_of_ble_eq_true rfl) hC) (fun u2 h hu2 hm => ?_)
    refine jj_iload_n (j := 2) (by decide +kernel) rfl ?_
    exact jj_iret .boolean (by decide +kernel) rfl rfl ⟨1, u2, rfl, Or.inr ⟨rfl, (hy c1).1, hu2⟩, hm⟩
set_option maxRecDepth 100000 in
set_option maxHeartbeats 4000000 in
theorem m_must {l : Launch} {G : jj_G} {C : mo_C} {u o g d : Nat} {h : jj_H} {x : Int32} (hG : jj_tyG G) (hk : mo_k C) (hdd : 1 ≤ d) (hm : Pm G C u o g h) : jj_Q l G y_MO_must d [.ref (C.2.1 0), .int x] h (mo_V G C o g (fun u' => (x = 0 ∧ u' = 0) ∨ (x ≠ 0 ∧ u' = u))) := by
  refine jj_Q.of (by decide +kernel) (Nat.le_of_ble_eq_true rfl) ?_
  refine jj_iload_n (j := 1) (by decide +kernel) rfl ?_
  refine jj_if_ne (off := 8) (tgt := 9) (by decide +kernel) (by decide) (fun c1 => ?_) (fun c1 => ?_)
  · exact jj_vret (by decide +kernel) rfl ⟨rfl, u, Or.inr ⟨c1, rfl⟩, hm⟩
  · refine jj_aload_n (j := 0) (by decide +kernel) rfl ?_
    refine jj_iconst (n := 3) (v := 3) (by decide +kernel) (by decide) ?_
    refine mo_cv (m_stop (d := d - 1) hG hk (by decide) hm) (fun o1 h1 hC => jj_callV ok_MO_stop ml_MO_126 im_MO_stop se_MO_MO_stop (by decide +kernel) hm.rcv rfl (by omega) (Nat.le_of_ble_eq_true rfl) hC) (fun u' h hu' hm => ?_)
    exact jj_vret (by decide +kernel) rfl ⟨rfl, u', Or.inl ⟨c1, hu'⟩, hm⟩
set_option maxRecDepth 100000 in
set_option maxHeartbeats 4000000 in
theorem m_word {l : Launch} {G : jj_G} {C : mo_C} {u o g d : Nat} {h : jj_H} {i : Nat} (hG : jj_tyG G) (hk : mo_k C) (hi : i < jj_nS) (hdd : 8 ≤ d) (hm : Pm G C u o g h) : jj_Q l G y_MO_word d [.ref (C.2.1 0), .ref (G.2.2.2.1 i)] h (mo_V G C o g (fun u' => u' ≤ u - 1)) := by
  refine jj_Q.of (by decide +kernel) (Nat.le_of_ble_eq_true rfl) ?_
  refine jj_aload_n (j := 0) (by decide +kernel) rfl ?_
  refine jj_aload_n (j := 0) (by decide +kernel) rfl ?_
  refine jj_aload_n (j := 1) (by decide +kernel) rfl ?_
  refine mo_ci (m_takes (d := d - 1) hG hk hi (by omega) hm) (fun o1 h1 hC => jj_callV ok_MO_takes ml_MO_150 im_MO_takes se_MO_MO_takes (by decide +kernel) hm.rcv rfl (by omega) (Nat.le_of_ble_eq_true rfl) hC) (fun v u1 h hP hm => ?_)
  refine mo_cv (m_must (d := d - 1) hG hk (by omega) hm) (fun o1 h1 hC => jj_callV ok_MO_must ml_MO_153 im_MO_must se_MO_MO_must (by decide +kernel) hm.rcv rfl (by omega) (Nat.le_of_ble_eq_true rfl) hC) (fun u2 h hP2 hm => ?_)
  refine jj_vret (by decide +kernel) rfl ⟨rfl, u2, ?_, hm⟩
  rcases hP with ⟨rfl, rfl⟩ | ⟨rfl, h1, h2⟩
  · rcases hP2 with ⟨-, q⟩ | ⟨q, -⟩
    · omega
    · exact absurd rfl q
  · rcases hP2 with ⟨-, q⟩ | ⟨-, q⟩ <;> omega
set_option maxRecDepth 100000 in
set_option maxHeartbeats 4000000 in
theorem m_sign {l : Launch} {G : jj_G} {C : mo_C} {u o g d : Nat} {h : jj_H} {x : Int32} (hG : jj_tyG G) (hk : mo_k C) (h4 : x + 500 ≠ 2004) (h5 : x + 500 ≠ 2005) (hdd : 4 ≤ d) (hm : Pm G C u o g h) : jj_Q l G y_MO_sign d [.ref (C.2.1 0), .int x] h (mo_V G C o g (fun u' => u' ≤ u - 1)) := by
  refine jj_Q.of (by decide +kernel) (Nat.le_of_ble_eq_true rfl) ?_
  refine jj_aload_n (j := 0) (by decide +kernel) rfl ?_
  refine jj_aload_n (j := 0) (by decide +kernel) rfl ?_
  refine jj_iload_n (j := 1) (by decide +kernel) rfl ?_
  refine mo_ci (m_takesMark (d := d - 1) hG hk h4 h5 (by omega) hm) (fun o1 h1 hC => jj_callV ok_MO_takesMark ml_MO_157 im_MO_takesMark se_MO_MO_takesMark (by decide +kernel) hm.rcv rfl (by omega) (Nat.le_of_ble_eq_true rfl) hC) (fun v u1 h hP hm => ?_)
  refine mo_cv (m_must (d := d - 1) hG hk (by omega) hm) (fun o1 h1 hC => jj_callV ok_MO_must ml_MO_153 im_MO_must se_MO_MO_must (by decide +kernel) hm.rcv rfl (by omega) (Nat.le_of_ble_eq_true rfl) hC) (fun u2 h hP2 hm => ?_)
  refine jj_vret (by decide +kernel) rfl ⟨rfl, u2, ?_, hm⟩
  rcases hP with ⟨rfl, rfl⟩ | ⟨rfl, h1, h2⟩
  · rcases hP2 with ⟨-, q⟩ | ⟨q, -⟩
    · omega
    · exact absurd rfl q
  · rcases hP2 with ⟨-, q⟩ | ⟨-, q⟩ <;> omega
set_option maxRecDepth 100000 in
set_option maxHeartbeats 4000000 in
theorem b_MO_aName_20 {l : Launch} {G : jj_G} {C : mo_C} {u o g d : Nat} {h : jj_H} {x : Int32} (hG : jj_tyG G) (hk : mo_k C) (hdd : 2 ≤ d) (hm : Pm G C u o g h) : jj_P l G y_MO_aName d (mo_I G C o g (fun _ u' => u' ≤ u - 1)) 20 [some (.ref (C.2.1 0)), none] [.int x] h := by
  refine jj_istore_n (j := 1) (by decide +kernel) (by decide) rfl ?_
  refine jj_aload_n (j := 0) (by decide +kernel) rfl ?_
  refine mo_ci (m_kind (d := d - 1) hG hk hm) (fun o1 h1 hC => jj_callV ok_MO_kind ml_MO_130 im_MO_kind se_MO_MO_kind (by decide +kernel) hm.rcv rfl (by omega) (Nat.le_of_ble_eq_true rfl) hC) (fun v u' h hP hm => ?_)
  obtain ⟨hu9, hkd⟩ := hP
  rw [hu9] at hm
  refine jj_sipush (n := 2000) (v := 2000) (by decide +kernel) (by decide) ?_
  refine jj_icmp_ne (off := 10) (tgt := 38) (by decide +kernel) (by decide) (fun c2 => ?_) (fun c2 => ?_)
  · refine jj_aload_n (j := 0) (by decide +kernel) rfl ?_
    refine jj_iconst (n := 3) (v := 3) (by decide +kernel) (by decide) ?_
    refine mo_cv (m_stop (d := d - 1) hG hk (by decide) hm) (fun o1 h1 hC => jj_callV ok_MO_stop ml_MO_126 im_MO_stop se_MO_MO_stop (by decide +kernel) hm.rcv rfl (by omega) (Nat.le_of_ble_eq_true rfl) hC) (fun u2 h hu' hm => ?_)
    refine jj_iload_n (j := 1) (by decide +kernel) rfl ?_
    exact jj_iret .int (by decide +kernel) rfl rfl ⟨_, u2, rfl, by omega, hm⟩
  · refine jj_aload_n (j := 0) (by decide +kernel) rfl ?_
    refine mo_cv (m_on (d := d - 1) hG hk (mo_nl.of hkd (by rw [c2]; decide)) (by omega) hm) (fun o1 h1 hC => jj_callV ok_MO_on ml_MO_141 im_MO_on se_MO_MO_on (by decide +kernel) hm.rcv rfl (by omega) (Nat.le_of_ble_eq_true rfl) hC) (fun u2 h hu2 hm => ?_)
    refine jj_goto (off := 8) (tgt := 43) (by decide +kernel) (by decide) ?_
    refine jj_iload_n (j := 1) (by decide +kernel) rfl ?_
    exact jj_iret .int (by decide +kernel) rfl rfl ⟨_, u2, rfl, hu2, hm⟩
set_option maxRecDepth 100000 in
set_option maxHeartbeats 4000000 in
theorem m_aName {l : Launch} {G : jj_G} {C : mo_C} {u o g d : Nat} {h : jj_H} (hG : jj_tyG G) (hk : mo_k C) (hdd : 2 ≤ d) (hm : Pm G C u o g h) : jj_Q l G y_MO_aName d [.ref (C.2.1 0)] h (mo_I G C o g (fun _ u' => u' ≤ u - 1)) := by
  refine jj_Q.of (by decide +kernel) (Nat.le_of_ble_eq_true rfl) ?_
  obtain ⟨wr, nw, ow, hb, hu⟩ := id hm
  obtain ⟨th, wh, S, b0, hS, hg, ⟨a1, a5, a6, a7, a9, a10⟩, nd, fr, hz⟩ := id hb
  have hT := hk.2.2.2.1
  refine jj_aload_n (j := 0) (by decide +kernel) rfl ?_
  refine jj_getfield 3 ck_MO fl_MO_120 (by decide) (by decide +kernel) b0 rfl ?_
  refine jj_if_le (off := 7) (tgt := 11) (by decide +kernel) (by decide) (fun c1 => ?_) (fun c1 => ?_)
  · rcases hu with ⟨-, q⟩ | ⟨hu0, huT, rfl, rfl, rfl, ho, hb5⟩
    · exact absurd q (Int32.not_lt.mpr c1)
    refine jj_aload_n (j := 0) (by decide +kernel) rfl ?_
    refine jj_getfield 6 ck_MO fl_MO_21 (by decide) (by decide +kernel) b0 rfl ?_
    refine jj_aload_n (j := 0) (by decide +kernel) rfl ?_
    refine jj_getfield 16 ck_MO fl_MO_123 (by decide) (by decide +kernel) b0 rfl ?_
    refine jj_iaload (jj_tI hG) (by decide +kernel) a6 (vp_in_nI (show C.2.2.2.1 - u < 16386 by omega) (by decide)) ?_
    rw [nI_clamp (show _ < 2 ^ 31 by omega)]
    exact b_MO_aName_20 hG hk hdd hm
  · refine jj_iconst (n := 0) (v := 0) (by decide +kernel) (by decide) ?_
    refine jj_goto (off := 12) (tgt := 20) (by decide +kernel) (by decide) ?_
    exact b_MO_aName_20 hG hk hdd hm
set_option maxRecDepth 100000 in
set_option maxHeartbeats 4000000 in
theorem m_lay {l : Launch} {G : jj_G} {C : mo_C} {u o g d : Nat} {h : jj_H} {x y z : Int32} (hG : jj_tyG G) (hk : mo_k C) (hdd : 1 ≤ d) (hm : Pm G C u o g h) : jj_Q l G y_MO_lay d [.ref (C.2.1 0), .int x, .int y, .int z] h (mo_V G C o g (fun u' => u' ≤ u)) := by
  refine jj_Q.of (by decide +kernel) (Nat.le_of_ble_eq_true rfl) ?_
  obtain ⟨wr, nw, ow, hb, hu⟩ := id hm
  obtain ⟨th, wh, S, b0, hS, hg, ⟨a1, a5, a6, a7, a9, a10⟩, nd, fr, hz⟩ := id hb
  refine jj_aload_n (j := 0) (by decide +kernel) rfl ?_
  refine jj_getfield 3 ck_MO fl_MO_120 (by decide) (by decide +kernel) b0 rfl ?_
  refine jj_if_le (off := 4) (tgt := 8) (by decide +kernel) (by decide) (fun c1 => ?_) (fun c1 => ?_)
  · refine jj_aload_n (j := 0) (by decide +kernel) rfl ?_
    refine jj_getfield 15 ck_MO fl_MO_160 (by decide) (by decide +kernel) b0 rfl ?_
    refine jj_sipush (n := 16384) (v := nI 16384) (by decide +kernel) (by decide) ?_
    refine jj_icmp_ne (off := 9) (tgt := 24) (by decide +kernel) (by decide) (fun c2 => ?_) (fun c2 => ?_)
    · have hS2 : S < 16384 := by
        rcases Nat.lt_or_ge S 16384 with q | q
        · exact q
        · exact absurd (show nI S = nI 16384 by rw [show S = 16384 by omega]) c2
      obtain ⟨f12, e12⟩ := nd 12 (by decide)
      have n12 := hb.nod hk (k := 12) (by decide) (upd f12 S x)
      obtain ⟨th2, wh2, S2, b02, -, -, -, nd2, -⟩ := id n12
      have hne : ∀ k, mo_is k → k ≠ 0 → C.2.1 0 ≠ C.2.1 k := fun k hk9 h0 e => h0 (hk.1 0 k (Or.inl rfl) hk9 e).symm
      refine jj_aload_n (j := 0) (by decide +kernel) rfl ?_
      refine jj_getfield 12 ck_MO fl_MO_33 (by decide) (by decide +kernel) b0 rfl ?_
      refine jj_aload_n (j := 0) (by decide +kernel) rfl ?_
      refine jj_getfield 15 ck_MO fl_MO_160 (by decide) (by decide +kernel) b0 rfl ?_
      refine jj_iload_n (j := 1) (by decide +kernel) rfl ?_
      refine jj_iastore (jj_tI hG) (by decide +kernel) e12 (vp_in_nI hS2 (by decide)) ?_
      rw [nI_clamp (show S < 2 ^ 31 by omega)]
      have b1 := (jj_up_ne (f := h.1) (e := .inl (jj_cI G, 16384, .inl (upd f12 S x))) (hne 12 (by unfold mo_is; decide) (by decide))).trans b0
      obtain ⟨f13, e13⟩ := nd2 13 (by decide)
      have n13 := n12.nod hk (k := 13) (by decide) (upd f13 S y)
      refine jj_aload_n (j := 0) (by decide +kernel) rfl ?_
      refine jj_getfield 13 ck_MO fl_MO_36 (by decide) (by decide +kernel) b1 rfl ?_
      refine jj_aload_n (j := 0) (by decide +kernel) rfl ?_
      refine jj_getfield 15 ck_MO fl_MO_160 (by decide) (by decide +kernel) b1 rfl ?_
      refine jj_iload_n (j := 2) (by decide +kernel) rfl ?_
      refine jj_iastore (jj_tI hG) (by decide +kernel) e13 (vp_in_nI hS2 (by decide)) ?_
      rw [nI_clamp (show S < 2 ^ 31 by omega)]
      have b2 := (jj_up_ne (e := .inl (jj_cI G, 16384, .inl (upd f13 S y))) (hne 13 (by unfold mo_is; decide) (by decide))).trans b1
      obtain ⟨-, -, -, -, -, -, -, nd3, -⟩ := id n13
      obtain ⟨f14, e14⟩ := nd3 14 (by decide)
      have n14 := n13.nod hk (k := 14) (by decide) (upd f14 S z)
      refine jj_aload_n (j := 0) (by decide +kernel) rfl ?_
      refine jj_getfield 14 ck_MO fl_MO_39 (by decide) (by decide +kernel) b2 rfl ?_
      refine jj_aload_n (j := 0) (by decide +kernel) rfl ?_
      refine jj_getfield 15 ck_MO fl_MO_160 (by decide) (by decide +kernel) b2 rfl ?_
      refine jj_iload_n (j := 3) (by decide +kernel) rfl ?_
      refine jj_iastore (jj_tI hG) (by decide +kernel) e14 (vp_in_nI hS2 (by decide)) ?_
      rw [nI_clamp (show S < 2 ^ 31 by omega)]
      have b3 := (jj_up_ne (e := .inl (jj_cI G, 16384, .inl (upd f14 S z))) (hne 14 (by unfold mo_is; decide) (by decide))).trans b2
      refine jj_aload_n (j := 0) (by decide +kernel) rfl ?_
      refine jj_dup (by decide +kernel) rfl ?_
      refine jj_getfield 15 ck_MO fl_MO_160 (by decide) (by decide +kernel) b3 rfl ?_
      refine jj_iconst (n := 1) (v := 1) (by decide +kernel) (by decide) ?_
      refine jj_iadd (by decide +kernel) ?_
      rw [nI_1]
      refine jj_putfield 15 ck_MO fl_MO_160 (by decide) rfl (by decide +kernel) b3 rfl rfl (Nat.lt_of_sub_eq_succ rfl) ?_
      exact jj_vret (by decide +kernel) rfl ⟨rfl, u, Nat.le_refl _, wr, nw, ow, n14.put hk th wr wh nw ow (S := S + 1) (by omega) hg, hu⟩
    · refine jj_aload_n (j := 0) (by decide +kernel) rfl ?_
      refine jj_iconst (n := 4) (v := 4) (by decide +kernel) (by decide) ?_
      refine mo_cv (m_stop (d := d - 1) hG hk (by decide) hm) (fun o1 h1 hC => jj_callV ok_MO_stop ml_MO_126 im_MO_stop se_MO_MO_stop (by decide +kernel) hm.rcv rfl (by omega) (Nat.le_of_ble_eq_true rfl) hC) (fun u2 h hu' hm => ?_)
      exact jj_vret (by decide +kernel) rfl ⟨rfl, u2, by omega, hm⟩
  · exact jj_vret (by decide +kernel) rfl ⟨rfl, u, Nat.le_refl _, hm⟩
set_option maxRecDepth 100000 in
set_option maxHeartbeats 4000000 in
theorem m_nameNode {l : Launch} {G : jj_G} {C : mo_C} {u o g d : Nat} {h : jj_H} (hG : jj_tyG G) (hk : mo_k C) (hdd : 3 ≤ d) (hm : Pm G C u o g h) : jj_Q l G y_MO_nameNode d [.ref (C.2.1 0)] h (mo_V G C o g (fun u' => u' ≤ u - 1)) := by
  refine jj_Q.of (by decide +kernel) (Nat.le_of_ble_eq_true rfl) ?_
  refine jj_aload_n (j := 0) (by decide +kernel) rfl ?_
  refine mo_ci (m_aName (d := d - 1) hG hk (by omega) hm) (fun o1 h1 hC => jj_callV ok_MO_aName ml_MO_163 im_MO_aName se_MO_MO_aName (by decide +kernel) hm.rcv rfl (by omega) (Nat.le_of_ble_eq_true rfl) hC) (fun v u1 h hP hm => ?_)
  refine jj_istore_n (j := 1) (by decide +kernel) (by decide) rfl ?_
  refine jj_aload_n (j := 0) (by decide +kernel) rfl ?_
  refine jj_iconst (n := 1) (v := 1) (by decide +kernel) (by decide) ?_
  refine jj_iload_n (j := 1) (by decide +kernel) rfl ?_
  refine jj_iconst (n := 0) (v := 0) (by decide +kernel) (by decide) ?_
  refine mo_cv (m_lay (d := d - 1) hG hk (by omega) hm) (fun o1 h1 hC => jj_callV ok_MO_lay ml_MO_166 im_MO_lay se_MO_MO_lay (by decide +kernel) hm.rcv rfl (by omega) (Nat.le_of_ble_eq_true rfl) hC) (fun u2 h hu2 hm => ?_)
  exact jj_vret (by decide +kernel) rfl ⟨rfl, u2, by omega, hm⟩
set_option maxRecDepth 100000 in
set_option maxHeartbeats 4000000 in
theorem m_opens {l : Launch} {G : jj_G} {C : mo_C} {u o g d : Nat} {h : jj_H} (hG : jj_tyG G) (hk : mo_k C) (hn : mo_nl C u) (hdd : 2 ≤ d) (hm : Pm G C u o g h) : jj_Q l G y_MO_opens d [.ref (C.2.1 0)] h (mo_V G C (o + 1) g (fun u' => u' ≤ u - 1 ∧ (0 < u' → o < 40))) := by
  refine jj_Q.of (by decide +kernel) (Nat.le_of_ble_eq_true rfl) ?_
  obtain ⟨wr, nw, ow, hb, hu⟩ := id hm
  obtain ⟨th, wh, S, b0, hS, hg, ⟨a1, a5, a6, a7, a9, a10⟩, nd, fr, hz⟩ := id hb
  have stp : ∀ h1 : jj_H, Pm G C 0 o g h1 → Pm G C 0 (o + 1) g h1 := by
    rintro h1 ⟨w1, n1, o1, p1, q1⟩
    exact ⟨w1, n1, o1, p1, Or.inl ⟨rfl, (q1.resolve_right (fun z => absurd z.1 (Nat.lt_irrefl _))).2⟩⟩
  refine jj_aload_n (j := 0) (by decide +kernel) rfl ?_
  refine jj_getfield 3 ck_MO fl_MO_120 (by decide) (by decide +kernel) b0 rfl ?_
  refine jj_if_le (off := 4) (tgt := 8) (by decide +kernel) (by decide) (fun c1 => ?_) (fun c1 => ?_)
  · rcases hu with ⟨-, q⟩ | ⟨hu0, huT, rfl, rfl, rfl, ho, hb5⟩
    · exact absurd q (Int32.not_lt.mpr c1)
    refine jj_aload_n (j := 0) (by decide +kernel) rfl ?_
    refine jj_getfield 17 ck_MO fl_MO_169 (by decide) (by decide +kernel) b0 rfl ?_
    refine jj_bipush (n := 40) (v := nI 40) (by decide +kernel) (by decide) ?_
    refine jj_icmp_ne (off := 9) (tgt := 23) (by decide +kernel) (by decide) (fun c2 => ?_) (fun c2 => ?_)
    · have h40 : o < 40 := by
        rcases Nat.lt_or_ge o 40 with q | q
        · exact q
        · exact absurd (show nI o = nI 40 by rw [show o = 40 by omega]) c2
      refine jj_aload_n (j := 0) (by decide +kernel) rfl ?_
      refine jj_dup (by decide +kernel) rfl ?_
      refine jj_getfield 17 ck_MO fl_MO_169 (by decide) (by decide +kernel) b0 rfl ?_
      refine jj_iconst (n := 1) (v := 1) (by decide +kernel) (by decide) ?_
      refine jj_iadd (by decide +kernel) ?_
      rw [nI_1]
      refine jj_putfield 17 ck_MO fl_MO_169 (by decide) rfl (by decide +kernel) b0 rfl rfl (Nat.lt_of_sub_eq_succ rfl) ?_
      have hb2 := hb.put hk th 0 wh (nI (C.2.2.2.1 - u)) (nI (o + 1)) hS hg
      refine jj_aload_n (j := 0) (by decide +kernel) rfl ?_
      refine mo_cv (m_on (o := o + 1) (d := d - 1) hG hk hn (by omega) ⟨_, _, _, hb2, Or.inr ⟨hu0, huT, rfl, rfl, rfl, by omega, hb5⟩⟩) (fun o1 h1 hC => jj_callV ok_MO_on ml_MO_141 im_MO_on se_MO_MO_on (by decide +kernel) hb2.rcv rfl (by omega) (Nat.le_of_ble_eq_true rfl) hC) (fun u2 h hu2 hm => ?_)
      exact jj_vret (by decide +kernel) rfl ⟨rfl, u2, ⟨hu2, fun _ => h40⟩, hm⟩
    · refine jj_aload_n (j := 0) (by decide +kernel) rfl ?_
      refine jj_iconst (n := 5) (v := 5) (by decide +kernel) (by decide) ?_
      refine mo_cv (m_stop (d := d - 1) hG hk (by decide) hm) (fun o1 h1 hC => jj_callV ok_MO_stop ml_MO_126 im_MO_stop se_MO_MO_stop (by decide +kernel) hm.rcv rfl (by omega) (Nat.le_of_ble_eq_true rfl) hC) (fun u2 h hu' hm => ?_)
      subst hu'
      exact jj_vret (by decide +kernel) rfl ⟨rfl, 0, ⟨Nat.zero_le _, fun q => absurd q (Nat.lt_irrefl _)⟩, stp _ hm⟩
  · rcases hu with ⟨rfl, -⟩ | ⟨-, -, rfl, -⟩
    · exact jj_vret (by decide +kernel) rfl ⟨rfl, 0, ⟨Nat.zero_le _, fun q => absurd q (Nat.lt_irrefl _)⟩, stp _ hm⟩
    · exact absurd (by decide) c1
set_option maxRecDepth 100000 in
set_option maxHeartbeats 4000000 in
theorem m_closes {l : Launch} {G : jj_G} {C : mo_C} {u o g d : Nat} {h : jj_H} {x : Int32} (hG : jj_tyG G) (hk : mo_k C) (h4 : x + 500 ≠ 2004) (h5 : x + 500 ≠ 2005) (hdd : 5 ≤ d) (hm : Pm G C u (o + 1) g h) : jj_Q l G y_MO_closes d [.ref (C.2.1 0), .int x] h (mo_V G C o g (fun u' => u' ≤ u - 1)) := by
  refine jj_Q.of (by decide +kernel) (Nat.le_of_ble_eq_true rfl) ?_
  refine jj_aload_n (j := 0) (by decide +kernel) rfl ?_
  refine jj_iload_n (j := 1) (by decide +kernel) rfl ?_
  refine mo_cv (m_sign (d := d - 1) hG hk h4 h5 (by omega) hm) (fun o1 h1 hC => jj_callV ok_MO_sign ml_MO_172 im_MO_sign se_MO_MO_sign (by decide +kernel) hm.rcv rfl (by omega) (Nat.le_of_ble_eq_true rfl) hC) (fun u1 h hu1 hm => ?_)
  obtain ⟨wr, nw, ow, hb, hu⟩ := hm
  obtain ⟨th, wh, S, b0, hS, hg, ⟨a1, a5, a6, a7, a9, a10⟩, nd, fr, hz⟩ := id hb
  refine jj_aload_n (j := 0) (by decide +kernel) rfl ?_
  refine jj_dup (by decide +kernel) rfl ?_
  refine jj_getfield 17 ck_MO fl_MO_169 (by decide) (by decide +kernel) b0 rfl ?_
  refine jj_iconst (n := 1) (v := 1) (by decide +kernel) (by decide) ?_
  refine jj_isub (by decide +kernel) ?_
  refine jj_putfield 17 ck_MO fl_MO_169 (by decide) rfl (by decide +kernel) b0 rfl rfl (Nat.lt_of_sub_eq_succ rfl) ?_
  have hb2 := hb.put hk th wr wh nw (ow - 1) hS hg
  refine jj_vret (by decide +kernel) rfl ⟨rfl, u1, hu1, _, _, _, hb2, ?_⟩
  rcases hu with q | ⟨q1, q2, q3, q4, q5, q6, q7⟩
  · exact Or.inl q
  · exact Or.inr ⟨q1, q2, q3, q4, by rw [q5]; exact nI_pred o, by omega, q7⟩
set_option maxRecDepth 100000 in
set_option maxHeartbeats 4000000 in
theorem m_ownName {l : Launch} {G : jj_G} {C : mo_C} {u o g d : Nat} {h : jj_H} {x : Int32} (hG : jj_tyG G) (hk : mo_k C) (hdd : 2 ≤ d) (hm : Pm G C u o g h) : jj_Q l G y_MO_ownName d [.ref (C.2.1 0), .int x] h (mo_V G C o g (fun u' => u' ≤ u)) := by
  refine jj_Q.of (by decide +kernel) (Nat.le_of_ble_eq_true rfl) ?_
  refine jj_aload_n (j := 0) (by decide +kernel) rfl ?_
  refine mo_ci (m_kind (d := d - 1) hG hk hm) (fun o1 h1 hC => jj_callV ok_MO_kind ml_MO_130 im_MO_kind se_MO_MO_kind (by decide +kernel) hm.rcv rfl (by omega) (Nat.le_of_ble_eq_true rfl) hC) (fun v u' h hP hm => ?_)
  obtain ⟨hu9, hkd⟩ := hP
  rw [hu9] at hm
  refine jj_sipush (n := 2000) (v := 2000) (by decide +kernel) (by decide) ?_
  refine jj_icmp_eq (off := 4) (tgt := 11) (by decide +kernel) (by decide) (fun c1 => ?_) (fun c1 => ?_)
  · obtain ⟨wr, nw, ow, hb, hu⟩ := id hm
    obtain ⟨th, wh, S, b0, hS, hg, ⟨a1, a5, a6, a7, a9, a10⟩, nd, fr, hz⟩ := id hb
    have hT := hk.2.2.2.1
    have hp := hkd.pos (by rw [c1]; decide)
    rcases hu with ⟨q, -⟩ | ⟨hu0, huT, rfl, rfl, rfl, ho, hb5⟩
    · omega
    refine jj_aload_n (j := 0) (by decide +kernel) rfl ?_
    refine jj_getfield 6 ck_MO fl_MO_21 (by decide) (by decide +kernel) b0 rfl ?_
    refine jj_aload_n (j := 0) (by decide +kernel) rfl ?_
    refine jj_getfield 16 ck_MO fl_MO_123 (by decide) (by decide +kernel) b0 rfl ?_
    refine jj_iaload (jj_tI hG) (by decide +kernel) a6 (vp_in_nI (show C.2.2.2.1 - _ < 16386 by omega) (by decide)) ?_
    rw [nI_clamp (show _ < 2 ^ 31 by omega)]
    refine jj_iload_n (j := 1) (by decide +kernel) rfl ?_
    refine jj_icmp_eq (off := 12) (tgt := 33) (by decide +kernel) (by decide) (fun c2 => ?_) (fun c2 => ?_)
    · refine jj_aload_n (j := 0) (by decide +kernel) rfl ?_
      refine mo_cv (m_on (d := d - 1) hG hk (mo_nl.of hkd (by rw [c1]; decide)) (by omega) hm) (fun o1 h1 hC => jj_callV ok_MO_on ml_MO_141 im_MO_on se_MO_MO_on (by decide +kernel) hm.rcv rfl (by omega) (Nat.le_of_ble_eq_true rfl) hC) (fun u2 h hu2 hm => ?_)
      exact jj_vret (by decide +kernel) rfl ⟨rfl, u2, by omega, hm⟩
    · refine jj_aload_n (j := 0) (by decide +kernel) rfl ?_
      refine jj_bipush (n := 6) (v := 6) (by decide +kernel) (by decide) ?_
      refine mo_cv (m_stop (d := d - 1) hG hk (by decide) hm) (fun o1 h1 hC => jj_callV ok_MO_stop ml_MO_126 im_MO_stop se_MO_MO_stop (by decide +kernel) hm.rcv rfl (by omega) (Nat.le_of_ble_eq_true rfl) hC) (fun u2 h hu' hm => ?_)
      refine jj_goto (off := 7) (tgt := 37) (by decide +kernel) (by decide) ?_
      exact jj_vret (by decide +kernel) rfl ⟨rfl, u2, by omega, hm⟩
  · exact jj_vret (by decide +kernel) rfl ⟨rfl, _, Nat.le_refl _, hm⟩
