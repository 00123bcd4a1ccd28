theorem nn_no : ∀ j, j < 9 → jj_ch 13 j ≠ -1 := by decide +kernel
theorem nn_len : jj_lS.getD 13 0 = 9 := by decide
set_option maxRecDepth 100000 in
set_option maxHeartbeats 4000000 in
theorem b_MO_placeIn_none {l : Launch} {G : jj_G} {d : Nat} {h : jj_H} (hdd : 4 ≤ d) : ∀ (n j : Nat), 9 - j < n → j ≤ 9 → jj_P l G y_MO_placeIn d (fun out h' => out = .inl (some (.int (-1))) ∧ h' = h) 2 [some (.ref (G.2.2.2.1 13)), some (.int (-1)), some (.int (nI j))] [] h := by
  intro n
  induction n with
  | zero => intro j hn; exact absurd hn (Nat.not_lt_zero _)
  | succ n ih =>
    intro j hn hj
    refine jj_iload_n (j := 2) (by decide +kernel) rfl ?_
    refine jj_aload_n (j := 0) (by decide +kernel) rfl ?_
    refine jj_callr (c_JS_length (d := d - 1) (i := 13) (by decide) (by omega)) (fun o1 h1 hC => jj_callV ok_JS_length ml_MO_59 im_JS_length se_JS_JS_length (by decide +kernel) (jj_rcv.str (by decide)) rfl (by omega) (Nat.le_of_ble_eq_true rfl) hC) (by rintro E h1 ⟨q, -⟩; cases q) ?_
    rintro v h9 ⟨hv, e9⟩
    cases hv
    have e9 := e9.symm
    subst e9
    rw [nn_len]
    refine jj_icmp_ge (off := 18) (tgt := 25) (by decide +kernel) (by decide) (fun c1 => ?_) (fun c1 => ?_)
    · refine jj_iload_n (j := 2) (by decide +kernel) rfl ?_
      refine jj_aload_n (j := 0) (by decide +kernel) rfl ?_
      refine jj_callr (c_JS_length (d := d - 1) (i := 13) (by decide) (by omega)) (fun o1 h1 hC => jj_callV ok_JS_length ml_MO_59 im_JS_length se_JS_JS_length (by decide +kernel) (jj_rcv.str (by decide)) rfl (by omega) (Nat.le_of_ble_eq_true rfl) hC) (by rintro E h1 ⟨q, -⟩; cases q) ?_
      rintro v h9 ⟨hv, e9⟩
      cases hv
      have e9 := e9.symm
      subst e9
      rw [nn_len]
      refine jj_icmp_ge (off := 7) (tgt := 37) (by decide +kernel) (by decide) (fun _ => ?_) (fun c2 => absurd c1 c2)
      refine jj_iconst (n := (-1)) (v := (-1)) (by decide +kernel) (by decide) ?_
      exact jj_iret .int (by decide +kernel) rfl rfl ⟨rfl, rfl⟩
    · have hlt : j < 9 := Nat.not_le.mp (fun q => c1 (nI_le q (by omega)))
      refine jj_aload_n (j := 0) (by decide +kernel) rfl ?_
      refine jj_iload_n (j := 2) (by decide +kernel) rfl ?_
      refine jj_callr (e_JS_charAt (d := d - 1) (i := 13) (by decide) (by rw [nn_len]; exact hlt) (by omega)) (fun o1 h1 hC => jj_callV ok_JS_charAt ml_MO_64 im_JS_charAt se_JS_JS_charAt (by decide +kernel) (jj_rcv.str (by decide)) rfl (by omega) (Nat.le_of_ble_eq_true rfl) hC) (by rintro E h1 ⟨q, -⟩; cases q) ?_
      rintro v h9 ⟨hv, e9⟩
      cases hv
      have e9 := e9.symm
      subst e9
      refine jj_iload_n (j := 1) (by decide +kernel) rfl ?_
      refine jj_icmp_eq (off := 9) (tgt := 25) (by decide +kernel) (by decide) (fun c2 => absurd c2 (nn_no j hlt)) (fun _ => ?_)
      refine jj_iinc (i := 2) (n := 1) (v := nI (j + 1)) (by decide +kernel) rfl (by rw [show Int32.ofInt 1 = 1 from rfl]; exact nI_1 j) (by decide) rfl ?_
      refine jj_goto (off := (-20)) (tgt := 2) (by decide +kernel) (by decide) ?_
      exact ih (j + 1) (by omega) (by omega)
set_option maxRecDepth 100000 in
set_option maxHeartbeats 4000000 in
theorem m_placeIn_none {l : Launch} {G : jj_G} {d : Nat} {h : jj_H} (hdd : 4 ≤ d) : jj_Q l G y_MO_placeIn d [.ref (G.2.2.2.1 13), .int (-1)] h (fun out h' => out = .inl (some (.int (-1))) ∧ h' = h) := by
  refine jj_Q.of (by decide +kernel) (Nat.le_of_ble_eq_true rfl) ?_
  refine jj_iconst (n := 0) (v := nI 0) (by decide +kernel) (by decide) ?_
  refine jj_istore_n (j := 2) (by decide +kernel) (by decide) rfl ?_
  exact b_MO_placeIn_none hdd _ 0 (Nat.lt_succ_self _) (Nat.zero_le _)
set_option maxRecDepth 100000 in
set_option maxHeartbeats 4000000 in
theorem m_nine2 {l : Launch} {G : jj_G} {d : Nat} {h : jj_H} {x : Int32} (hdd : 5 ≤ d) : jj_Q l G y_MO_nine d [.int x] h (fun out h' => ∃ v : Int32, out = .inl (some (.int v)) ∧ h' = h ∧ (x = -1 → v < 0)) := by
  by_cases hx : x = -1
  · subst hx
    refine jj_Q.of (by decide +kernel) (Nat.le_of_ble_eq_true rfl) ?_
    refine jj_ldcS (index := 74) (i := 13) (tx := "UX01ZWLH-") (by decide +kernel) (List.mem_of_getElem? (i := 14) rfl) ?_
    refine jj_iload_n (j := 0) (by decide +kernel) rfl ?_
    refine jj_bipush (n := 97) (v := 97) (by decide +kernel) (by decide) ?_
    refine jj_icmp_lt (off := 16) (tgt := 21) (by decide +kernel) (by decide) (fun _ => ?_) (fun q => absurd (by decide) q)
    refine jj_iload_n (j := 0) (by decide +kernel) rfl ?_
    refine jj_callr (m_placeIn_none (d := d - 1) (by omega)) (fun o1 h1 hC => jj_callS ok_MO_placeIn ml_MO_76 st_MO_placeIn (by decide +kernel) rfl (by omega) (Nat.le_of_ble_eq_true rfl) hC) (by rintro E h1 ⟨q, -⟩; cases q) ?_
    rintro v h1 ⟨hv, e9⟩
    cases hv
    exact jj_iret .int (by decide +kernel) rfl rfl ⟨_, rfl, e9, fun _ => by decide⟩
  · obtain ⟨o, h', ⟨v, e1, e2⟩, hq⟩ := m_nine (l := l) (G := G) (h := h) (c := x) hdd
    exact ⟨o, h', ⟨v, e1, e2, fun q => absurd q hx⟩, hq⟩
