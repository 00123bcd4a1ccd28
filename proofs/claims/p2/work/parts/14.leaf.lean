/-! rows and tables under any int: what a call may change of them -/
/-- row r of array a and room cap, with n in it, is one with n' in it: in its array, or in a new one of twice the room -/
def rw_ch (ci k b : Nat) (G : jj_G) (h : jj_H) (r a cap n n' : Nat) (h' : jj_H) : Prop := ∃ (a' cap' : Nat) (f' : Nat → Int32), ((a' = a ∧ cap' = cap ∧ h'.2 = h.2) ∨ (a' = h.2.1 ∧ cap' = 2 * cap ∧ cap < k * n + k ∧ n < b ∧ h'.2 = (h.2.1 + 1, h.2.2 + 2 * cap))) ∧ h'.1 r = some (.inr (ci, [.ref a', .int (nI n')])) ∧ h'.1 a' = some (.inl (jj_cI G, cap', .inl f')) ∧ k * n' ≤ cap' ∧ n' ≤ b ∧ ∀ q, q ≠ r → q ≠ a' → h'.1 q = h.1 q
theorem rw_ch.same {ci k b : Nat} {G : jj_G} {h : jj_H} {r a cap n : Nat} {f : Nat → Int32} (h1 : h.1 r = some (.inr (ci, [.ref a, .int (nI n)]))) (h2 : h.1 a = some (.inl (jj_cI G, cap, .inl f))) (h3 : k * n ≤ cap) (h4 : n ≤ b) : rw_ch ci k b G h r a cap n n h := ⟨a, cap, f, Or.inl ⟨rfl, rfl, rfl⟩, h1, h2, h3, h4, fun _ _ _ => rfl⟩
set_option maxRecDepth 100000 in
set_option maxHeartbeats 4000000 in
theorem d_IR_cutTo {l : Launch} {G : jj_G} {d : Nat} {h : jj_H} {r a cap n : Nat} {f : Nat → Int32} {j : Int32} (hr : rw_is 1 G h r a cap f n) : jj_Q l G y_IR_cutTo d [.ref r, .int j] h (fun o h' => o = .inl none ∧ (h' = h ∨ ∃ m : Nat, m ≤ n ∧ h' = (jj_up h.1 r (.inr (1, [.ref a, .int (nI m)])), h.2))) := by
  obtain ⟨hrr, hra, hn, hc0, hc1, hne⟩ := hr
  refine jj_Q.of (by decide +kernel) (Nat.le_of_ble_eq_true rfl) ?_
  refine jj_iload_n (j := 1) (by decide +kernel) rfl ?_
  refine jj_if_lt (off := 16) (tgt := 17) (by decide +kernel) (by decide) (fun c1 => ?_) (fun c1 => ?_)
  · skip
    refine jj_vret (by decide +kernel) rfl ?_
    exact ⟨rfl, Or.inl rfl⟩
  · skip
    refine jj_iload_n (j := 1) (by decide +kernel) rfl ?_
    refine jj_aload_n (j := 0) (by decide +kernel) rfl ?_
    refine jj_getfield 1 ck_IR fl_IR_15 (by decide) (by decide +kernel) (by assumption) rfl ?_
    refine jj_icmp_gt (off := 8) (tgt := 17) (by decide +kernel) (by decide) (fun c2 => ?_) (fun c2 => ?_)
    · skip
      refine jj_vret (by decide +kernel) rfl ?_
      exact ⟨rfl, Or.inl rfl⟩
    · skip
      obtain ⟨m, hm, rfl⟩ := nI_of2 (nI_toInt (by omega)) c1 (Int32.not_lt.mp c2)
      refine jj_aload_n (j := 0) (by decide +kernel) rfl ?_
      refine jj_iload_n (j := 1) (by decide +kernel) rfl ?_
      refine jj_putfield 1 ck_IR fl_IR_15 (by decide) rfl (by decide +kernel) hrr rfl rfl (Nat.lt_of_sub_eq_succ rfl) ?_
      refine jj_vret (by decide +kernel) rfl ?_
      exact ⟨rfl, Or.inr ⟨m, hm, rfl⟩⟩
set_option maxRecDepth 100000 in
set_option maxHeartbeats 4000000 in
theorem d_IR_put {l : Launch} {G : jj_G} {d : Nat} {h : jj_H} {r a cap n : Nat} {f : Nat → Int32} {j v : Int32} (hG : jj_tyG G) (hr : rw_is 1 G h r a cap f n) : jj_Q l G y_IR_put d [.ref r, .int j, .int v] h (fun o h' => o = .inl none ∧ (h' = h ∨ ∃ f' : Nat → Int32, h' = (jj_up h.1 a (.inl (jj_cI G, cap, .inl f')), h.2))) := by
  obtain ⟨hrr, hra, hn, hc0, hc1, hne⟩ := hr
  refine jj_Q.of (by decide +kernel) (Nat.le_of_ble_eq_true rfl) ?_
  refine jj_iload_n (j := 1) (by decide +kernel) rfl ?_
  refine jj_if_lt (off := 27) (tgt := 28) (by decide +kernel) (by decide) (fun c1 => ?_) (fun c1 => ?_)
  · skip
    refine jj_vret (by decide +kernel) rfl ?_
    exact ⟨rfl, Or.inl rfl⟩
  · skip
    refine jj_iload_n (j := 1) (by decide +kernel) rfl ?_
    refine jj_aload_n (j := 0) (by decide +kernel) rfl ?_
    refine jj_getfield 1 ck_IR fl_IR_15 (by decide) (by decide +kernel) (by assumption) rfl ?_
    refine jj_icmp_ge (off := 19) (tgt := 28) (by decide +kernel) (by decide) (fun c2 => ?_) (fun c2 => ?_)
    · skip
      refine jj_vret (by decide +kernel) rfl ?_
      exact ⟨rfl, Or.inl rfl⟩
    · skip
      refine jj_iload_n (j := 1) (by decide +kernel) rfl ?_
      refine jj_aload_n (j := 0) (by decide +kernel) rfl ?_
      refine jj_getfield 0 ck_IR fl_IR_9 (by decide) (by decide +kernel) (by assumption) rfl ?_
      refine jj_arraylength (jj_tI hG) (by decide +kernel) hra rfl ?_
      refine jj_icmp_ge (off := 10) (tgt := 28) (by decide +kernel) (by decide) (fun c3 => ?_) (fun c3 => ?_)
      · skip
        refine jj_vret (by decide +kernel) rfl ?_
        exact ⟨rfl, Or.inl rfl⟩
      · skip
        refine jj_aload_n (j := 0) (by decide +kernel) rfl ?_
        refine jj_getfield 0 ck_IR fl_IR_9 (by decide) (by decide +kernel) (by assumption) rfl ?_
        refine jj_iload_n (j := 1) (by decide +kernel) rfl ?_
        refine jj_iload_n (j := 2) (by decide +kernel) rfl ?_
        obtain ⟨j0, hj, rfl⟩ : ∃ j0 : Nat, j0 < n ∧ j = nI j0 := by
          rcases pk_ix j (n := n) (by omega) with q | q | q
          · exact absurd q c1
          · exact absurd q c2
          · exact q
        refine jj_iastore (jj_tI hG) (by decide +kernel) hra (vp_in_nI (by omega) (by omega)) ?_
        refine jj_vret (by decide +kernel) rfl ?_
        exact ⟨rfl, Or.inr ⟨_, rfl⟩⟩
set_option maxRecDepth 100000 in
set_option maxHeartbeats 4000000 in
theorem d_IR_full {l : Launch} {G : jj_G} {d : Nat} {h : jj_H} {r a cap n : Nat} {f : Nat → Int32} {v : Int32} (hr : rw_is 1 G h r a cap f n) (hf : 32768 ≤ n) : jj_Q l G y_IR_add d [.ref r, .int v] h (fun o h' => o = .inl none ∧ h' = h) := by
  obtain ⟨hrr, hra, hn, hc0, hc1, hne⟩ := hr
  refine jj_Q.of (by decide +kernel) (Nat.le_of_ble_eq_true rfl) ?_
  refine jj_aload_n (j := 0) (by decide +kernel) rfl ?_
  refine jj_getfield 1 ck_IR fl_IR_15 (by decide) (by decide +kernel) (by assumption) rfl ?_
  refine jj_if_lt (off := 12) (tgt := 16) (by decide +kernel) (by decide) (fun c1 => ?_) (fun c1 => ?_)
  · skip
    refine jj_vret (by decide +kernel) rfl ?_
    exact absurd c1 (nI_pos (by omega))
  · skip
    refine jj_aload_n (j := 0) (by decide +kernel) rfl ?_
    refine jj_getfield 1 ck_IR fl_IR_15 (by decide) (by decide +kernel) (by assumption) rfl ?_
    refine jj_ldc (by decide +kernel) kc_IR_19 ?_
    refine jj_icmp_lt (off := 4) (tgt := 17) (by decide +kernel) (by decide) (fun c2 => ?_) (fun c2 => ?_)
    · skip
      exact absurd (show nI n < nI 32768 from c2) (nI_nlt hf (by omega))
    · skip
      refine jj_vret (by decide +kernel) rfl ?_
      exact ⟨rfl, rfl⟩
set_option maxRecDepth 100000 in
set_option maxHeartbeats 4000000 in
theorem p_TB_add_56 {l : Launch} {G : jj_G} {d : Nat} {F : jj_O → jj_H → Prop} {h : jj_H} {r a cap n : Nat} {f : Nat → Int32} {x y z : Int32} (hG : jj_tyG G) (hrr : h.1 r = some (.inr (2, [.ref a, .int (nI n)]))) (hra : h.1 a = some (.inl (jj_cI G, cap, .inl f))) (hne : r ≠ a) (hn : n ≤ 16385) (hc : cap ≤ 200000) (hF1 : cap < 3 * n + 3 → F (.inl none) h) (hF2 : 3 * n + 3 ≤ cap → ∀ f' : Nat → Int32, F (.inl none) (jj_up (jj_up h.1 a (.inl (jj_cI G, cap, .inl f'))) r (.inr (2, [.ref a, .int (nI n + 1)])), h.2)) : jj_P l G y_TB_add d F 56 [some (.ref r), some (.int x), some (.int y), some (.int z), some (.int (nI (3 * n)))] [] h := by
  refine jj_iload (i := 4) (by decide +kernel) rfl ?_
  refine jj_if_lt (off := 53) (tgt := 111) (by decide +kernel) (by decide) (fun c1 => ?_) (fun c1 => ?_)
  · skip
    refine jj_vret (by decide +kernel) rfl ?_
    exact absurd c1 (nI_pos (by omega))
  · skip
    refine jj_iload (i := 4) (by decide +kernel) rfl ?_
    refine jj_iconst (n := 3) (v := 3) (by decide +kernel) (by decide) ?_
    refine jj_iadd (by decide +kernel) ?_
    rw [show nI (3 * n) + 3 = nI (3 * n + 3) from nI_add _ 3]
    refine jj_aload_n (j := 0) (by decide +kernel) rfl ?_
    refine jj_getfield 0 ck_TB fl_TB_9 (by decide) (by decide +kernel) (by assumption) rfl ?_
    refine jj_arraylength (jj_tI hG) (by decide +kernel) hra rfl ?_
    refine jj_icmp_gt (off := 41) (tgt := 111) (by decide +kernel) (by decide) (fun c2 => ?_) (fun c2 => ?_)
    · skip
      refine jj_vret (by decide +kernel) rfl ?_
      exact hF1 ((nI_ltI (by omega) (by omega)).mp c2)
    · skip
      have hcap : 3 * n + 3 ≤ cap := Nat.not_lt.mp (fun q => c2 (nI_lt q (by omega)))
      refine jj_aload_n (j := 0) (by decide +kernel) rfl ?_
      refine jj_getfield 0 ck_TB fl_TB_9 (by decide) (by decide +kernel) (by assumption) rfl ?_
      refine jj_iload (i := 4) (by decide +kernel) rfl ?_
      refine jj_iload_n (j := 1) (by decide +kernel) rfl ?_
      refine jj_iastore (jj_tI hG) (by decide +kernel) hra (vp_in_nI (show 3 * n < cap by omega) (by omega)) ?_
      have hrr2 : ∀ e, (jj_up h.1 a e) r = some (.inr (2, [.ref a, .int (nI n)])) := fun e => (jj_up_ne hne).trans hrr
      refine jj_aload_n (j := 0) (by decide +kernel) rfl ?_
      refine jj_getfield 0 ck_TB fl_TB_9 (by decide) (by decide +kernel) (hrr2 _) rfl ?_
      refine jj_iload (i := 4) (by decide +kernel) rfl ?_
      refine jj_iconst (n := 1) (v := 1) (by decide +kernel) (by decide) ?_
      refine jj_iadd (by decide +kernel) ?_
      rw [show nI (3 * n) + 1 = nI (3 * n + 1) from nI_add _ 1]
      refine jj_iload_n (j := 2) (by decide +kernel) rfl ?_
      refine jj_iastore (jj_tI hG) (by decide +kernel) jj_up_self (vp_in_nI (show 3 * n + 1 < cap by omega) (by omega)) ?_
      rw [jj_up_up]
      refine jj_aload_n (j := 0) (by decide +kernel) rfl ?_
      refine jj_getfield 0 ck_TB fl_TB_9 (by decide) (by decide +kernel) (hrr2 _) rfl ?_
      refine jj_iload (i := 4) (by decide +kernel) rfl ?_
      refine jj_iconst (n := 2) (v := 2) (by decide +kernel) (by decide) ?_
      refine jj_iadd (by decide +kernel) ?_
      rw [show nI (3 * n) + 2 = nI (3 * n + 2) from nI_add _ 2]
      refine jj_iload_n (j := 3) (by decide +kernel) rfl ?_
      refine jj_iastore (jj_tI hG) (by decide +kernel) jj_up_self (vp_in_nI (show 3 * n + 2 < cap by omega) (by omega)) ?_
      rw [jj_up_up]
      refine jj_aload_n (j := 0) (by decide +kernel) rfl ?_
      refine jj_dup (by decide +kernel) rfl ?_
      refine jj_getfield 1 ck_TB fl_TB_15 (by decide) (by decide +kernel) (hrr2 _) rfl ?_
      refine jj_iconst (n := 1) (v := 1) (by decide +kernel) (by decide) ?_
      refine jj_iadd (by decide +kernel) ?_
      refine jj_putfield 1 ck_TB fl_TB_15 (by decide) rfl (by decide +kernel) (hrr2 _) rfl rfl (Nat.lt_of_sub_eq_succ rfl) ?_
      refine jj_vret (by decide +kernel) rfl ?_
      exact hF2 hcap _
set_option maxRecDepth 100000 in
set_option maxHeartbeats 4000000 in
theorem d_TB_add {l : Launch} {G : jj_G} {d : Nat} {h : jj_H} {r a cap n : Nat} {f : Nat → Int32} {x y z : Int32} (hG : jj_tyG G) (hr : tb_is G h r a cap f n) (hrl : r < h.2.1) (hal : a < h.2.1) (hn5 : n ≤ 16385) (hdd : 5 ≤ d) : jj_Q l G y_TB_add d [.ref r, .int x, .int y, .int z] h (fun o h' => o = .inl none ∧ ∃ n' : Nat, rw_ch 2 3 16385 G h r a cap n n' h') := by
  obtain ⟨hrr, hra, hn, hc0, hc1, hne⟩ := hr
  refine jj_Q.of (by decide +kernel) (Nat.le_of_ble_eq_true rfl) ?_
  refine jj_aload_n (j := 0) (by decide +kernel) rfl ?_
  refine jj_getfield 1 ck_TB fl_TB_15 (by decide) (by decide +kernel) (by assumption) rfl ?_
  refine jj_if_lt (off := 13) (tgt := 17) (by decide +kernel) (by decide) (fun c1 => ?_) (fun c1 => ?_)
  · skip
    refine jj_vret (by decide +kernel) rfl ?_
    exact absurd c1 (nI_pos (by omega))
  · skip
    refine jj_aload_n (j := 0) (by decide +kernel) rfl ?_
    refine jj_getfield 1 ck_TB fl_TB_15 (by decide) (by decide +kernel) (by assumption) rfl ?_
    refine jj_sipush (n := 16385) (v := 16385) (by decide +kernel) (by decide) ?_
    refine jj_icmp_lt (off := 4) (tgt := 18) (by decide +kernel) (by decide) (fun c2 => ?_) (fun c2 => ?_)
    · skip
      have hlt : n < 16385 := (nI_ltI (b := 16385) (by omega) (by omega)).mp c2
      refine jj_aload_n (j := 0) (by decide +kernel) rfl ?_
      refine jj_getfield 1 ck_TB fl_TB_15 (by decide) (by decide +kernel) (by assumption) rfl ?_
      refine jj_iconst (n := 3) (v := 3) (by decide +kernel) (by decide) ?_
      refine jj_imul (by decide +kernel) ?_
      rw [show nI n * 3 = nI (3 * n) from (pk_mul n 3).trans (by rw [Nat.mul_comm])]
      refine jj_istore (i := 4) (by decide +kernel) (by decide) rfl ?_
      refine jj_iload (i := 4) (by decide +kernel) rfl ?_
      refine jj_iconst (n := 3) (v := 3) (by decide +kernel) (by decide) ?_
      refine jj_iadd (by decide +kernel) ?_
      rw [show nI (3 * n) + 3 = nI (3 * n + 3) from nI_add _ 3]
      refine jj_aload_n (j := 0) (by decide +kernel) rfl ?_
      refine jj_getfield 0 ck_TB fl_TB_9 (by decide) (by decide +kernel) (by assumption) rfl ?_
      refine jj_arraylength (jj_tI hG) (by decide +kernel) hra rfl ?_
      refine jj_icmp_le (off := 21) (tgt := 56) (by decide +kernel) (by decide) (fun c3 => ?_) (fun c3 => ?_)
      · skip
        exact p_TB_add_56 hG hrr hra hne hn5 hc1 (fun q => absurd q (by have := (nI_leI (by omega) (by omega)).mp c3; omega)) (fun q f' => ⟨rfl, n + 1, a, cap, f', Or.inl ⟨rfl, rfl, rfl⟩, by rw [nI_succ]; exact jj_up_self, (jj_up_ne hne.symm).trans jj_up_self, by omega, by omega, fun q g1 g2 => (jj_up_ne g1).trans (jj_up_ne g2)⟩)
      · skip
        refine jj_aload_n (j := 0) (by decide +kernel) rfl ?_
        refine jj_aload_n (j := 0) (by decide +kernel) rfl ?_
        refine jj_getfield 0 ck_TB fl_TB_9 (by decide) (by decide +kernel) (by assumption) rfl ?_
        refine jj_aload_n (j := 0) (by decide +kernel) rfl ?_
        refine jj_getfield 0 ck_TB fl_TB_9 (by decide) (by decide +kernel) (by assumption) rfl ?_
        refine jj_arraylength (jj_tI hG) (by decide +kernel) hra rfl ?_
        refine jj_iconst (n := 2) (v := 2) (by decide +kernel) (by decide) ?_
        refine jj_imul (by decide +kernel) ?_
        have hcap : cap < 3 * n + 3 := Nat.not_le.mp (fun q => c3 (nI_le q (by omega)))
        rw [show Int32.ofNat cap * 2 = nI (2 * cap) from (pk_mul cap 2).trans (by rw [Nat.mul_comm])]
        refine jj_callr (c_JA_copyOf (d := 3) hG hra hal (m := 2 * cap) (by omega) (by omega) (Nat.le_refl _)) (fun o1 h1 hC => jj_callS ok_JA_copyOf ml_TB_19 st_JA_copyOf (by decide +kernel) rfl (by omega) (Nat.le_of_ble_eq_true rfl) hC) (by intro E h1 hp; cases hp.1) ?_
        rintro v1 h1 ⟨hv, rfl⟩
        cases hv
        have hrr2 : (jj_up h.1 h.2.1 (.inl (jj_cI G, 2 * cap, .inl (va_cpy f (fun _ => 0) 0 0 cap)))) r = some (.inr (2, [.ref a, .int (nI n)])) := (jj_up_ne (by omega)).trans hrr
        refine jj_putfield 0 ck_TB fl_TB_9 (by decide) rfl (by decide +kernel) hrr2 rfl rfl (Nat.lt_of_sub_eq_succ rfl) ?_
        refine p_TB_add_56 hG jj_up_self ((jj_up_ne (by omega)).trans jj_up_self) (by omega) hn5 (by omega) (fun q => ⟨rfl, n, h.2.1, 2 * cap, _, Or.inr ⟨rfl, rfl, hcap, hlt, rfl⟩, jj_up_self, (jj_up_ne (by omega)).trans jj_up_self, by omega, by omega, fun q g1 g2 => (jj_up_ne g1).trans (jj_up_ne g2)⟩) (fun q f' => ⟨rfl, n + 1, h.2.1, 2 * cap, f', Or.inr ⟨rfl, rfl, hcap, hlt, rfl⟩, by rw [nI_succ]; exact jj_up_self, (jj_up_ne (by omega)).trans jj_up_self, by omega, by omega, fun q g1 g2 => (jj_up_ne g1).trans ((jj_up_ne g2).trans ((jj_up_ne g1).trans (jj_up_ne g2)))⟩)
    · skip
      refine jj_vret (by decide +kernel) rfl ?_
      exact ⟨rfl, n, rw_ch.same hrr hra hn (by omega)⟩
theorem sy_in.ch {G : jj_G} {X : sy_X} {K o N N' : Nat} {h h' : jj_H} {w c : Nat → Nat} {t ci k b a n n' : Nat} (hs : sy_in G X K o N h w c) (hon : sy_on X t) (hc : (t < 7 ∧ ci = 1 ∧ k = 1 ∧ b = 32768) ∨ (7 ≤ t ∧ t < 9 ∧ ci = 2 ∧ k = 3 ∧ b = 16385)) (r7 : w a = t) (r8 : a < h.2.1) (r9 : X.2.2.1 t ≠ a) (r5 : 64 ≤ c t) (r6 : c t ≤ 200000) (hch : rw_ch ci k b G h (X.2.2.1 t) a (c t) n n' h') (hN : t = 0 → n' = N') (hN2 : t ≠ 0 → N' = N) : Sy G X K o N' h' := by
  obtain ⟨a', cap', f', hcase, h1, h2, h3, h4, h5⟩ := hch
  have hA := hs.2.2.2.1 t (by omega) hon
  have ht9 : t < 9 := by omega
  rcases hcase with ⟨rfl, rfl, hz⟩ | ⟨rfl, rfl, hb1, hb2, hz⟩
  · have hrow : sy_row G X.2.2.1 w c h' ci k b N' t := ⟨a', f', n', h1, h2, h3, h4, r5, r6, r7, by rw [hz]; exact r8, r9, hN⟩
    refine ⟨w, c, hs.row_upd (N' := N') ht9 hon ⟨fun q => ?_, fun q => ?_⟩ (fun q hq hw => h5 q ?_ ?_) (fun _ _ => rfl) (fun _ _ => rfl) hN2 (by rw [hz]; exact Nat.le_refl _) (by rw [hz]; exact Nat.le_refl _) (by rw [hz]; exact Nat.le_refl _)⟩
    · rcases hc with ⟨-, rfl, rfl, rfl⟩ | ⟨q1, -⟩
      · exact hrow
      · omega
    · rcases hc with ⟨q1, -⟩ | ⟨-, -, rfl, rfl, rfl⟩
      · omega
      · exact hrow
    · rintro rfl
      exact hw hA.1
    · rintro rfl
      exact hw r7
  · have hrow : sy_row G X.2.2.1 (fun q => if q = h.2.1 then t else w q) (fun i => if i = t then 2 * c t else c i) h' ci k b N' t := by
      refine ⟨h.2.1, f', n', h1, ?_, ?_, h4, ?_, ?_, ?_, ?_, ?_, hN⟩
      · dsimp only
        rw [if_pos rfl]; exact h2
      · dsimp only
        rw [if_pos rfl]; exact h3
      · dsimp only
        rw [if_pos rfl]; omega
      · dsimp only
        rw [if_pos rfl]
        rcases hc with ⟨-, -, rfl, rfl⟩ | ⟨-, -, -, rfl, rfl⟩ <;> omega
      · exact if_pos rfl
      · rw [hz]; exact Nat.lt_succ_self _
      · have := hA.2; omega
    refine ⟨(fun q => if q = h.2.1 then t else w q), (fun i => if i = t then 2 * c t else c i), hs.row_upd (N' := N') (w' := fun q => if q = h.2.1 then t else w q) (c' := fun i => if i = t then 2 * c t else c i) ht9 hon ⟨fun q => ?_, fun q => ?_⟩ (fun q hq hw => h5 q ?_ ?_) (fun q hq => if_neg (Nat.ne_of_lt hq)) (fun i hi => if_neg hi) hN2 (by rw [hz]; exact Nat.le_succ _) ?_ ?_⟩
    · rcases hc with ⟨-, rfl, rfl, rfl⟩ | ⟨q1, -⟩
      · exact hrow
      · omega
    · rcases hc with ⟨q1, -⟩ | ⟨-, -, rfl, rfl, rfl⟩
      · omega
      · exact hrow
    · rintro rfl
      exact hw hA.1
    · exact Nat.ne_of_lt hq
    · rw [hz]
      show 64 * (h.2.1 + 1) + c t ≤ 64 * h.2.1 + (if t = t then 2 * c t else c t)
      rw [if_pos rfl]
      omega
    · rw [hz]
      show h.2.2 + 2 * c t + 2 * c t ≤ h.2.2 + 2 * (if t = t then 2 * c t else c t)
      rw [if_pos rfl]
      omega
section SYR
variable {l : Launch} {G : jj_G} {X : sy_X} {K o N d t : Nat} {h : jj_H} {x y z : Int32}
theorem s_row_size (hs : Sy G X K o N h) (ht : t < 7) (hon : sy_on X t) : jj_Q l G y_IR_size d [.ref (X.2.2.1 t)] h (sy_F 3 false G X K o N) := by
  obtain ⟨w, c, hi⟩ := id hs
  obtain ⟨a, f, n, r1, r2, r3, r4, r5, r6, r7, r8, r9, r10⟩ := hi.1 t ht hon
  refine (c_IR_size ⟨r1, r2, by omega, by omega, r6, r9⟩).imp ?_
  rintro o1 h1 ⟨rfl, rfl⟩
  exact ⟨Or.inr (Or.inr ⟨rfl, nI_pos' (by omega)⟩), hs⟩
theorem s_row_at (hG : jj_tyG G) (hs : Sy G X K o N h) (ht : t < 7) (hon : sy_on X t) : jj_Q l G y_IR_at d [.ref (X.2.2.1 t), .int x] h (sy_F 1 false G X K o N) := by
  obtain ⟨w, c, hi⟩ := id hs
  obtain ⟨a, f, n, r1, r2, r3, r4, r5, r6, r7, r8, r9, r10⟩ := hi.1 t ht hon
  refine (c_IR_at hG ⟨r1, r2, by omega, by omega, r6, r9⟩).imp ?_
  rintro o1 h1 ⟨rfl, rfl⟩
  exact ⟨Or.inl rfl, hs⟩
theorem sy_add_ch {a cap n : Nat} {f : Nat → Int32} {r : Nat} {h h1 : jj_H} (r2 : h.1 a = some (.inl (jj_cI G, cap, .inl f))) (hrl : r < h.2.1) (hal : a < h.2.1) (hne : r ≠ a) (hnc : n ≤ cap) (hn : n < 32768) (e1 : n < cap → h1 = (jj_up (jj_up h.1 a (.inl (jj_cI G, cap, .inl (upd f n x)))) r (.inr (1, [.ref a, .int (nI (n + 1))])), h.2))
    (e2 : cap ≤ n → h1 = (jj_up (jj_up (jj_up (jj_up h.1 h.2.1 (.inl (jj_cI G, 2 * cap, .inl (va_cpy f (fun _ => 0) 0 0 cap)))) r (.inr (1, [.ref h.2.1, .int (nI n)]))) h.2.1 (.inl (jj_cI G, 2 * cap, .inl (upd (va_cpy f (fun _ => 0) 0 0 cap) n x)))) r (.inr (1, [.ref h.2.1, .int (nI (n + 1))])), h.2.1 + 1, h.2.2 + 2 * cap)) (hc0 : 0 < cap) : rw_ch 1 1 32768 G h r a cap n (n + 1) h1 := by
  rcases Nat.lt_or_ge n cap with q | q
  · rw [e1 q]
    exact ⟨a, cap, _, Or.inl ⟨rfl, rfl, rfl⟩, jj_up_self, (jj_up_ne hne.symm).trans jj_up_self, by omega, by omega, fun q g1 g2 => (jj_up_ne g1).trans (jj_up_ne g2)⟩
  · rw [e2 q]
    exact ⟨h.2.1, 2 * cap, _, Or.inr ⟨rfl, rfl, by omega, hn, rfl⟩, jj_up_self, (jj_up_ne (by omega)).trans jj_up_self, by omega, by omega, fun q g1 g2 => (jj_up_ne g1).trans ((jj_up_ne g2).trans ((jj_up_ne g1).trans (jj_up_ne g2)))⟩
theorem s_row_add (hG : jj_tyG G) (hs : Sy G X K o N h) (ht : t < 7) (hon : sy_on X t) (h0 : t ≠ 0) (hdd : 5 ≤ d) : jj_Q l G y_IR_add d [.ref (X.2.2.1 t), .int x] h (sy_F 0 false G X K o N) := by
  obtain ⟨w, c, hi⟩ := id hs
  obtain ⟨a, f, n, r1, r2, r3, r4, r5, r6, r7, r8, r9, r10⟩ := hi.1 t ht hon
  have hA := hi.2.2.2.1 t (by omega) hon
  by_cases hn : n < 32768
  · refine (c_IR_add hG ⟨r1, r2, by omega, by omega, r6, r9⟩ hA.2 r8 hn hdd).imp ?_
    rintro o1 h1 ⟨rfl, e1, e2⟩
    exact ⟨rfl, hi.ch hon (Or.inl ⟨ht, rfl, rfl, rfl⟩) r7 r8 r9 r5 r6 (sy_add_ch r2 hA.2 r8 r9 (by omega) hn e1 e2 (by omega)) (fun q => absurd q h0) (fun _ => rfl)⟩
  · refine (d_IR_full ⟨r1, r2, by omega, by omega, r6, r9⟩ (by omega)).imp ?_
    rintro o1 h1 ⟨rfl, rfl⟩
    exact ⟨rfl, hs⟩
/-- one more character -/
theorem s_cha_add (hG : jj_tyG G) (hon : sy_on X 0) (hs : Sy G X K o N h) (hN : N < 32768) (hdd : 5 ≤ d) : jj_Q l G y_IR_add d [.ref (X.2.2.1 0), .int x] h (sy_F 0 false G X K o (N + 1)) := by
  obtain ⟨w, c, hi⟩ := id hs
  obtain ⟨a, f, n, r1, r2, r3, r4, r5, r6, r7, r8, r9, r10⟩ := hi.1 0 (by decide) hon
  have hA := hi.2.2.2.1 0 (by decide) hon
  have hn := r10 rfl
  subst hn
  refine (c_IR_add hG ⟨r1, r2, by omega, by omega, r6, r9⟩ hA.2 r8 hN hdd).imp ?_
  rintro o1 h1 ⟨rfl, e1, e2⟩
  exact ⟨rfl, hi.ch hon (Or.inl ⟨by decide, rfl, rfl, rfl⟩) r7 r8 r9 r5 r6 (sy_add_ch r2 hA.2 r8 r9 (by omega) hN e1 e2 (by omega)) (fun _ => rfl) (fun q => absurd rfl q)⟩
theorem s_cha_size (hon : sy_on X 0) (hs : Sy G X K o N h) : N ≤ 32768 ∧ jj_Q l G y_IR_size d [.ref (X.2.2.1 0)] h (fun o1 h' => o1 = .inl (some (.int (nI N))) ∧ h' = h) := by
  obtain ⟨w, c, hi⟩ := id hs
  obtain ⟨a, f, n, r1, r2, r3, r4, r5, r6, r7, r8, r9, r10⟩ := hi.1 0 (by decide) hon
  have hn := r10 rfl
  subst hn
  exact ⟨r4, c_IR_size ⟨r1, r2, by omega, by omega, r6, r9⟩⟩
theorem s_cha_cut (hon : sy_on X 0) (hs : Sy G X K o N h) {j : Nat} (hj : j ≤ N) : jj_Q l G y_IR_cutTo d [.ref (X.2.2.1 0), .int (nI j)] h (sy_F 0 false G X K o j) := by
  obtain ⟨w, c, hi⟩ := id hs
  obtain ⟨a, f, n, r1, r2, r3, r4, r5, r6, r7, r8, r9, r10⟩ := hi.1 0 (by decide) hon
  have hn := r10 rfl
  subst hn
  refine (c_IR_cutTo ⟨r1, r2, by omega, by omega, r6, r9⟩ hj).imp ?_
  rintro o1 h1 ⟨rfl, rfl⟩
  exact ⟨rfl, hi.ch hon (n := n) (n' := j) (Or.inl ⟨by decide, rfl, rfl, rfl⟩) r7 r8 r9 r5 r6 ⟨a, c 0, f, Or.inl ⟨rfl, rfl, rfl⟩, jj_up_self, (jj_up_ne r9.symm).trans r2, by omega, by omega, fun q g1 g2 => jj_up_ne g1⟩ (fun _ => rfl) (fun q => absurd rfl q)⟩
theorem s_row_put (hG : jj_tyG G) (hs : Sy G X K o N h) (ht : t < 7) (hon : sy_on X t) : jj_Q l G y_IR_put d [.ref (X.2.2.1 t), .int x, .int y] h (sy_F 0 false G X K o N) := by
  obtain ⟨w, c, hi⟩ := id hs
  obtain ⟨a, f, n, r1, r2, r3, r4, r5, r6, r7, r8, r9, r10⟩ := hi.1 t ht hon
  refine (d_IR_put hG ⟨r1, r2, by omega, by omega, r6, r9⟩).imp ?_
  rintro o1 h1 ⟨rfl, rfl | ⟨f', rfl⟩⟩
  · exact ⟨rfl, hs⟩
  · exact ⟨rfl, hi.ch hon (n := n) (n' := n) (Or.inl ⟨ht, rfl, rfl, rfl⟩) r7 r8 r9 r5 r6 ⟨a, c t, f', Or.inl ⟨rfl, rfl, rfl⟩, (jj_up_ne r9).trans r1, jj_up_self, by omega, by omega, fun q g1 g2 => jj_up_ne g2⟩ r10 (fun _ => rfl)⟩
theorem s_row_cut (hs : Sy G X K o N h) (ht : t < 7) (hon : sy_on X t) (h0 : t ≠ 0) : jj_Q l G y_IR_cutTo d [.ref (X.2.2.1 t), .int x] h (sy_F 0 false G X K o N) := by
  obtain ⟨w, c, hi⟩ := id hs
  obtain ⟨a, f, n, r1, r2, r3, r4, r5, r6, r7, r8, r9, r10⟩ := hi.1 t ht hon
  refine (d_IR_cutTo ⟨r1, r2, by omega, by omega, r6, r9⟩).imp ?_
  rintro o1 h1 ⟨rfl, rfl | ⟨m, hm, rfl⟩⟩
  · exact ⟨rfl, hs⟩
  · exact ⟨rfl, hi.ch hon (n := n) (n' := m) (Or.inl ⟨ht, rfl, rfl, rfl⟩) r7 r8 r9 r5 r6 ⟨a, c t, f, Or.inl ⟨rfl, rfl, rfl⟩, jj_up_self, (jj_up_ne r9.symm).trans r2, by omega, by omega, fun q g1 g2 => jj_up_ne g1⟩ (fun q => absurd q h0) (fun _ => rfl)⟩
theorem s_tab_size (hs : Sy G X K o N h) (h7 : 7 ≤ t) (ht : t < 9) (hon : sy_on X t) : jj_Q l G y_TB_size d [.ref (X.2.2.1 t)] h (sy_F 3 false G X K o N) := by
  obtain ⟨w, c, hi⟩ := id hs
  obtain ⟨a, f, n, r1, r2, r3, r4, r5, r6, r7, r8, r9, r10⟩ := hi.2.1 t h7 ht hon
  refine (c_TB_size ⟨r1, r2, r3, by omega, r6, r9⟩).imp ?_
  rintro o1 h1 ⟨rfl, rfl⟩
  exact ⟨Or.inr (Or.inr ⟨rfl, nI_pos' (by omega)⟩), hs⟩
theorem s_tab_at (hG : jj_tyG G) (hs : Sy G X K o N h) (h7 : 7 ≤ t) (ht : t < 9) (hon : sy_on X t) : jj_Q l G y_TB_at d [.ref (X.2.2.1 t), .int x, .int y] h (sy_F 1 false G X K o N) := by
  obtain ⟨w, c, hi⟩ := id hs
  obtain ⟨a, f, n, r1, r2, r3, r4, r5, r6, r7, r8, r9, r10⟩ := hi.2.1 t h7 ht hon
  refine (c_TB_at hG ⟨r1, r2, r3, by omega, r6, r9⟩).imp ?_
  rintro o1 h1 ⟨rfl, rfl⟩
  exact ⟨Or.inl rfl, hs⟩
theorem s_tab_add (hG : jj_tyG G) (hs : Sy G X K o N h) (h7 : 7 ≤ t) (ht : t < 9) (hon : sy_on X t) (hdd : 5 ≤ d) : jj_Q l G y_TB_add d [.ref (X.2.2.1 t), .int x, .int y, .int z] h (sy_F 0 false G X K o N) := by
  obtain ⟨w, c, hi⟩ := id hs
  obtain ⟨a, f, n, r1, r2, r3, r4, r5, r6, r7, r8, r9, r10⟩ := hi.2.1 t h7 ht hon
  have hA := hi.2.2.2.1 t (by omega) hon
  refine (d_TB_add hG ⟨r1, r2, r3, by omega, r6, r9⟩ hA.2 r8 r4 hdd).imp ?_
  rintro o1 h1 ⟨rfl, n', hch⟩
  exact ⟨rfl, hi.ch hon (Or.inr ⟨h7, ht, rfl, rfl, rfl⟩) r7 r8 r9 r5 r6 hch (fun q => by omega) (fun _ => rfl)⟩
theorem s_tab_clear (hs : Sy G X K o N h) (h7 : 7 ≤ t) (ht : t < 9) (hon : sy_on X t) : jj_Q l G y_TB_clear d [.ref (X.2.2.1 t)] h (sy_F 0 false G X K o N) := by
  obtain ⟨w, c, hi⟩ := id hs
  obtain ⟨a, f, n, r1, r2, r3, r4, r5, r6, r7, r8, r9, r10⟩ := hi.2.1 t h7 ht hon
  refine (c_TB_clear ⟨r1, r2, r3, by omega, r6, r9⟩).imp ?_
  rintro o1 h1 ⟨rfl, rfl⟩
  exact ⟨rfl, hi.ch hon (n := n) (n' := 0) (Or.inr ⟨h7, ht, rfl, rfl, rfl⟩) r7 r8 r9 r5 r6 ⟨a, c t, f, Or.inl ⟨rfl, rfl, rfl⟩, jj_up_self, (jj_up_ne r9.symm).trans r2, by omega, by omega, fun q g1 g2 => jj_up_ne g1⟩ (fun q => by omega) (fun _ => rfl)⟩
end SYR
