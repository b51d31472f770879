/-! Reader: read -/
theorem neg1 : ∀ q, q < 121 → (-1000 - zI q : Int32) < 0 := by decide +kernel
theorem neg2 : ∀ q, q < 121 → (-2000 - zI q : Int32) < 0 := by decide +kernel
theorem neg2' : ∀ q, q < 121 → (-2000 - zI q : Int32) ≤ 0 := by decide +kernel
theorem pFm_le {F n : Nat} {s : Nat → Int32} (hs : ∀ q, n ≤ q → isD (s q) = false) (hs2 : ∀ q c, c < 1000 → s q = zI c → q < n) : ∀ (f p q : Nat), p ≤ n → pFm F s n f p = some q → q ≤ n := by
  intro f
  induction f with
  | zero =>
    intro p q hp h
    unfold pFm at h
    cases h
    exact hp
  | succ f ih =>
    intro p q hp h
    have hk := pSt_k (F := F) hs hs2 hp
    unfold pFm at h
    by_cases k : (pSt F s p).1 = true
    · rw [if_pos k] at h
      by_cases k2 : (pSt F s p).2.1 < n
      · rw [if_pos k2] at h
        exact ih _ _ hk.2.1 h
      · rw [if_neg k2] at h
        cases h
    · rw [if_neg k] at h
      cases h
      exact hk.2.1
theorem sLp_q {F n : Nat} {s : Nat → Int32} : ∀ (f p c : Nat) (S : Nat → Int32) (q : Nat), (sLp F s n f p c S).1 = some q → q < n := by
  intro f
  induction f with
  | zero =>
    intro p c S q h
    unfold sLp at h
    cases h
  | succ f ih =>
    intro p c S q h
    unfold sLp at h
    by_cases k : p < n
    · rw [if_pos k] at h
      by_cases k1 : s p = zI 98
      · rw [if_pos k1] at h
        by_cases k2 : sOk S (pSt F s p).2.2 = true
        · rw [if_pos k2] at h
          exact ih _ _ _ _ h
        · rw [if_neg k2] at h
          cases h
          exact k
      · rw [if_neg k1] at h
        by_cases k2 : (pSt F s p).2.2.2.2.2.2.2.2.1 ≤ zI 99
        · rw [if_pos k2] at h
          exact ih _ _ _ _ h
        · rw [if_neg k2] at h
          cases h
          exact k
    · rw [if_neg k] at h
      cases h
theorem tSN.w0 {C : Nat → Prop} {H : am_H} {t : Nat} {T : mU × (Nat → Option Nat)} {S : Nat → Int32} (h : tSN C H t T S) : T.1.1 4 0 = 0 := by
  obtain ⟨R, -, -, -, q, -⟩ := h.1.2.2.2.2
  exact q
section RR
variable {X : am_X} {e r d n q r0 : Nat} {s : Nat → Int32} {C : Nat → Prop} {H : am_H} {u : mU} {T Q : mU × (Nat → Option Nat)} {S : Nat → Int32} {z : Nat × Nat}
theorem e_read {F : Nat} (hF : n < F) (hn : n ≤ 120) (hE : isE H e (u, r0)) (hT : isT H (e + 2) T) (hw0 : T.1.1 4 0 = 0) (hQ : tSN C H q Q S) (hr : H r = some (.inl (.int, 120, .inl s))) (hr1 : r < e ∨ e + 13 ≤ r) (hr2 : r < q ∨ q + 8 ≤ r) (hqe : q + 8 ≤ e ∨ e + 13 ≤ q) (hC : ∀ x, C x → (x < e ∨ e + 13 ≤ x) ∧ (x < q ∨ q + 8 ≤ x)) (hCz : ∀ x, C x → x < z.1) (hz : ∀ x, z.1 ≤ x → H x = none) (hez : e + 13 ≤ z.1) (hqz : q + 8 ≤ z.1) : ∃ H' z' Q', am_f X (d + 7) 9 [.ref e, .ref r, .int (zI n), .ref q] (H, z) = some (.inl (some (.int (tTx F (sg s n) n S).1)), (H', z')) ∧ (∀ x, x < z.1 → x < e ∨ e + 13 ≤ x → x < q ∨ q + 8 ≤ x → H' x = H x) ∧ (z.1 ≤ z'.1 ∧ z'.1 ≤ z.1 + 20 ∧ z'.2 ≤ z.2 + 95) ∧ (∀ x, z'.1 ≤ x → H' x = none) ∧ (∃ u', isE H' e (u', r)) ∧ (∃ T', isT H' (e + 2) T' ∧ T'.1.1 4 0 = 0) ∧ tSN (fun x => C x ∨ (z.1 ≤ x ∧ x < z'.1)) H' q Q' (tTx F (sg s n) n S).2.1 ∧ ((tTx F (sg s n) n S).2.2 = true → ∃ c, (tTx F (sg s n) n S).1 = zI (c + 1) ∧ c < 120) ∧ ((tTx F (sg s n) n S).2.2 = false → Q' = Q ∧ (tTx F (sg s n) n S).1 < 0) ∧ wN (S 116) ≤ wN ((tTx F (sg s n) n S).2.1 116) := by
  have hrz : r < z.1 := by
    rcases Nat.lt_or_ge r z.1 with k | k
    · exact k
    · rw [hz r k] at hr
      exact absurd hr (by simp)
  have hH : eH (tH H (e + 2) T) e (u, r0) = H := by
    rw [show tH H (e + 2) T = H from ov_eq hT]
    exact ov_eq hE
  have hB : eBy (tH H (e + 2) T) e r s := eBy_mk hr1 hr
  obtain ⟨u1, f1, b, q1, f2, f3⟩ := e_form (X := X) (d := d + 1) (z := z) (u := mI u 1 (zI n)) hF mI_s hB hn
  have hsg := fun q (hq : n ≤ q) => sg_D (by' := s) hq
  have hsc := fun q c (hc : c < 1000) (hq : sg s n q = zI c) => sg_c (by' := s) hc hq
  have hX : ∀ x, x < e ∨ e + 13 ≤ x → ∀ (h : am_H) (T : mU × (Nat → Option Nat)) (u : mU), eH (tH h (e + 2) T) e (u, r) x = h x := fun x hx h T u => by
    rw [eH_x ⟨by omega, by omega, by omega, by omega⟩, tH_x (by omega)]
  have g0 : ∀ o, am_I X (am_f X (d + 6)) 9 14 [some (.ref e), some (.ref r), some (.int (zI n)), some (.ref q), none, none] [.int (fV (pFm F (sg s n) n F 0))] (eH (tH H (e + 2) T) e (u1, r), z) = o → am_f X (d + 7) 9 [.ref e, .ref r, .int (zI n), .ref q] (H, z) = o := fun o ho => by
    refine Eq.trans ?_ ho
    conv => lhs; rw [← hH]
    rw [fU_9]
    simp (disch := first | omega | exact Nat.le_of_ble_eq_true rfl | exact eH_ci | (refine eF_lt ?_; omega)) only [own_9, am_go dc_9_0, J_aload_0, K_al, ld_0, am_go dc_9_1, J_aload_1, ld_1, am_go dc_9_2, J_putfield_i, J_putfield_l, J_putfield_r, ini_9, pk_3_9_3, am_go dc_9_5, am_go dc_9_6, J_iload_2, K_il, ld_2, am_go dc_9_7, pk_3_31_3, am_go dc_9_10, am_go dc_9_11, cv_3_35_3 own_9, JR_v, JR_0, JR_ite, ci1_r, ep_0, pf_a pk_3_9_3 rfl, ep_1, pf_i pk_3_31_3 rfl, eg_4, eH_0, eH_10, eH_11, eH_12, ew_10, ew_11, ew_12, zI_add, zI_mul, zI_lt, zI_le, zI_eq, zI_neg, zI_pos, zI_ne0, zI_gt0, zB_0, lg_cmp_ge, lg_cmp_le, lg_cmp_gt, lg_cmp_lt, lg_cmp_eq, ail_r, abl_r, all_r, ais_r, abs_r, als_r, aal_r, aal_q, aln_r, vrf_s, vrf_n, z32, f1, mS_s, mS_o, mS_2, mI_1, mI_2, mI_s, mI_o, mI_I, mS_S, List.length_cons, List.length_nil, Nat.reduceAdd, Nat.reduceLT, Nat.reduceLeDiff, Nat.reduceEqDiff, ↓reduceIte, bind_s, if_true, if_false, not_true_eq_false, not_false_eq_true, Nat.zero_add]
  unfold tTx
  cases hp : pFm F (sg s n) n F 0 with
  | some q' =>
    have hq' := pFm_le hsg hsc F 0 q' (by omega) hp
    refine ⟨eH (tH H (e + 2) T) e (u1, r), z, Q, g0 _ ?_, fun x _ x2 _ => hX x x2 H T u1, by omega, fun x hx => ?_, ⟨u1, eH_is⟩, ⟨T, ?_, hw0⟩, ?_, fun k => (by cases k), fun _ => ⟨rfl, ?_⟩, Nat.le_refl _⟩
    · rw [hp, show fV (some q') = zI q' from rfl, am_go dc_9_14]
      simp (disch := first | omega | exact Nat.le_of_ble_eq_true rfl | exact eH_ci | (refine eF_lt ?_; omega)) only [own_9, am_go dc_9_0, J_aload_0, K_al, ld_0, am_go dc_9_1, J_aload_1, ld_1, am_go dc_9_2, J_putfield_i, J_putfield_l, J_putfield_r, ini_9, pk_3_9_3, am_go dc_9_5, am_go dc_9_6, J_iload_2, K_il, ld_2, am_go dc_9_7, pk_3_31_3, am_go dc_9_10, am_go dc_9_11, cv_3_35_3 own_9, JR_v, JR_0, JR_ite, ci1_r, J_istore, st1_0, st1_1, st1_s, kl_i, kl_l, kl_r, kl_n, am_go dc_9_16, J_iload, ld_4, am_go dc_9_18, J_if_lt, am_go dc_9_21, J_sipush, i16_m1000, am_go dc_9_24, am_go dc_9_26, J_isub, am_go dc_9_27, J_ret_i ret_9, am_go dc_9_28, am_go dc_9_29, J_getfield, gf_r, fk_3_18_3, am_go dc_9_32, J_aload_3, ld_3, am_go dc_9_33, am_go dc_9_36, am_go dc_9_37, cv_3_43_3 own_9, am_go dc_9_40, am_go dc_9_42, ld_5, am_go dc_9_44, J_if_le, am_go dc_9_47, am_go dc_9_48, am_go dc_9_49, am_go dc_9_52, am_go dc_9_55, am_go dc_9_57, ep_0, pf_a pk_3_9_3 rfl, ep_1, pf_i pk_3_31_3 rfl, eg_4, eH_0, eH_10, eH_11, eH_12, ew_10, ew_11, ew_12, zI_add, zI_mul, zI_lt, zI_le, zI_eq, zI_neg, zI_pos, zI_ne0, zI_gt0, zB_0, lg_cmp_ge, lg_cmp_le, lg_cmp_gt, lg_cmp_lt, lg_cmp_eq, ail_r, abl_r, all_r, ais_r, abs_r, als_r, aal_r, aal_q, aln_r, vrf_s, vrf_n, z32, List.length_cons, List.length_nil, Nat.reduceAdd, Nat.reduceLT, Nat.reduceLeDiff, Nat.reduceEqDiff, ↓reduceIte, bind_s, if_true, if_false, not_true_eq_false, not_false_eq_true, Nat.zero_add]
    · rw [hX x (by omega)]
      exact hz x hx
    · rw [te_c]
      exact tH_is
    · exact hQ.fr (fun x x1 x2 => hX x (by omega) H T u1) (fun x hx => hX x (hC x hx).1 H T u1) (fun x hx => Or.inl hx)
    · exact neg1 q' (by omega)
  | none =>
    have hbt := f3 hp
    subst hbt
    have hn0 : 0 < n := by
      obtain ⟨f, rfl⟩ : ∃ f, F = f + 1 := ⟨F - 1, by omega⟩
      have hk := pSt_k (F := f + 1) hsg hsc (show 0 ≤ n by omega)
      unfold pFm at hp
      by_cases k : (pSt (f + 1) (sg s n) 0).1 = true
      · have := (hk.2.2 k).1
        have := hk.2.1
        omega
      · rw [if_neg k] at hp
        cases hp
    -- the draft takes what is told
    have hQ1 : tSN C (eH H e (u1, r)) q Q S := hQ.fr (fun x x1 x2 => eH_x ⟨by omega, by omega, by omega, by omega⟩) (fun x hx => by
      have := (hC x hx).1
      exact eH_x ⟨by omega, by omega, by omega, by omega⟩) (fun x hx => hx)
    obtain ⟨T1, t1, t2⟩ := c_take (X := X) (h := eH H e (u1, r)) (t := e + 2) (d := d + 2) (z := z) (T := T) hQ1 (by omega) (fun x hx => by have := (hC x hx).1; omega) hw0
    rw [← te_c, ← te_c] at t1
    rw [← te_c] at t2
    have hci : am_ci1 ((eH (tH H (e + 2) T) e (u1, r), z).1 (e + 2)) = some 1 := by
      rw [te_c]
      exact tH_ci
    -- sense
    obtain ⟨h', T', u', z', C', S', s1, s2, s3, s4, s5, s6, s7⟩ := e_sense_l (X := X) (d := d) hF hn hr1 F 0 0 H T1 S C (mI u1 2 (zI 0)) z none hr hrz ⟨f2.1, mI_s, f2.2.2⟩ (by omega) (by omega) (by omega) (t2.eu (fun x hx => (hC x hx).1)) (fun x hx => (hC x hx).1) hez (fun x hx => by rw [hX x (by omega)]; exact hz x hx) (fun _ => ⟨F, hp⟩)
    have sen : am_f X (d + 6) 27 [.ref e] (eH (tH H (e + 2) T1) e (u1, r), z) = some (.inl (some (.int (sV (sLp F (sg s n) n F 0 0 S).1 (sLp F (sg s n) n F 0 0 S).2.1))), (eH (tH h' (e + 2) T') e (u', r), z')) := by
      refine Eq.trans ?_ s1
      rw [fU_27]
      simp (disch := first | omega | exact Nat.le_of_ble_eq_true rfl | exact eH_ci | (refine eF_lt ?_; omega)) only [own_27, am_go dc_27_0, J_iconst, c32_0, am_go dc_27_1, J_istore_1, st1_0, st1_1, st1_s, kl_i, kl_l, kl_r, kl_n, am_go dc_27_2, J_aload_0, K_al, ld_0, am_go dc_27_3, am_go dc_27_4, J_putfield_i, J_putfield_l, J_putfield_r, ini_27, pk_3_46_3, am_go dc_27_7, am_go dc_27_8, J_istore_2, ep_2, pf_i pk_3_46_3 rfl, eg_1, eg_2, eH_0, eH_10, eH_11, eH_12, ew_10, ew_11, ew_12, zI_add, zI_mul, zI_lt, zI_le, zI_eq, zI_neg, zI_pos, zI_ne0, zI_gt0, zB_0, lg_cmp_ge, lg_cmp_le, lg_cmp_gt, lg_cmp_lt, lg_cmp_eq, ail_r, abl_r, all_r, ais_r, abs_r, als_r, aal_r, aal_q, aln_r, vrf_s, vrf_n, z32, hci, mS_s, mS_o, mS_2, mI_1, mI_2, mI_s, mI_o, mI_I, mS_S, List.length_cons, List.length_nil, Nat.reduceAdd, Nat.reduceLT, Nat.reduceLeDiff, Nat.reduceEqDiff, ↓reduceIte, bind_s, if_true, if_false, not_true_eq_false, not_false_eq_true, Nat.zero_add]
    have hm5 := s5.1.m5
    have hiT' : isT (eH (tH h' (e + 2) T') e (u', r)) (e + 2) T' := s5.1.iT
    have hX' : ∀ x, x < z.1 → x < e ∨ e + 13 ≤ x → eH (tH h' (e + 2) T') e (u', r) x = H x := fun x x1 x2 => by
      rw [hX x x2, s2 x x1 (by omega)]
    have hQ2 : tSN (fun x => C x ∨ (z.1 ≤ x ∧ x < z'.1)) (eH (tH h' (e + 2) T') e (u', r)) q Q S := hQ.fr (fun x x1 x2 => hX' x (by omega) (by omega)) (fun x hx => hX' x (hCz x hx) (hC x hx).1) (fun x hx => Or.inl hx)
    have g1 : ∀ o, am_I X (am_f X (d + 6)) 9 40 [some (.ref e), some (.ref r), some (.int (zI n)), some (.ref q), some (.int (-4)), none] [.int (sV (sLp F (sg s n) n F 0 0 S).1 (sLp F (sg s n) n F 0 0 S).2.1)] (eH (tH h' (e + 2) T') e (u', r), z') = o → am_f X (d + 7) 9 [.ref e, .ref r, .int (zI n), .ref q] (H, z) = o := fun o ho => by
      refine g0 _ (Eq.trans ?_ ho)
      rw [hp, show fV none = -4 from rfl, am_go dc_9_14]
      simp (disch := first | omega | exact Nat.le_of_ble_eq_true rfl | exact eH_ci | (refine eF_lt ?_; omega) | exact hci) only [own_9, am_go dc_9_0, J_aload_0, K_al, ld_0, am_go dc_9_1, J_aload_1, ld_1, am_go dc_9_2, J_putfield_i, J_putfield_l, J_putfield_r, ini_9, pk_3_9_3, am_go dc_9_5, am_go dc_9_6, J_iload_2, K_il, ld_2, am_go dc_9_7, pk_3_31_3, am_go dc_9_10, am_go dc_9_11, cv_3_35_3 own_9, JR_v, JR_0, JR_ite, ci1_r, J_istore, st1_0, st1_1, st1_s, kl_i, kl_l, kl_r, kl_n, am_go dc_9_16, J_iload, ld_4, am_go dc_9_18, J_if_lt, am_go dc_9_21, J_sipush, i16_m1000, am_go dc_9_24, am_go dc_9_26, J_isub, am_go dc_9_27, J_ret_i ret_9, am_go dc_9_28, am_go dc_9_29, J_getfield, gf_r, fk_3_18_3, am_go dc_9_32, J_aload_3, ld_3, am_go dc_9_33, cv_3_39_1 own_9, am_go dc_9_36, am_go dc_9_37, cv_3_43_3 own_9, am_go dc_9_42, ld_5, am_go dc_9_44, J_if_le, am_go dc_9_47, am_go dc_9_48, am_go dc_9_49, am_go dc_9_52, am_go dc_9_55, am_go dc_9_57, ep_0, pf_a pk_3_9_3 rfl, ep_1, pf_i pk_3_31_3 rfl, eg_4, eH_0, eH_10, eH_11, eH_12, ew_10, ew_11, ew_12, zI_add, zI_mul, zI_lt, zI_le, zI_eq, zI_neg, zI_pos, zI_ne0, zI_gt0, zB_0, lg_cmp_ge, lg_cmp_le, lg_cmp_gt, lg_cmp_lt, lg_cmp_eq, ail_r, abl_r, all_r, ais_r, abs_r, als_r, aal_r, aal_q, aln_r, vrf_s, vrf_n, z32, m4_lt, t1, sen, List.length_cons, List.length_nil, Nat.reduceAdd, Nat.reduceLT, Nat.reduceLeDiff, Nat.reduceEqDiff, ↓reduceIte, bind_s, if_true, if_false, not_true_eq_false, not_false_eq_true, Nat.zero_add]
    cases hs : (sLp F (sg s n) n F 0 0 S).1 with
    | some q' =>
      have hq' := sLp_q _ _ _ _ _ hs
      have hle := neg2' q' (by omega)
      refine ⟨eH (tH h' (e + 2) T') e (u', r), z', Q, g1 _ ?_, fun x x1 x2 _ => hX' x x1 x2, by omega, s4, ⟨u', eH_is⟩, ⟨T', hiT', s5.w0⟩, hQ2, fun k => (by cases k), fun _ => ⟨rfl, neg2 q' (by omega)⟩, Nat.le_refl _⟩
      rw [hs, show sV (some q') (sLp F (sg s n) n F 0 0 S).2.1 = -2000 - zI q' from rfl, am_go dc_9_40]
      simp (disch := first | omega | exact Nat.le_of_ble_eq_true rfl | exact eH_ci | (refine eF_lt ?_; omega)) only [own_9, am_go dc_9_0, J_aload_0, K_al, ld_0, am_go dc_9_1, J_aload_1, ld_1, am_go dc_9_2, J_putfield_i, J_putfield_l, J_putfield_r, ini_9, pk_3_9_3, am_go dc_9_5, am_go dc_9_6, J_iload_2, K_il, ld_2, am_go dc_9_7, pk_3_31_3, am_go dc_9_10, am_go dc_9_11, cv_3_35_3 own_9, JR_v, JR_0, JR_ite, ci1_r, J_istore, st1_0, st1_1, st1_s, kl_i, kl_l, kl_r, kl_n, am_go dc_9_16, J_iload, ld_4, am_go dc_9_18, J_if_lt, am_go dc_9_21, J_sipush, i16_m1000, am_go dc_9_24, am_go dc_9_26, J_isub, am_go dc_9_27, J_ret_i ret_9, am_go dc_9_28, am_go dc_9_29, J_getfield, gf_r, fk_3_18_3, am_go dc_9_32, J_aload_3, ld_3, am_go dc_9_33, am_go dc_9_36, am_go dc_9_37, cv_3_43_3 own_9, am_go dc_9_42, ld_5, am_go dc_9_44, J_if_le, am_go dc_9_47, am_go dc_9_48, am_go dc_9_49, am_go dc_9_52, am_go dc_9_55, am_go dc_9_57, ep_0, pf_a pk_3_9_3 rfl, ep_1, pf_i pk_3_31_3 rfl, eg_4, eH_0, eH_10, eH_11, eH_12, ew_10, ew_11, ew_12, zI_add, zI_mul, zI_lt, zI_le, zI_eq, zI_neg, zI_pos, zI_ne0, zI_gt0, zB_0, lg_cmp_ge, lg_cmp_le, lg_cmp_gt, lg_cmp_lt, lg_cmp_eq, ail_r, abl_r, all_r, ais_r, abs_r, als_r, aal_r, aal_q, aln_r, vrf_s, vrf_n, z32, hle, List.length_cons, List.length_nil, Nat.reduceAdd, Nat.reduceLT, Nat.reduceLeDiff, Nat.reduceEqDiff, ↓reduceIte, bind_s, if_true, if_false, not_true_eq_false, not_false_eq_true, Nat.zero_add]
    | none =>
      obtain ⟨k1, k2, k3, k4⟩ := s7 hs
      have k5 := k4 hn0
      have hQi : isT (eH (tH h' (e + 2) T') e (u', r)) q Q := hQ2.1.iT
      have hov : tH (eH (tH h' (e + 2) T') e (u', r)) q Q = eH (tH h' (e + 2) T') e (u', r) := ov_eq hQi
      obtain ⟨Q', t3, t4⟩ := c_take (X := X) (h := eH (tH h' (e + 2) T') e (u', r)) (t := q) (d := d + 2) (z := z') (T := Q) s5 (by omega) (fun x hx => by
        rcases s6 x hx with k | k
        · exact (hC x k).2
        · omega) hQ.w0
      rw [hov] at t3
      have hci2 : am_ci1 ((eH (tH h' (e + 2) T') e (u', r), z').1 q) = some 1 := hQi.ci
      have hnp : ¬ (sLp F (sg s n) n F 0 0 S).2.1 ≤ 0 := by omega
      refine ⟨tH (eH (tH h' (e + 2) T') e (u', r)) q Q', z', Q', g1 _ ?_, fun x x1 x2 x3 => by rw [tH_x x3]; exact hX' x x1 x2, by omega, fun x hx => by rw [tH_x (by omega)]; exact s4 x hx, ⟨u', ?_⟩, ⟨T', hiT'.sep (by omega), s5.w0⟩, ?_, fun _ => ⟨(sLp F (sg s n) n F 0 0 S).2.1 - 1, by rw [Nat.sub_add_cancel (by omega)], by omega⟩, fun k => (by cases k), by rw [← k1]; exact s3.2.1⟩
      · rw [hs, show sV none (sLp F (sg s n) n F 0 0 S).2.1 = zI (sLp F (sg s n) n F 0 0 S).2.1 from rfl, am_go dc_9_40]
        simp (disch := first | omega | exact Nat.le_of_ble_eq_true rfl | exact eH_ci | (refine eF_lt ?_; omega) | exact hci2) only [own_9, am_go dc_9_0, J_aload_0, K_al, ld_0, am_go dc_9_1, J_aload_1, ld_1, am_go dc_9_2, J_putfield_i, J_putfield_l, J_putfield_r, ini_9, pk_3_9_3, am_go dc_9_5, am_go dc_9_6, J_iload_2, K_il, ld_2, am_go dc_9_7, pk_3_31_3, am_go dc_9_10, am_go dc_9_11, cv_3_35_3 own_9, JR_v, JR_0, JR_ite, ci1_r, J_istore, st1_0, st1_1, st1_s, kl_i, kl_l, kl_r, kl_n, am_go dc_9_16, J_iload, ld_4, am_go dc_9_18, J_if_lt, am_go dc_9_21, J_sipush, i16_m1000, am_go dc_9_24, am_go dc_9_26, J_isub, am_go dc_9_27, J_ret_i ret_9, am_go dc_9_28, am_go dc_9_29, J_getfield, gf_r, fk_3_18_3, am_go dc_9_32, J_aload_3, ld_3, am_go dc_9_33, cv_3_39_1 own_9, am_go dc_9_36, am_go dc_9_37, cv_3_43_3 own_9, am_go dc_9_42, ld_5, am_go dc_9_44, J_if_le, am_go dc_9_47, am_go dc_9_48, am_go dc_9_49, am_go dc_9_52, am_go dc_9_55, am_go dc_9_57, ep_0, pf_a pk_3_9_3 rfl, ep_1, pf_i pk_3_31_3 rfl, eg_4, eH_0, eH_10, eH_11, eH_12, ew_10, ew_11, ew_12, zI_add, zI_mul, zI_lt, zI_le, zI_eq, zI_neg, zI_pos, zI_ne0, zI_gt0, zB_0, lg_cmp_ge, lg_cmp_le, lg_cmp_gt, lg_cmp_lt, lg_cmp_eq, ail_r, abl_r, all_r, ais_r, abs_r, als_r, aal_r, aal_q, aln_r, vrf_s, vrf_n, z32, hnp, zI_le0, t3, List.length_cons, List.length_nil, Nat.reduceAdd, Nat.reduceLT, Nat.reduceLeDiff, Nat.reduceEqDiff, ↓reduceIte, bind_s, if_true, if_false, not_true_eq_false, not_false_eq_true, Nat.zero_add]
      · have : isE (eH (tH h' (e + 2) T') e (u', r)) e (u', r) := eH_is
        intro k ee hk
        have hkl : k = 0 ∨ k = 10 ∨ k = 11 ∨ k = 12 := by
          rcases Decidable.em (k = 0 ∨ k = 10 ∨ k = 11 ∨ k = 12) with w | w
          · exact w
          · rw [eC_n (by omega) (by omega) (by omega) (by omega)] at hk
            cases hk
        rw [tH_x (by omega)]
        exact this k ee hk
      · rw [← k1]
        refine t4.fr (fun _ _ _ => rfl) (fun _ _ => rfl) (fun x hx => ?_)
        exact s6 x hx
end RR
