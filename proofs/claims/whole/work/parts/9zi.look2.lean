/-! the face: more looks -/
section FB
variable {X : am_X} {o k : Nat} {H : am_H} {z : Nat × Nat} {u : mU}
theorem qIs_b {y : Int32} {n : Nat} (hn : n < 1000000) (h : qIs y (n + 1) = false) : y < 0 ∨ (¬ y < 0 ∧ ¬ y ≤ zI n) := by
  by_cases c : y < 0
  · exact Or.inl c
  · refine Or.inr ⟨c, fun c2 => ?_⟩
    have h1 : (0 : Int) ≤ y.toInt := by
      have := mt Int32.lt_iff_toInt_lt.mpr c
      have e0 : (0 : Int32).toInt = 0 := rfl
      omega
    have h2 := Int32.le_iff_toInt_le.mp c2
    rw [zI_toInt (by omega)] at h2
    have : qIs y (n + 1) = true := by
      unfold qIs
      rw [Bool.and_eq_true, decide_eq_true_eq, decide_eq_true_eq]
      refine ⟨?_, ?_⟩
      · rw [Int32.le_iff_toInt_le]
        exact h1
      · show y.toInt.toNat < n + 1
        omega
    rw [this] at h
    cases h
theorem fo_app {α : Type} {f : Nat → α → α} : ∀ (k l i : Nat) (s : α), fo f i (k + l) s = fo f (i + k) l (fo f i k s)
  | 0, l, i, s => by rw [Nat.zero_add]; rfl
  | k + 1, l, i, s => by
    rw [show k + 1 + l = (k + l) + 1 by omega]
    show fo f (i + 1) (k + l) (f i s) = fo f (i + (k + 1)) l (fo f (i + 1) k (f i s))
    rw [fo_app k l (i + 1), show i + 1 + k = i + (k + 1) by omega]
theorem x_has {C : Nat → Prop} {D T : mU × (Nat → Option Nat)} {P : mU} {S : Nat → Int32} {Q d : Nat} (hX : isX H o D) (hS : tS C H (o + 1) T S) (hP : isP H (o + 9) P) (hpS : pS P S) (hL : qPl S) (hr : rOk T S Q) : am_f X (d + 3) 89 [.ref o] (H, z) = some (.inl (some (.int (qHas S))), (H, z)) := by
  have hT := hS.iT
  have hQ := hr.2.2.1
  have kr : am_f X (d + 2) 90 [.ref (o + 9), .ref (o + 1)] (H, z) = _ := p_rank (X := X) (d := d) (z := z) hS hP hpS hL
  obtain ⟨erk, rlt, ehas, -⟩ := lk_rk hr hS.2.1 qRw.rf hL
  rw [erk] at kr
  rw [fU_89]
  simp (disch := first | omega | exact Nat.le_of_ble_eq_true rfl | exact hX.ci | exact hT.ci | exact hP.ci | exact hX.ci | exact hT.ci | exact hP.ci | (refine xF_lt ?_; omega) | (refine tF_lt ?_; omega) | (refine pF_lt ?_; omega)) only [own_89, am_go dc_89_0, J_aload_0, K_al, ld_0, am_go dc_89_1, J_getfield, gf_r, fk_0_12_0, am_go dc_89_4, fk_0_319_1, am_go dc_89_7, am_go dc_89_8, fk_0_19_0, am_go dc_89_11, am_go dc_89_12, am_go dc_89_15, cv_0_198_2 own_89, JR_v, JR_0, JR_ite, ci1_r, am_go dc_89_18, J_iaload, am_go dc_89_19, J_ret_i ret_89, xg_0, tg_4, xg_1, hX.c0, hX.c53, hX.c54, hX.c55, hX.c64, hX.c65, hT.c0, hT.c1, hT.c2, hT.c3, hT.c4, hT.c5, hT.c6, hT.c7, hP.c0, hP.c1, hP.c2, hP.c3, hP.c4, zI_add, zI_mul, zI_lt, zI_le, zI_eq, zI_neg, zI_pos, zI_ne0, zI_gt0, zB_0, lg_cmp_ge, lg_cmp_le, lg_cmp_gt, lg_cmp_lt, lg_cmp_eq, ail_r, abl_r, all_r, ais_r, abs_r, als_r, aal_r, aal_q, aln_r, vrf_s, vrf_n, z32, kr, ehas, List.length_cons, List.length_nil, Nat.reduceAdd, Nat.reduceLT, Nat.reduceLeDiff, Nat.reduceEqDiff, ↓reduceIte, bind_s, if_true, if_false, not_true_eq_false, not_false_eq_true, Nat.zero_add]
theorem f_at (hK : gK o k H z u) (hM : cM H (o + 66) u) (hF : mFr u) {x : Int32} : gR X o k 95 230 [.int x] H z u := by
  obtain ⟨C, D, T, P, Q, lu, m, a, N, hX, hTN, hP, hpS, hI, hpl, hr, hkn, hLH, hlow, hre⟩ := g_plan hK
  have hS := hTN.1
  have hT := hS.iT
  have hN := hTN.2.1
  have hG := hI.1
  have hL := hI.pl
  have hq := hI.qw
  have hm5 := hG.m.2
  have hsz := hS.sz
  have hbl := hS.bell
  have kp : am_f X 999 71 [.ref (o + 9), .ref (o + 1)] (H, z) = _ := p_packed (X := X) (d := 997) (z := z) hS hP hpS hL
  have kha : am_f X 999 89 [.ref o] (H, z) = _ := x_has (X := X) (d := 996) hX hS hP hpS hL hr
  have kd : am_f X 999 96 [.ref (o + 9)] (H, z) = _ := p_digits (X := X) (d := 998) (z := z) hP hpS
  have ko : am_f X 999 76 [.ref (o + 1), .int (zI (pk (qDg (u.1 1))))] (H, z) = _ := c_openOnes (X := X) (d := 997) (z := z) hS qDg_ok
  have ks : am_f X 999 78 [.ref (o + 1), .int (cOO (u.1 1) (qDg (u.1 1)))] (H, z) = _ := c_spentOn (X := X) (d := 998) (z := z) hS
  rw [lk_sp qRw.rf hL hm5] at ks
  have hac := hpS.2.1
  cases hx : qIs x 4 with
  | false =>
    have cc : am_f X 1000 95 [.ref o, .int x] (H, z) = some (.inl (some (.int (-1))), (H, z)) := by
      show am_f X (999 + 1) 95 _ _ = _
      rw [fU_95]
      simp (disch := first | omega | exact Nat.le_of_ble_eq_true rfl | exact hX.ci | exact hT.ci | exact hP.ci | exact hX.ci | exact hT.ci | exact hP.ci | (refine xF_lt ?_; omega) | (refine tF_lt ?_; omega) | (refine pF_lt ?_; omega)) only [own_95, am_go dc_95_0, J_iload_1, K_il, ld_1, am_go dc_95_1, sw_95_1_0, sw_95_1_1, sw_95_1_2, sw_95_1_3, am_go dc_95_32, J_aload_0, K_al, ld_0, am_go dc_95_33, J_getfield, gf_r, fk_0_19_0, am_go dc_95_36, cv_0_171_2 own_95, JR_v, JR_0, JR_ite, ci1_r, am_go dc_95_39, J_ret_i ret_95, am_go dc_95_40, am_go dc_95_41, cv_0_159_0 own_95, am_go dc_95_44, am_go dc_95_45, am_go dc_95_46, fk_0_12_0, am_go dc_95_49, am_go dc_95_50, am_go dc_95_53, am_go dc_95_54, am_go dc_95_57, am_go dc_95_58, am_go dc_95_61, cv_0_142_2 own_95, am_go dc_95_64, cv_0_174_1 own_95, am_go dc_95_67, cv_0_178_1 own_95, am_go dc_95_70, am_go dc_95_71, am_go dc_95_72, am_go dc_95_75, fk_0_165_2, am_go dc_95_78, am_go dc_95_79, J_iconst, i32_m1, am_go dc_95_80, xg_1, xg_0, pg_4, hX.c0, hX.c53, hX.c54, hX.c55, hX.c64, hX.c65, hT.c0, hT.c1, hT.c2, hT.c3, hT.c4, hT.c5, hT.c6, hT.c7, hP.c0, hP.c1, hP.c2, hP.c3, hP.c4, zI_add, zI_mul, zI_lt, zI_le, zI_eq, zI_neg, zI_pos, zI_ne0, zI_gt0, zB_0, lg_cmp_ge, lg_cmp_le, lg_cmp_gt, lg_cmp_lt, lg_cmp_eq, ail_r, abl_r, all_r, ais_r, abs_r, als_r, aal_r, aal_q, aln_r, vrf_s, vrf_n, z32, sd_95_1 hx, Bool.true_eq_false, Bool.false_eq_true, zB_t, zB_f, i8_m3, i8_m4, rwF_v, List.length_cons, List.length_nil, Nat.reduceAdd, Nat.reduceLT, Nat.reduceLeDiff, Nat.reduceEqDiff, ↓reduceIte, bind_s, if_true, if_false, not_true_eq_false, not_false_eq_true, Nat.zero_add]
    have cr : am_f X 1000 230 [.ref (o + 66), .int x] (mH H (o + 66) u, z) = _ := r_at_n (X := X) (d := 999) (h := H) (z := z) hx
    exact gR_id hK hM cc cr mQ.rf hF
  | true =>
    obtain ⟨e1, e2⟩ := qIs_get hx
    generalize wN x = b at *
    subst e1
    rcases (by omega : b = 0 ∨ b = 1 ∨ b = 2 ∨ b = 3) with rfl | rfl | rfl | rfl
    · have cc : am_f X 1000 95 [.ref o, .int (zI 0)] (H, z) = some (.inl (some (.int (q5 (u.1 1) 5 (zI 0)))), (H, z)) := by
        show am_f X (999 + 1) 95 _ _ = _
        rw [fU_95]
        simp (disch := first | omega | exact Nat.le_of_ble_eq_true rfl | exact hX.ci | exact hT.ci | exact hP.ci | exact hX.ci | exact hT.ci | exact hP.ci | (refine xF_lt ?_; omega) | (refine tF_lt ?_; omega) | (refine pF_lt ?_; omega)) only [own_95, am_go dc_95_0, J_iload_1, K_il, ld_1, am_go dc_95_1, sw_95_1_0, sw_95_1_1, sw_95_1_2, sw_95_1_3, am_go dc_95_32, J_aload_0, K_al, ld_0, am_go dc_95_33, J_getfield, gf_r, fk_0_19_0, am_go dc_95_36, cv_0_171_2 own_95, JR_v, JR_0, JR_ite, ci1_r, am_go dc_95_39, J_ret_i ret_95, am_go dc_95_40, am_go dc_95_41, cv_0_159_0 own_95, am_go dc_95_44, am_go dc_95_45, am_go dc_95_46, fk_0_12_0, am_go dc_95_49, am_go dc_95_50, am_go dc_95_53, am_go dc_95_54, am_go dc_95_57, am_go dc_95_58, am_go dc_95_61, cv_0_142_2 own_95, am_go dc_95_64, cv_0_174_1 own_95, am_go dc_95_67, cv_0_178_1 own_95, am_go dc_95_70, am_go dc_95_71, am_go dc_95_72, am_go dc_95_75, fk_0_165_2, am_go dc_95_78, am_go dc_95_79, J_iconst, i32_m1, am_go dc_95_80, xg_1, xg_0, pg_4, hX.c0, hX.c53, hX.c54, hX.c55, hX.c64, hX.c65, hT.c0, hT.c1, hT.c2, hT.c3, hT.c4, hT.c5, hT.c6, hT.c7, hP.c0, hP.c1, hP.c2, hP.c3, hP.c4, zI_add, zI_mul, zI_lt, zI_le, zI_eq, zI_neg, zI_pos, zI_ne0, zI_gt0, zB_0, lg_cmp_ge, lg_cmp_le, lg_cmp_gt, lg_cmp_lt, lg_cmp_eq, ail_r, abl_r, all_r, ais_r, abs_r, als_r, aal_r, aal_q, aln_r, vrf_s, vrf_n, z32, kd, Bool.true_eq_false, Bool.false_eq_true, zB_t, zB_f, i8_m3, i8_m4, rwF_v, List.length_cons, List.length_nil, Nat.reduceAdd, Nat.reduceLT, Nat.reduceLeDiff, Nat.reduceEqDiff, ↓reduceIte, bind_s, if_true, if_false, not_true_eq_false, not_false_eq_true, Nat.zero_add]
      have cr : am_f X 1000 230 [.ref (o + 66), .int (zI 0)] (mH H (o + 66) u, z) = _ := r_at_0 (X := X) (d := 997) (h := H) (z := z)
      exact gR_id hK hM cc cr mQ.rf hF
    · have cc : am_f X 1000 95 [.ref o, .int (zI 1)] (H, z) = some (.inl (some (.int (qHas (u.1 1)))), (H, z)) := by
        show am_f X (999 + 1) 95 _ _ = _
        rw [fU_95]
        simp (disch := first | omega | exact Nat.le_of_ble_eq_true rfl | exact hX.ci | exact hT.ci | exact hP.ci | exact hX.ci | exact hT.ci | exact hP.ci | (refine xF_lt ?_; omega) | (refine tF_lt ?_; omega) | (refine pF_lt ?_; omega)) only [own_95, am_go dc_95_0, J_iload_1, K_il, ld_1, am_go dc_95_1, sw_95_1_0, sw_95_1_1, sw_95_1_2, sw_95_1_3, am_go dc_95_32, J_aload_0, K_al, ld_0, am_go dc_95_33, J_getfield, gf_r, fk_0_19_0, am_go dc_95_36, cv_0_171_2 own_95, JR_v, JR_0, JR_ite, ci1_r, am_go dc_95_39, J_ret_i ret_95, am_go dc_95_40, am_go dc_95_41, cv_0_159_0 own_95, am_go dc_95_44, am_go dc_95_45, am_go dc_95_46, fk_0_12_0, am_go dc_95_49, am_go dc_95_50, am_go dc_95_53, am_go dc_95_54, am_go dc_95_57, am_go dc_95_58, am_go dc_95_61, cv_0_142_2 own_95, am_go dc_95_64, cv_0_174_1 own_95, am_go dc_95_67, cv_0_178_1 own_95, am_go dc_95_70, am_go dc_95_71, am_go dc_95_72, am_go dc_95_75, fk_0_165_2, am_go dc_95_78, am_go dc_95_79, J_iconst, i32_m1, am_go dc_95_80, xg_1, xg_0, pg_4, hX.c0, hX.c53, hX.c54, hX.c55, hX.c64, hX.c65, hT.c0, hT.c1, hT.c2, hT.c3, hT.c4, hT.c5, hT.c6, hT.c7, hP.c0, hP.c1, hP.c2, hP.c3, hP.c4, zI_add, zI_mul, zI_lt, zI_le, zI_eq, zI_neg, zI_pos, zI_ne0, zI_gt0, zB_0, lg_cmp_ge, lg_cmp_le, lg_cmp_gt, lg_cmp_lt, lg_cmp_eq, ail_r, abl_r, all_r, ais_r, abs_r, als_r, aal_r, aal_q, aln_r, vrf_s, vrf_n, z32, kha, Bool.true_eq_false, Bool.false_eq_true, zB_t, zB_f, i8_m3, i8_m4, rwF_v, List.length_cons, List.length_nil, Nat.reduceAdd, Nat.reduceLT, Nat.reduceLeDiff, Nat.reduceEqDiff, ↓reduceIte, bind_s, if_true, if_false, not_true_eq_false, not_false_eq_true, Nat.zero_add]
      have cr : am_f X 1000 230 [.ref (o + 66), .int (zI 1)] (mH H (o + 66) u, z) = _ := r_at_1 (X := X) (d := 996) (h := H) (z := z) hq
      exact gR_id hK hM cc cr mQ.rf hF
    · have cc : am_f X 1000 95 [.ref o, .int (zI 2)] (H, z) = some (.inl (some (.int (qSpent (u.1 1)))), (H, z)) := by
        show am_f X (999 + 1) 95 _ _ = _
        rw [fU_95]
        simp (disch := first | omega | exact Nat.le_of_ble_eq_true rfl | exact hX.ci | exact hT.ci | exact hP.ci | exact hX.ci | exact hT.ci | exact hP.ci | (refine xF_lt ?_; omega) | (refine tF_lt ?_; omega) | (refine pF_lt ?_; omega)) only [own_95, am_go dc_95_0, J_iload_1, K_il, ld_1, am_go dc_95_1, sw_95_1_0, sw_95_1_1, sw_95_1_2, sw_95_1_3, am_go dc_95_32, J_aload_0, K_al, ld_0, am_go dc_95_33, J_getfield, gf_r, fk_0_19_0, am_go dc_95_36, cv_0_171_2 own_95, JR_v, JR_0, JR_ite, ci1_r, am_go dc_95_39, J_ret_i ret_95, am_go dc_95_40, am_go dc_95_41, cv_0_159_0 own_95, am_go dc_95_44, am_go dc_95_45, am_go dc_95_46, fk_0_12_0, am_go dc_95_49, am_go dc_95_50, am_go dc_95_53, am_go dc_95_54, am_go dc_95_57, am_go dc_95_58, am_go dc_95_61, cv_0_142_2 own_95, am_go dc_95_64, cv_0_174_1 own_95, am_go dc_95_67, cv_0_178_1 own_95, am_go dc_95_70, am_go dc_95_71, am_go dc_95_72, am_go dc_95_75, fk_0_165_2, am_go dc_95_78, am_go dc_95_79, J_iconst, i32_m1, am_go dc_95_80, xg_1, xg_0, pg_4, hX.c0, hX.c53, hX.c54, hX.c55, hX.c64, hX.c65, hT.c0, hT.c1, hT.c2, hT.c3, hT.c4, hT.c5, hT.c6, hT.c7, hP.c0, hP.c1, hP.c2, hP.c3, hP.c4, zI_add, zI_mul, zI_lt, zI_le, zI_eq, zI_neg, zI_pos, zI_ne0, zI_gt0, zB_0, lg_cmp_ge, lg_cmp_le, lg_cmp_gt, lg_cmp_lt, lg_cmp_eq, ail_r, abl_r, all_r, ais_r, abs_r, als_r, aal_r, aal_q, aln_r, vrf_s, vrf_n, z32, kp, ko, ks, Bool.true_eq_false, Bool.false_eq_true, zB_t, zB_f, i8_m3, i8_m4, rwF_v, List.length_cons, List.length_nil, Nat.reduceAdd, Nat.reduceLT, Nat.reduceLeDiff, Nat.reduceEqDiff, ↓reduceIte, bind_s, if_true, if_false, not_true_eq_false, not_false_eq_true, Nat.zero_add]
      have cr : am_f X 1000 230 [.ref (o + 66), .int (zI 2)] (mH H (o + 66) u, z) = _ := r_at_2 (X := X) (d := 997) (h := H) (z := z) hq
      exact gR_id hK hM cc cr mQ.rf hF
    · have cc : am_f X 1000 95 [.ref o, .int (zI 3)] (H, z) = some (.inl (some (.int (u.1 1 115))), (H, z)) := by
        show am_f X (999 + 1) 95 _ _ = _
        rw [fU_95]
        simp (disch := first | omega | exact Nat.le_of_ble_eq_true rfl | exact hX.ci | exact hT.ci | exact hP.ci | exact hX.ci | exact hT.ci | exact hP.ci | (refine xF_lt ?_; omega) | (refine tF_lt ?_; omega) | (refine pF_lt ?_; omega)) only [own_95, am_go dc_95_0, J_iload_1, K_il, ld_1, am_go dc_95_1, sw_95_1_0, sw_95_1_1, sw_95_1_2, sw_95_1_3, am_go dc_95_32, J_aload_0, K_al, ld_0, am_go dc_95_33, J_getfield, gf_r, fk_0_19_0, am_go dc_95_36, cv_0_171_2 own_95, JR_v, JR_0, JR_ite, ci1_r, am_go dc_95_39, J_ret_i ret_95, am_go dc_95_40, am_go dc_95_41, cv_0_159_0 own_95, am_go dc_95_44, am_go dc_95_45, am_go dc_95_46, fk_0_12_0, am_go dc_95_49, am_go dc_95_50, am_go dc_95_53, am_go dc_95_54, am_go dc_95_57, am_go dc_95_58, am_go dc_95_61, cv_0_142_2 own_95, am_go dc_95_64, cv_0_174_1 own_95, am_go dc_95_67, cv_0_178_1 own_95, am_go dc_95_70, am_go dc_95_71, am_go dc_95_72, am_go dc_95_75, fk_0_165_2, am_go dc_95_78, am_go dc_95_79, J_iconst, i32_m1, am_go dc_95_80, xg_1, xg_0, pg_4, hX.c0, hX.c53, hX.c54, hX.c55, hX.c64, hX.c65, hT.c0, hT.c1, hT.c2, hT.c3, hT.c4, hT.c5, hT.c6, hT.c7, hP.c0, hP.c1, hP.c2, hP.c3, hP.c4, zI_add, zI_mul, zI_lt, zI_le, zI_eq, zI_neg, zI_pos, zI_ne0, zI_gt0, zB_0, lg_cmp_ge, lg_cmp_le, lg_cmp_gt, lg_cmp_lt, lg_cmp_eq, ail_r, abl_r, all_r, ais_r, abs_r, als_r, aal_r, aal_q, aln_r, vrf_s, vrf_n, z32, hac, Bool.true_eq_false, Bool.false_eq_true, zB_t, zB_f, i8_m3, i8_m4, rwF_v, List.length_cons, List.length_nil, Nat.reduceAdd, Nat.reduceLT, Nat.reduceLeDiff, Nat.reduceEqDiff, ↓reduceIte, bind_s, if_true, if_false, not_true_eq_false, not_false_eq_true, Nat.zero_add]
      have cr : am_f X 1000 230 [.ref (o + 66), .int (zI 3)] (mH H (o + 66) u, z) = _ := r_at_3 (X := X) (d := 999) (h := H) (z := z)
      exact gR_id hK hM cc cr mQ.rf hF
theorem f_number (hK : gK o k H z u) (hM : cM H (o + 66) u) (hF : mFr u) {x y : Int32} : gR X o k 100 234 [.int x, .int y] H z u := by
  obtain ⟨C, D, T, P, Q, lu, m, a, N, hX, hTN, hP, hpS, hI, hpl, hr, hkn, hLH, hlow, hre⟩ := g_plan hK
  have hS := hTN.1
  have hT := hS.iT
  have hN := hTN.2.1
  have hG := hI.1
  have hL := hI.pl
  have hq := hI.qw
  have hm5 := hG.m.2
  have hsz := hS.sz
  have hbl := hS.bell
  have kp : am_f X 999 71 [.ref (o + 9), .ref (o + 1)] (H, z) = _ := p_packed (X := X) (d := 997) (z := z) hS hP hpS hL
  have kh : am_f X 999 32 [.ref (o + 1), .int (x)] (H, z) = _ := c_has (X := X) (d := 998) (z := z) hS
  have cj : (-4611686018427387904 : Int64) = -4611686018427387904 := rfl
  cases hx : qIs x (wN (u.1 1 116)) with
  | false =>
    rw [hx] at kh
    have cc : am_f X 1000 100 [.ref o, .int x, .int y] (H, z) = some (.inl (some (.long (-4611686018427387904))), (H, z)) := by
      show am_f X (999 + 1) 100 _ _ = _
      rw [fU_100]
      simp (disch := first | omega | exact Nat.le_of_ble_eq_true rfl | exact hX.ci | exact hT.ci | exact hP.ci | exact hX.ci | exact hT.ci | exact hP.ci | (refine xF_lt ?_; omega) | (refine tF_lt ?_; omega) | (refine pF_lt ?_; omega)) only [own_100, am_go dc_100_0, J_aload_0, K_al, ld_0, am_go dc_100_1, J_getfield, gf_r, fk_0_12_0, am_go dc_100_4, J_iload_1, K_il, ld_1, am_go dc_100_5, cv_0_94_1 own_100, JR_v, JR_0, JR_ite, ci1_r, am_go dc_100_8, J_if_eq, am_go dc_100_11, J_iload_2, ld_2, am_go dc_100_12, J_if_lt, am_go dc_100_15, am_go dc_100_16, J_iconst, c32_1, am_go dc_100_17, J_icmp_le, am_go dc_100_20, J_ldc2, cj_0_185, am_go dc_100_23, J_ret_l ret_100, am_go dc_100_24, am_go dc_100_25, am_go dc_100_28, am_go dc_100_29, fk_0_19_0, am_go dc_100_32, am_go dc_100_33, am_go dc_100_36, cv_0_142_2 own_100, am_go dc_100_39, am_go dc_100_40, cv_0_187_1 own_100, am_go dc_100_43, J_istore_3, st1_0, st1_1, st1_s, kl_i, kl_l, kl_r, kl_n, am_go dc_100_44, am_go dc_100_45, J_if_ne, am_go dc_100_48, am_go dc_100_49, am_go dc_100_52, fk_0_191_1, am_go dc_100_55, J_iload_3, ld_3, am_go dc_100_56, J_laload, am_go dc_100_57, J_goto, am_go dc_100_60, am_go dc_100_61, am_go dc_100_64, fk_0_195_1, am_go dc_100_67, am_go dc_100_68, am_go dc_100_69, xg_0, xg_1, tg_8, tg_9, hX.c0, hX.c53, hX.c54, hX.c55, hX.c64, hX.c65, hT.c0, hT.c1, hT.c2, hT.c3, hT.c4, hT.c5, hT.c6, hT.c7, hP.c0, hP.c1, hP.c2, hP.c3, hP.c4, zI_add, zI_mul, zI_lt, zI_le, zI_eq, zI_neg, zI_pos, zI_ne0, zI_gt0, zB_0, lg_cmp_ge, lg_cmp_le, lg_cmp_gt, lg_cmp_lt, lg_cmp_eq, ail_r, abl_r, all_r, ais_r, abs_r, als_r, aal_r, aal_q, aln_r, vrf_s, vrf_n, z32, kh, Bool.true_eq_false, Bool.false_eq_true, zB_t, zB_f, i32_m1, i8_m3, i8_m4, rwF_v, List.length_cons, List.length_nil, Nat.reduceAdd, Nat.reduceLT, Nat.reduceLeDiff, Nat.reduceEqDiff, ↓reduceIte, bind_s, if_true, if_false, not_true_eq_false, not_false_eq_true, Nat.zero_add]
    have cr : am_f X 1000 234 [.ref (o + 66), .int x, .int y] (mH H (o + 66) u, z) = _ := r_number_n (X := X) (d := 997) (h := H) (z := z) hq hx
    exact gR_id hK hM cc cr mQ.rf hF
  | true =>
    obtain ⟨e1, e2⟩ := qIs_get hx
    generalize wN x = b at *
    subst e1
    rw [hx] at kh
    have kn : am_f X 999 101 [.ref (o + 1), .int (zI (pk (qDg (u.1 1)))), .int (zI b)] (H, z) = _ := c_numberAt (X := X) (d := 997) (z := z) hS qDg_ok e2
    obtain ⟨n1, n2⟩ := lk_nb hG qRw.rf hL hN e2
    have hnw : nbW (u.1 1) (qDg (u.1 1)) b < 10 := by
      unfold nbW
      split <;> omega
    change am_f X 999 101 [.ref (o + 1), .int (zI (pk (qDg (u.1 1)))), .int (zI b)] (H, z) = some (.inl (some (.int (zI (nbW (u.1 1) (qDg (u.1 1)) b)))), (H, z)) at kn
    cases hy : qIs y 2 with
    | false =>
      have cr : am_f X 1000 234 [.ref (o + 66), .int (zI b), .int y] (mH H (o + 66) u, z) = _ := r_number_m (X := X) (d := 997) (h := H) (z := z) hq e2 hy
      rcases qIs_b (n := 1) (by omega) hy with q | ⟨q1, q2⟩
      · have cc : am_f X 1000 100 [.ref o, .int (zI b), .int y] (H, z) = some (.inl (some (.long (-4611686018427387904))), (H, z)) := by
          show am_f X (999 + 1) 100 _ _ = _
          rw [fU_100]
          simp (disch := first | omega | exact Nat.le_of_ble_eq_true rfl | exact hX.ci | exact hT.ci | exact hP.ci | exact hX.ci | exact hT.ci | exact hP.ci | (refine xF_lt ?_; omega) | (refine tF_lt ?_; omega) | (refine pF_lt ?_; omega)) only [own_100, am_go dc_100_0, J_aload_0, K_al, ld_0, am_go dc_100_1, J_getfield, gf_r, fk_0_12_0, am_go dc_100_4, J_iload_1, K_il, ld_1, am_go dc_100_5, cv_0_94_1 own_100, JR_v, JR_0, JR_ite, ci1_r, am_go dc_100_8, J_if_eq, am_go dc_100_11, J_iload_2, ld_2, am_go dc_100_12, J_if_lt, am_go dc_100_15, am_go dc_100_16, J_iconst, c32_1, am_go dc_100_17, J_icmp_le, am_go dc_100_20, J_ldc2, cj_0_185, am_go dc_100_23, J_ret_l ret_100, am_go dc_100_24, am_go dc_100_25, am_go dc_100_28, am_go dc_100_29, fk_0_19_0, am_go dc_100_32, am_go dc_100_33, am_go dc_100_36, cv_0_142_2 own_100, am_go dc_100_39, am_go dc_100_40, cv_0_187_1 own_100, am_go dc_100_43, J_istore_3, st1_0, st1_1, st1_s, kl_i, kl_l, kl_r, kl_n, am_go dc_100_44, am_go dc_100_45, J_if_ne, am_go dc_100_48, am_go dc_100_49, am_go dc_100_52, fk_0_191_1, am_go dc_100_55, J_iload_3, ld_3, am_go dc_100_56, J_laload, am_go dc_100_57, J_goto, am_go dc_100_60, am_go dc_100_61, am_go dc_100_64, fk_0_195_1, am_go dc_100_67, am_go dc_100_68, am_go dc_100_69, xg_0, xg_1, tg_8, tg_9, hX.c0, hX.c53, hX.c54, hX.c55, hX.c64, hX.c65, hT.c0, hT.c1, hT.c2, hT.c3, hT.c4, hT.c5, hT.c6, hT.c7, hP.c0, hP.c1, hP.c2, hP.c3, hP.c4, zI_add, zI_mul, zI_lt, zI_le, zI_eq, zI_neg, zI_pos, zI_ne0, zI_gt0, zB_0, lg_cmp_ge, lg_cmp_le, lg_cmp_gt, lg_cmp_lt, lg_cmp_eq, ail_r, abl_r, all_r, ais_r, abs_r, als_r, aal_r, aal_q, aln_r, vrf_s, vrf_n, z32, kh, q, Bool.true_eq_false, Bool.false_eq_true, zB_t, zB_f, i32_m1, i8_m3, i8_m4, rwF_v, List.length_cons, List.length_nil, Nat.reduceAdd, Nat.reduceLT, Nat.reduceLeDiff, Nat.reduceEqDiff, ↓reduceIte, bind_s, if_true, if_false, not_true_eq_false, not_false_eq_true, Nat.zero_add]
        exact gR_id hK hM cc cr mQ.rf hF
      · have cc : am_f X 1000 100 [.ref o, .int (zI b), .int y] (H, z) = some (.inl (some (.long (-4611686018427387904))), (H, z)) := by
          show am_f X (999 + 1) 100 _ _ = _
          rw [fU_100]
          simp (disch := first | omega | exact Nat.le_of_ble_eq_true rfl | exact hX.ci | exact hT.ci | exact hP.ci | exact hX.ci | exact hT.ci | exact hP.ci | (refine xF_lt ?_; omega) | (refine tF_lt ?_; omega) | (refine pF_lt ?_; omega)) only [own_100, am_go dc_100_0, J_aload_0, K_al, ld_0, am_go dc_100_1, J_getfield, gf_r, fk_0_12_0, am_go dc_100_4, J_iload_1, K_il, ld_1, am_go dc_100_5, cv_0_94_1 own_100, JR_v, JR_0, JR_ite, ci1_r, am_go dc_100_8, J_if_eq, am_go dc_100_11, J_iload_2, ld_2, am_go dc_100_12, J_if_lt, am_go dc_100_15, am_go dc_100_16, J_iconst, c32_1, am_go dc_100_17, J_icmp_le, am_go dc_100_20, J_ldc2, cj_0_185, am_go dc_100_23, J_ret_l ret_100, am_go dc_100_24, am_go dc_100_25, am_go dc_100_28, am_go dc_100_29, fk_0_19_0, am_go dc_100_32, am_go dc_100_33, am_go dc_100_36, cv_0_142_2 own_100, am_go dc_100_39, am_go dc_100_40, cv_0_187_1 own_100, am_go dc_100_43, J_istore_3, st1_0, st1_1, st1_s, kl_i, kl_l, kl_r, kl_n, am_go dc_100_44, am_go dc_100_45, J_if_ne, am_go dc_100_48, am_go dc_100_49, am_go dc_100_52, fk_0_191_1, am_go dc_100_55, J_iload_3, ld_3, am_go dc_100_56, J_laload, am_go dc_100_57, J_goto, am_go dc_100_60, am_go dc_100_61, am_go dc_100_64, fk_0_195_1, am_go dc_100_67, am_go dc_100_68, am_go dc_100_69, xg_0, xg_1, tg_8, tg_9, hX.c0, hX.c53, hX.c54, hX.c55, hX.c64, hX.c65, hT.c0, hT.c1, hT.c2, hT.c3, hT.c4, hT.c5, hT.c6, hT.c7, hP.c0, hP.c1, hP.c2, hP.c3, hP.c4, zI_add, zI_mul, zI_lt, zI_le, zI_eq, zI_neg, zI_pos, zI_ne0, zI_gt0, zB_0, lg_cmp_ge, lg_cmp_le, lg_cmp_gt, lg_cmp_lt, lg_cmp_eq, ail_r, abl_r, all_r, ais_r, abs_r, als_r, aal_r, aal_q, aln_r, vrf_s, vrf_n, z32, kh, q1, q2, Bool.true_eq_false, Bool.false_eq_true, zB_t, zB_f, i32_m1, i8_m3, i8_m4, rwF_v, List.length_cons, List.length_nil, Nat.reduceAdd, Nat.reduceLT, Nat.reduceLeDiff, Nat.reduceEqDiff, ↓reduceIte, bind_s, if_true, if_false, not_true_eq_false, not_false_eq_true, Nat.zero_add]
        exact gR_id hK hM cc cr mQ.rf hF
    | true =>
      obtain ⟨g1, g2⟩ := qIs_get hy
      generalize wN y = c at *
      subst g1
      have cr : am_f X 1000 234 [.ref (o + 66), .int (zI b), .int (zI c)] (mH H (o + 66) u, z) = _ := r_number_y (X := X) (d := 996) (h := H) (z := z) hG hq e2 g2
      rcases (by omega : c = 0 ∨ c = 1) with rfl | rfl
      · have cc : am_f X 1000 100 [.ref o, .int (zI b), .int (zI 0)] (H, z) = some (.inl (some (.long (qNT (u.1 1) b))), (H, z)) := by
          show am_f X (999 + 1) 100 _ _ = _
          rw [fU_100]
          simp (disch := first | omega | exact Nat.le_of_ble_eq_true rfl | exact hX.ci | exact hT.ci | exact hP.ci | exact hX.ci | exact hT.ci | exact hP.ci | (refine xF_lt ?_; omega) | (refine tF_lt ?_; omega) | (refine pF_lt ?_; omega)) only [own_100, am_go dc_100_0, J_aload_0, K_al, ld_0, am_go dc_100_1, J_getfield, gf_r, fk_0_12_0, am_go dc_100_4, J_iload_1, K_il, ld_1, am_go dc_100_5, cv_0_94_1 own_100, JR_v, JR_0, JR_ite, ci1_r, am_go dc_100_8, J_if_eq, am_go dc_100_11, J_iload_2, ld_2, am_go dc_100_12, J_if_lt, am_go dc_100_15, am_go dc_100_16, J_iconst, c32_1, am_go dc_100_17, J_icmp_le, am_go dc_100_20, J_ldc2, cj_0_185, am_go dc_100_23, J_ret_l ret_100, am_go dc_100_24, am_go dc_100_25, am_go dc_100_28, am_go dc_100_29, fk_0_19_0, am_go dc_100_32, am_go dc_100_33, am_go dc_100_36, cv_0_142_2 own_100, am_go dc_100_39, am_go dc_100_40, cv_0_187_1 own_100, am_go dc_100_43, J_istore_3, st1_0, st1_1, st1_s, kl_i, kl_l, kl_r, kl_n, am_go dc_100_44, am_go dc_100_45, J_if_ne, am_go dc_100_48, am_go dc_100_49, am_go dc_100_52, fk_0_191_1, am_go dc_100_55, J_iload_3, ld_3, am_go dc_100_56, J_laload, am_go dc_100_57, J_goto, am_go dc_100_60, am_go dc_100_61, am_go dc_100_64, fk_0_195_1, am_go dc_100_67, am_go dc_100_68, am_go dc_100_69, xg_0, xg_1, tg_8, tg_9, hX.c0, hX.c53, hX.c54, hX.c55, hX.c64, hX.c65, hT.c0, hT.c1, hT.c2, hT.c3, hT.c4, hT.c5, hT.c6, hT.c7, hP.c0, hP.c1, hP.c2, hP.c3, hP.c4, zI_add, zI_mul, zI_lt, zI_le, zI_eq, zI_neg, zI_pos, zI_ne0, zI_gt0, zB_0, lg_cmp_ge, lg_cmp_le, lg_cmp_gt, lg_cmp_lt, lg_cmp_eq, ail_r, abl_r, all_r, ais_r, abs_r, als_r, aal_r, aal_q, aln_r, vrf_s, vrf_n, z32, kh, kp, kn, n1, Bool.true_eq_false, Bool.false_eq_true, zB_t, zB_f, i32_m1, i8_m3, i8_m4, rwF_v, List.length_cons, List.length_nil, Nat.reduceAdd, Nat.reduceLT, Nat.reduceLeDiff, Nat.reduceEqDiff, ↓reduceIte, bind_s, if_true, if_false, not_true_eq_false, not_false_eq_true, Nat.zero_add]
        exact gR_id hK hM cc cr ⟨fun _ _ => rfl, rfl⟩ hF
      · have cc : am_f X 1000 100 [.ref o, .int (zI b), .int (zI 1)] (H, z) = some (.inl (some (.long (qNF (u.1 1) b))), (H, z)) := by
          show am_f X (999 + 1) 100 _ _ = _
          rw [fU_100]
          simp (disch := first | omega | exact Nat.le_of_ble_eq_true rfl | exact hX.ci | exact hT.ci | exact hP.ci | exact hX.ci | exact hT.ci | exact hP.ci | (refine xF_lt ?_; omega) | (refine tF_lt ?_; omega) | (refine pF_lt ?_; omega)) only [own_100, am_go dc_100_0, J_aload_0, K_al, ld_0, am_go dc_100_1, J_getfield, gf_r, fk_0_12_0, am_go dc_100_4, J_iload_1, K_il, ld_1, am_go dc_100_5, cv_0_94_1 own_100, JR_v, JR_0, JR_ite, ci1_r, am_go dc_100_8, J_if_eq, am_go dc_100_11, J_iload_2, ld_2, am_go dc_100_12, J_if_lt, am_go dc_100_15, am_go dc_100_16, J_iconst, c32_1, am_go dc_100_17, J_icmp_le, am_go dc_100_20, J_ldc2, cj_0_185, am_go dc_100_23, J_ret_l ret_100, am_go dc_100_24, am_go dc_100_25, am_go dc_100_28, am_go dc_100_29, fk_0_19_0, am_go dc_100_32, am_go dc_100_33, am_go dc_100_36, cv_0_142_2 own_100, am_go dc_100_39, am_go dc_100_40, cv_0_187_1 own_100, am_go dc_100_43, J_istore_3, st1_0, st1_1, st1_s, kl_i, kl_l, kl_r, kl_n, am_go dc_100_44, am_go dc_100_45, J_if_ne, am_go dc_100_48, am_go dc_100_49, am_go dc_100_52, fk_0_191_1, am_go dc_100_55, J_iload_3, ld_3, am_go dc_100_56, J_laload, am_go dc_100_57, J_goto, am_go dc_100_60, am_go dc_100_61, am_go dc_100_64, fk_0_195_1, am_go dc_100_67, am_go dc_100_68, am_go dc_100_69, xg_0, xg_1, tg_8, tg_9, hX.c0, hX.c53, hX.c54, hX.c55, hX.c64, hX.c65, hT.c0, hT.c1, hT.c2, hT.c3, hT.c4, hT.c5, hT.c6, hT.c7, hP.c0, hP.c1, hP.c2, hP.c3, hP.c4, zI_add, zI_mul, zI_lt, zI_le, zI_eq, zI_neg, zI_pos, zI_ne0, zI_gt0, zB_0, lg_cmp_ge, lg_cmp_le, lg_cmp_gt, lg_cmp_lt, lg_cmp_eq, ail_r, abl_r, all_r, ais_r, abs_r, als_r, aal_r, aal_q, aln_r, vrf_s, vrf_n, z32, kh, kp, kn, n2, Bool.true_eq_false, Bool.false_eq_true, zB_t, zB_f, i32_m1, i8_m3, i8_m4, rwF_v, List.length_cons, List.length_nil, Nat.reduceAdd, Nat.reduceLT, Nat.reduceLeDiff, Nat.reduceEqDiff, ↓reduceIte, bind_s, if_true, if_false, not_true_eq_false, not_false_eq_true, Nat.zero_add]
        exact gR_id hK hM cc cr ⟨fun _ _ => rfl, rfl⟩ hF
theorem f_rule (hK : gK o k H z u) (hM : cM H (o + 66) u) (hF : mFr u)  : gR X o k 102 237 [] H z u := by
  obtain ⟨C, D, T, P, Q, lu, m, a, N, hX, hTN, hP, hpS, hI, hpl, hr, hkn, hLH, hlow, hre⟩ := g_plan hK
  have hS := hTN.1
  have hT := hS.iT
  have hN := hTN.2.1
  have hG := hI.1
  have hL := hI.pl
  have hq := hI.qw
  have hm5 := hG.m.2
  have hsz := hS.sz
  have hbl := hS.bell
  have kp : am_f X 999 71 [.ref (o + 9), .ref (o + 1)] (H, z) = _ := p_packed (X := X) (d := 997) (z := z) hS hP hpS hL
  have kr : am_f X 999 90 [.ref (o + 9), .ref (o + 1)] (H, z) = _ := p_rank (X := X) (d := 997) (z := z) hS hP hpS hL
  obtain ⟨erk, rlt, ehas, -⟩ := lk_rk hr hG qRw.rf hL
  rw [erk] at kr
  have hQ := hr.2.2.1
  have ku : am_f X 999 103 [.ref (o + 40), .int (zI (pk (qDg (u.1 1)))), .int (zI (rkN T (u.1 1)))] (H, z) = some (.inl (some (.int (qRl (u.1 1)))), (H, z)) := by
    have := l_ruleAt (X := X) (d := 995) (z := z) (u := lu) (hpl.st) (qDg_ok (S := u.1 1)) (show rkN T (u.1 1) < 21 by omega)
    rw [lk_rl hr hG qRw.rf hL hN, hLH] at this
    exact this
  have lci : am_ci1 ((H, z).1 (o + 40)) = some 4 := by
    have := lH_ci (h := H) (l := o + 40) (D := (lu, (o + 1, m, a, N))) (z := z)
    rw [hLH] at this
    exact this
  obtain ⟨x1, y1, cr0⟩ := r_rule (X := X) (d := 995) (h := H) (o := o + 66) (z := z) (u := u) hG hq
  have cr : am_f X 1000 237 [.ref (o + 66)] (mH H (o + 66) u, z) = _ := cr0
  rcases qRl_inv hG.nn with q | ⟨b, b1, b2, b3, b4⟩
  · rw [q] at ku cr
    have m4 : ¬ (0 : Int32) ≤ -4 := by decide
    have cc : am_f X 1000 102 [.ref o] (H, z) = some (.inl (some (.int (-4))), (H, z)) := by
      show am_f X (999 + 1) 102 _ _ = _
      rw [fU_102]
      simp (disch := first | omega | exact Nat.le_of_ble_eq_true rfl | exact hX.ci | exact hT.ci | exact hP.ci | exact hX.ci | exact hT.ci | exact hP.ci | (refine xF_lt ?_; omega) | (refine tF_lt ?_; omega) | (refine pF_lt ?_; omega) | exact lci) only [own_102, am_go dc_102_0, J_aload_0, K_al, ld_0, am_go dc_102_1, J_getfield, gf_r, fk_0_41_0, am_go dc_102_4, am_go dc_102_5, fk_0_19_0, am_go dc_102_8, am_go dc_102_9, fk_0_12_0, am_go dc_102_12, cv_0_142_2 own_102, JR_v, JR_0, JR_ite, ci1_r, am_go dc_102_15, am_go dc_102_16, am_go dc_102_19, am_go dc_102_20, am_go dc_102_23, cv_0_198_2 own_102, am_go dc_102_26, cv_0_201_4 own_102, am_go dc_102_29, J_istore_1, st1_0, st1_1, st1_s, kl_i, kl_l, kl_r, kl_n, am_go dc_102_30, J_iload_1, K_il, ld_1, am_go dc_102_31, J_if_ge, am_go dc_102_34, J_bipush, i8_m4, am_go dc_102_36, J_goto, am_go dc_102_39, am_go dc_102_40, J_ret_i ret_102, xg_6, xg_1, xg_0, hX.c0, hX.c53, hX.c54, hX.c55, hX.c64, hX.c65, hT.c0, hT.c1, hT.c2, hT.c3, hT.c4, hT.c5, hT.c6, hT.c7, hP.c0, hP.c1, hP.c2, hP.c3, hP.c4, zI_add, zI_mul, zI_lt, zI_le, zI_eq, zI_neg, zI_pos, zI_ne0, zI_gt0, zB_0, lg_cmp_ge, lg_cmp_le, lg_cmp_gt, lg_cmp_lt, lg_cmp_eq, ail_r, abl_r, all_r, ais_r, abs_r, als_r, aal_r, aal_q, aln_r, vrf_s, vrf_n, z32, kp, kr, ku, m4, Bool.true_eq_false, Bool.false_eq_true, zB_t, zB_f, i32_m1, i8_m3, rwF_v, List.length_cons, List.length_nil, Nat.reduceAdd, Nat.reduceLT, Nat.reduceLeDiff, Nat.reduceEqDiff, ↓reduceIte, bind_s, if_true, if_false, not_true_eq_false, not_false_eq_true, Nat.zero_add]
    exact gR_id hK hM cc cr ⟨fun _ _ => rfl, rfl⟩ hF
  · rw [b2] at ku cr
    have p0 : (0 : Int32) ≤ zI b := by
      rw [show (0 : Int32) = zI 0 from rfl, zI_le (by omega) (by omega)]
      omega
    have cc : am_f X 1000 102 [.ref o] (H, z) = some (.inl (some (.int (zI b))), (H, z)) := by
      show am_f X (999 + 1) 102 _ _ = _
      rw [fU_102]
      simp (disch := first | omega | exact Nat.le_of_ble_eq_true rfl | exact hX.ci | exact hT.ci | exact hP.ci | exact hX.ci | exact hT.ci | exact hP.ci | (refine xF_lt ?_; omega) | (refine tF_lt ?_; omega) | (refine pF_lt ?_; omega) | exact lci) only [own_102, am_go dc_102_0, J_aload_0, K_al, ld_0, am_go dc_102_1, J_getfield, gf_r, fk_0_41_0, am_go dc_102_4, am_go dc_102_5, fk_0_19_0, am_go dc_102_8, am_go dc_102_9, fk_0_12_0, am_go dc_102_12, cv_0_142_2 own_102, JR_v, JR_0, JR_ite, ci1_r, am_go dc_102_15, am_go dc_102_16, am_go dc_102_19, am_go dc_102_20, am_go dc_102_23, cv_0_198_2 own_102, am_go dc_102_26, cv_0_201_4 own_102, am_go dc_102_29, J_istore_1, st1_0, st1_1, st1_s, kl_i, kl_l, kl_r, kl_n, am_go dc_102_30, J_iload_1, K_il, ld_1, am_go dc_102_31, J_if_ge, am_go dc_102_34, J_bipush, i8_m4, am_go dc_102_36, J_goto, am_go dc_102_39, am_go dc_102_40, J_ret_i ret_102, xg_6, xg_1, xg_0, hX.c0, hX.c53, hX.c54, hX.c55, hX.c64, hX.c65, hT.c0, hT.c1, hT.c2, hT.c3, hT.c4, hT.c5, hT.c6, hT.c7, hP.c0, hP.c1, hP.c2, hP.c3, hP.c4, zI_add, zI_mul, zI_lt, zI_le, zI_eq, zI_neg, zI_pos, zI_ne0, zI_gt0, zB_0, lg_cmp_ge, lg_cmp_le, lg_cmp_gt, lg_cmp_lt, lg_cmp_eq, ail_r, abl_r, all_r, ais_r, abs_r, als_r, aal_r, aal_q, aln_r, vrf_s, vrf_n, z32, kp, kr, ku, p0, Bool.true_eq_false, Bool.false_eq_true, zB_t, zB_f, i32_m1, i8_m3, rwF_v, List.length_cons, List.length_nil, Nat.reduceAdd, Nat.reduceLT, Nat.reduceLeDiff, Nat.reduceEqDiff, ↓reduceIte, bind_s, if_true, if_false, not_true_eq_false, not_false_eq_true, Nat.zero_add]
    exact gR_id hK hM cc cr ⟨fun _ _ => rfl, rfl⟩ hF
end FB
