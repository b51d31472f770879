/-! the face: the place moved -/
section FG
variable {X : am_X} {o k : Nat} {H : am_H} {z : Nat × Nat} {u : mU}
theorem f_open (hK : gK o k H z u) (hM : cM H (o + 66) u) (hF : mFr u) {x y : Int32} : gR X o k 84 221 [.int x, .int y] H z u := by
  obtain ⟨C, D, T, P, Q, hX, hTN, hP, hpS, hI, hr, hfr, hre⟩ := g_place hK
  have hS := hTN.1
  have hT := hS.iT
  have hG := hI.1
  have hL := hI.pl
  have hq := hI.qw
  have hm5 := hG.m.2
  have kst : am_f X 999 59 [.ref o, .int x, .int y] (H, z) = _ := x_isStep (X := X) (d := 997) (z := z) hX hS
  cases hx : qIs x (wN (u.1 1 116)) with
  | false =>
    rw [hx, Bool.false_and] at kst
    have cc : am_f X 1000 84 [.ref o, .int x, .int y] (H, z) = some (.inl (some (.int (-1))), (H, z)) := by
      show am_f X (999 + 1) 84 _ _ = _
      rw [fU_84]
      simp (disch := first | omega | exact Nat.le_of_ble_eq_true rfl | exact hX.ci | exact hT.ci | exact hP.ci | exact hX.ci | exact hT.ci | exact hP.ci | (refine xF_lt ?_; omega) | (refine tF_lt ?_; omega) | (refine pF_lt ?_; omega)) only [own_84, am_go dc_84_0, J_aload_0, K_al, ld_0, am_go dc_84_1, J_iload_1, K_il, ld_1, am_go dc_84_2, J_iload_2, ld_2, am_go dc_84_3, cv_0_119_0 own_84, JR_v, JR_0, JR_ite, ci1_r, am_go dc_84_6, J_if_ne, am_go dc_84_9, J_iconst, i32_m1, am_go dc_84_10, J_ret_i ret_84, am_go dc_84_11, am_go dc_84_12, J_getfield, gf_r, fk_0_19_0, am_go dc_84_15, am_go dc_84_16, fk_0_12_0, am_go dc_84_19, cv_0_142_2 own_84, am_go dc_84_22, J_istore_3, st1_0, st1_1, st1_s, kl_i, kl_l, kl_r, kl_n, am_go dc_84_23, am_go dc_84_24, am_go dc_84_27, J_iload_3, ld_3, am_go dc_84_28, am_go dc_84_29, cv_0_146_1 own_84, am_go dc_84_32, J_if_eq, am_go dc_84_35, am_go dc_84_36, am_go dc_84_39, am_go dc_84_40, am_go dc_84_41, am_go dc_84_42, cv_0_149_1 own_84, am_go dc_84_45, am_go dc_84_48, J_bipush, i8_m3, am_go dc_84_50, am_go dc_84_51, am_go dc_84_52, am_go dc_84_55, fk_0_153_2, am_go dc_84_58, am_go dc_84_59, am_go dc_84_60, J_iastore, am_go dc_84_61, am_go dc_84_62, am_go dc_84_65, am_go dc_84_66, am_go dc_84_67, am_go dc_84_70, c32_3, am_go dc_84_71, J_goto, am_go dc_84_74, c32_4, am_go dc_84_75, cv_0_156_2 own_84, am_go dc_84_78, am_go dc_84_79, cv_0_159_0 own_84, am_go dc_84_82, xg_1, xg_0, pg_1, hX.c0, hX.c53, hX.c54, hX.c55, hX.c64, hX.c65, hT.c0, hT.c1, hT.c2, hT.c3, hT.c4, hT.c5, hT.c6, hT.c7, hP.c0, hP.c1, hP.c2, hP.c3, hP.c4, zI_add, zI_mul, zI_lt, zI_le, zI_eq, zI_neg, zI_pos, zI_ne0, zI_gt0, zB_0, lg_cmp_ge, lg_cmp_le, lg_cmp_gt, lg_cmp_lt, lg_cmp_eq, ail_r, abl_r, all_r, ais_r, abs_r, als_r, aal_r, aal_q, aln_r, vrf_s, vrf_n, z32, kst, Bool.true_eq_false, Bool.false_eq_true, zB_t, zB_f, i8_m4, rwF_v, List.length_cons, List.length_nil, Nat.reduceAdd, Nat.reduceLT, Nat.reduceLeDiff, Nat.reduceEqDiff, ↓reduceIte, bind_s, if_true, if_false, not_true_eq_false, not_false_eq_true, Nat.zero_add]
    have cr : am_f X 1000 221 [.ref (o + 66), .int x, .int y] (mH H (o + 66) u, z) = _ := r_open_n (X := X) (d := 995) (h := H) (z := z) hq hx
    exact gR_id hK hM cc cr mQ.rf hF
  | true =>
    obtain ⟨e1, e2⟩ := qIs_get hx
    generalize wN x = b at *
    subst e1
    have hb5 : b < 5 := by omega
    obtain ⟨n1, n2, n3⟩ := hG.n e2
    rw [hx, Bool.true_and] at kst
    cases hy : qIs y (wN (u.1 1 (18 * b + 3))) with
    | false =>
      rw [hy] at kst
      have cc : am_f X 1000 84 [.ref o, .int (zI b), .int y] (H, z) = some (.inl (some (.int (-1))), (H, z)) := by
        show am_f X (999 + 1) 84 _ _ = _
        rw [fU_84]
        simp (disch := first | omega | exact Nat.le_of_ble_eq_true rfl | exact hX.ci | exact hT.ci | exact hP.ci | exact hX.ci | exact hT.ci | exact hP.ci | (refine xF_lt ?_; omega) | (refine tF_lt ?_; omega) | (refine pF_lt ?_; omega)) only [own_84, am_go dc_84_0, J_aload_0, K_al, ld_0, am_go dc_84_1, J_iload_1, K_il, ld_1, am_go dc_84_2, J_iload_2, ld_2, am_go dc_84_3, cv_0_119_0 own_84, JR_v, JR_0, JR_ite, ci1_r, am_go dc_84_6, J_if_ne, am_go dc_84_9, J_iconst, i32_m1, am_go dc_84_10, J_ret_i ret_84, am_go dc_84_11, am_go dc_84_12, J_getfield, gf_r, fk_0_19_0, am_go dc_84_15, am_go dc_84_16, fk_0_12_0, am_go dc_84_19, cv_0_142_2 own_84, am_go dc_84_22, J_istore_3, st1_0, st1_1, st1_s, kl_i, kl_l, kl_r, kl_n, am_go dc_84_23, am_go dc_84_24, am_go dc_84_27, J_iload_3, ld_3, am_go dc_84_28, am_go dc_84_29, cv_0_146_1 own_84, am_go dc_84_32, J_if_eq, am_go dc_84_35, am_go dc_84_36, am_go dc_84_39, am_go dc_84_40, am_go dc_84_41, am_go dc_84_42, cv_0_149_1 own_84, am_go dc_84_45, am_go dc_84_48, J_bipush, i8_m3, am_go dc_84_50, am_go dc_84_51, am_go dc_84_52, am_go dc_84_55, fk_0_153_2, am_go dc_84_58, am_go dc_84_59, am_go dc_84_60, J_iastore, am_go dc_84_61, am_go dc_84_62, am_go dc_84_65, am_go dc_84_66, am_go dc_84_67, am_go dc_84_70, c32_3, am_go dc_84_71, J_goto, am_go dc_84_74, c32_4, am_go dc_84_75, cv_0_156_2 own_84, am_go dc_84_78, am_go dc_84_79, cv_0_159_0 own_84, am_go dc_84_82, xg_1, xg_0, pg_1, hX.c0, hX.c53, hX.c54, hX.c55, hX.c64, hX.c65, hT.c0, hT.c1, hT.c2, hT.c3, hT.c4, hT.c5, hT.c6, hT.c7, hP.c0, hP.c1, hP.c2, hP.c3, hP.c4, zI_add, zI_mul, zI_lt, zI_le, zI_eq, zI_neg, zI_pos, zI_ne0, zI_gt0, zB_0, lg_cmp_ge, lg_cmp_le, lg_cmp_gt, lg_cmp_lt, lg_cmp_eq, ail_r, abl_r, all_r, ais_r, abs_r, als_r, aal_r, aal_q, aln_r, vrf_s, vrf_n, z32, kst, Bool.true_eq_false, Bool.false_eq_true, zB_t, zB_f, i8_m4, rwF_v, List.length_cons, List.length_nil, Nat.reduceAdd, Nat.reduceLT, Nat.reduceLeDiff, Nat.reduceEqDiff, ↓reduceIte, bind_s, if_true, if_false, not_true_eq_false, not_false_eq_true, Nat.zero_add]
      have cr : am_f X 1000 221 [.ref (o + 66), .int (zI b), .int y] (mH H (o + 66) u, z) = _ := r_open_m (X := X) (d := 995) (h := H) (z := z) hq e2 n1 n3 hy
      exact gR_id hK hM cc cr mQ.rf hF
    | true =>
      rw [hy] at kst
      clear hx
      obtain ⟨g1, g2i⟩ := qIs_get hy
      generalize wN y = i at *
      subst g1
      have kp : am_f X 999 71 [.ref (o + 9), .ref (o + 1)] (H, z) = _ := p_packed (X := X) (d := 997) (z := z) hS hP hpS hL
      have km : am_f X 999 75 [.ref (o + 1), .int (zI (pk (qDg (u.1 1)))), .int (zI b)] (H, z) = _ := c_mayOpen (X := X) (d := 996) (z := z) hS qDg_ok e2
      rw [lk_may hG qRw.rf hL e2] at km
      have kch : am_f X 999 85 [.ref (o + 1), .int (zI (pk (qDg (u.1 1)))), .int (zI b), .int (zI i)] (H, z) = _ := c_chanceAt (X := X) (d := 997) (z := z) hS qDg_ok e2 g2i
      clear hy
      cases hy : qMay (u.1 1) b with
      | false =>
        rw [hy] at km
        have cc : am_f X 1000 84 [.ref o, .int (zI b), .int (zI i)] (H, z) = some (.inl (some (.int (-3))), (H, z)) := by
          show am_f X (999 + 1) 84 _ _ = _
          rw [fU_84]
          simp (disch := first | omega | exact Nat.le_of_ble_eq_true rfl | exact hX.ci | exact hT.ci | exact hP.ci | exact hX.ci | exact hT.ci | exact hP.ci | (refine xF_lt ?_; omega) | (refine tF_lt ?_; omega) | (refine pF_lt ?_; omega)) only [own_84, am_go dc_84_0, J_aload_0, K_al, ld_0, am_go dc_84_1, J_iload_1, K_il, ld_1, am_go dc_84_2, J_iload_2, ld_2, am_go dc_84_3, cv_0_119_0 own_84, JR_v, JR_0, JR_ite, ci1_r, am_go dc_84_6, J_if_ne, am_go dc_84_9, J_iconst, i32_m1, am_go dc_84_10, J_ret_i ret_84, am_go dc_84_11, am_go dc_84_12, J_getfield, gf_r, fk_0_19_0, am_go dc_84_15, am_go dc_84_16, fk_0_12_0, am_go dc_84_19, cv_0_142_2 own_84, am_go dc_84_22, J_istore_3, st1_0, st1_1, st1_s, kl_i, kl_l, kl_r, kl_n, am_go dc_84_23, am_go dc_84_24, am_go dc_84_27, J_iload_3, ld_3, am_go dc_84_28, am_go dc_84_29, cv_0_146_1 own_84, am_go dc_84_32, J_if_eq, am_go dc_84_35, am_go dc_84_36, am_go dc_84_39, am_go dc_84_40, am_go dc_84_41, am_go dc_84_42, cv_0_149_1 own_84, am_go dc_84_45, am_go dc_84_48, J_bipush, i8_m3, am_go dc_84_50, am_go dc_84_51, am_go dc_84_52, am_go dc_84_55, fk_0_153_2, am_go dc_84_58, am_go dc_84_59, am_go dc_84_60, J_iastore, am_go dc_84_61, am_go dc_84_62, am_go dc_84_65, am_go dc_84_66, am_go dc_84_67, am_go dc_84_70, c32_3, am_go dc_84_71, J_goto, am_go dc_84_74, c32_4, am_go dc_84_75, cv_0_156_2 own_84, am_go dc_84_78, am_go dc_84_79, cv_0_159_0 own_84, am_go dc_84_82, xg_1, xg_0, pg_1, hX.c0, hX.c53, hX.c54, hX.c55, hX.c64, hX.c65, hT.c0, hT.c1, hT.c2, hT.c3, hT.c4, hT.c5, hT.c6, hT.c7, hP.c0, hP.c1, hP.c2, hP.c3, hP.c4, zI_add, zI_mul, zI_lt, zI_le, zI_eq, zI_neg, zI_pos, zI_ne0, zI_gt0, zB_0, lg_cmp_ge, lg_cmp_le, lg_cmp_gt, lg_cmp_lt, lg_cmp_eq, ail_r, abl_r, all_r, ais_r, abs_r, als_r, aal_r, aal_q, aln_r, vrf_s, vrf_n, z32, kst, kp, km, Bool.true_eq_false, Bool.false_eq_true, zB_t, zB_f, i8_m4, rwF_v, List.length_cons, List.length_nil, Nat.reduceAdd, Nat.reduceLT, Nat.reduceLeDiff, Nat.reduceEqDiff, ↓reduceIte, bind_s, if_true, if_false, not_true_eq_false, not_false_eq_true, Nat.zero_add]
        have cr : am_f X 1000 221 [.ref (o + 66), .int (zI b), .int (zI i)] (mH H (o + 66) u, z) = _ := r_open_o (X := X) (d := 995) (h := H) (z := z) hq e2 n1 n3 g2i (Or.inl hy)
        exact gR_id hK hM cc cr mQ.rf hF
      | true =>
        rw [hy] at km
        rw [lk_ch hG qRw.rf hL e2 (by omega) (qMay_le hL hb5 hy)] at kch
        by_cases c : qShows (u.1 1) b i = 0
        · rw [c] at kch
          have cc : am_f X 1000 84 [.ref o, .int (zI b), .int (zI i)] (H, z) = some (.inl (some (.int (-3))), (H, z)) := by
            show am_f X (999 + 1) 84 _ _ = _
            rw [fU_84]
            simp (disch := first | omega | exact Nat.le_of_ble_eq_true rfl | exact hX.ci | exact hT.ci | exact hP.ci | exact hX.ci | exact hT.ci | exact hP.ci | (refine xF_lt ?_; omega) | (refine tF_lt ?_; omega) | (refine pF_lt ?_; omega)) only [own_84, am_go dc_84_0, J_aload_0, K_al, ld_0, am_go dc_84_1, J_iload_1, K_il, ld_1, am_go dc_84_2, J_iload_2, ld_2, am_go dc_84_3, cv_0_119_0 own_84, JR_v, JR_0, JR_ite, ci1_r, am_go dc_84_6, J_if_ne, am_go dc_84_9, J_iconst, i32_m1, am_go dc_84_10, J_ret_i ret_84, am_go dc_84_11, am_go dc_84_12, J_getfield, gf_r, fk_0_19_0, am_go dc_84_15, am_go dc_84_16, fk_0_12_0, am_go dc_84_19, cv_0_142_2 own_84, am_go dc_84_22, J_istore_3, st1_0, st1_1, st1_s, kl_i, kl_l, kl_r, kl_n, am_go dc_84_23, am_go dc_84_24, am_go dc_84_27, J_iload_3, ld_3, am_go dc_84_28, am_go dc_84_29, cv_0_146_1 own_84, am_go dc_84_32, J_if_eq, am_go dc_84_35, am_go dc_84_36, am_go dc_84_39, am_go dc_84_40, am_go dc_84_41, am_go dc_84_42, cv_0_149_1 own_84, am_go dc_84_45, am_go dc_84_48, J_bipush, i8_m3, am_go dc_84_50, am_go dc_84_51, am_go dc_84_52, am_go dc_84_55, fk_0_153_2, am_go dc_84_58, am_go dc_84_59, am_go dc_84_60, J_iastore, am_go dc_84_61, am_go dc_84_62, am_go dc_84_65, am_go dc_84_66, am_go dc_84_67, am_go dc_84_70, c32_3, am_go dc_84_71, J_goto, am_go dc_84_74, c32_4, am_go dc_84_75, cv_0_156_2 own_84, am_go dc_84_78, am_go dc_84_79, cv_0_159_0 own_84, am_go dc_84_82, xg_1, xg_0, pg_1, hX.c0, hX.c53, hX.c54, hX.c55, hX.c64, hX.c65, hT.c0, hT.c1, hT.c2, hT.c3, hT.c4, hT.c5, hT.c6, hT.c7, hP.c0, hP.c1, hP.c2, hP.c3, hP.c4, zI_add, zI_mul, zI_lt, zI_le, zI_eq, zI_neg, zI_pos, zI_ne0, zI_gt0, zB_0, lg_cmp_ge, lg_cmp_le, lg_cmp_gt, lg_cmp_lt, lg_cmp_eq, ail_r, abl_r, all_r, ais_r, abs_r, als_r, aal_r, aal_q, aln_r, vrf_s, vrf_n, z32, kst, kp, km, kch, Bool.true_eq_false, Bool.false_eq_true, zB_t, zB_f, i8_m4, rwF_v, List.length_cons, List.length_nil, Nat.reduceAdd, Nat.reduceLT, Nat.reduceLeDiff, Nat.reduceEqDiff, ↓reduceIte, bind_s, if_true, if_false, not_true_eq_false, not_false_eq_true, Nat.zero_add]
          have cr : am_f X 1000 221 [.ref (o + 66), .int (zI b), .int (zI i)] (mH H (o + 66) u, z) = _ := r_open_o (X := X) (d := 995) (h := H) (z := z) hq e2 n1 n3 g2i (Or.inr c)
          exact gR_id hK hM cc cr mQ.rf hF
        · obtain ⟨a, ha10, ha, hw2, hI1⟩ := rI_mv (x := 3 + i) hI e2 (by omega) (qMay_lev hI.hw hb5 hy) (hL.op qRw.rf hG e2 g2i)
          have hA : qA0 (u.1 1) (qActs (u.1 1) b (zI (3 + i))) := qA0_mv ha ha10 hb5
          have hp1 := pS_mv (P0 := mS P 1 (upd (P.1 1) b (zI i))) (x := 3 + i) hpS ha ha10 hb5 rfl rfl rfl (fun c hc => upd_o hc) (by omega) (fun _ => by
            show upd (P.1 1) b (zI i) b = _
            rw [upd_s, show 3 + i - 3 = i by omega]) hw2
          obtain ⟨h, hH⟩ : ∃ h, pH h (o + 9) P = H := ⟨H, ov_eq hP⟩
          subst hH
          by_cases ci : i = 0
          · subst ci
            have d5 : qD5 (zI (3 + 0)) = zI 3 := qD5_lo (by omega)
            rw [d5] at hp1
            obtain ⟨g1, g2⟩ := hre h _ _ rfl hA hp1 hI1
            obtain ⟨hX1, hTN1⟩ := hfr h (pMv (mS P 1 (upd (P.1 1) b (zI 0))) b a (zI 3)) rfl
            have hTN2 := tSN_cg hA hTN1
            obtain ⟨hX0, -⟩ := hfr h (mS P 1 (upd (P.1 1) b (zI 0))) rfl
            have kmv : am_f X 999 88 [.ref (o + 9), .int (zI b), .int (zI 3)] (pH h (o + 9) (mS P 1 (upd (P.1 1) b (zI 0))), z) = _ := p_move_y (X := X) (d := 998) (z := z) hb5 ha10 (hpS.2.1.trans ha)
            have kha : am_f X 999 89 [.ref o] (pH h (o + 9) (pMv (mS P 1 (upd (P.1 1) b (zI 0))) b a (zI 3)), z) = _ := x_has (X := X) (d := 996) hX1 hTN2.1 pH_is hp1 hI1.pl (cg_rOk (qC.a hA) hG hr)
            have cc : am_f X 1000 84 [.ref o, .int (zI b), .int (zI 0)] (pH h (o + 9) P, z) = some (.inl (some (.int (qHas (qActs (u.1 1) b (zI (3 + 0)))))), (pH h (o + 9) (pMv (mS P 1 (upd (P.1 1) b (zI 0))) b a (zI 3)), z)) := by
              show am_f X (999 + 1) 84 _ _ = _
              rw [fU_84]
              simp (disch := first | omega | exact Nat.le_of_ble_eq_true rfl | exact hX.ci | exact hT.ci | exact hP.ci | exact hX.ci | exact hT.ci | exact hP.ci | (refine xF_lt ?_; omega) | (refine tF_lt ?_; omega) | (refine pF_lt ?_; omega) | exact hX0.ci | exact hX1.ci | exact pH_ci) only [own_84, am_go dc_84_0, J_aload_0, K_al, ld_0, am_go dc_84_1, J_iload_1, K_il, ld_1, am_go dc_84_2, J_iload_2, ld_2, am_go dc_84_3, cv_0_119_0 own_84, JR_v, JR_0, JR_ite, ci1_r, am_go dc_84_6, J_if_ne, am_go dc_84_9, J_iconst, i32_m1, am_go dc_84_10, J_ret_i ret_84, am_go dc_84_11, am_go dc_84_12, J_getfield, gf_r, fk_0_19_0, am_go dc_84_15, am_go dc_84_16, fk_0_12_0, am_go dc_84_19, cv_0_142_2 own_84, am_go dc_84_22, J_istore_3, st1_0, st1_1, st1_s, kl_i, kl_l, kl_r, kl_n, am_go dc_84_23, am_go dc_84_24, am_go dc_84_27, J_iload_3, ld_3, am_go dc_84_28, am_go dc_84_29, cv_0_146_1 own_84, am_go dc_84_32, J_if_eq, am_go dc_84_35, am_go dc_84_36, am_go dc_84_39, am_go dc_84_40, am_go dc_84_41, am_go dc_84_42, cv_0_149_1 own_84, am_go dc_84_45, am_go dc_84_48, J_bipush, i8_m3, am_go dc_84_50, am_go dc_84_51, am_go dc_84_52, am_go dc_84_55, fk_0_153_2, am_go dc_84_58, am_go dc_84_59, am_go dc_84_60, J_iastore, am_go dc_84_61, am_go dc_84_62, am_go dc_84_65, am_go dc_84_66, am_go dc_84_67, am_go dc_84_70, c32_3, am_go dc_84_71, J_goto, am_go dc_84_74, c32_4, am_go dc_84_75, cv_0_156_2 own_84, am_go dc_84_78, am_go dc_84_79, cv_0_159_0 own_84, am_go dc_84_82, xg_1, xg_0, pg_1, hX.c0, hX.c53, hX.c54, hX.c55, hX.c64, hX.c65, hT.c0, hT.c1, hT.c2, hT.c3, hT.c4, hT.c5, hT.c6, hT.c7, hP.c0, hP.c1, hP.c2, hP.c3, hP.c4, zI_add, zI_mul, zI_lt, zI_le, zI_eq, zI_neg, zI_pos, zI_ne0, zI_gt0, zB_0, lg_cmp_ge, lg_cmp_le, lg_cmp_gt, lg_cmp_lt, lg_cmp_eq, ail_r, abl_r, all_r, ais_r, abs_r, als_r, aal_r, aal_q, aln_r, vrf_s, vrf_n, z32, kst, kp, km, kch, c, hX0.c0, pw_2, kmv, kha, Bool.true_eq_false, Bool.false_eq_true, zB_t, zB_f, i8_m4, rwF_v, List.length_cons, List.length_nil, Nat.reduceAdd, Nat.reduceLT, Nat.reduceLeDiff, Nat.reduceEqDiff, ↓reduceIte, bind_s, if_true, if_false, not_true_eq_false, not_false_eq_true, Nat.zero_add]
            have cr : am_f X 1000 221 [.ref (o + 66), .int (zI b), .int (zI 0)] (mH (pH h (o + 9) (pMv (mS P 1 (upd (P.1 1) b (zI 0))) b a (zI 3))) (o + 66) u, z) = _ := r_open_y (X := X) (d := 995) (h := pH h (o + 9) (pMv (mS P 1 (upd (P.1 1) b (zI 0))) b a (zI 3))) (z := z) hq e2 n1 n3 g2i hy c ha ha10 hI1.qw
            exact gR_mk hM cc g1 g2 cr mQ.rf (hF.mv hA)
          · have d5 : qD5 (zI (3 + i)) = zI 4 := qD5_hi (by omega) (by omega)
            rw [d5] at hp1
            obtain ⟨g1, g2⟩ := hre h _ _ rfl hA hp1 hI1
            obtain ⟨hX1, hTN1⟩ := hfr h (pMv (mS P 1 (upd (P.1 1) b (zI i))) b a (zI 4)) rfl
            have hTN2 := tSN_cg hA hTN1
            obtain ⟨hX0, -⟩ := hfr h (mS P 1 (upd (P.1 1) b (zI i))) rfl
            have kmv : am_f X 999 88 [.ref (o + 9), .int (zI b), .int (zI 4)] (pH h (o + 9) (mS P 1 (upd (P.1 1) b (zI i))), z) = _ := p_move_y (X := X) (d := 998) (z := z) hb5 ha10 (hpS.2.1.trans ha)
            have kha : am_f X 999 89 [.ref o] (pH h (o + 9) (pMv (mS P 1 (upd (P.1 1) b (zI i))) b a (zI 4)), z) = _ := x_has (X := X) (d := 996) hX1 hTN2.1 pH_is hp1 hI1.pl (cg_rOk (qC.a hA) hG hr)
            have cc : am_f X 1000 84 [.ref o, .int (zI b), .int (zI i)] (pH h (o + 9) P, z) = some (.inl (some (.int (qHas (qActs (u.1 1) b (zI (3 + i)))))), (pH h (o + 9) (pMv (mS P 1 (upd (P.1 1) b (zI i))) b a (zI 4)), z)) := by
              show am_f X (999 + 1) 84 _ _ = _
              rw [fU_84]
              simp (disch := first | omega | exact Nat.le_of_ble_eq_true rfl | exact hX.ci | exact hT.ci | exact hP.ci | exact hX.ci | exact hT.ci | exact hP.ci | (refine xF_lt ?_; omega) | (refine tF_lt ?_; omega) | (refine pF_lt ?_; omega) | exact hX0.ci | exact hX1.ci | exact pH_ci) only [own_84, am_go dc_84_0, J_aload_0, K_al, ld_0, am_go dc_84_1, J_iload_1, K_il, ld_1, am_go dc_84_2, J_iload_2, ld_2, am_go dc_84_3, cv_0_119_0 own_84, JR_v, JR_0, JR_ite, ci1_r, am_go dc_84_6, J_if_ne, am_go dc_84_9, J_iconst, i32_m1, am_go dc_84_10, J_ret_i ret_84, am_go dc_84_11, am_go dc_84_12, J_getfield, gf_r, fk_0_19_0, am_go dc_84_15, am_go dc_84_16, fk_0_12_0, am_go dc_84_19, cv_0_142_2 own_84, am_go dc_84_22, J_istore_3, st1_0, st1_1, st1_s, kl_i, kl_l, kl_r, kl_n, am_go dc_84_23, am_go dc_84_24, am_go dc_84_27, J_iload_3, ld_3, am_go dc_84_28, am_go dc_84_29, cv_0_146_1 own_84, am_go dc_84_32, J_if_eq, am_go dc_84_35, am_go dc_84_36, am_go dc_84_39, am_go dc_84_40, am_go dc_84_41, am_go dc_84_42, cv_0_149_1 own_84, am_go dc_84_45, am_go dc_84_48, J_bipush, i8_m3, am_go dc_84_50, am_go dc_84_51, am_go dc_84_52, am_go dc_84_55, fk_0_153_2, am_go dc_84_58, am_go dc_84_59, am_go dc_84_60, J_iastore, am_go dc_84_61, am_go dc_84_62, am_go dc_84_65, am_go dc_84_66, am_go dc_84_67, am_go dc_84_70, c32_3, am_go dc_84_71, J_goto, am_go dc_84_74, c32_4, am_go dc_84_75, cv_0_156_2 own_84, am_go dc_84_78, am_go dc_84_79, cv_0_159_0 own_84, am_go dc_84_82, xg_1, xg_0, pg_1, hX.c0, hX.c53, hX.c54, hX.c55, hX.c64, hX.c65, hT.c0, hT.c1, hT.c2, hT.c3, hT.c4, hT.c5, hT.c6, hT.c7, hP.c0, hP.c1, hP.c2, hP.c3, hP.c4, zI_add, zI_mul, zI_lt, zI_le, zI_eq, zI_neg, zI_pos, zI_ne0, zI_gt0, zB_0, lg_cmp_ge, lg_cmp_le, lg_cmp_gt, lg_cmp_lt, lg_cmp_eq, ail_r, abl_r, all_r, ais_r, abs_r, als_r, aal_r, aal_q, aln_r, vrf_s, vrf_n, z32, kst, kp, km, kch, c, hX0.c0, pw_2, kmv, kha, ci, Bool.true_eq_false, Bool.false_eq_true, zB_t, zB_f, i8_m4, rwF_v, List.length_cons, List.length_nil, Nat.reduceAdd, Nat.reduceLT, Nat.reduceLeDiff, Nat.reduceEqDiff, ↓reduceIte, bind_s, if_true, if_false, not_true_eq_false, not_false_eq_true, Nat.zero_add]
            have cr : am_f X 1000 221 [.ref (o + 66), .int (zI b), .int (zI i)] (mH (pH h (o + 9) (pMv (mS P 1 (upd (P.1 1) b (zI i))) b a (zI 4))) (o + 66) u, z) = _ := r_open_y (X := X) (d := 995) (h := pH h (o + 9) (pMv (mS P 1 (upd (P.1 1) b (zI i))) b a (zI 4))) (z := z) hq e2 n1 n3 g2i hy c ha ha10 hI1.qw
            exact gR_mk hM cc g1 g2 cr mQ.rf (hF.mv hA)
theorem f_peep (hK : gK o k H z u) (hM : cM H (o + 66) u) (hF : mFr u) {x : Int32} {g : Bool} : gR X o k 92 227 [.int x, .int (zB g)] H z u := by
  cases g with
  | true =>
    rw [zB_t]
    obtain ⟨C, D, T, P, Q, hX, hTN, hP, hpS, hI, hr, hfr, hre⟩ := g_place hK
    have hS := hTN.1
    have hT := hS.iT
    have hG := hI.1
    have hL := hI.pl
    have hq := hI.qw
    have hm5 := hG.m.2
    have kh : am_f X 999 32 [.ref (o + 1), .int (x)] (H, z) = _ := c_has (X := X) (d := 998) (z := z) hS
    cases hx : qIs x (wN (u.1 1 116)) with
    | false =>
      rw [hx] at kh
      have cc : am_f X 1000 92 [.ref o, .int x, .int (zI 1)] (H, z) = some (.inl (some (.int (-1))), (H, z)) := by
        show am_f X (999 + 1) 92 _ _ = _
        rw [fU_92]
        simp (disch := first | omega | exact Nat.le_of_ble_eq_true rfl | exact hX.ci | exact hT.ci | exact hP.ci | exact hX.ci | exact hT.ci | exact hP.ci | (refine xF_lt ?_; omega) | (refine tF_lt ?_; omega) | (refine pF_lt ?_; omega)) only [own_92, am_go dc_92_0, J_aload_0, K_al, ld_0, am_go dc_92_1, J_getfield, gf_r, fk_0_12_0, am_go dc_92_4, J_iload_1, K_il, ld_1, am_go dc_92_5, cv_0_94_1 own_92, JR_v, JR_0, JR_ite, ci1_r, am_go dc_92_8, J_if_ne, am_go dc_92_11, J_iconst, i32_m1, am_go dc_92_12, J_ret_i ret_92, am_go dc_92_13, am_go dc_92_14, am_go dc_92_17, fk_0_97_1, am_go dc_92_20, am_go dc_92_21, J_aaload, am_go dc_92_22, J_astore_3, st1_0, st1_1, st1_s, kl_i, kl_l, kl_r, kl_n, am_go dc_92_23, J_aload_3, ld_3, am_go dc_92_24, am_go dc_92_27, J_if_eq, am_go dc_92_30, am_go dc_92_31, fk_0_19_0, am_go dc_92_34, fk_0_139_2, am_go dc_92_37, am_go dc_92_38, J_iaload, am_go dc_92_39, am_go dc_92_42, am_go dc_92_43, am_go dc_92_46, am_go dc_92_47, am_go dc_92_50, am_go dc_92_51, am_go dc_92_54, cv_0_142_2 own_92, am_go dc_92_57, am_go dc_92_58, cv_0_146_1 own_92, am_go dc_92_61, am_go dc_92_64, J_iload_2, ld_2, am_go dc_92_65, am_go dc_92_68, am_go dc_92_69, am_go dc_92_72, c32_0, am_go dc_92_73, am_go dc_92_74, J_bipush, c8_100, am_go dc_92_76, J_icmp_ge, am_go dc_92_79, c32_1, am_go dc_92_80, J_goto, am_go dc_92_83, am_go dc_92_84, J_istore, am_go dc_92_86, J_iload, ld_4, am_go dc_92_88, am_go dc_92_91, i8_m3, am_go dc_92_93, am_go dc_92_94, am_go dc_92_95, am_go dc_92_98, am_go dc_92_99, am_go dc_92_100, am_go dc_92_103, am_go dc_92_104, am_go dc_92_107, c32_2, am_go dc_92_108, cv_0_156_2 own_92, am_go dc_92_111, am_go dc_92_112, xg_0, tg_0, xg_1, pg_0, hX.c0, hX.c53, hX.c54, hX.c55, hX.c64, hX.c65, hT.c0, hT.c1, hT.c2, hT.c3, hT.c4, hT.c5, hT.c6, hT.c7, hP.c0, hP.c1, hP.c2, hP.c3, hP.c4, zI_add, zI_mul, zI_lt, zI_le, zI_eq, zI_neg, zI_pos, zI_ne0, zI_gt0, zB_0, lg_cmp_ge, lg_cmp_le, lg_cmp_gt, lg_cmp_lt, lg_cmp_eq, ail_r, abl_r, all_r, ais_r, abs_r, als_r, aal_r, aal_q, aln_r, vrf_s, vrf_n, z32, kh, Bool.true_eq_false, Bool.false_eq_true, zB_t, zB_f, i8_m4, rwF_v, List.length_cons, List.length_nil, Nat.reduceAdd, Nat.reduceLT, Nat.reduceLeDiff, Nat.reduceEqDiff, ↓reduceIte, bind_s, if_true, if_false, not_true_eq_false, not_false_eq_true, Nat.zero_add]
      have cr : am_f X 1000 227 [.ref (o + 66), .int x, .int (zI 1)] (mH H (o + 66) u, z) = _ := r_peep_n (X := X) (d := 995) (h := H) (z := z) hq hx
      exact gR_id hK hM cc cr mQ.rf hF
    | true =>
      obtain ⟨e1, e2⟩ := qIs_get hx
      generalize wN x = b at *
      subst e1
      rw [hx] at kh
      have hb5 : b < 5 := by omega
      obtain ⟨a', bb, ha', hB⟩ := hS.box e2
      have hd := (hpS.1 b hb5).1
      have kp : am_f X 999 71 [.ref (o + 9), .ref (o + 1)] (H, z) = _ := p_packed (X := X) (d := 997) (z := z) hS hP hpS hL
      have km : am_f X 999 75 [.ref (o + 1), .int (zI (pk (qDg (u.1 1)))), .int (zI b)] (H, z) = _ := c_mayOpen (X := X) (d := 996) (z := z) hS qDg_ok e2
      rw [lk_may hG qRw.rf hL e2] at km
      have hpd : qPeep (u.1 1) b = (decide (u.1 1 (18 * b) = zI 1) && (decide (u.1 1 (90 + b) = 0) && qMay (u.1 1) b)) := rfl
      by_cases c1 : u.1 1 (18 * b) = zI 1
      · have h0 : decide (qRow (u.1 1) b 0 = zI 1) = true := decide_eq_true c1
        rw [decide_eq_true c1, Bool.true_and] at hpd
        by_cases c2 : u.1 1 (90 + b) = 0
        · rw [decide_eq_true c2, Bool.true_and] at hpd
          have hd0 : P.1 0 b = 0 := by
            rw [hd, c2]
            rfl
          cases c3 : qMay (u.1 1) b with
          | false =>
            rw [c3] at km hpd
            have cc : am_f X 1000 92 [.ref o, .int (zI b), .int (zI 1)] (H, z) = some (.inl (some (.int (-3))), (H, z)) := by
              show am_f X (999 + 1) 92 _ _ = _
              rw [fU_92]
              simp (disch := first | omega | exact Nat.le_of_ble_eq_true rfl | exact hX.ci | exact hT.ci | exact hP.ci | exact hX.ci | exact hT.ci | exact hP.ci | (refine xF_lt ?_; omega) | (refine tF_lt ?_; omega) | (refine pF_lt ?_; omega)) only [own_92, am_go dc_92_0, J_aload_0, K_al, ld_0, am_go dc_92_1, J_getfield, gf_r, fk_0_12_0, am_go dc_92_4, J_iload_1, K_il, ld_1, am_go dc_92_5, cv_0_94_1 own_92, JR_v, JR_0, JR_ite, ci1_r, am_go dc_92_8, J_if_ne, am_go dc_92_11, J_iconst, i32_m1, am_go dc_92_12, J_ret_i ret_92, am_go dc_92_13, am_go dc_92_14, am_go dc_92_17, fk_0_97_1, am_go dc_92_20, am_go dc_92_21, J_aaload, am_go dc_92_22, J_astore_3, st1_0, st1_1, st1_s, kl_i, kl_l, kl_r, kl_n, am_go dc_92_23, J_aload_3, ld_3, am_go dc_92_24, am_go dc_92_27, J_if_eq, am_go dc_92_30, am_go dc_92_31, fk_0_19_0, am_go dc_92_34, fk_0_139_2, am_go dc_92_37, am_go dc_92_38, J_iaload, am_go dc_92_39, am_go dc_92_42, am_go dc_92_43, am_go dc_92_46, am_go dc_92_47, am_go dc_92_50, am_go dc_92_51, am_go dc_92_54, cv_0_142_2 own_92, am_go dc_92_57, am_go dc_92_58, cv_0_146_1 own_92, am_go dc_92_61, am_go dc_92_64, J_iload_2, ld_2, am_go dc_92_65, am_go dc_92_68, am_go dc_92_69, am_go dc_92_72, c32_0, am_go dc_92_73, am_go dc_92_74, J_bipush, c8_100, am_go dc_92_76, J_icmp_ge, am_go dc_92_79, c32_1, am_go dc_92_80, J_goto, am_go dc_92_83, am_go dc_92_84, J_istore, am_go dc_92_86, J_iload, ld_4, am_go dc_92_88, am_go dc_92_91, i8_m3, am_go dc_92_93, am_go dc_92_94, am_go dc_92_95, am_go dc_92_98, am_go dc_92_99, am_go dc_92_100, am_go dc_92_103, am_go dc_92_104, am_go dc_92_107, c32_2, am_go dc_92_108, cv_0_156_2 own_92, am_go dc_92_111, am_go dc_92_112, xg_0, tg_0, xg_1, pg_0, hX.c0, hX.c53, hX.c54, hX.c55, hX.c64, hX.c65, hT.c0, hT.c1, hT.c2, hT.c3, hT.c4, hT.c5, hT.c6, hT.c7, hP.c0, hP.c1, hP.c2, hP.c3, hP.c4, zI_add, zI_mul, zI_lt, zI_le, zI_eq, zI_neg, zI_pos, zI_ne0, zI_gt0, zB_0, lg_cmp_ge, lg_cmp_le, lg_cmp_gt, lg_cmp_lt, lg_cmp_eq, ail_r, abl_r, all_r, ais_r, abs_r, als_r, aal_r, aal_q, aln_r, vrf_s, vrf_n, z32, kh, ha', vx_0_161 own_92 hB, h0, hd0, kp, km, Bool.true_eq_false, Bool.false_eq_true, zB_t, zB_f, i8_m4, rwF_v, List.length_cons, List.length_nil, Nat.reduceAdd, Nat.reduceLT, Nat.reduceLeDiff, Nat.reduceEqDiff, ↓reduceIte, bind_s, if_true, if_false, not_true_eq_false, not_false_eq_true, Nat.zero_add]
            have cr : am_f X 1000 227 [.ref (o + 66), .int (zI b), .int (zI 1)] (mH H (o + 66) u, z) = _ := r_peep_o (X := X) (d := 995) (h := H) (z := z) hq e2 (Or.inl hpd)
            exact gR_id hK hM cc cr mQ.rf hF
          | true =>
            rw [c3] at km hpd
            have hpe := hpd
            have hn := hG.n e2
            have isc := fun x => hB.c (x := x) (i := 0) (show 0 < wN (qRow (u.1 1) b 3) from hn.2.1)
            have hch : qRow (u.1 1) b (10 + 0) = qChance (u.1 1) b 0 := by
              have hneg : u.1 1 (18 * b + 5) < 0 := by
                rcases (hG.2.2 b e2).2.2.2.2.2.2.1 with q | q
                · rw [q]
                  decide
                · exact absurd c1 q.2.2.2.2.2
              unfold qChance
              rw [if_pos hneg]
              rfl
            · obtain ⟨a, ha10, ha, hw2, hI1⟩ := rI_mv (x := 1) hI e2 (by omega) (qPeep_lev (by omega) hpe) (hL.pe qRw.rf hG e2 (by omega) c1)
              have hA : qA0 (u.1 1) (qActs (u.1 1) b (zI 1)) := qA0_mv ha ha10 hb5
              have hp1 := pS_mv (P0 := P) (x := 1) hpS ha ha10 hb5 rfl rfl rfl (fun _ _ => rfl) (by omega) (fun _ => by omega) hw2
              rw [qD5_lo (by omega)] at hp1
              obtain ⟨h, hH⟩ : ∃ h, pH h (o + 9) P = H := ⟨H, ov_eq hP⟩
              subst hH
              obtain ⟨g1, g2⟩ := hre h _ _ rfl hA hp1 hI1
              have kmv : am_f X 999 88 [.ref (o + 9), .int (zI b), .int (zI 1)] (pH h (o + 9) P, z) = _ := p_move_y (X := X) (d := 998) (z := z) hb5 ha10 (hpS.2.1.trans ha)
              have cc : am_f X 1000 92 [.ref o, .int (zI b), .int (zI 1)] (pH h (o + 9) P, z) = some (.inl (some (.int (zI 1))), (pH h (o + 9) (pMv P b a (zI 1)), z)) := by
                show am_f X (999 + 1) 92 _ _ = _
                rw [fU_92]
                simp (disch := first | omega | exact Nat.le_of_ble_eq_true rfl | exact hX.ci | exact hT.ci | exact hP.ci | exact hX.ci | exact hT.ci | exact hP.ci | (refine xF_lt ?_; omega) | (refine tF_lt ?_; omega) | (refine pF_lt ?_; omega)) only [own_92, am_go dc_92_0, J_aload_0, K_al, ld_0, am_go dc_92_1, J_getfield, gf_r, fk_0_12_0, am_go dc_92_4, J_iload_1, K_il, ld_1, am_go dc_92_5, cv_0_94_1 own_92, JR_v, JR_0, JR_ite, ci1_r, am_go dc_92_8, J_if_ne, am_go dc_92_11, J_iconst, i32_m1, am_go dc_92_12, J_ret_i ret_92, am_go dc_92_13, am_go dc_92_14, am_go dc_92_17, fk_0_97_1, am_go dc_92_20, am_go dc_92_21, J_aaload, am_go dc_92_22, J_astore_3, st1_0, st1_1, st1_s, kl_i, kl_l, kl_r, kl_n, am_go dc_92_23, J_aload_3, ld_3, am_go dc_92_24, am_go dc_92_27, J_if_eq, am_go dc_92_30, am_go dc_92_31, fk_0_19_0, am_go dc_92_34, fk_0_139_2, am_go dc_92_37, am_go dc_92_38, J_iaload, am_go dc_92_39, am_go dc_92_42, am_go dc_92_43, am_go dc_92_46, am_go dc_92_47, am_go dc_92_50, am_go dc_92_51, am_go dc_92_54, cv_0_142_2 own_92, am_go dc_92_57, am_go dc_92_58, cv_0_146_1 own_92, am_go dc_92_61, am_go dc_92_64, J_iload_2, ld_2, am_go dc_92_65, am_go dc_92_68, am_go dc_92_69, am_go dc_92_72, c32_0, am_go dc_92_73, am_go dc_92_74, J_bipush, c8_100, am_go dc_92_76, J_icmp_ge, am_go dc_92_79, c32_1, am_go dc_92_80, J_goto, am_go dc_92_83, am_go dc_92_84, J_istore, am_go dc_92_86, J_iload, ld_4, am_go dc_92_88, am_go dc_92_91, i8_m3, am_go dc_92_93, am_go dc_92_94, am_go dc_92_95, am_go dc_92_98, am_go dc_92_99, am_go dc_92_100, am_go dc_92_103, am_go dc_92_104, am_go dc_92_107, c32_2, am_go dc_92_108, cv_0_156_2 own_92, am_go dc_92_111, am_go dc_92_112, xg_0, tg_0, xg_1, pg_0, hX.c0, hX.c53, hX.c54, hX.c55, hX.c64, hX.c65, hT.c0, hT.c1, hT.c2, hT.c3, hT.c4, hT.c5, hT.c6, hT.c7, hP.c0, hP.c1, hP.c2, hP.c3, hP.c4, zI_add, zI_mul, zI_lt, zI_le, zI_eq, zI_neg, zI_pos, zI_ne0, zI_gt0, zB_0, lg_cmp_ge, lg_cmp_le, lg_cmp_gt, lg_cmp_lt, lg_cmp_eq, ail_r, abl_r, all_r, ais_r, abs_r, als_r, aal_r, aal_q, aln_r, vrf_s, vrf_n, z32, kh, ha', vx_0_161 own_92 hB, h0, hd0, kp, km, kmv, Bool.true_eq_false, Bool.false_eq_true, zB_t, zB_f, i8_m4, rwF_v, List.length_cons, List.length_nil, Nat.reduceAdd, Nat.reduceLT, Nat.reduceLeDiff, Nat.reduceEqDiff, ↓reduceIte, bind_s, if_true, if_false, not_true_eq_false, not_false_eq_true, Nat.zero_add]
              have cr : am_f X 1000 227 [.ref (o + 66), .int (zI b), .int (zI 1)] (mH (pH h (o + 9) (pMv P b a (zI 1))) (o + 66) u, z) = _ := r_peep_y (X := X) (d := 995) (h := pH h (o + 9) (pMv P b a (zI 1))) (z := z) hq e2 hpe (fun q => absurd q.1 (by decide)) ha ha10
              rw [if_neg (by decide)] at cr
              exact gR_mk hM cc g1 g2 cr mQ.rf (hF.mv hA)
        · have hd0 : ¬ P.1 0 b = 0 := by
            obtain ⟨w1, w2⟩ := hL.w hb5
            rw [hd, w1]
            intro q
            refine c2 (w1.trans ?_)
            by_cases l4 : hw (u.1 1) b ≤ 4
            · rw [qD5_lo l4] at q
              exact q
            · rw [qD5_hi (by omega) (by omega)] at q
              exact absurd q (by decide)
          rw [decide_eq_false c2, Bool.false_and] at hpd
          have cc : am_f X 1000 92 [.ref o, .int (zI b), .int (zI 1)] (H, z) = some (.inl (some (.int (-3))), (H, z)) := by
            show am_f X (999 + 1) 92 _ _ = _
            rw [fU_92]
            simp (disch := first | omega | exact Nat.le_of_ble_eq_true rfl | exact hX.ci | exact hT.ci | exact hP.ci | exact hX.ci | exact hT.ci | exact hP.ci | (refine xF_lt ?_; omega) | (refine tF_lt ?_; omega) | (refine pF_lt ?_; omega)) only [own_92, am_go dc_92_0, J_aload_0, K_al, ld_0, am_go dc_92_1, J_getfield, gf_r, fk_0_12_0, am_go dc_92_4, J_iload_1, K_il, ld_1, am_go dc_92_5, cv_0_94_1 own_92, JR_v, JR_0, JR_ite, ci1_r, am_go dc_92_8, J_if_ne, am_go dc_92_11, J_iconst, i32_m1, am_go dc_92_12, J_ret_i ret_92, am_go dc_92_13, am_go dc_92_14, am_go dc_92_17, fk_0_97_1, am_go dc_92_20, am_go dc_92_21, J_aaload, am_go dc_92_22, J_astore_3, st1_0, st1_1, st1_s, kl_i, kl_l, kl_r, kl_n, am_go dc_92_23, J_aload_3, ld_3, am_go dc_92_24, am_go dc_92_27, J_if_eq, am_go dc_92_30, am_go dc_92_31, fk_0_19_0, am_go dc_92_34, fk_0_139_2, am_go dc_92_37, am_go dc_92_38, J_iaload, am_go dc_92_39, am_go dc_92_42, am_go dc_92_43, am_go dc_92_46, am_go dc_92_47, am_go dc_92_50, am_go dc_92_51, am_go dc_92_54, cv_0_142_2 own_92, am_go dc_92_57, am_go dc_92_58, cv_0_146_1 own_92, am_go dc_92_61, am_go dc_92_64, J_iload_2, ld_2, am_go dc_92_65, am_go dc_92_68, am_go dc_92_69, am_go dc_92_72, c32_0, am_go dc_92_73, am_go dc_92_74, J_bipush, c8_100, am_go dc_92_76, J_icmp_ge, am_go dc_92_79, c32_1, am_go dc_92_80, J_goto, am_go dc_92_83, am_go dc_92_84, J_istore, am_go dc_92_86, J_iload, ld_4, am_go dc_92_88, am_go dc_92_91, i8_m3, am_go dc_92_93, am_go dc_92_94, am_go dc_92_95, am_go dc_92_98, am_go dc_92_99, am_go dc_92_100, am_go dc_92_103, am_go dc_92_104, am_go dc_92_107, c32_2, am_go dc_92_108, cv_0_156_2 own_92, am_go dc_92_111, am_go dc_92_112, xg_0, tg_0, xg_1, pg_0, hX.c0, hX.c53, hX.c54, hX.c55, hX.c64, hX.c65, hT.c0, hT.c1, hT.c2, hT.c3, hT.c4, hT.c5, hT.c6, hT.c7, hP.c0, hP.c1, hP.c2, hP.c3, hP.c4, zI_add, zI_mul, zI_lt, zI_le, zI_eq, zI_neg, zI_pos, zI_ne0, zI_gt0, zB_0, lg_cmp_ge, lg_cmp_le, lg_cmp_gt, lg_cmp_lt, lg_cmp_eq, ail_r, abl_r, all_r, ais_r, abs_r, als_r, aal_r, aal_q, aln_r, vrf_s, vrf_n, z32, kh, ha', vx_0_161 own_92 hB, h0, hd0, Bool.true_eq_false, Bool.false_eq_true, zB_t, zB_f, i8_m4, rwF_v, List.length_cons, List.length_nil, Nat.reduceAdd, Nat.reduceLT, Nat.reduceLeDiff, Nat.reduceEqDiff, ↓reduceIte, bind_s, if_true, if_false, not_true_eq_false, not_false_eq_true, Nat.zero_add]
          have cr : am_f X 1000 227 [.ref (o + 66), .int (zI b), .int (zI 1)] (mH H (o + 66) u, z) = _ := r_peep_o (X := X) (d := 995) (h := H) (z := z) hq e2 (Or.inl hpd)
          exact gR_id hK hM cc cr mQ.rf hF
      · have h0 : decide (qRow (u.1 1) b 0 = zI 1) = false := decide_eq_false c1
        rw [decide_eq_false c1, Bool.false_and] at hpd
        have cc : am_f X 1000 92 [.ref o, .int (zI b), .int (zI 1)] (H, z) = some (.inl (some (.int (-3))), (H, z)) := by
          show am_f X (999 + 1) 92 _ _ = _
          rw [fU_92]
          simp (disch := first | omega | exact Nat.le_of_ble_eq_true rfl | exact hX.ci | exact hT.ci | exact hP.ci | exact hX.ci | exact hT.ci | exact hP.ci | (refine xF_lt ?_; omega) | (refine tF_lt ?_; omega) | (refine pF_lt ?_; omega)) only [own_92, am_go dc_92_0, J_aload_0, K_al, ld_0, am_go dc_92_1, J_getfield, gf_r, fk_0_12_0, am_go dc_92_4, J_iload_1, K_il, ld_1, am_go dc_92_5, cv_0_94_1 own_92, JR_v, JR_0, JR_ite, ci1_r, am_go dc_92_8, J_if_ne, am_go dc_92_11, J_iconst, i32_m1, am_go dc_92_12, J_ret_i ret_92, am_go dc_92_13, am_go dc_92_14, am_go dc_92_17, fk_0_97_1, am_go dc_92_20, am_go dc_92_21, J_aaload, am_go dc_92_22, J_astore_3, st1_0, st1_1, st1_s, kl_i, kl_l, kl_r, kl_n, am_go dc_92_23, J_aload_3, ld_3, am_go dc_92_24, am_go dc_92_27, J_if_eq, am_go dc_92_30, am_go dc_92_31, fk_0_19_0, am_go dc_92_34, fk_0_139_2, am_go dc_92_37, am_go dc_92_38, J_iaload, am_go dc_92_39, am_go dc_92_42, am_go dc_92_43, am_go dc_92_46, am_go dc_92_47, am_go dc_92_50, am_go dc_92_51, am_go dc_92_54, cv_0_142_2 own_92, am_go dc_92_57, am_go dc_92_58, cv_0_146_1 own_92, am_go dc_92_61, am_go dc_92_64, J_iload_2, ld_2, am_go dc_92_65, am_go dc_92_68, am_go dc_92_69, am_go dc_92_72, c32_0, am_go dc_92_73, am_go dc_92_74, J_bipush, c8_100, am_go dc_92_76, J_icmp_ge, am_go dc_92_79, c32_1, am_go dc_92_80, J_goto, am_go dc_92_83, am_go dc_92_84, J_istore, am_go dc_92_86, J_iload, ld_4, am_go dc_92_88, am_go dc_92_91, i8_m3, am_go dc_92_93, am_go dc_92_94, am_go dc_92_95, am_go dc_92_98, am_go dc_92_99, am_go dc_92_100, am_go dc_92_103, am_go dc_92_104, am_go dc_92_107, c32_2, am_go dc_92_108, cv_0_156_2 own_92, am_go dc_92_111, am_go dc_92_112, xg_0, tg_0, xg_1, pg_0, hX.c0, hX.c53, hX.c54, hX.c55, hX.c64, hX.c65, hT.c0, hT.c1, hT.c2, hT.c3, hT.c4, hT.c5, hT.c6, hT.c7, hP.c0, hP.c1, hP.c2, hP.c3, hP.c4, zI_add, zI_mul, zI_lt, zI_le, zI_eq, zI_neg, zI_pos, zI_ne0, zI_gt0, zB_0, lg_cmp_ge, lg_cmp_le, lg_cmp_gt, lg_cmp_lt, lg_cmp_eq, ail_r, abl_r, all_r, ais_r, abs_r, als_r, aal_r, aal_q, aln_r, vrf_s, vrf_n, z32, kh, ha', vx_0_161 own_92 hB, h0, Bool.true_eq_false, Bool.false_eq_true, zB_t, zB_f, i8_m4, rwF_v, List.length_cons, List.length_nil, Nat.reduceAdd, Nat.reduceLT, Nat.reduceLeDiff, Nat.reduceEqDiff, ↓reduceIte, bind_s, if_true, if_false, not_true_eq_false, not_false_eq_true, Nat.zero_add]
        have cr : am_f X 1000 227 [.ref (o + 66), .int (zI b), .int (zI 1)] (mH H (o + 66) u, z) = _ := r_peep_o (X := X) (d := 995) (h := H) (z := z) hq e2 (Or.inl hpd)
        exact gR_id hK hM cc cr mQ.rf hF
  | false =>
    rw [zB_f]
    obtain ⟨C, D, T, P, Q, hX, hTN, hP, hpS, hI, hr, hfr, hre⟩ := g_place hK
    have hS := hTN.1
    have hT := hS.iT
    have hG := hI.1
    have hL := hI.pl
    have hq := hI.qw
    have hm5 := hG.m.2
    have kh : am_f X 999 32 [.ref (o + 1), .int (x)] (H, z) = _ := c_has (X := X) (d := 998) (z := z) hS
    cases hx : qIs x (wN (u.1 1 116)) with
    | false =>
      rw [hx] at kh
      have cc : am_f X 1000 92 [.ref o, .int x, .int (zI 0)] (H, z) = some (.inl (some (.int (-1))), (H, z)) := by
        show am_f X (999 + 1) 92 _ _ = _
        rw [fU_92]
        simp (disch := first | omega | exact Nat.le_of_ble_eq_true rfl | exact hX.ci | exact hT.ci | exact hP.ci | exact hX.ci | exact hT.ci | exact hP.ci | (refine xF_lt ?_; omega) | (refine tF_lt ?_; omega) | (refine pF_lt ?_; omega)) only [own_92, am_go dc_92_0, J_aload_0, K_al, ld_0, am_go dc_92_1, J_getfield, gf_r, fk_0_12_0, am_go dc_92_4, J_iload_1, K_il, ld_1, am_go dc_92_5, cv_0_94_1 own_92, JR_v, JR_0, JR_ite, ci1_r, am_go dc_92_8, J_if_ne, am_go dc_92_11, J_iconst, i32_m1, am_go dc_92_12, J_ret_i ret_92, am_go dc_92_13, am_go dc_92_14, am_go dc_92_17, fk_0_97_1, am_go dc_92_20, am_go dc_92_21, J_aaload, am_go dc_92_22, J_astore_3, st1_0, st1_1, st1_s, kl_i, kl_l, kl_r, kl_n, am_go dc_92_23, J_aload_3, ld_3, am_go dc_92_24, am_go dc_92_27, J_if_eq, am_go dc_92_30, am_go dc_92_31, fk_0_19_0, am_go dc_92_34, fk_0_139_2, am_go dc_92_37, am_go dc_92_38, J_iaload, am_go dc_92_39, am_go dc_92_42, am_go dc_92_43, am_go dc_92_46, am_go dc_92_47, am_go dc_92_50, am_go dc_92_51, am_go dc_92_54, cv_0_142_2 own_92, am_go dc_92_57, am_go dc_92_58, cv_0_146_1 own_92, am_go dc_92_61, am_go dc_92_64, J_iload_2, ld_2, am_go dc_92_65, am_go dc_92_68, am_go dc_92_69, am_go dc_92_72, c32_0, am_go dc_92_73, am_go dc_92_74, J_bipush, c8_100, am_go dc_92_76, J_icmp_ge, am_go dc_92_79, c32_1, am_go dc_92_80, J_goto, am_go dc_92_83, am_go dc_92_84, J_istore, am_go dc_92_86, J_iload, ld_4, am_go dc_92_88, am_go dc_92_91, i8_m3, am_go dc_92_93, am_go dc_92_94, am_go dc_92_95, am_go dc_92_98, am_go dc_92_99, am_go dc_92_100, am_go dc_92_103, am_go dc_92_104, am_go dc_92_107, c32_2, am_go dc_92_108, cv_0_156_2 own_92, am_go dc_92_111, am_go dc_92_112, xg_0, tg_0, xg_1, pg_0, hX.c0, hX.c53, hX.c54, hX.c55, hX.c64, hX.c65, hT.c0, hT.c1, hT.c2, hT.c3, hT.c4, hT.c5, hT.c6, hT.c7, hP.c0, hP.c1, hP.c2, hP.c3, hP.c4, zI_add, zI_mul, zI_lt, zI_le, zI_eq, zI_neg, zI_pos, zI_ne0, zI_gt0, zB_0, lg_cmp_ge, lg_cmp_le, lg_cmp_gt, lg_cmp_lt, lg_cmp_eq, ail_r, abl_r, all_r, ais_r, abs_r, als_r, aal_r, aal_q, aln_r, vrf_s, vrf_n, z32, kh, Bool.true_eq_false, Bool.false_eq_true, zB_t, zB_f, i8_m4, rwF_v, List.length_cons, List.length_nil, Nat.reduceAdd, Nat.reduceLT, Nat.reduceLeDiff, Nat.reduceEqDiff, ↓reduceIte, bind_s, if_true, if_false, not_true_eq_false, not_false_eq_true, Nat.zero_add]
      have cr : am_f X 1000 227 [.ref (o + 66), .int x, .int (zI 0)] (mH H (o + 66) u, z) = _ := r_peep_n (X := X) (d := 995) (h := H) (z := z) hq hx
      exact gR_id hK hM cc cr mQ.rf hF
    | true =>
      obtain ⟨e1, e2⟩ := qIs_get hx
      generalize wN x = b at *
      subst e1
      rw [hx] at kh
      have hb5 : b < 5 := by omega
      obtain ⟨a', bb, ha', hB⟩ := hS.box e2
      have hd := (hpS.1 b hb5).1
      have kp : am_f X 999 71 [.ref (o + 9), .ref (o + 1)] (H, z) = _ := p_packed (X := X) (d := 997) (z := z) hS hP hpS hL
      have km : am_f X 999 75 [.ref (o + 1), .int (zI (pk (qDg (u.1 1)))), .int (zI b)] (H, z) = _ := c_mayOpen (X := X) (d := 996) (z := z) hS qDg_ok e2
      rw [lk_may hG qRw.rf hL e2] at km
      have hpd : qPeep (u.1 1) b = (decide (u.1 1 (18 * b) = zI 1) && (decide (u.1 1 (90 + b) = 0) && qMay (u.1 1) b)) := rfl
      by_cases c1 : u.1 1 (18 * b) = zI 1
      · have h0 : decide (qRow (u.1 1) b 0 = zI 1) = true := decide_eq_true c1
        rw [decide_eq_true c1, Bool.true_and] at hpd
        by_cases c2 : u.1 1 (90 + b) = 0
        · rw [decide_eq_true c2, Bool.true_and] at hpd
          have hd0 : P.1 0 b = 0 := by
            rw [hd, c2]
            rfl
          cases c3 : qMay (u.1 1) b with
          | false =>
            rw [c3] at km hpd
            have cc : am_f X 1000 92 [.ref o, .int (zI b), .int (zI 0)] (H, z) = some (.inl (some (.int (-3))), (H, z)) := by
              show am_f X (999 + 1) 92 _ _ = _
              rw [fU_92]
              simp (disch := first | omega | exact Nat.le_of_ble_eq_true rfl | exact hX.ci | exact hT.ci | exact hP.ci | exact hX.ci | exact hT.ci | exact hP.ci | (refine xF_lt ?_; omega) | (refine tF_lt ?_; omega) | (refine pF_lt ?_; omega)) only [own_92, am_go dc_92_0, J_aload_0, K_al, ld_0, am_go dc_92_1, J_getfield, gf_r, fk_0_12_0, am_go dc_92_4, J_iload_1, K_il, ld_1, am_go dc_92_5, cv_0_94_1 own_92, JR_v, JR_0, JR_ite, ci1_r, am_go dc_92_8, J_if_ne, am_go dc_92_11, J_iconst, i32_m1, am_go dc_92_12, J_ret_i ret_92, am_go dc_92_13, am_go dc_92_14, am_go dc_92_17, fk_0_97_1, am_go dc_92_20, am_go dc_92_21, J_aaload, am_go dc_92_22, J_astore_3, st1_0, st1_1, st1_s, kl_i, kl_l, kl_r, kl_n, am_go dc_92_23, J_aload_3, ld_3, am_go dc_92_24, am_go dc_92_27, J_if_eq, am_go dc_92_30, am_go dc_92_31, fk_0_19_0, am_go dc_92_34, fk_0_139_2, am_go dc_92_37, am_go dc_92_38, J_iaload, am_go dc_92_39, am_go dc_92_42, am_go dc_92_43, am_go dc_92_46, am_go dc_92_47, am_go dc_92_50, am_go dc_92_51, am_go dc_92_54, cv_0_142_2 own_92, am_go dc_92_57, am_go dc_92_58, cv_0_146_1 own_92, am_go dc_92_61, am_go dc_92_64, J_iload_2, ld_2, am_go dc_92_65, am_go dc_92_68, am_go dc_92_69, am_go dc_92_72, c32_0, am_go dc_92_73, am_go dc_92_74, J_bipush, c8_100, am_go dc_92_76, J_icmp_ge, am_go dc_92_79, c32_1, am_go dc_92_80, J_goto, am_go dc_92_83, am_go dc_92_84, J_istore, am_go dc_92_86, J_iload, ld_4, am_go dc_92_88, am_go dc_92_91, i8_m3, am_go dc_92_93, am_go dc_92_94, am_go dc_92_95, am_go dc_92_98, am_go dc_92_99, am_go dc_92_100, am_go dc_92_103, am_go dc_92_104, am_go dc_92_107, c32_2, am_go dc_92_108, cv_0_156_2 own_92, am_go dc_92_111, am_go dc_92_112, xg_0, tg_0, xg_1, pg_0, hX.c0, hX.c53, hX.c54, hX.c55, hX.c64, hX.c65, hT.c0, hT.c1, hT.c2, hT.c3, hT.c4, hT.c5, hT.c6, hT.c7, hP.c0, hP.c1, hP.c2, hP.c3, hP.c4, zI_add, zI_mul, zI_lt, zI_le, zI_eq, zI_neg, zI_pos, zI_ne0, zI_gt0, zB_0, lg_cmp_ge, lg_cmp_le, lg_cmp_gt, lg_cmp_lt, lg_cmp_eq, ail_r, abl_r, all_r, ais_r, abs_r, als_r, aal_r, aal_q, aln_r, vrf_s, vrf_n, z32, kh, ha', vx_0_161 own_92 hB, h0, hd0, kp, km, Bool.true_eq_false, Bool.false_eq_true, zB_t, zB_f, i8_m4, rwF_v, List.length_cons, List.length_nil, Nat.reduceAdd, Nat.reduceLT, Nat.reduceLeDiff, Nat.reduceEqDiff, ↓reduceIte, bind_s, if_true, if_false, not_true_eq_false, not_false_eq_true, Nat.zero_add]
            have cr : am_f X 1000 227 [.ref (o + 66), .int (zI b), .int (zI 0)] (mH H (o + 66) u, z) = _ := r_peep_o (X := X) (d := 995) (h := H) (z := z) hq e2 (Or.inl hpd)
            exact gR_id hK hM cc cr mQ.rf hF
          | true =>
            rw [c3] at km hpd
            have hpe := hpd
            have hn := hG.n e2
            have isc := fun x => hB.c (x := x) (i := 0) (show 0 < wN (qRow (u.1 1) b 3) from hn.2.1)
            have hch : qRow (u.1 1) b (10 + 0) = qChance (u.1 1) b 0 := by
              have hneg : u.1 1 (18 * b + 5) < 0 := by
                rcases (hG.2.2 b e2).2.2.2.2.2.2.1 with q | q
                · rw [q]
                  decide
                · exact absurd c1 q.2.2.2.2.2
              unfold qChance
              rw [if_pos hneg]
              rfl
            by_cases cq : qChance (u.1 1) b 0 = zI 100
            · have hq1 : qRow (u.1 1) b (10 + 0) = zI 100 := hch.trans cq
              have cc : am_f X 1000 92 [.ref o, .int (zI b), .int (zI 0)] (H, z) = some (.inl (some (.int (-3))), (H, z)) := by
                show am_f X (999 + 1) 92 _ _ = _
                rw [fU_92]
                simp (disch := first | omega | exact Nat.le_of_ble_eq_true rfl | exact hX.ci | exact hT.ci | exact hP.ci | exact hX.ci | exact hT.ci | exact hP.ci | (refine xF_lt ?_; omega) | (refine tF_lt ?_; omega) | (refine pF_lt ?_; omega)) only [own_92, am_go dc_92_0, J_aload_0, K_al, ld_0, am_go dc_92_1, J_getfield, gf_r, fk_0_12_0, am_go dc_92_4, J_iload_1, K_il, ld_1, am_go dc_92_5, cv_0_94_1 own_92, JR_v, JR_0, JR_ite, ci1_r, am_go dc_92_8, J_if_ne, am_go dc_92_11, J_iconst, i32_m1, am_go dc_92_12, J_ret_i ret_92, am_go dc_92_13, am_go dc_92_14, am_go dc_92_17, fk_0_97_1, am_go dc_92_20, am_go dc_92_21, J_aaload, am_go dc_92_22, J_astore_3, st1_0, st1_1, st1_s, kl_i, kl_l, kl_r, kl_n, am_go dc_92_23, J_aload_3, ld_3, am_go dc_92_24, am_go dc_92_27, J_if_eq, am_go dc_92_30, am_go dc_92_31, fk_0_19_0, am_go dc_92_34, fk_0_139_2, am_go dc_92_37, am_go dc_92_38, J_iaload, am_go dc_92_39, am_go dc_92_42, am_go dc_92_43, am_go dc_92_46, am_go dc_92_47, am_go dc_92_50, am_go dc_92_51, am_go dc_92_54, cv_0_142_2 own_92, am_go dc_92_57, am_go dc_92_58, cv_0_146_1 own_92, am_go dc_92_61, am_go dc_92_64, J_iload_2, ld_2, am_go dc_92_65, am_go dc_92_68, am_go dc_92_69, am_go dc_92_72, c32_0, am_go dc_92_73, am_go dc_92_74, J_bipush, c8_100, am_go dc_92_76, J_icmp_ge, am_go dc_92_79, c32_1, am_go dc_92_80, J_goto, am_go dc_92_83, am_go dc_92_84, J_istore, am_go dc_92_86, J_iload, ld_4, am_go dc_92_88, am_go dc_92_91, i8_m3, am_go dc_92_93, am_go dc_92_94, am_go dc_92_95, am_go dc_92_98, am_go dc_92_99, am_go dc_92_100, am_go dc_92_103, am_go dc_92_104, am_go dc_92_107, c32_2, am_go dc_92_108, cv_0_156_2 own_92, am_go dc_92_111, am_go dc_92_112, xg_0, tg_0, xg_1, pg_0, hX.c0, hX.c53, hX.c54, hX.c55, hX.c64, hX.c65, hT.c0, hT.c1, hT.c2, hT.c3, hT.c4, hT.c5, hT.c6, hT.c7, hP.c0, hP.c1, hP.c2, hP.c3, hP.c4, zI_add, zI_mul, zI_lt, zI_le, zI_eq, zI_neg, zI_pos, zI_ne0, zI_gt0, zB_0, lg_cmp_ge, lg_cmp_le, lg_cmp_gt, lg_cmp_lt, lg_cmp_eq, ail_r, abl_r, all_r, ais_r, abs_r, als_r, aal_r, aal_q, aln_r, vrf_s, vrf_n, z32, kh, ha', vx_0_161 own_92 hB, h0, hd0, kp, km, bf_0_126 hB, isc, hq1, Nat.le_refl, Bool.true_eq_false, Bool.false_eq_true, zB_t, zB_f, i8_m4, rwF_v, List.length_cons, List.length_nil, Nat.reduceAdd, Nat.reduceLT, Nat.reduceLeDiff, Nat.reduceEqDiff, ↓reduceIte, bind_s, if_true, if_false, not_true_eq_false, not_false_eq_true, Nat.zero_add]
              have cr : am_f X 1000 227 [.ref (o + 66), .int (zI b), .int (zI 0)] (mH H (o + 66) u, z) = _ := r_peep_o (X := X) (d := 995) (h := H) (z := z) hq e2 (Or.inr ⟨rfl, cq⟩)
              exact gR_id hK hM cc cr mQ.rf hF
            · obtain ⟨k1, k2, k3⟩ := hG.c0 e2
              have hq1 : qRow (u.1 1) b (10 + 0) = zI (wN (u.1 1 (18 * b + 10))) := k1
              have hlt : ¬ 100 ≤ wN (u.1 1 (18 * b + 10)) := fun q => cq (by
                rw [← hch, hq1, show wN (u.1 1 (18 * b + 10)) = 100 by omega])
              obtain ⟨a, ha10, ha, hw2, hI1⟩ := rI_mv (x := 2) hI e2 (by omega) (qPeep_lev (by omega) hpe) (hL.pe qRw.rf hG e2 (by omega) c1)
              have hA : qA0 (u.1 1) (qActs (u.1 1) b (zI 2)) := qA0_mv ha ha10 hb5
              have hp1 := pS_mv (P0 := P) (x := 2) hpS ha ha10 hb5 rfl rfl rfl (fun _ _ => rfl) (by omega) (fun _ => by omega) hw2
              rw [qD5_lo (by omega)] at hp1
              obtain ⟨h, hH⟩ : ∃ h, pH h (o + 9) P = H := ⟨H, ov_eq hP⟩
              subst hH
              obtain ⟨g1, g2⟩ := hre h _ _ rfl hA hp1 hI1
              have kmv : am_f X 999 88 [.ref (o + 9), .int (zI b), .int (zI 2)] (pH h (o + 9) P, z) = _ := p_move_y (X := X) (d := 998) (z := z) hb5 ha10 (hpS.2.1.trans ha)
              have cc : am_f X 1000 92 [.ref o, .int (zI b), .int (zI 0)] (pH h (o + 9) P, z) = some (.inl (some (.int (zI 1))), (pH h (o + 9) (pMv P b a (zI 2)), z)) := by
                show am_f X (999 + 1) 92 _ _ = _
                rw [fU_92]
                simp (disch := first | omega | exact Nat.le_of_ble_eq_true rfl | exact hX.ci | exact hT.ci | exact hP.ci | exact hX.ci | exact hT.ci | exact hP.ci | (refine xF_lt ?_; omega) | (refine tF_lt ?_; omega) | (refine pF_lt ?_; omega)) only [own_92, am_go dc_92_0, J_aload_0, K_al, ld_0, am_go dc_92_1, J_getfield, gf_r, fk_0_12_0, am_go dc_92_4, J_iload_1, K_il, ld_1, am_go dc_92_5, cv_0_94_1 own_92, JR_v, JR_0, JR_ite, ci1_r, am_go dc_92_8, J_if_ne, am_go dc_92_11, J_iconst, i32_m1, am_go dc_92_12, J_ret_i ret_92, am_go dc_92_13, am_go dc_92_14, am_go dc_92_17, fk_0_97_1, am_go dc_92_20, am_go dc_92_21, J_aaload, am_go dc_92_22, J_astore_3, st1_0, st1_1, st1_s, kl_i, kl_l, kl_r, kl_n, am_go dc_92_23, J_aload_3, ld_3, am_go dc_92_24, am_go dc_92_27, J_if_eq, am_go dc_92_30, am_go dc_92_31, fk_0_19_0, am_go dc_92_34, fk_0_139_2, am_go dc_92_37, am_go dc_92_38, J_iaload, am_go dc_92_39, am_go dc_92_42, am_go dc_92_43, am_go dc_92_46, am_go dc_92_47, am_go dc_92_50, am_go dc_92_51, am_go dc_92_54, cv_0_142_2 own_92, am_go dc_92_57, am_go dc_92_58, cv_0_146_1 own_92, am_go dc_92_61, am_go dc_92_64, J_iload_2, ld_2, am_go dc_92_65, am_go dc_92_68, am_go dc_92_69, am_go dc_92_72, c32_0, am_go dc_92_73, am_go dc_92_74, J_bipush, c8_100, am_go dc_92_76, J_icmp_ge, am_go dc_92_79, c32_1, am_go dc_92_80, J_goto, am_go dc_92_83, am_go dc_92_84, J_istore, am_go dc_92_86, J_iload, ld_4, am_go dc_92_88, am_go dc_92_91, i8_m3, am_go dc_92_93, am_go dc_92_94, am_go dc_92_95, am_go dc_92_98, am_go dc_92_99, am_go dc_92_100, am_go dc_92_103, am_go dc_92_104, am_go dc_92_107, c32_2, am_go dc_92_108, cv_0_156_2 own_92, am_go dc_92_111, am_go dc_92_112, xg_0, tg_0, xg_1, pg_0, hX.c0, hX.c53, hX.c54, hX.c55, hX.c64, hX.c65, hT.c0, hT.c1, hT.c2, hT.c3, hT.c4, hT.c5, hT.c6, hT.c7, hP.c0, hP.c1, hP.c2, hP.c3, hP.c4, zI_add, zI_mul, zI_lt, zI_le, zI_eq, zI_neg, zI_pos, zI_ne0, zI_gt0, zB_0, lg_cmp_ge, lg_cmp_le, lg_cmp_gt, lg_cmp_lt, lg_cmp_eq, ail_r, abl_r, all_r, ais_r, abs_r, als_r, aal_r, aal_q, aln_r, vrf_s, vrf_n, z32, kh, ha', vx_0_161 own_92 hB, h0, hd0, kp, km, kmv, bf_0_126 hB, isc, hq1, hlt, Bool.true_eq_false, Bool.false_eq_true, zB_t, zB_f, i8_m4, rwF_v, List.length_cons, List.length_nil, Nat.reduceAdd, Nat.reduceLT, Nat.reduceLeDiff, Nat.reduceEqDiff, ↓reduceIte, bind_s, if_true, if_false, not_true_eq_false, not_false_eq_true, Nat.zero_add]
              have cr : am_f X 1000 227 [.ref (o + 66), .int (zI b), .int (zI 0)] (mH (pH h (o + 9) (pMv P b a (zI 2))) (o + 66) u, z) = _ := r_peep_y (X := X) (d := 995) (h := pH h (o + 9) (pMv P b a (zI 2))) (z := z) hq e2 hpe (fun q => cq q.2) ha ha10
              rw [if_pos (show zI 0 = 0 from rfl)] at cr
              exact gR_mk hM cc g1 g2 cr mQ.rf (hF.mv hA)
        · have hd0 : ¬ P.1 0 b = 0 := by
            obtain ⟨w1, w2⟩ := hL.w hb5
            rw [hd, w1]
            intro q
            refine c2 (w1.trans ?_)
            by_cases l4 : hw (u.1 1) b ≤ 4
            · rw [qD5_lo l4] at q
              exact q
            · rw [qD5_hi (by omega) (by omega)] at q
              exact absurd q (by decide)
          rw [decide_eq_false c2, Bool.false_and] at hpd
          have cc : am_f X 1000 92 [.ref o, .int (zI b), .int (zI 0)] (H, z) = some (.inl (some (.int (-3))), (H, z)) := by
            show am_f X (999 + 1) 92 _ _ = _
            rw [fU_92]
            simp (disch := first | omega | exact Nat.le_of_ble_eq_true rfl | exact hX.ci | exact hT.ci | exact hP.ci | exact hX.ci | exact hT.ci | exact hP.ci | (refine xF_lt ?_; omega) | (refine tF_lt ?_; omega) | (refine pF_lt ?_; omega)) only [own_92, am_go dc_92_0, J_aload_0, K_al, ld_0, am_go dc_92_1, J_getfield, gf_r, fk_0_12_0, am_go dc_92_4, J_iload_1, K_il, ld_1, am_go dc_92_5, cv_0_94_1 own_92, JR_v, JR_0, JR_ite, ci1_r, am_go dc_92_8, J_if_ne, am_go dc_92_11, J_iconst, i32_m1, am_go dc_92_12, J_ret_i ret_92, am_go dc_92_13, am_go dc_92_14, am_go dc_92_17, fk_0_97_1, am_go dc_92_20, am_go dc_92_21, J_aaload, am_go dc_92_22, J_astore_3, st1_0, st1_1, st1_s, kl_i, kl_l, kl_r, kl_n, am_go dc_92_23, J_aload_3, ld_3, am_go dc_92_24, am_go dc_92_27, J_if_eq, am_go dc_92_30, am_go dc_92_31, fk_0_19_0, am_go dc_92_34, fk_0_139_2, am_go dc_92_37, am_go dc_92_38, J_iaload, am_go dc_92_39, am_go dc_92_42, am_go dc_92_43, am_go dc_92_46, am_go dc_92_47, am_go dc_92_50, am_go dc_92_51, am_go dc_92_54, cv_0_142_2 own_92, am_go dc_92_57, am_go dc_92_58, cv_0_146_1 own_92, am_go dc_92_61, am_go dc_92_64, J_iload_2, ld_2, am_go dc_92_65, am_go dc_92_68, am_go dc_92_69, am_go dc_92_72, c32_0, am_go dc_92_73, am_go dc_92_74, J_bipush, c8_100, am_go dc_92_76, J_icmp_ge, am_go dc_92_79, c32_1, am_go dc_92_80, J_goto, am_go dc_92_83, am_go dc_92_84, J_istore, am_go dc_92_86, J_iload, ld_4, am_go dc_92_88, am_go dc_92_91, i8_m3, am_go dc_92_93, am_go dc_92_94, am_go dc_92_95, am_go dc_92_98, am_go dc_92_99, am_go dc_92_100, am_go dc_92_103, am_go dc_92_104, am_go dc_92_107, c32_2, am_go dc_92_108, cv_0_156_2 own_92, am_go dc_92_111, am_go dc_92_112, xg_0, tg_0, xg_1, pg_0, hX.c0, hX.c53, hX.c54, hX.c55, hX.c64, hX.c65, hT.c0, hT.c1, hT.c2, hT.c3, hT.c4, hT.c5, hT.c6, hT.c7, hP.c0, hP.c1, hP.c2, hP.c3, hP.c4, zI_add, zI_mul, zI_lt, zI_le, zI_eq, zI_neg, zI_pos, zI_ne0, zI_gt0, zB_0, lg_cmp_ge, lg_cmp_le, lg_cmp_gt, lg_cmp_lt, lg_cmp_eq, ail_r, abl_r, all_r, ais_r, abs_r, als_r, aal_r, aal_q, aln_r, vrf_s, vrf_n, z32, kh, ha', vx_0_161 own_92 hB, h0, hd0, Bool.true_eq_false, Bool.false_eq_true, zB_t, zB_f, i8_m4, rwF_v, List.length_cons, List.length_nil, Nat.reduceAdd, Nat.reduceLT, Nat.reduceLeDiff, Nat.reduceEqDiff, ↓reduceIte, bind_s, if_true, if_false, not_true_eq_false, not_false_eq_true, Nat.zero_add]
          have cr : am_f X 1000 227 [.ref (o + 66), .int (zI b), .int (zI 0)] (mH H (o + 66) u, z) = _ := r_peep_o (X := X) (d := 995) (h := H) (z := z) hq e2 (Or.inl hpd)
          exact gR_id hK hM cc cr mQ.rf hF
      · have h0 : decide (qRow (u.1 1) b 0 = zI 1) = false := decide_eq_false c1
        rw [decide_eq_false c1, Bool.false_and] at hpd
        have cc : am_f X 1000 92 [.ref o, .int (zI b), .int (zI 0)] (H, z) = some (.inl (some (.int (-3))), (H, z)) := by
          show am_f X (999 + 1) 92 _ _ = _
          rw [fU_92]
          simp (disch := first | omega | exact Nat.le_of_ble_eq_true rfl | exact hX.ci | exact hT.ci | exact hP.ci | exact hX.ci | exact hT.ci | exact hP.ci | (refine xF_lt ?_; omega) | (refine tF_lt ?_; omega) | (refine pF_lt ?_; omega)) only [own_92, am_go dc_92_0, J_aload_0, K_al, ld_0, am_go dc_92_1, J_getfield, gf_r, fk_0_12_0, am_go dc_92_4, J_iload_1, K_il, ld_1, am_go dc_92_5, cv_0_94_1 own_92, JR_v, JR_0, JR_ite, ci1_r, am_go dc_92_8, J_if_ne, am_go dc_92_11, J_iconst, i32_m1, am_go dc_92_12, J_ret_i ret_92, am_go dc_92_13, am_go dc_92_14, am_go dc_92_17, fk_0_97_1, am_go dc_92_20, am_go dc_92_21, J_aaload, am_go dc_92_22, J_astore_3, st1_0, st1_1, st1_s, kl_i, kl_l, kl_r, kl_n, am_go dc_92_23, J_aload_3, ld_3, am_go dc_92_24, am_go dc_92_27, J_if_eq, am_go dc_92_30, am_go dc_92_31, fk_0_19_0, am_go dc_92_34, fk_0_139_2, am_go dc_92_37, am_go dc_92_38, J_iaload, am_go dc_92_39, am_go dc_92_42, am_go dc_92_43, am_go dc_92_46, am_go dc_92_47, am_go dc_92_50, am_go dc_92_51, am_go dc_92_54, cv_0_142_2 own_92, am_go dc_92_57, am_go dc_92_58, cv_0_146_1 own_92, am_go dc_92_61, am_go dc_92_64, J_iload_2, ld_2, am_go dc_92_65, am_go dc_92_68, am_go dc_92_69, am_go dc_92_72, c32_0, am_go dc_92_73, am_go dc_92_74, J_bipush, c8_100, am_go dc_92_76, J_icmp_ge, am_go dc_92_79, c32_1, am_go dc_92_80, J_goto, am_go dc_92_83, am_go dc_92_84, J_istore, am_go dc_92_86, J_iload, ld_4, am_go dc_92_88, am_go dc_92_91, i8_m3, am_go dc_92_93, am_go dc_92_94, am_go dc_92_95, am_go dc_92_98, am_go dc_92_99, am_go dc_92_100, am_go dc_92_103, am_go dc_92_104, am_go dc_92_107, c32_2, am_go dc_92_108, cv_0_156_2 own_92, am_go dc_92_111, am_go dc_92_112, xg_0, tg_0, xg_1, pg_0, hX.c0, hX.c53, hX.c54, hX.c55, hX.c64, hX.c65, hT.c0, hT.c1, hT.c2, hT.c3, hT.c4, hT.c5, hT.c6, hT.c7, hP.c0, hP.c1, hP.c2, hP.c3, hP.c4, zI_add, zI_mul, zI_lt, zI_le, zI_eq, zI_neg, zI_pos, zI_ne0, zI_gt0, zB_0, lg_cmp_ge, lg_cmp_le, lg_cmp_gt, lg_cmp_lt, lg_cmp_eq, ail_r, abl_r, all_r, ais_r, abs_r, als_r, aal_r, aal_q, aln_r, vrf_s, vrf_n, z32, kh, ha', vx_0_161 own_92 hB, h0, Bool.true_eq_false, Bool.false_eq_true, zB_t, zB_f, i8_m4, rwF_v, List.length_cons, List.length_nil, Nat.reduceAdd, Nat.reduceLT, Nat.reduceLeDiff, Nat.reduceEqDiff, ↓reduceIte, bind_s, if_true, if_false, not_true_eq_false, not_false_eq_true, Nat.zero_add]
        have cr : am_f X 1000 227 [.ref (o + 66), .int (zI b), .int (zI 0)] (mH H (o + 66) u, z) = _ := r_peep_o (X := X) (d := 995) (h := H) (z := z) hq e2 (Or.inl hpd)
        exact gR_id hK hM cc cr mQ.rf hF
theorem f_undo (hK : gK o k H z u) (hM : cM H (o + 66) u) (hF : mFr u)  : gR X o k 93 229 [] H z u := by
  obtain ⟨C, D, T, P, Q, hX, hTN, hP, hpS, hI, hr, hfr, hre⟩ := g_place hK
  have hS := hTN.1
  have hT := hS.iT
  have hG := hI.1
  have hL := hI.pl
  have hq := hI.qw
  have hm5 := hG.m.2
  have hac := hpS.2.1
  by_cases c : u.1 1 115 = zI 0
  · rw [c] at hac
    have cc : am_f X 1000 93 [.ref o] (H, z) = some (.inl (some (.int (-3))), (H, z)) := by
      show am_f X (999 + 1) 93 _ _ = _
      rw [fU_93]
      simp (disch := first | omega | exact Nat.le_of_ble_eq_true rfl | exact hX.ci | exact hT.ci | exact hP.ci | exact hX.ci | exact hT.ci | exact hP.ci | (refine xF_lt ?_; omega) | (refine tF_lt ?_; omega) | (refine pF_lt ?_; omega)) only [own_93, am_go dc_93_0, J_aload_0, K_al, ld_0, am_go dc_93_1, J_getfield, gf_r, fk_0_19_0, am_go dc_93_4, fk_0_165_2, am_go dc_93_7, J_if_ne, am_go dc_93_10, J_bipush, i8_m3, am_go dc_93_12, J_ret_i ret_93, am_go dc_93_13, am_go dc_93_14, am_go dc_93_17, cv_0_168_2 own_93, JR_v, JR_0, JR_ite, ci1_r, am_go dc_93_20, am_go dc_93_21, am_go dc_93_24, am_go dc_93_27, xg_1, pg_4, hX.c0, hX.c53, hX.c54, hX.c55, hX.c64, hX.c65, hT.c0, hT.c1, hT.c2, hT.c3, hT.c4, hT.c5, hT.c6, hT.c7, hP.c0, hP.c1, hP.c2, hP.c3, hP.c4, zI_add, zI_mul, zI_lt, zI_le, zI_eq, zI_neg, zI_pos, zI_ne0, zI_gt0, zB_0, lg_cmp_ge, lg_cmp_le, lg_cmp_gt, lg_cmp_lt, lg_cmp_eq, ail_r, abl_r, all_r, ais_r, abs_r, als_r, aal_r, aal_q, aln_r, vrf_s, vrf_n, z32, hac, Bool.true_eq_false, Bool.false_eq_true, zB_t, zB_f, i32_m1, i8_m4, rwF_v, List.length_cons, List.length_nil, Nat.reduceAdd, Nat.reduceLT, Nat.reduceLeDiff, Nat.reduceEqDiff, ↓reduceIte, bind_s, if_true, if_false, not_true_eq_false, not_false_eq_true, Nat.zero_add]
    have cr : am_f X 1000 229 [.ref (o + 66)] (mH H (o + 66) u, z) = _ := r_undo_n (X := X) (d := 998) (h := H) (z := z) c
    exact gR_id hK hM cc cr mQ.rf hF
  · obtain ⟨a, b, w, h10, ha, hb5, hw2, h5, h6, hI1⟩ := rI_bk hI c
    rw [ha] at hac
    have hA : qA0 (u.1 1) (qBk (u.1 1) a b) := qA0_bk hb5
    have hp1 := pS_bk hpS ha h10 hb5 hw2 h6
    have hp2 := (hpS.2.2.2 a (by rw [ha, wN_zI (by omega)]; omega)).1.trans h5
    obtain ⟨h, hH⟩ : ∃ h, pH h (o + 9) P = H := ⟨H, ov_eq hP⟩
    subst hH
    obtain ⟨g1, g2⟩ := hre h _ _ rfl hA hp1 hI1
    obtain ⟨hX1, -⟩ := hfr h (pBk P b a) rfl
    have kbk : am_f X 999 94 [.ref (o + 9)] (pH h (o + 9) P, z) = _ := p_back_y (X := X) (d := 998) (z := z) hb5 h10 hac hp2
    have hac1 : (pBk P b a).2.2.1 4 = zI a := rfl
    have hap : a + 1 ≠ 0 := by omega
    have cc : am_f X 1000 93 [.ref o] (pH h (o + 9) P, z) = some (.inl (some (.int (zI a))), (pH h (o + 9) (pBk P b a), z)) := by
      show am_f X (999 + 1) 93 _ _ = _
      rw [fU_93]
      simp (disch := first | omega | exact Nat.le_of_ble_eq_true rfl | exact hX.ci | exact hT.ci | exact hP.ci | exact hX.ci | exact hT.ci | exact hP.ci | (refine xF_lt ?_; omega) | (refine tF_lt ?_; omega) | (refine pF_lt ?_; omega) | exact hX1.ci | exact pH_ci) only [own_93, am_go dc_93_0, J_aload_0, K_al, ld_0, am_go dc_93_1, J_getfield, gf_r, fk_0_19_0, am_go dc_93_4, fk_0_165_2, am_go dc_93_7, J_if_ne, am_go dc_93_10, J_bipush, i8_m3, am_go dc_93_12, J_ret_i ret_93, am_go dc_93_13, am_go dc_93_14, am_go dc_93_17, cv_0_168_2 own_93, JR_v, JR_0, JR_ite, ci1_r, am_go dc_93_20, am_go dc_93_21, am_go dc_93_24, am_go dc_93_27, xg_1, pg_4, hX.c0, hX.c53, hX.c54, hX.c55, hX.c64, hX.c65, hT.c0, hT.c1, hT.c2, hT.c3, hT.c4, hT.c5, hT.c6, hT.c7, hP.c0, hP.c1, hP.c2, hP.c3, hP.c4, zI_add, zI_mul, zI_lt, zI_le, zI_eq, zI_neg, zI_pos, zI_ne0, zI_gt0, zB_0, lg_cmp_ge, lg_cmp_le, lg_cmp_gt, lg_cmp_lt, lg_cmp_eq, ail_r, abl_r, all_r, ais_r, abs_r, als_r, aal_r, aal_q, aln_r, vrf_s, vrf_n, z32, hac, kbk, hX1.c0, hac1, pH_0, hap, ne_eq, Bool.true_eq_false, Bool.false_eq_true, zB_t, zB_f, i32_m1, i8_m4, rwF_v, List.length_cons, List.length_nil, Nat.reduceAdd, Nat.reduceLT, Nat.reduceLeDiff, Nat.reduceEqDiff, ↓reduceIte, bind_s, if_true, if_false, not_true_eq_false, not_false_eq_true, Nat.zero_add]
    have cr : am_f X 1000 229 [.ref (o + 66)] (mH (pH h (o + 9) (pBk P b a)) (o + 66) u, z) = _ := r_undo_y (X := X) (d := 998) (h := pH h (o + 9) (pBk P b a)) (z := z) ha h10 h5 hb5
    exact gR_mk hM cc g1 g2 cr mQ.rf (hF.mv hA)
end FG
