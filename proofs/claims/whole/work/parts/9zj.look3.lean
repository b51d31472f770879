/-! the face: box, step, count -/
section FC
variable {X : am_X} {o k : Nat} {H : am_H} {z : Nat × Nat} {u : mU}
theorem f_box (hK : gK o k H z u) (hM : cM H (o + 66) u) (hF : mFr u) {x y : Int32} : gR X o k 47 211 [.int x, .int y] H z u := by
  obtain ⟨C, D, T, P, Q, lu, m, a, N, hX, hTN, hP, hpS, hI, hpl, hr, hkn, hLH, hlow, hre⟩ := g_plan hK
  have hS := hTN.1
  have hT := hS.iT
  have hN := hTN.2.1
  have hG := hI.1
  have hL := hI.pl
  have hq := hI.qw
  have hm5 := hG.m.2
  have hsz := hS.sz
  have hbl := hS.bell
  have kh : am_f X 999 32 [.ref (o + 1), .int (x)] (H, z) = _ := c_has (X := X) (d := 998) (z := z) hS
  cases hx : qIs x (wN (u.1 1 116)) with
  | false =>
    rw [hx] at kh
    have cc : am_f X 1000 47 [.ref o, .int x, .int y] (H, z) = some (.inl (some (.int (-1))), (H, z)) := by
      show am_f X (999 + 1) 47 _ _ = _
      rw [fU_47]
      simp (disch := first | omega | exact Nat.le_of_ble_eq_true rfl | exact hX.ci | exact hT.ci | exact hP.ci | exact hX.ci | exact hT.ci | exact hP.ci | (refine xF_lt ?_; omega) | (refine tF_lt ?_; omega) | (refine pF_lt ?_; omega)) only [own_47, am_go dc_47_0, J_aload_0, K_al, ld_0, am_go dc_47_1, J_getfield, gf_r, fk_0_12_0, am_go dc_47_4, J_iload_1, K_il, ld_1, am_go dc_47_5, cv_0_94_1 own_47, JR_v, JR_0, JR_ite, ci1_r, am_go dc_47_8, J_if_ne, am_go dc_47_11, J_iconst, i32_m1, am_go dc_47_12, J_ret_i ret_47, am_go dc_47_13, am_go dc_47_14, am_go dc_47_17, fk_0_97_1, am_go dc_47_20, am_go dc_47_21, J_aaload, am_go dc_47_22, J_astore_3, st1_0, st1_1, st1_s, kl_i, kl_l, kl_r, kl_n, am_go dc_47_23, J_iload_2, ld_2, am_go dc_47_24, sw_47_24_0, sw_47_24_1, sw_47_24_2, sw_47_24_3, sw_47_24_4, sw_47_24_5, am_go dc_47_64, J_aload_3, ld_3, am_go dc_47_65, am_go dc_47_68, am_go dc_47_69, am_go dc_47_70, am_go dc_47_73, am_go dc_47_74, am_go dc_47_75, am_go dc_47_78, am_go dc_47_79, am_go dc_47_80, am_go dc_47_83, am_go dc_47_84, am_go dc_47_85, am_go dc_47_88, am_go dc_47_89, am_go dc_47_90, am_go dc_47_93, fk_0_116_1, am_go dc_47_96, am_go dc_47_97, J_iaload, am_go dc_47_98, J_if_ge, am_go dc_47_101, J_bipush, i8_m4, am_go dc_47_103, J_goto, am_go dc_47_106, am_go dc_47_107, am_go dc_47_110, am_go dc_47_113, am_go dc_47_114, am_go dc_47_115, am_go dc_47_116, am_go dc_47_117, xg_0, tg_0, tg_3, hX.c0, hX.c53, hX.c54, hX.c55, hX.c64, hX.c65, hT.c0, hT.c1, hT.c2, hT.c3, hT.c4, hT.c5, hT.c6, hT.c7, hP.c0, hP.c1, hP.c2, hP.c3, hP.c4, zI_add, zI_mul, zI_lt, zI_le, zI_eq, zI_neg, zI_pos, zI_ne0, zI_gt0, zB_0, lg_cmp_ge, lg_cmp_le, lg_cmp_gt, lg_cmp_lt, lg_cmp_eq, ail_r, abl_r, all_r, ais_r, abs_r, als_r, aal_r, aal_q, aln_r, vrf_s, vrf_n, z32, kh, Bool.true_eq_false, Bool.false_eq_true, zB_t, zB_f, i8_m3, rwF_v, List.length_cons, List.length_nil, Nat.reduceAdd, Nat.reduceLT, Nat.reduceLeDiff, Nat.reduceEqDiff, ↓reduceIte, bind_s, if_true, if_false, not_true_eq_false, not_false_eq_true, Nat.zero_add]
    have cr : am_f X 1000 211 [.ref (o + 66), .int x, .int y] (mH H (o + 66) u, z) = _ := r_box_n (X := X) (d := 997) (h := H) (z := z) hq hx
    exact gR_id hK hM cc cr mQ.rf hF
  | true =>
    obtain ⟨e1, e2⟩ := qIs_get hx
    generalize wN x = b at *
    subst e1
    have hb5 : b < 5 := by omega
    obtain ⟨a', bb, ha, hB⟩ := hS.box e2
    rw [hx] at kh
    cases hy : qIs y 6 with
    | false =>
      have cr : am_f X 1000 211 [.ref (o + 66), .int (zI b), .int y] (mH H (o + 66) u, z) = _ := r_box_m (X := X) (d := 997) (h := H) (z := z) hq e2 hy
      have cc : am_f X 1000 47 [.ref o, .int (zI b), .int y] (H, z) = some (.inl (some (.int (-1))), (H, z)) := by
        show am_f X (999 + 1) 47 _ _ = _
        rw [fU_47]
        simp (disch := first | omega | exact Nat.le_of_ble_eq_true rfl | exact hX.ci | exact hT.ci | exact hP.ci | exact hX.ci | exact hT.ci | exact hP.ci | (refine xF_lt ?_; omega) | (refine tF_lt ?_; omega) | (refine pF_lt ?_; omega)) only [own_47, am_go dc_47_0, J_aload_0, K_al, ld_0, am_go dc_47_1, J_getfield, gf_r, fk_0_12_0, am_go dc_47_4, J_iload_1, K_il, ld_1, am_go dc_47_5, cv_0_94_1 own_47, JR_v, JR_0, JR_ite, ci1_r, am_go dc_47_8, J_if_ne, am_go dc_47_11, J_iconst, i32_m1, am_go dc_47_12, J_ret_i ret_47, am_go dc_47_13, am_go dc_47_14, am_go dc_47_17, fk_0_97_1, am_go dc_47_20, am_go dc_47_21, J_aaload, am_go dc_47_22, J_astore_3, st1_0, st1_1, st1_s, kl_i, kl_l, kl_r, kl_n, am_go dc_47_23, J_iload_2, ld_2, am_go dc_47_24, sw_47_24_0, sw_47_24_1, sw_47_24_2, sw_47_24_3, sw_47_24_4, sw_47_24_5, am_go dc_47_64, J_aload_3, ld_3, am_go dc_47_65, am_go dc_47_68, am_go dc_47_69, am_go dc_47_70, am_go dc_47_73, am_go dc_47_74, am_go dc_47_75, am_go dc_47_78, am_go dc_47_79, am_go dc_47_80, am_go dc_47_83, am_go dc_47_84, am_go dc_47_85, am_go dc_47_88, am_go dc_47_89, am_go dc_47_90, am_go dc_47_93, fk_0_116_1, am_go dc_47_96, am_go dc_47_97, J_iaload, am_go dc_47_98, J_if_ge, am_go dc_47_101, J_bipush, i8_m4, am_go dc_47_103, J_goto, am_go dc_47_106, am_go dc_47_107, am_go dc_47_110, am_go dc_47_113, am_go dc_47_114, am_go dc_47_115, am_go dc_47_116, am_go dc_47_117, xg_0, tg_0, tg_3, hX.c0, hX.c53, hX.c54, hX.c55, hX.c64, hX.c65, hT.c0, hT.c1, hT.c2, hT.c3, hT.c4, hT.c5, hT.c6, hT.c7, hP.c0, hP.c1, hP.c2, hP.c3, hP.c4, zI_add, zI_mul, zI_lt, zI_le, zI_eq, zI_neg, zI_pos, zI_ne0, zI_gt0, zB_0, lg_cmp_ge, lg_cmp_le, lg_cmp_gt, lg_cmp_lt, lg_cmp_eq, ail_r, abl_r, all_r, ais_r, abs_r, als_r, aal_r, aal_q, aln_r, vrf_s, vrf_n, z32, kh, ha, sd_47_24 hy, Bool.true_eq_false, Bool.false_eq_true, zB_t, zB_f, i8_m3, rwF_v, List.length_cons, List.length_nil, Nat.reduceAdd, Nat.reduceLT, Nat.reduceLeDiff, Nat.reduceEqDiff, ↓reduceIte, bind_s, if_true, if_false, not_true_eq_false, not_false_eq_true, Nat.zero_add]
      exact gR_id hK hM cc cr mQ.rf hF
    | true =>
      obtain ⟨g1, g2⟩ := qIs_get hy
      generalize wN y = c at *
      subst g1
      have h0 : qRow (u.1 1) b 0 = u.1 1 (18 * b + 0) := rfl
      have h1 : qRow (u.1 1) b 1 = u.1 1 (18 * b + 1) := rfl
      have h2 : qRow (u.1 1) b 2 = u.1 1 (18 * b + 2) := rfl
      have h3 : zI (wN (qRow (u.1 1) b 3)) = u.1 1 (18 * b + 3) := (hG.n e2).1.symm
      have h4 : qRow (u.1 1) b 4 = u.1 1 (18 * b + 4) := rfl
      have hki := hS.kin e2
      rcases (by omega : c = 0 ∨ c = 1 ∨ c = 2 ∨ c = 3 ∨ c = 4 ∨ c = 5) with rfl | rfl | rfl | rfl | rfl | rfl
      · have cr : am_f X 1000 211 [.ref (o + 66), .int (zI b), .int (zI 0)] (mH H (o + 66) u, z) = _ := r_box_y (X := X) (d := 997) (h := H) (z := z) (k := 0) hq e2 (by omega)
        have cc : am_f X 1000 47 [.ref o, .int (zI b), .int (zI 0)] (H, z) = some (.inl (some (.int (u.1 1 (18 * b + 0)))), (H, z)) := by
          show am_f X (999 + 1) 47 _ _ = _
          rw [fU_47]
          simp (disch := first | omega | exact Nat.le_of_ble_eq_true rfl | exact hX.ci | exact hT.ci | exact hP.ci | exact hX.ci | exact hT.ci | exact hP.ci | (refine xF_lt ?_; omega) | (refine tF_lt ?_; omega) | (refine pF_lt ?_; omega)) only [own_47, am_go dc_47_0, J_aload_0, K_al, ld_0, am_go dc_47_1, J_getfield, gf_r, fk_0_12_0, am_go dc_47_4, J_iload_1, K_il, ld_1, am_go dc_47_5, cv_0_94_1 own_47, JR_v, JR_0, JR_ite, ci1_r, am_go dc_47_8, J_if_ne, am_go dc_47_11, J_iconst, i32_m1, am_go dc_47_12, J_ret_i ret_47, am_go dc_47_13, am_go dc_47_14, am_go dc_47_17, fk_0_97_1, am_go dc_47_20, am_go dc_47_21, J_aaload, am_go dc_47_22, J_astore_3, st1_0, st1_1, st1_s, kl_i, kl_l, kl_r, kl_n, am_go dc_47_23, J_iload_2, ld_2, am_go dc_47_24, sw_47_24_0, sw_47_24_1, sw_47_24_2, sw_47_24_3, sw_47_24_4, sw_47_24_5, am_go dc_47_64, J_aload_3, ld_3, am_go dc_47_65, am_go dc_47_68, am_go dc_47_69, am_go dc_47_70, am_go dc_47_73, am_go dc_47_74, am_go dc_47_75, am_go dc_47_78, am_go dc_47_79, am_go dc_47_80, am_go dc_47_83, am_go dc_47_84, am_go dc_47_85, am_go dc_47_88, am_go dc_47_89, am_go dc_47_90, am_go dc_47_93, fk_0_116_1, am_go dc_47_96, am_go dc_47_97, J_iaload, am_go dc_47_98, J_if_ge, am_go dc_47_101, J_bipush, i8_m4, am_go dc_47_103, J_goto, am_go dc_47_106, am_go dc_47_107, am_go dc_47_110, am_go dc_47_113, am_go dc_47_114, am_go dc_47_115, am_go dc_47_116, am_go dc_47_117, xg_0, tg_0, tg_3, hX.c0, hX.c53, hX.c54, hX.c55, hX.c64, hX.c65, hT.c0, hT.c1, hT.c2, hT.c3, hT.c4, hT.c5, hT.c6, hT.c7, hP.c0, hP.c1, hP.c2, hP.c3, hP.c4, zI_add, zI_mul, zI_lt, zI_le, zI_eq, zI_neg, zI_pos, zI_ne0, zI_gt0, zB_0, lg_cmp_ge, lg_cmp_le, lg_cmp_gt, lg_cmp_lt, lg_cmp_eq, ail_r, abl_r, all_r, ais_r, abs_r, als_r, aal_r, aal_q, aln_r, vrf_s, vrf_n, z32, kh, ha, vx_0_100 own_47 hB, h0, Bool.true_eq_false, Bool.false_eq_true, zB_t, zB_f, i8_m3, rwF_v, List.length_cons, List.length_nil, Nat.reduceAdd, Nat.reduceLT, Nat.reduceLeDiff, Nat.reduceEqDiff, ↓reduceIte, bind_s, if_true, if_false, not_true_eq_false, not_false_eq_true, Nat.zero_add]
        exact gR_id hK hM cc cr mQ.rf hF
      · have cr : am_f X 1000 211 [.ref (o + 66), .int (zI b), .int (zI 1)] (mH H (o + 66) u, z) = _ := r_box_y (X := X) (d := 997) (h := H) (z := z) (k := 1) hq e2 (by omega)
        have cc : am_f X 1000 47 [.ref o, .int (zI b), .int (zI 1)] (H, z) = some (.inl (some (.int (u.1 1 (18 * b + 1)))), (H, z)) := by
          show am_f X (999 + 1) 47 _ _ = _
          rw [fU_47]
          simp (disch := first | omega | exact Nat.le_of_ble_eq_true rfl | exact hX.ci | exact hT.ci | exact hP.ci | exact hX.ci | exact hT.ci | exact hP.ci | (refine xF_lt ?_; omega) | (refine tF_lt ?_; omega) | (refine pF_lt ?_; omega)) only [own_47, am_go dc_47_0, J_aload_0, K_al, ld_0, am_go dc_47_1, J_getfield, gf_r, fk_0_12_0, am_go dc_47_4, J_iload_1, K_il, ld_1, am_go dc_47_5, cv_0_94_1 own_47, JR_v, JR_0, JR_ite, ci1_r, am_go dc_47_8, J_if_ne, am_go dc_47_11, J_iconst, i32_m1, am_go dc_47_12, J_ret_i ret_47, am_go dc_47_13, am_go dc_47_14, am_go dc_47_17, fk_0_97_1, am_go dc_47_20, am_go dc_47_21, J_aaload, am_go dc_47_22, J_astore_3, st1_0, st1_1, st1_s, kl_i, kl_l, kl_r, kl_n, am_go dc_47_23, J_iload_2, ld_2, am_go dc_47_24, sw_47_24_0, sw_47_24_1, sw_47_24_2, sw_47_24_3, sw_47_24_4, sw_47_24_5, am_go dc_47_64, J_aload_3, ld_3, am_go dc_47_65, am_go dc_47_68, am_go dc_47_69, am_go dc_47_70, am_go dc_47_73, am_go dc_47_74, am_go dc_47_75, am_go dc_47_78, am_go dc_47_79, am_go dc_47_80, am_go dc_47_83, am_go dc_47_84, am_go dc_47_85, am_go dc_47_88, am_go dc_47_89, am_go dc_47_90, am_go dc_47_93, fk_0_116_1, am_go dc_47_96, am_go dc_47_97, J_iaload, am_go dc_47_98, J_if_ge, am_go dc_47_101, J_bipush, i8_m4, am_go dc_47_103, J_goto, am_go dc_47_106, am_go dc_47_107, am_go dc_47_110, am_go dc_47_113, am_go dc_47_114, am_go dc_47_115, am_go dc_47_116, am_go dc_47_117, xg_0, tg_0, tg_3, hX.c0, hX.c53, hX.c54, hX.c55, hX.c64, hX.c65, hT.c0, hT.c1, hT.c2, hT.c3, hT.c4, hT.c5, hT.c6, hT.c7, hP.c0, hP.c1, hP.c2, hP.c3, hP.c4, zI_add, zI_mul, zI_lt, zI_le, zI_eq, zI_neg, zI_pos, zI_ne0, zI_gt0, zB_0, lg_cmp_ge, lg_cmp_le, lg_cmp_gt, lg_cmp_lt, lg_cmp_eq, ail_r, abl_r, all_r, ais_r, abs_r, als_r, aal_r, aal_q, aln_r, vrf_s, vrf_n, z32, kh, ha, bf_0_104 hB, h1, Bool.true_eq_false, Bool.false_eq_true, zB_t, zB_f, i8_m3, rwF_v, List.length_cons, List.length_nil, Nat.reduceAdd, Nat.reduceLT, Nat.reduceLeDiff, Nat.reduceEqDiff, ↓reduceIte, bind_s, if_true, if_false, not_true_eq_false, not_false_eq_true, Nat.zero_add]
        exact gR_id hK hM cc cr mQ.rf hF
      · have cr : am_f X 1000 211 [.ref (o + 66), .int (zI b), .int (zI 2)] (mH H (o + 66) u, z) = _ := r_box_y (X := X) (d := 997) (h := H) (z := z) (k := 2) hq e2 (by omega)
        have cc : am_f X 1000 47 [.ref o, .int (zI b), .int (zI 2)] (H, z) = some (.inl (some (.int (u.1 1 (18 * b + 2)))), (H, z)) := by
          show am_f X (999 + 1) 47 _ _ = _
          rw [fU_47]
          simp (disch := first | omega | exact Nat.le_of_ble_eq_true rfl | exact hX.ci | exact hT.ci | exact hP.ci | exact hX.ci | exact hT.ci | exact hP.ci | (refine xF_lt ?_; omega) | (refine tF_lt ?_; omega) | (refine pF_lt ?_; omega)) only [own_47, am_go dc_47_0, J_aload_0, K_al, ld_0, am_go dc_47_1, J_getfield, gf_r, fk_0_12_0, am_go dc_47_4, J_iload_1, K_il, ld_1, am_go dc_47_5, cv_0_94_1 own_47, JR_v, JR_0, JR_ite, ci1_r, am_go dc_47_8, J_if_ne, am_go dc_47_11, J_iconst, i32_m1, am_go dc_47_12, J_ret_i ret_47, am_go dc_47_13, am_go dc_47_14, am_go dc_47_17, fk_0_97_1, am_go dc_47_20, am_go dc_47_21, J_aaload, am_go dc_47_22, J_astore_3, st1_0, st1_1, st1_s, kl_i, kl_l, kl_r, kl_n, am_go dc_47_23, J_iload_2, ld_2, am_go dc_47_24, sw_47_24_0, sw_47_24_1, sw_47_24_2, sw_47_24_3, sw_47_24_4, sw_47_24_5, am_go dc_47_64, J_aload_3, ld_3, am_go dc_47_65, am_go dc_47_68, am_go dc_47_69, am_go dc_47_70, am_go dc_47_73, am_go dc_47_74, am_go dc_47_75, am_go dc_47_78, am_go dc_47_79, am_go dc_47_80, am_go dc_47_83, am_go dc_47_84, am_go dc_47_85, am_go dc_47_88, am_go dc_47_89, am_go dc_47_90, am_go dc_47_93, fk_0_116_1, am_go dc_47_96, am_go dc_47_97, J_iaload, am_go dc_47_98, J_if_ge, am_go dc_47_101, J_bipush, i8_m4, am_go dc_47_103, J_goto, am_go dc_47_106, am_go dc_47_107, am_go dc_47_110, am_go dc_47_113, am_go dc_47_114, am_go dc_47_115, am_go dc_47_116, am_go dc_47_117, xg_0, tg_0, tg_3, hX.c0, hX.c53, hX.c54, hX.c55, hX.c64, hX.c65, hT.c0, hT.c1, hT.c2, hT.c3, hT.c4, hT.c5, hT.c6, hT.c7, hP.c0, hP.c1, hP.c2, hP.c3, hP.c4, zI_add, zI_mul, zI_lt, zI_le, zI_eq, zI_neg, zI_pos, zI_ne0, zI_gt0, zB_0, lg_cmp_ge, lg_cmp_le, lg_cmp_gt, lg_cmp_lt, lg_cmp_eq, ail_r, abl_r, all_r, ais_r, abs_r, als_r, aal_r, aal_q, aln_r, vrf_s, vrf_n, z32, kh, ha, bf_0_107 hB, h2, Bool.true_eq_false, Bool.false_eq_true, zB_t, zB_f, i8_m3, rwF_v, List.length_cons, List.length_nil, Nat.reduceAdd, Nat.reduceLT, Nat.reduceLeDiff, Nat.reduceEqDiff, ↓reduceIte, bind_s, if_true, if_false, not_true_eq_false, not_false_eq_true, Nat.zero_add]
        exact gR_id hK hM cc cr mQ.rf hF
      · have cr : am_f X 1000 211 [.ref (o + 66), .int (zI b), .int (zI 3)] (mH H (o + 66) u, z) = _ := r_box_y (X := X) (d := 997) (h := H) (z := z) (k := 3) hq e2 (by omega)
        have cc : am_f X 1000 47 [.ref o, .int (zI b), .int (zI 3)] (H, z) = some (.inl (some (.int (u.1 1 (18 * b + 3)))), (H, z)) := by
          show am_f X (999 + 1) 47 _ _ = _
          rw [fU_47]
          simp (disch := first | omega | exact Nat.le_of_ble_eq_true rfl | exact hX.ci | exact hT.ci | exact hP.ci | exact hX.ci | exact hT.ci | exact hP.ci | (refine xF_lt ?_; omega) | (refine tF_lt ?_; omega) | (refine pF_lt ?_; omega)) only [own_47, am_go dc_47_0, J_aload_0, K_al, ld_0, am_go dc_47_1, J_getfield, gf_r, fk_0_12_0, am_go dc_47_4, J_iload_1, K_il, ld_1, am_go dc_47_5, cv_0_94_1 own_47, JR_v, JR_0, JR_ite, ci1_r, am_go dc_47_8, J_if_ne, am_go dc_47_11, J_iconst, i32_m1, am_go dc_47_12, J_ret_i ret_47, am_go dc_47_13, am_go dc_47_14, am_go dc_47_17, fk_0_97_1, am_go dc_47_20, am_go dc_47_21, J_aaload, am_go dc_47_22, J_astore_3, st1_0, st1_1, st1_s, kl_i, kl_l, kl_r, kl_n, am_go dc_47_23, J_iload_2, ld_2, am_go dc_47_24, sw_47_24_0, sw_47_24_1, sw_47_24_2, sw_47_24_3, sw_47_24_4, sw_47_24_5, am_go dc_47_64, J_aload_3, ld_3, am_go dc_47_65, am_go dc_47_68, am_go dc_47_69, am_go dc_47_70, am_go dc_47_73, am_go dc_47_74, am_go dc_47_75, am_go dc_47_78, am_go dc_47_79, am_go dc_47_80, am_go dc_47_83, am_go dc_47_84, am_go dc_47_85, am_go dc_47_88, am_go dc_47_89, am_go dc_47_90, am_go dc_47_93, fk_0_116_1, am_go dc_47_96, am_go dc_47_97, J_iaload, am_go dc_47_98, J_if_ge, am_go dc_47_101, J_bipush, i8_m4, am_go dc_47_103, J_goto, am_go dc_47_106, am_go dc_47_107, am_go dc_47_110, am_go dc_47_113, am_go dc_47_114, am_go dc_47_115, am_go dc_47_116, am_go dc_47_117, xg_0, tg_0, tg_3, hX.c0, hX.c53, hX.c54, hX.c55, hX.c64, hX.c65, hT.c0, hT.c1, hT.c2, hT.c3, hT.c4, hT.c5, hT.c6, hT.c7, hP.c0, hP.c1, hP.c2, hP.c3, hP.c4, zI_add, zI_mul, zI_lt, zI_le, zI_eq, zI_neg, zI_pos, zI_ne0, zI_gt0, zB_0, lg_cmp_ge, lg_cmp_le, lg_cmp_gt, lg_cmp_lt, lg_cmp_eq, ail_r, abl_r, all_r, ais_r, abs_r, als_r, aal_r, aal_q, aln_r, vrf_s, vrf_n, z32, kh, ha, vx_0_110 own_47 hB, h3, Bool.true_eq_false, Bool.false_eq_true, zB_t, zB_f, i8_m3, rwF_v, List.length_cons, List.length_nil, Nat.reduceAdd, Nat.reduceLT, Nat.reduceLeDiff, Nat.reduceEqDiff, ↓reduceIte, bind_s, if_true, if_false, not_true_eq_false, not_false_eq_true, Nat.zero_add]
        exact gR_id hK hM cc cr mQ.rf hF
      · have cr : am_f X 1000 211 [.ref (o + 66), .int (zI b), .int (zI 4)] (mH H (o + 66) u, z) = _ := r_box_y (X := X) (d := 997) (h := H) (z := z) (k := 4) hq e2 (by omega)
        have cc : am_f X 1000 47 [.ref o, .int (zI b), .int (zI 4)] (H, z) = some (.inl (some (.int (u.1 1 (18 * b + 4)))), (H, z)) := by
          show am_f X (999 + 1) 47 _ _ = _
          rw [fU_47]
          simp (disch := first | omega | exact Nat.le_of_ble_eq_true rfl | exact hX.ci | exact hT.ci | exact hP.ci | exact hX.ci | exact hT.ci | exact hP.ci | (refine xF_lt ?_; omega) | (refine tF_lt ?_; omega) | (refine pF_lt ?_; omega)) only [own_47, am_go dc_47_0, J_aload_0, K_al, ld_0, am_go dc_47_1, J_getfield, gf_r, fk_0_12_0, am_go dc_47_4, J_iload_1, K_il, ld_1, am_go dc_47_5, cv_0_94_1 own_47, JR_v, JR_0, JR_ite, ci1_r, am_go dc_47_8, J_if_ne, am_go dc_47_11, J_iconst, i32_m1, am_go dc_47_12, J_ret_i ret_47, am_go dc_47_13, am_go dc_47_14, am_go dc_47_17, fk_0_97_1, am_go dc_47_20, am_go dc_47_21, J_aaload, am_go dc_47_22, J_astore_3, st1_0, st1_1, st1_s, kl_i, kl_l, kl_r, kl_n, am_go dc_47_23, J_iload_2, ld_2, am_go dc_47_24, sw_47_24_0, sw_47_24_1, sw_47_24_2, sw_47_24_3, sw_47_24_4, sw_47_24_5, am_go dc_47_64, J_aload_3, ld_3, am_go dc_47_65, am_go dc_47_68, am_go dc_47_69, am_go dc_47_70, am_go dc_47_73, am_go dc_47_74, am_go dc_47_75, am_go dc_47_78, am_go dc_47_79, am_go dc_47_80, am_go dc_47_83, am_go dc_47_84, am_go dc_47_85, am_go dc_47_88, am_go dc_47_89, am_go dc_47_90, am_go dc_47_93, fk_0_116_1, am_go dc_47_96, am_go dc_47_97, J_iaload, am_go dc_47_98, J_if_ge, am_go dc_47_101, J_bipush, i8_m4, am_go dc_47_103, J_goto, am_go dc_47_106, am_go dc_47_107, am_go dc_47_110, am_go dc_47_113, am_go dc_47_114, am_go dc_47_115, am_go dc_47_116, am_go dc_47_117, xg_0, tg_0, tg_3, hX.c0, hX.c53, hX.c54, hX.c55, hX.c64, hX.c65, hT.c0, hT.c1, hT.c2, hT.c3, hT.c4, hT.c5, hT.c6, hT.c7, hP.c0, hP.c1, hP.c2, hP.c3, hP.c4, zI_add, zI_mul, zI_lt, zI_le, zI_eq, zI_neg, zI_pos, zI_ne0, zI_gt0, zB_0, lg_cmp_ge, lg_cmp_le, lg_cmp_gt, lg_cmp_lt, lg_cmp_eq, ail_r, abl_r, all_r, ais_r, abs_r, als_r, aal_r, aal_q, aln_r, vrf_s, vrf_n, z32, kh, ha, vx_0_113 own_47 hB, h4, Bool.true_eq_false, Bool.false_eq_true, zB_t, zB_f, i8_m3, rwF_v, List.length_cons, List.length_nil, Nat.reduceAdd, Nat.reduceLT, Nat.reduceLeDiff, Nat.reduceEqDiff, ↓reduceIte, bind_s, if_true, if_false, not_true_eq_false, not_false_eq_true, Nat.zero_add]
        exact gR_id hK hM cc cr mQ.rf hF
      · have cr : am_f X 1000 211 [.ref (o + 66), .int (zI b), .int (zI 5)] (mH H (o + 66) u, z) = _ := r_box_y (X := X) (d := 997) (h := H) (z := z) (k := 5) hq e2 (by omega)
        rcases (hG.2.2 b e2).2.2.2.2.2.2.1 with q | ⟨q, -⟩
        · rw [q] at cr
          rw [q] at hki
          have m4 : ¬ (0 : Int32) ≤ -4 := by decide
          have cc : am_f X 1000 47 [.ref o, .int (zI b), .int (zI 5)] (H, z) = some (.inl (some (.int (-4))), (H, z)) := by
            show am_f X (999 + 1) 47 _ _ = _
            rw [fU_47]
            simp (disch := first | omega | exact Nat.le_of_ble_eq_true rfl | exact hX.ci | exact hT.ci | exact hP.ci | exact hX.ci | exact hT.ci | exact hP.ci | (refine xF_lt ?_; omega) | (refine tF_lt ?_; omega) | (refine pF_lt ?_; omega)) only [own_47, am_go dc_47_0, J_aload_0, K_al, ld_0, am_go dc_47_1, J_getfield, gf_r, fk_0_12_0, am_go dc_47_4, J_iload_1, K_il, ld_1, am_go dc_47_5, cv_0_94_1 own_47, JR_v, JR_0, JR_ite, ci1_r, am_go dc_47_8, J_if_ne, am_go dc_47_11, J_iconst, i32_m1, am_go dc_47_12, J_ret_i ret_47, am_go dc_47_13, am_go dc_47_14, am_go dc_47_17, fk_0_97_1, am_go dc_47_20, am_go dc_47_21, J_aaload, am_go dc_47_22, J_astore_3, st1_0, st1_1, st1_s, kl_i, kl_l, kl_r, kl_n, am_go dc_47_23, J_iload_2, ld_2, am_go dc_47_24, sw_47_24_0, sw_47_24_1, sw_47_24_2, sw_47_24_3, sw_47_24_4, sw_47_24_5, am_go dc_47_64, J_aload_3, ld_3, am_go dc_47_65, am_go dc_47_68, am_go dc_47_69, am_go dc_47_70, am_go dc_47_73, am_go dc_47_74, am_go dc_47_75, am_go dc_47_78, am_go dc_47_79, am_go dc_47_80, am_go dc_47_83, am_go dc_47_84, am_go dc_47_85, am_go dc_47_88, am_go dc_47_89, am_go dc_47_90, am_go dc_47_93, fk_0_116_1, am_go dc_47_96, am_go dc_47_97, J_iaload, am_go dc_47_98, J_if_ge, am_go dc_47_101, J_bipush, i8_m4, am_go dc_47_103, J_goto, am_go dc_47_106, am_go dc_47_107, am_go dc_47_110, am_go dc_47_113, am_go dc_47_114, am_go dc_47_115, am_go dc_47_116, am_go dc_47_117, xg_0, tg_0, tg_3, hX.c0, hX.c53, hX.c54, hX.c55, hX.c64, hX.c65, hT.c0, hT.c1, hT.c2, hT.c3, hT.c4, hT.c5, hT.c6, hT.c7, hP.c0, hP.c1, hP.c2, hP.c3, hP.c4, zI_add, zI_mul, zI_lt, zI_le, zI_eq, zI_neg, zI_pos, zI_ne0, zI_gt0, zB_0, lg_cmp_ge, lg_cmp_le, lg_cmp_gt, lg_cmp_lt, lg_cmp_eq, ail_r, abl_r, all_r, ais_r, abs_r, als_r, aal_r, aal_q, aln_r, vrf_s, vrf_n, z32, kh, ha, hki, m4, Bool.true_eq_false, Bool.false_eq_true, zB_t, zB_f, i8_m3, rwF_v, List.length_cons, List.length_nil, Nat.reduceAdd, Nat.reduceLT, Nat.reduceLeDiff, Nat.reduceEqDiff, ↓reduceIte, bind_s, if_true, if_false, not_true_eq_false, not_false_eq_true, Nat.zero_add]
          exact gR_id hK hM cc cr mQ.rf hF
        · obtain ⟨q1, q2⟩ := q.z (by omega)
          rw [q1] at cr
          rw [q1] at hki
          have p0 : (0 : Int32) ≤ zI (wN (u.1 1 (18 * b + 5))) := by
            rw [show (0 : Int32) = zI 0 from rfl, zI_le (by omega) (by omega)]
            omega
          have cc : am_f X 1000 47 [.ref o, .int (zI b), .int (zI 5)] (H, z) = some (.inl (some (.int (zI (wN (u.1 1 (18 * b + 5)))))), (H, z)) := by
            show am_f X (999 + 1) 47 _ _ = _
            rw [fU_47]
            simp (disch := first | omega | exact Nat.le_of_ble_eq_true rfl | exact hX.ci | exact hT.ci | exact hP.ci | exact hX.ci | exact hT.ci | exact hP.ci | (refine xF_lt ?_; omega) | (refine tF_lt ?_; omega) | (refine pF_lt ?_; omega)) only [own_47, am_go dc_47_0, J_aload_0, K_al, ld_0, am_go dc_47_1, J_getfield, gf_r, fk_0_12_0, am_go dc_47_4, J_iload_1, K_il, ld_1, am_go dc_47_5, cv_0_94_1 own_47, JR_v, JR_0, JR_ite, ci1_r, am_go dc_47_8, J_if_ne, am_go dc_47_11, J_iconst, i32_m1, am_go dc_47_12, J_ret_i ret_47, am_go dc_47_13, am_go dc_47_14, am_go dc_47_17, fk_0_97_1, am_go dc_47_20, am_go dc_47_21, J_aaload, am_go dc_47_22, J_astore_3, st1_0, st1_1, st1_s, kl_i, kl_l, kl_r, kl_n, am_go dc_47_23, J_iload_2, ld_2, am_go dc_47_24, sw_47_24_0, sw_47_24_1, sw_47_24_2, sw_47_24_3, sw_47_24_4, sw_47_24_5, am_go dc_47_64, J_aload_3, ld_3, am_go dc_47_65, am_go dc_47_68, am_go dc_47_69, am_go dc_47_70, am_go dc_47_73, am_go dc_47_74, am_go dc_47_75, am_go dc_47_78, am_go dc_47_79, am_go dc_47_80, am_go dc_47_83, am_go dc_47_84, am_go dc_47_85, am_go dc_47_88, am_go dc_47_89, am_go dc_47_90, am_go dc_47_93, fk_0_116_1, am_go dc_47_96, am_go dc_47_97, J_iaload, am_go dc_47_98, J_if_ge, am_go dc_47_101, J_bipush, i8_m4, am_go dc_47_103, J_goto, am_go dc_47_106, am_go dc_47_107, am_go dc_47_110, am_go dc_47_113, am_go dc_47_114, am_go dc_47_115, am_go dc_47_116, am_go dc_47_117, xg_0, tg_0, tg_3, hX.c0, hX.c53, hX.c54, hX.c55, hX.c64, hX.c65, hT.c0, hT.c1, hT.c2, hT.c3, hT.c4, hT.c5, hT.c6, hT.c7, hP.c0, hP.c1, hP.c2, hP.c3, hP.c4, zI_add, zI_mul, zI_lt, zI_le, zI_eq, zI_neg, zI_pos, zI_ne0, zI_gt0, zB_0, lg_cmp_ge, lg_cmp_le, lg_cmp_gt, lg_cmp_lt, lg_cmp_eq, ail_r, abl_r, all_r, ais_r, abs_r, als_r, aal_r, aal_q, aln_r, vrf_s, vrf_n, z32, kh, ha, hki, p0, Bool.true_eq_false, Bool.false_eq_true, zB_t, zB_f, i8_m3, rwF_v, List.length_cons, List.length_nil, Nat.reduceAdd, Nat.reduceLT, Nat.reduceLeDiff, Nat.reduceEqDiff, ↓reduceIte, bind_s, if_true, if_false, not_true_eq_false, not_false_eq_true, Nat.zero_add]
          exact gR_id hK hM cc cr mQ.rf hF
theorem x_isStep {C : Nat → Prop} {D T : mU × (Nat → Option Nat)} {S : Nat → Int32} {d : Nat} {x y : Int32} (hX : isX H o D) (hS : tS C H (o + 1) T S) : am_f X (d + 2) 59 [.ref o, .int x, .int y] (H, z) = some (.inl (some (.int (zB (qIs x (wN (S 116)) && qIs y (wN (S (18 * wN x + 3))))))), (H, z)) := by
  have hT := hS.iT
  have hm5 := hS.m5
  have kh : am_f X (d + 1) 32 [.ref (o + 1), .int x] (H, z) = _ := c_has (X := X) (d := d) (z := z) hS
  cases hx : qIs x (wN (S 116)) with
  | false =>
    rw [hx] at kh
    rw [fU_59]
    simp (disch := first | omega | exact Nat.le_of_ble_eq_true rfl | exact hX.ci | exact hT.ci | exact hX.ci | exact hT.ci | exact hP.ci | (refine xF_lt ?_; omega) | (refine tF_lt ?_; omega) | (refine pF_lt ?_; omega)) only [own_59, am_go dc_59_0, J_aload_0, K_al, ld_0, am_go dc_59_1, J_getfield, gf_r, fk_0_12_0, am_go dc_59_4, J_iload_1, K_il, ld_1, am_go dc_59_5, cv_0_94_1 own_59, JR_v, JR_0, JR_ite, ci1_r, am_go dc_59_8, J_if_eq, am_go dc_59_11, J_iload_2, ld_2, am_go dc_59_12, J_if_lt, am_go dc_59_15, am_go dc_59_16, am_go dc_59_17, am_go dc_59_20, fk_0_97_1, am_go dc_59_23, am_go dc_59_24, J_aaload, am_go dc_59_25, am_go dc_59_28, J_icmp_ge, am_go dc_59_31, J_iconst, c32_1, am_go dc_59_32, J_goto, am_go dc_59_35, c32_0, am_go dc_59_36, J_ret_z0 ret_59, J_ret_z1 ret_59, J_ret_zB ret_59, xg_0, tg_0, hX.c0, hX.c53, hX.c54, hX.c55, hX.c64, hX.c65, hT.c0, hT.c1, hT.c2, hT.c3, hT.c4, hT.c5, hT.c6, hT.c7, zI_add, zI_mul, zI_lt, zI_le, zI_eq, zI_neg, zI_pos, zI_ne0, zI_gt0, zB_0, lg_cmp_ge, lg_cmp_le, lg_cmp_gt, lg_cmp_lt, lg_cmp_eq, ail_r, abl_r, all_r, ais_r, abs_r, als_r, aal_r, aal_q, aln_r, vrf_s, vrf_n, z32, kh, Bool.true_eq_false, Bool.false_eq_true, zB_t, zB_f, i32_m1, i8_m3, i8_m4, rwF_v, List.length_cons, List.length_nil, Nat.reduceAdd, Nat.reduceLT, Nat.reduceLeDiff, Nat.reduceEqDiff, ↓reduceIte, bind_s, if_true, if_false, not_true_eq_false, not_false_eq_true, Nat.zero_add]
    rfl
  | true =>
    rw [hx] at kh
    obtain ⟨e1, e2⟩ := qIs_get hx
    generalize wN x = b at *
    subst e1
    have hb5 : b < 5 := by omega
    obtain ⟨a', bb, ha, hB⟩ := hS.box e2
    have hn := hS.2.1.n e2
    have h3 : wN (qRow S b 3) = wN (S (18 * b + 3)) := rfl
    rw [Bool.true_and, qIs_lt (show wN (S (18 * b + 3)) < 2147483648 by omega), fU_59]
    simp (disch := first | omega | exact Nat.le_of_ble_eq_true rfl | exact hX.ci | exact hT.ci | exact hX.ci | exact hT.ci | exact hP.ci | (refine xF_lt ?_; omega) | (refine tF_lt ?_; omega) | (refine pF_lt ?_; omega)) only [own_59, am_go dc_59_0, J_aload_0, K_al, ld_0, am_go dc_59_1, J_getfield, gf_r, fk_0_12_0, am_go dc_59_4, J_iload_1, K_il, ld_1, am_go dc_59_5, cv_0_94_1 own_59, JR_v, JR_0, JR_ite, ci1_r, am_go dc_59_8, J_if_eq, am_go dc_59_11, J_iload_2, ld_2, am_go dc_59_12, J_if_lt, am_go dc_59_15, am_go dc_59_16, am_go dc_59_17, am_go dc_59_20, fk_0_97_1, am_go dc_59_23, am_go dc_59_24, J_aaload, am_go dc_59_25, am_go dc_59_28, J_icmp_ge, am_go dc_59_31, J_iconst, c32_1, am_go dc_59_32, J_goto, am_go dc_59_35, c32_0, am_go dc_59_36, J_ret_z0 ret_59, J_ret_z1 ret_59, J_ret_zB ret_59, xg_0, tg_0, hX.c0, hX.c53, hX.c54, hX.c55, hX.c64, hX.c65, hT.c0, hT.c1, hT.c2, hT.c3, hT.c4, hT.c5, hT.c6, hT.c7, zI_add, zI_mul, zI_lt, zI_le, zI_eq, zI_neg, zI_pos, zI_ne0, zI_gt0, zB_0, lg_cmp_ge, lg_cmp_le, lg_cmp_gt, lg_cmp_lt, lg_cmp_eq, ail_r, abl_r, all_r, ais_r, abs_r, als_r, aal_r, aal_q, aln_r, vrf_s, vrf_n, z32, kh, ha, vx_0_110 own_59 hB, h3, Bool.true_eq_false, Bool.false_eq_true, zB_t, zB_f, i32_m1, i8_m3, i8_m4, rwF_v, List.length_cons, List.length_nil, Nat.reduceAdd, Nat.reduceLT, Nat.reduceLeDiff, Nat.reduceEqDiff, ↓reduceIte, bind_s, if_true, if_false, not_true_eq_false, not_false_eq_true, Nat.zero_add]
    repeat' split
    all_goals first | rfl | (exfalso; omega) | simp_all
theorem f_step (hK : gK o k H z u) (hM : cM H (o + 66) u) (hF : mFr u) {x y w : Int32} : gR X o k 58 212 [.int x, .int y, .int w] H z u := by
  obtain ⟨C, D, T, P, Q, lu, m, a, N, hX, hTN, hP, hpS, hI, hpl, hr, hkn, hLH, hlow, hre⟩ := g_plan hK
  have hS := hTN.1
  have hT := hS.iT
  have hN := hTN.2.1
  have hG := hI.1
  have hL := hI.pl
  have hq := hI.qw
  have hm5 := hG.m.2
  have hsz := hS.sz
  have hbl := hS.bell
  have kst : am_f X 999 59 [.ref o, .int x, .int y] (H, z) = _ := x_isStep (X := X) (d := 997) (z := z) hX hS
  cases hx : qIs x (wN (u.1 1 116)) with
  | false =>
    rw [hx, Bool.false_and] at kst
    have cc : am_f X 1000 58 [.ref o, .int x, .int y, .int w] (H, z) = some (.inl (some (.int (-1))), (H, z)) := by
      show am_f X (999 + 1) 58 _ _ = _
      rw [fU_58]
      simp (disch := first | omega | exact Nat.le_of_ble_eq_true rfl | exact hX.ci | exact hT.ci | exact hP.ci | exact hX.ci | exact hT.ci | exact hP.ci | (refine xF_lt ?_; omega) | (refine tF_lt ?_; omega) | (refine pF_lt ?_; omega)) only [own_58, am_go dc_58_0, J_aload_0, K_al, ld_0, am_go dc_58_1, J_iload_1, K_il, ld_1, am_go dc_58_2, J_iload_2, ld_2, am_go dc_58_3, cv_0_119_0 own_58, JR_v, JR_0, JR_ite, ci1_r, am_go dc_58_6, J_if_ne, am_go dc_58_9, J_iconst, i32_m1, am_go dc_58_10, J_ret_i ret_58, am_go dc_58_11, J_iload_3, ld_3, am_go dc_58_12, sw_58_12_0, sw_58_12_1, sw_58_12_2, am_go dc_58_40, am_go dc_58_41, J_getfield, gf_r, fk_0_12_0, am_go dc_58_44, fk_0_97_1, am_go dc_58_47, am_go dc_58_48, J_aaload, am_go dc_58_49, am_go dc_58_52, am_go dc_58_53, J_iaload, am_go dc_58_54, am_go dc_58_55, am_go dc_58_56, am_go dc_58_59, am_go dc_58_62, am_go dc_58_63, am_go dc_58_64, am_go dc_58_67, am_go dc_58_68, am_go dc_58_69, am_go dc_58_70, am_go dc_58_71, am_go dc_58_74, fk_0_129_1, am_go dc_58_77, am_go dc_58_78, c32_4, am_go dc_58_79, J_imul, am_go dc_58_80, am_go dc_58_81, J_iadd, am_go dc_58_82, am_go dc_58_83, am_go dc_58_84, am_go dc_58_85, xg_0, tg_0, tg_7, hX.c0, hX.c53, hX.c54, hX.c55, hX.c64, hX.c65, hT.c0, hT.c1, hT.c2, hT.c3, hT.c4, hT.c5, hT.c6, hT.c7, hP.c0, hP.c1, hP.c2, hP.c3, hP.c4, zI_add, zI_mul, zI_lt, zI_le, zI_eq, zI_neg, zI_pos, zI_ne0, zI_gt0, zB_0, lg_cmp_ge, lg_cmp_le, lg_cmp_gt, lg_cmp_lt, lg_cmp_eq, ail_r, abl_r, all_r, ais_r, abs_r, als_r, aal_r, aal_q, aln_r, vrf_s, vrf_n, z32, kst, Bool.true_eq_false, Bool.false_eq_true, zB_t, zB_f, i8_m3, i8_m4, rwF_v, List.length_cons, List.length_nil, Nat.reduceAdd, Nat.reduceLT, Nat.reduceLeDiff, Nat.reduceEqDiff, ↓reduceIte, bind_s, if_true, if_false, not_true_eq_false, not_false_eq_true, Nat.zero_add]
    have cr : am_f X 1000 212 [.ref (o + 66), .int x, .int y, .int w] (mH H (o + 66) u, z) = _ := r_step_n (X := X) (d := 997) (h := H) (z := z) hq hx
    exact gR_id hK hM cc cr mQ.rf hF
  | true =>
    obtain ⟨e1, e2⟩ := qIs_get hx
    generalize wN x = b at *
    subst e1
    have hb5 : b < 5 := by omega
    obtain ⟨a', bb, ha, hB⟩ := hS.box e2
    obtain ⟨n1, n2, n3⟩ := hG.n e2
    rw [hx, Bool.true_and] at kst
    cases hy : qIs y (wN (u.1 1 (18 * b + 3))) with
    | false =>
      rw [hy] at kst
      have cc : am_f X 1000 58 [.ref o, .int (zI b), .int y, .int w] (H, z) = some (.inl (some (.int (-1))), (H, z)) := by
        show am_f X (999 + 1) 58 _ _ = _
        rw [fU_58]
        simp (disch := first | omega | exact Nat.le_of_ble_eq_true rfl | exact hX.ci | exact hT.ci | exact hP.ci | exact hX.ci | exact hT.ci | exact hP.ci | (refine xF_lt ?_; omega) | (refine tF_lt ?_; omega) | (refine pF_lt ?_; omega)) only [own_58, am_go dc_58_0, J_aload_0, K_al, ld_0, am_go dc_58_1, J_iload_1, K_il, ld_1, am_go dc_58_2, J_iload_2, ld_2, am_go dc_58_3, cv_0_119_0 own_58, JR_v, JR_0, JR_ite, ci1_r, am_go dc_58_6, J_if_ne, am_go dc_58_9, J_iconst, i32_m1, am_go dc_58_10, J_ret_i ret_58, am_go dc_58_11, J_iload_3, ld_3, am_go dc_58_12, sw_58_12_0, sw_58_12_1, sw_58_12_2, am_go dc_58_40, am_go dc_58_41, J_getfield, gf_r, fk_0_12_0, am_go dc_58_44, fk_0_97_1, am_go dc_58_47, am_go dc_58_48, J_aaload, am_go dc_58_49, am_go dc_58_52, am_go dc_58_53, J_iaload, am_go dc_58_54, am_go dc_58_55, am_go dc_58_56, am_go dc_58_59, am_go dc_58_62, am_go dc_58_63, am_go dc_58_64, am_go dc_58_67, am_go dc_58_68, am_go dc_58_69, am_go dc_58_70, am_go dc_58_71, am_go dc_58_74, fk_0_129_1, am_go dc_58_77, am_go dc_58_78, c32_4, am_go dc_58_79, J_imul, am_go dc_58_80, am_go dc_58_81, J_iadd, am_go dc_58_82, am_go dc_58_83, am_go dc_58_84, am_go dc_58_85, xg_0, tg_0, tg_7, hX.c0, hX.c53, hX.c54, hX.c55, hX.c64, hX.c65, hT.c0, hT.c1, hT.c2, hT.c3, hT.c4, hT.c5, hT.c6, hT.c7, hP.c0, hP.c1, hP.c2, hP.c3, hP.c4, zI_add, zI_mul, zI_lt, zI_le, zI_eq, zI_neg, zI_pos, zI_ne0, zI_gt0, zB_0, lg_cmp_ge, lg_cmp_le, lg_cmp_gt, lg_cmp_lt, lg_cmp_eq, ail_r, abl_r, all_r, ais_r, abs_r, als_r, aal_r, aal_q, aln_r, vrf_s, vrf_n, z32, kst, Bool.true_eq_false, Bool.false_eq_true, zB_t, zB_f, i8_m3, i8_m4, rwF_v, List.length_cons, List.length_nil, Nat.reduceAdd, Nat.reduceLT, Nat.reduceLeDiff, Nat.reduceEqDiff, ↓reduceIte, bind_s, if_true, if_false, not_true_eq_false, not_false_eq_true, Nat.zero_add]
      have cr : am_f X 1000 212 [.ref (o + 66), .int (zI b), .int y, .int w] (mH H (o + 66) u, z) = _ := r_step_m (X := X) (d := 997) (h := H) (z := z) hq e2 n1 n3 hy
      exact gR_id hK hM cc cr mQ.rf hF
    | true =>
      rw [hy] at kst
      cases hw : qIs w 3 with
      | false =>
        have cc : am_f X 1000 58 [.ref o, .int (zI b), .int y, .int w] (H, z) = some (.inl (some (.int (-1))), (H, z)) := by
          show am_f X (999 + 1) 58 _ _ = _
          rw [fU_58]
          simp (disch := first | omega | exact Nat.le_of_ble_eq_true rfl | exact hX.ci | exact hT.ci | exact hP.ci | exact hX.ci | exact hT.ci | exact hP.ci | (refine xF_lt ?_; omega) | (refine tF_lt ?_; omega) | (refine pF_lt ?_; omega)) only [own_58, am_go dc_58_0, J_aload_0, K_al, ld_0, am_go dc_58_1, J_iload_1, K_il, ld_1, am_go dc_58_2, J_iload_2, ld_2, am_go dc_58_3, cv_0_119_0 own_58, JR_v, JR_0, JR_ite, ci1_r, am_go dc_58_6, J_if_ne, am_go dc_58_9, J_iconst, i32_m1, am_go dc_58_10, J_ret_i ret_58, am_go dc_58_11, J_iload_3, ld_3, am_go dc_58_12, sw_58_12_0, sw_58_12_1, sw_58_12_2, am_go dc_58_40, am_go dc_58_41, J_getfield, gf_r, fk_0_12_0, am_go dc_58_44, fk_0_97_1, am_go dc_58_47, am_go dc_58_48, J_aaload, am_go dc_58_49, am_go dc_58_52, am_go dc_58_53, J_iaload, am_go dc_58_54, am_go dc_58_55, am_go dc_58_56, am_go dc_58_59, am_go dc_58_62, am_go dc_58_63, am_go dc_58_64, am_go dc_58_67, am_go dc_58_68, am_go dc_58_69, am_go dc_58_70, am_go dc_58_71, am_go dc_58_74, fk_0_129_1, am_go dc_58_77, am_go dc_58_78, c32_4, am_go dc_58_79, J_imul, am_go dc_58_80, am_go dc_58_81, J_iadd, am_go dc_58_82, am_go dc_58_83, am_go dc_58_84, am_go dc_58_85, xg_0, tg_0, tg_7, hX.c0, hX.c53, hX.c54, hX.c55, hX.c64, hX.c65, hT.c0, hT.c1, hT.c2, hT.c3, hT.c4, hT.c5, hT.c6, hT.c7, hP.c0, hP.c1, hP.c2, hP.c3, hP.c4, zI_add, zI_mul, zI_lt, zI_le, zI_eq, zI_neg, zI_pos, zI_ne0, zI_gt0, zB_0, lg_cmp_ge, lg_cmp_le, lg_cmp_gt, lg_cmp_lt, lg_cmp_eq, ail_r, abl_r, all_r, ais_r, abs_r, als_r, aal_r, aal_q, aln_r, vrf_s, vrf_n, z32, kst, sd_58_12 hw, Bool.true_eq_false, Bool.false_eq_true, zB_t, zB_f, i8_m3, i8_m4, rwF_v, List.length_cons, List.length_nil, Nat.reduceAdd, Nat.reduceLT, Nat.reduceLeDiff, Nat.reduceEqDiff, ↓reduceIte, bind_s, if_true, if_false, not_true_eq_false, not_false_eq_true, Nat.zero_add]
        have cr : am_f X 1000 212 [.ref (o + 66), .int (zI b), .int y, .int w] (mH H (o + 66) u, z) = _ := r_step_o (X := X) (d := 997) (h := H) (z := z) hq e2 n1 n3 hy hw
        exact gR_id hK hM cc cr mQ.rf hF
      | true =>
        obtain ⟨g1, g2⟩ := qIs_get hy
        generalize wN y = i at *
        subst g1
        obtain ⟨f1, f2⟩ := qIs_get hw
        generalize wN w = c at *
        subst f1
        have hoc := hS.oc e2 g2
        have hw1 : qRow (u.1 1) b (6 + i) = u.1 1 (18 * b + (6 + i)) := rfl
        have hc1 : qRow (u.1 1) b (10 + i) = u.1 1 (18 * b + (10 + i)) := rfl
        have hwi : wN (qRow (u.1 1) b 3) = wN (u.1 1 (18 * b + 3)) := rfl
        have isw := fun x => hB.w (x := x) (i := i) (by rw [hwi]; exact g2)
        have isc := fun x => hB.c (x := x) (i := i) (by rw [hwi]; exact g2)
        have h4b : b * 4 + i = 4 * b + i := by omega
        rcases (by omega : c = 0 ∨ c = 1 ∨ c = 2) with rfl | rfl | rfl
        · have cr : am_f X 1000 212 [.ref (o + 66), .int (zI b), .int (zI i), .int (zI 0)] (mH H (o + 66) u, z) = _ := r_step_0 (X := X) (d := 997) (h := H) (z := z) (w := 0) hq e2 n1 n3 g2 (by omega)
          have cc : am_f X 1000 58 [.ref o, .int (zI b), .int (zI i), .int (zI 0)] (H, z) = some (.inl (some (.int (u.1 1 (18 * b + (6 + i))))), (H, z)) := by
            show am_f X (999 + 1) 58 _ _ = _
            rw [fU_58]
            simp (disch := first | omega | exact Nat.le_of_ble_eq_true rfl | exact hX.ci | exact hT.ci | exact hP.ci | exact hX.ci | exact hT.ci | exact hP.ci | (refine xF_lt ?_; omega) | (refine tF_lt ?_; omega) | (refine pF_lt ?_; omega)) only [own_58, am_go dc_58_0, J_aload_0, K_al, ld_0, am_go dc_58_1, J_iload_1, K_il, ld_1, am_go dc_58_2, J_iload_2, ld_2, am_go dc_58_3, cv_0_119_0 own_58, JR_v, JR_0, JR_ite, ci1_r, am_go dc_58_6, J_if_ne, am_go dc_58_9, J_iconst, i32_m1, am_go dc_58_10, J_ret_i ret_58, am_go dc_58_11, J_iload_3, ld_3, am_go dc_58_12, sw_58_12_0, sw_58_12_1, sw_58_12_2, am_go dc_58_40, am_go dc_58_41, J_getfield, gf_r, fk_0_12_0, am_go dc_58_44, fk_0_97_1, am_go dc_58_47, am_go dc_58_48, J_aaload, am_go dc_58_49, am_go dc_58_52, am_go dc_58_53, J_iaload, am_go dc_58_54, am_go dc_58_55, am_go dc_58_56, am_go dc_58_59, am_go dc_58_62, am_go dc_58_63, am_go dc_58_64, am_go dc_58_67, am_go dc_58_68, am_go dc_58_69, am_go dc_58_70, am_go dc_58_71, am_go dc_58_74, fk_0_129_1, am_go dc_58_77, am_go dc_58_78, c32_4, am_go dc_58_79, J_imul, am_go dc_58_80, am_go dc_58_81, J_iadd, am_go dc_58_82, am_go dc_58_83, am_go dc_58_84, am_go dc_58_85, xg_0, tg_0, tg_7, hX.c0, hX.c53, hX.c54, hX.c55, hX.c64, hX.c65, hT.c0, hT.c1, hT.c2, hT.c3, hT.c4, hT.c5, hT.c6, hT.c7, hP.c0, hP.c1, hP.c2, hP.c3, hP.c4, zI_add, zI_mul, zI_lt, zI_le, zI_eq, zI_neg, zI_pos, zI_ne0, zI_gt0, zB_0, lg_cmp_ge, lg_cmp_le, lg_cmp_gt, lg_cmp_lt, lg_cmp_eq, ail_r, abl_r, all_r, ais_r, abs_r, als_r, aal_r, aal_q, aln_r, vrf_s, vrf_n, z32, kst, ha, bf_0_123 hB, isw, hw1, Bool.true_eq_false, Bool.false_eq_true, zB_t, zB_f, i8_m3, i8_m4, rwF_v, List.length_cons, List.length_nil, Nat.reduceAdd, Nat.reduceLT, Nat.reduceLeDiff, Nat.reduceEqDiff, ↓reduceIte, bind_s, if_true, if_false, not_true_eq_false, not_false_eq_true, Nat.zero_add]
          exact gR_id hK hM cc cr mQ.rf hF
        · have cr : am_f X 1000 212 [.ref (o + 66), .int (zI b), .int (zI i), .int (zI 1)] (mH H (o + 66) u, z) = _ := r_step_0 (X := X) (d := 997) (h := H) (z := z) (w := 1) hq e2 n1 n3 g2 (by omega)
          have cc : am_f X 1000 58 [.ref o, .int (zI b), .int (zI i), .int (zI 1)] (H, z) = some (.inl (some (.int (u.1 1 (18 * b + (10 + i))))), (H, z)) := by
            show am_f X (999 + 1) 58 _ _ = _
            rw [fU_58]
            simp (disch := first | omega | exact Nat.le_of_ble_eq_true rfl | exact hX.ci | exact hT.ci | exact hP.ci | exact hX.ci | exact hT.ci | exact hP.ci | (refine xF_lt ?_; omega) | (refine tF_lt ?_; omega) | (refine pF_lt ?_; omega)) only [own_58, am_go dc_58_0, J_aload_0, K_al, ld_0, am_go dc_58_1, J_iload_1, K_il, ld_1, am_go dc_58_2, J_iload_2, ld_2, am_go dc_58_3, cv_0_119_0 own_58, JR_v, JR_0, JR_ite, ci1_r, am_go dc_58_6, J_if_ne, am_go dc_58_9, J_iconst, i32_m1, am_go dc_58_10, J_ret_i ret_58, am_go dc_58_11, J_iload_3, ld_3, am_go dc_58_12, sw_58_12_0, sw_58_12_1, sw_58_12_2, am_go dc_58_40, am_go dc_58_41, J_getfield, gf_r, fk_0_12_0, am_go dc_58_44, fk_0_97_1, am_go dc_58_47, am_go dc_58_48, J_aaload, am_go dc_58_49, am_go dc_58_52, am_go dc_58_53, J_iaload, am_go dc_58_54, am_go dc_58_55, am_go dc_58_56, am_go dc_58_59, am_go dc_58_62, am_go dc_58_63, am_go dc_58_64, am_go dc_58_67, am_go dc_58_68, am_go dc_58_69, am_go dc_58_70, am_go dc_58_71, am_go dc_58_74, fk_0_129_1, am_go dc_58_77, am_go dc_58_78, c32_4, am_go dc_58_79, J_imul, am_go dc_58_80, am_go dc_58_81, J_iadd, am_go dc_58_82, am_go dc_58_83, am_go dc_58_84, am_go dc_58_85, xg_0, tg_0, tg_7, hX.c0, hX.c53, hX.c54, hX.c55, hX.c64, hX.c65, hT.c0, hT.c1, hT.c2, hT.c3, hT.c4, hT.c5, hT.c6, hT.c7, hP.c0, hP.c1, hP.c2, hP.c3, hP.c4, zI_add, zI_mul, zI_lt, zI_le, zI_eq, zI_neg, zI_pos, zI_ne0, zI_gt0, zB_0, lg_cmp_ge, lg_cmp_le, lg_cmp_gt, lg_cmp_lt, lg_cmp_eq, ail_r, abl_r, all_r, ais_r, abs_r, als_r, aal_r, aal_q, aln_r, vrf_s, vrf_n, z32, kst, ha, bf_0_126 hB, isc, hc1, Bool.true_eq_false, Bool.false_eq_true, zB_t, zB_f, i8_m3, i8_m4, rwF_v, List.length_cons, List.length_nil, Nat.reduceAdd, Nat.reduceLT, Nat.reduceLeDiff, Nat.reduceEqDiff, ↓reduceIte, bind_s, if_true, if_false, not_true_eq_false, not_false_eq_true, Nat.zero_add]
          exact gR_id hK hM cc cr mQ.rf hF
        · have cr : am_f X 1000 212 [.ref (o + 66), .int (zI b), .int (zI i), .int (zI 2)] (mH H (o + 66) u, z) = _ := r_step_2 (X := X) (d := 997) (h := H) (z := z) hq e2 n1 n3 g2
          have hcv : (if (0 : Int32) ≤ u.1 1 (18 * b + 5) then u.1 1 (18 * b + (14 + i)) else -4) = (if u.1 1 (18 * b + 5) < 0 then -4 else u.1 1 (18 * b + (14 + i))) := by
            by_cases q : u.1 1 (18 * b + 5) < 0
            · rw [if_pos q, if_neg (Int32.not_le.mpr q)]
            · rw [if_neg q, if_pos (Int32.not_lt.mp q)]
          rw [hcv] at cr
          have cc : am_f X 1000 58 [.ref o, .int (zI b), .int (zI i), .int (zI 2)] (H, z) = some (.inl (some (.int (if u.1 1 (18 * b + 5) < 0 then -4 else u.1 1 (18 * b + (14 + i))))), (H, z)) := by
            show am_f X (999 + 1) 58 _ _ = _
            rw [fU_58]
            simp (disch := first | omega | exact Nat.le_of_ble_eq_true rfl | exact hX.ci | exact hT.ci | exact hP.ci | exact hX.ci | exact hT.ci | exact hP.ci | (refine xF_lt ?_; omega) | (refine tF_lt ?_; omega) | (refine pF_lt ?_; omega)) only [own_58, am_go dc_58_0, J_aload_0, K_al, ld_0, am_go dc_58_1, J_iload_1, K_il, ld_1, am_go dc_58_2, J_iload_2, ld_2, am_go dc_58_3, cv_0_119_0 own_58, JR_v, JR_0, JR_ite, ci1_r, am_go dc_58_6, J_if_ne, am_go dc_58_9, J_iconst, i32_m1, am_go dc_58_10, J_ret_i ret_58, am_go dc_58_11, J_iload_3, ld_3, am_go dc_58_12, sw_58_12_0, sw_58_12_1, sw_58_12_2, am_go dc_58_40, am_go dc_58_41, J_getfield, gf_r, fk_0_12_0, am_go dc_58_44, fk_0_97_1, am_go dc_58_47, am_go dc_58_48, J_aaload, am_go dc_58_49, am_go dc_58_52, am_go dc_58_53, J_iaload, am_go dc_58_54, am_go dc_58_55, am_go dc_58_56, am_go dc_58_59, am_go dc_58_62, am_go dc_58_63, am_go dc_58_64, am_go dc_58_67, am_go dc_58_68, am_go dc_58_69, am_go dc_58_70, am_go dc_58_71, am_go dc_58_74, fk_0_129_1, am_go dc_58_77, am_go dc_58_78, c32_4, am_go dc_58_79, J_imul, am_go dc_58_80, am_go dc_58_81, J_iadd, am_go dc_58_82, am_go dc_58_83, am_go dc_58_84, am_go dc_58_85, xg_0, tg_0, tg_7, hX.c0, hX.c53, hX.c54, hX.c55, hX.c64, hX.c65, hT.c0, hT.c1, hT.c2, hT.c3, hT.c4, hT.c5, hT.c6, hT.c7, hP.c0, hP.c1, hP.c2, hP.c3, hP.c4, zI_add, zI_mul, zI_lt, zI_le, zI_eq, zI_neg, zI_pos, zI_ne0, zI_gt0, zB_0, lg_cmp_ge, lg_cmp_le, lg_cmp_gt, lg_cmp_lt, lg_cmp_eq, ail_r, abl_r, all_r, ais_r, abs_r, als_r, aal_r, aal_q, aln_r, vrf_s, vrf_n, z32, kst, ha, h4b, hoc, Bool.true_eq_false, Bool.false_eq_true, zB_t, zB_f, i8_m3, i8_m4, rwF_v, List.length_cons, List.length_nil, Nat.reduceAdd, Nat.reduceLT, Nat.reduceLeDiff, Nat.reduceEqDiff, ↓reduceIte, bind_s, if_true, if_false, not_true_eq_false, not_false_eq_true, Nat.zero_add]
          exact gR_id hK hM cc cr mQ.rf hF
theorem ct_5 {S : Nat → Int32} {f : Nat → Int32 → Int32} {g : Nat → Int32 → Int32} (hm5 : wN (S 116) ≤ 5) (h1 : ∀ b v, b < wN (S 116) → f b v = g b v) (h2 : ∀ b v, wN (S 116) ≤ b → b < 5 → f b v = v) : fo f 0 5 (zI 0) = fo g 0 (wN (S 116)) (zI 0) := by
  rw [show (5 : Nat) = wN (S 116) + (5 - wN (S 116)) by omega, fo_app]
  have e1 : fo f 0 (wN (S 116)) (zI 0) = fo g 0 (wN (S 116)) (zI 0) := fo_congr _ _ _ (fun j _ hj v => h1 j v (by omega))
  rw [e1]
  exact fo_inv (f := f) (fun _ v => v = fo g 0 (wN (S 116)) (zI 0)) _ _ _ rfl (fun j v q1 q2 q3 => by rw [h2 j v (by omega) (by omega)]; exact q3)
theorem x_ctMay {C : Nat → Prop} {D T : mU × (Nat → Option Nat)} {P : mU} {S : Nat → Int32} {d : Nat} (hX : isX H o D) (hS : tS C H (o + 1) T S) (hP : isP H (o + 9) P) (hpS : pS P S) (hL : qPl S) : am_f X (d + 4) 163 [.ref o] (H, z) = some (.inl (some (.int (fo (q_ct S 5) 0 (wN (S 116)) (zI 0)))), (H, z)) := by
  have hT := hS.iT
  have hG := hS.2.1
  have hm5 := hS.m5
  have hsz := hS.sz
  have kp : am_f X (d + 3) 71 [.ref (o + 9), .ref (o + 1)] (H, z) = _ := p_packed (X := X) (d := d + 1) (z := z) hS hP hpS hL
  have lp : ∀ (k i : Nat) (v : Int32), i + k = wN (S 116) → am_I X (am_f X (d + 3)) 163 16 [some (.ref o), some (.int (zI (pk (qDg S)))), some (.int v), some (.int (zI i))] [] (H, z) = some (.inl (some (.int (fo (q_ct S 5) i k v))), (H, z)) := by
    intro k
    induction k with
    | zero =>
      intro i v hi
      have hi' : wN (S 116) ≤ i := by omega
      rw [am_go dc_163_16]
      simp (disch := first | omega | exact Nat.le_of_ble_eq_true rfl | exact hX.ci | exact hT.ci | exact hP.ci | exact hX.ci | exact hT.ci | exact hP.ci | (refine xF_lt ?_; omega) | (refine tF_lt ?_; omega) | (refine pF_lt ?_; omega)) only [own_163, am_go dc_163_0, J_aload_0, K_al, ld_0, am_go dc_163_1, J_getfield, gf_r, fk_0_19_0, am_go dc_163_4, am_go dc_163_5, fk_0_12_0, am_go dc_163_8, cv_0_142_2 own_163, JR_v, JR_0, JR_ite, ci1_r, am_go dc_163_11, J_istore_1, st1_0, st1_1, st1_s, kl_i, kl_l, kl_r, kl_n, am_go dc_163_12, J_iconst, c32_0, am_go dc_163_13, J_istore_2, am_go dc_163_14, am_go dc_163_15, J_istore_3, J_iload_3, K_il, ld_3, am_go dc_163_17, am_go dc_163_18, am_go dc_163_21, fk_0_80_1, am_go dc_163_24, J_icmp_ge, am_go dc_163_27, am_go dc_163_28, am_go dc_163_31, J_iload_1, ld_1, am_go dc_163_32, am_go dc_163_33, cv_0_146_1 own_163, am_go dc_163_36, J_if_eq, am_go dc_163_39, J_iinc, pinc_go, ld_2, c32_1, am_go dc_163_42, am_go dc_163_45, J_goto, am_go dc_163_48, J_iload_2, am_go dc_163_49, J_ret_i ret_163, xg_1, xg_0, tg_1, hX.c0, hX.c53, hX.c54, hX.c55, hX.c64, hX.c65, hT.c0, hT.c1, hT.c2, hT.c3, hT.c4, hT.c5, hT.c6, hT.c7, hP.c0, hP.c1, hP.c2, hP.c3, hP.c4, zI_add, zI_mul, zI_lt, zI_le, zI_eq, zI_neg, zI_pos, zI_ne0, zI_gt0, zB_0, lg_cmp_ge, lg_cmp_le, lg_cmp_gt, lg_cmp_lt, lg_cmp_eq, ail_r, abl_r, all_r, ais_r, abs_r, als_r, aal_r, aal_q, aln_r, vrf_s, vrf_n, z32, hsz, hi', Bool.true_eq_false, Bool.false_eq_true, zB_t, zB_f, i32_m1, i8_m3, i8_m4, rwF_v, List.length_cons, List.length_nil, Nat.reduceAdd, Nat.reduceLT, Nat.reduceLeDiff, Nat.reduceEqDiff, ↓reduceIte, bind_s, if_true, if_false, not_true_eq_false, not_false_eq_true, Nat.zero_add]
      rfl
    | succ k ih =>
      intro i v hi
      have hlt : ¬ wN (S 116) ≤ i := by omega
      have km : am_f X (d + 3) 75 [.ref (o + 1), .int (zI (pk (qDg S))), .int (zI i)] (H, z) = _ := c_mayOpen (X := X) (d := d) (z := z) hS qDg_ok (by omega)
      rw [lk_may hG qRw.rf hL (by omega)] at km
      refine Eq.trans ?_ (ih (i + 1) (q_ct S 5 i v) (by omega))
      have e : q_ct S 5 i v = v + zB (qMay S i) := rfl
      rw [e]
      cases q : qMay S i with
      | true =>
        rw [q] at km
        rw [am_go dc_163_16]
        simp (disch := first | omega | exact Nat.le_of_ble_eq_true rfl | exact hX.ci | exact hT.ci | exact hP.ci | exact hX.ci | exact hT.ci | exact hP.ci | (refine xF_lt ?_; omega) | (refine tF_lt ?_; omega) | (refine pF_lt ?_; omega)) only [own_163, am_go dc_163_0, J_aload_0, K_al, ld_0, am_go dc_163_1, J_getfield, gf_r, fk_0_19_0, am_go dc_163_4, am_go dc_163_5, fk_0_12_0, am_go dc_163_8, cv_0_142_2 own_163, JR_v, JR_0, JR_ite, ci1_r, am_go dc_163_11, J_istore_1, st1_0, st1_1, st1_s, kl_i, kl_l, kl_r, kl_n, am_go dc_163_12, J_iconst, c32_0, am_go dc_163_13, J_istore_2, am_go dc_163_14, am_go dc_163_15, J_istore_3, J_iload_3, K_il, ld_3, am_go dc_163_17, am_go dc_163_18, am_go dc_163_21, fk_0_80_1, am_go dc_163_24, J_icmp_ge, am_go dc_163_27, am_go dc_163_28, am_go dc_163_31, J_iload_1, ld_1, am_go dc_163_32, am_go dc_163_33, cv_0_146_1 own_163, am_go dc_163_36, J_if_eq, am_go dc_163_39, J_iinc, pinc_go, ld_2, c32_1, am_go dc_163_42, am_go dc_163_45, J_goto, am_go dc_163_48, J_iload_2, am_go dc_163_49, J_ret_i ret_163, xg_1, xg_0, tg_1, hX.c0, hX.c53, hX.c54, hX.c55, hX.c64, hX.c65, hT.c0, hT.c1, hT.c2, hT.c3, hT.c4, hT.c5, hT.c6, hT.c7, hP.c0, hP.c1, hP.c2, hP.c3, hP.c4, zI_add, zI_mul, zI_lt, zI_le, zI_eq, zI_neg, zI_pos, zI_ne0, zI_gt0, zB_0, lg_cmp_ge, lg_cmp_le, lg_cmp_gt, lg_cmp_lt, lg_cmp_eq, ail_r, abl_r, all_r, ais_r, abs_r, als_r, aal_r, aal_q, aln_r, vrf_s, vrf_n, z32, hsz, hlt, km, Bool.true_eq_false, Bool.false_eq_true, zB_t, zB_f, i32_m1, i8_m3, i8_m4, rwF_v, List.length_cons, List.length_nil, Nat.reduceAdd, Nat.reduceLT, Nat.reduceLeDiff, Nat.reduceEqDiff, ↓reduceIte, bind_s, if_true, if_false, not_true_eq_false, not_false_eq_true, Nat.zero_add]
      | false =>
        rw [q] at km
        rw [zB_f, show v + zI 0 = v from Int32.add_zero v]
        rw [am_go dc_163_16]
        simp (disch := first | omega | exact Nat.le_of_ble_eq_true rfl | exact hX.ci | exact hT.ci | exact hP.ci | exact hX.ci | exact hT.ci | exact hP.ci | (refine xF_lt ?_; omega) | (refine tF_lt ?_; omega) | (refine pF_lt ?_; omega)) only [own_163, am_go dc_163_0, J_aload_0, K_al, ld_0, am_go dc_163_1, J_getfield, gf_r, fk_0_19_0, am_go dc_163_4, am_go dc_163_5, fk_0_12_0, am_go dc_163_8, cv_0_142_2 own_163, JR_v, JR_0, JR_ite, ci1_r, am_go dc_163_11, J_istore_1, st1_0, st1_1, st1_s, kl_i, kl_l, kl_r, kl_n, am_go dc_163_12, J_iconst, c32_0, am_go dc_163_13, J_istore_2, am_go dc_163_14, am_go dc_163_15, J_istore_3, J_iload_3, K_il, ld_3, am_go dc_163_17, am_go dc_163_18, am_go dc_163_21, fk_0_80_1, am_go dc_163_24, J_icmp_ge, am_go dc_163_27, am_go dc_163_28, am_go dc_163_31, J_iload_1, ld_1, am_go dc_163_32, am_go dc_163_33, cv_0_146_1 own_163, am_go dc_163_36, J_if_eq, am_go dc_163_39, J_iinc, pinc_go, ld_2, c32_1, am_go dc_163_42, am_go dc_163_45, J_goto, am_go dc_163_48, J_iload_2, am_go dc_163_49, J_ret_i ret_163, xg_1, xg_0, tg_1, hX.c0, hX.c53, hX.c54, hX.c55, hX.c64, hX.c65, hT.c0, hT.c1, hT.c2, hT.c3, hT.c4, hT.c5, hT.c6, hT.c7, hP.c0, hP.c1, hP.c2, hP.c3, hP.c4, zI_add, zI_mul, zI_lt, zI_le, zI_eq, zI_neg, zI_pos, zI_ne0, zI_gt0, zB_0, lg_cmp_ge, lg_cmp_le, lg_cmp_gt, lg_cmp_lt, lg_cmp_eq, ail_r, abl_r, all_r, ais_r, abs_r, als_r, aal_r, aal_q, aln_r, vrf_s, vrf_n, z32, hsz, hlt, km, Bool.true_eq_false, Bool.false_eq_true, zB_t, zB_f, i32_m1, i8_m3, i8_m4, rwF_v, List.length_cons, List.length_nil, Nat.reduceAdd, Nat.reduceLT, Nat.reduceLeDiff, Nat.reduceEqDiff, ↓reduceIte, bind_s, if_true, if_false, not_true_eq_false, not_false_eq_true, Nat.zero_add]
  rw [← lp (wN (S 116)) 0 (zI 0) (Nat.zero_add _), fU_163]
  simp (disch := first | omega | exact Nat.le_of_ble_eq_true rfl | exact hX.ci | exact hT.ci | exact hP.ci | exact hX.ci | exact hT.ci | exact hP.ci | (refine xF_lt ?_; omega) | (refine tF_lt ?_; omega) | (refine pF_lt ?_; omega)) only [own_163, am_go dc_163_0, J_aload_0, K_al, ld_0, am_go dc_163_1, J_getfield, gf_r, fk_0_19_0, am_go dc_163_4, am_go dc_163_5, fk_0_12_0, am_go dc_163_8, cv_0_142_2 own_163, JR_v, JR_0, JR_ite, ci1_r, am_go dc_163_11, J_istore_1, st1_0, st1_1, st1_s, kl_i, kl_l, kl_r, kl_n, am_go dc_163_12, J_iconst, c32_0, am_go dc_163_13, J_istore_2, am_go dc_163_14, am_go dc_163_15, J_istore_3, J_iload_3, K_il, ld_3, am_go dc_163_17, am_go dc_163_18, am_go dc_163_21, fk_0_80_1, am_go dc_163_24, J_icmp_ge, am_go dc_163_27, am_go dc_163_28, am_go dc_163_31, J_iload_1, ld_1, am_go dc_163_32, am_go dc_163_33, cv_0_146_1 own_163, am_go dc_163_36, J_if_eq, am_go dc_163_39, J_iinc, pinc_go, ld_2, c32_1, am_go dc_163_42, am_go dc_163_45, J_goto, am_go dc_163_48, J_iload_2, am_go dc_163_49, J_ret_i ret_163, xg_1, xg_0, tg_1, hX.c0, hX.c53, hX.c54, hX.c55, hX.c64, hX.c65, hT.c0, hT.c1, hT.c2, hT.c3, hT.c4, hT.c5, hT.c6, hT.c7, hP.c0, hP.c1, hP.c2, hP.c3, hP.c4, zI_add, zI_mul, zI_lt, zI_le, zI_eq, zI_neg, zI_pos, zI_ne0, zI_gt0, zB_0, lg_cmp_ge, lg_cmp_le, lg_cmp_gt, lg_cmp_lt, lg_cmp_eq, ail_r, abl_r, all_r, ais_r, abs_r, als_r, aal_r, aal_q, aln_r, vrf_s, vrf_n, z32, kp, Bool.true_eq_false, Bool.false_eq_true, zB_t, zB_f, i32_m1, i8_m3, i8_m4, rwF_v, List.length_cons, List.length_nil, Nat.reduceAdd, Nat.reduceLT, Nat.reduceLeDiff, Nat.reduceEqDiff, ↓reduceIte, bind_s, if_true, if_false, not_true_eq_false, not_false_eq_true, Nat.zero_add]
theorem f_count (hK : gK o k H z u) (hM : cM H (o + 66) u) (hF : mFr u) {x : Int32} : gR X o k 160 271 [.int x] H z u := by
  obtain ⟨C, D, T, P, Q, lu, m, a, N, hX, hTN, hP, hpS, hI, hpl, hr, hkn, hLH, hlow, hre⟩ := g_plan hK
  have hS := hTN.1
  have hT := hS.iT
  have hN := hTN.2.1
  have hG := hI.1
  have hL := hI.pl
  have hq := hI.qw
  have hm5 := hG.m.2
  have hsz := hS.sz
  have hbl := hS.bell
  have hsz1 := hS.2.2.1.1
  have kas : am_f X 999 161 [.ref (o + 1)] (H, z) = _ := c_allSteps (X := X) (d := 997) (z := z) hS
  have kc3 : am_f X 999 162 [.ref (o + 9), .int (zI 3), .int (zI 4)] (H, z) = _ := p_count (X := X) (d := 998) (z := z) hP
  have kc4 : am_f X 999 162 [.ref (o + 9), .int (zI 1), .int (zI 2)] (H, z) = _ := p_count (X := X) (d := 998) (z := z) hP
  have kmy : am_f X 999 163 [.ref o] (H, z) = _ := x_ctMay (X := X) (d := 995) hX hS hP hpS hL
  have hz5 : ∀ b, wN (u.1 1 116) ≤ b → b < 5 → u.1 1 (90 + b) = zI 0 := fun b h1 h2 => (hL b h2).2.1 h1
  have c2 : fo (c_as (u.1 1)) 0 (wN (u.1 1 116)) (zI 0) = fo (q_ct (u.1 1) 2) 0 (wN (u.1 1 116)) (zI 0) := fo_congr _ _ _ (fun j _ hj v => by
    unfold c_as q_ct
    rw [if_pos rfl, ← (hG.n (show j < wN (u.1 1 116) by omega)).1])
  have d5v : ∀ b, b < 5 → ∃ w, w ≤ 6 ∧ u.1 1 (90 + b) = zI w ∧ P.1 0 b = zI (if w ≤ 4 then w else 4) := fun b hb => by
    obtain ⟨w1, w2⟩ := hL.w hb
    refine ⟨hw (u.1 1) b, w2, w1, ?_⟩
    rw [(hpS.1 b hb).1]
    unfold qD5
    rw [w1]
    simp only [zI_le (show hw (u.1 1) b < 2147483648 by omega) (show 4 < 2147483648 by omega)]
    split <;> rfl
  have c3 : fo (c_cb P (zI 3) (zI 4)) 0 5 (zI 0) = fo (q_ct (u.1 1) 3) 0 (wN (u.1 1 116)) (zI 0) := ct_5 hm5 (fun b v hb => by
    obtain ⟨w, q1, q2, q3⟩ := d5v b (by omega)
    unfold c_cb q_ct
    rw [q3, q2]
    simp only [zI_lt (show (if w ≤ 4 then w else 4) < 2147483648 by split <;> omega) (show 3 < 2147483648 by omega), zI_lt (show 4 < 2147483648 by omega) (show (if w ≤ 4 then w else 4) < 2147483648 by split <;> omega), zI_le (show w < 2147483648 by omega) (show 2 < 2147483648 by omega)]
    by_cases c : w ≤ 2
    · rw [if_pos c, if_pos (by split <;> omega)]
      exact (Int32.add_zero v).symm
    · rw [if_neg c, if_neg (by split <;> omega), if_neg (by split <;> omega)]
      rfl) (fun b v h1 h2 => by
    obtain ⟨w, q1, q2, q3⟩ := d5v b h2
    rw [hz5 b h1 h2, zI_eq (by omega) (by omega)] at q2
    subst q2
    unfold c_cb
    rw [q3]
    rfl)
  have c4 : fo (c_cb P (zI 1) (zI 2)) 0 5 (zI 0) = fo (q_ct (u.1 1) 4) 0 (wN (u.1 1 116)) (zI 0) := ct_5 hm5 (fun b v hb => by
    obtain ⟨w, q1, q2, q3⟩ := d5v b (by omega)
    unfold c_cb q_ct
    rw [q3, q2]
    simp only [zI_lt (show (if w ≤ 4 then w else 4) < 2147483648 by split <;> omega) (show 1 < 2147483648 by omega), zI_lt (show 2 < 2147483648 by omega) (show (if w ≤ 4 then w else 4) < 2147483648 by split <;> omega), zI_eq (show w < 2147483648 by omega) (show 1 < 2147483648 by omega), zI_eq (show w < 2147483648 by omega) (show 2 < 2147483648 by omega)]
    by_cases c : w = 1 ∨ w = 2
    · rw [if_pos c, if_neg (by split <;> omega), if_neg (by split <;> omega)]
      rfl
    · rw [if_neg c]
      by_cases c1 : w = 0
      · rw [if_pos (by split <;> omega)]
        exact (Int32.add_zero v).symm
      · rw [if_neg (by split <;> omega), if_pos (by split <;> omega)]
        exact (Int32.add_zero v).symm) (fun b v h1 h2 => by
    obtain ⟨w, q1, q2, q3⟩ := d5v b h2
    rw [hz5 b h1 h2, zI_eq (by omega) (by omega)] at q2
    subst q2
    unfold c_cb
    rw [q3]
    rfl)
  rw [c2] at kas
  rw [c3] at kc3
  rw [c4] at kc4
  cases hx : qIs x 6 with
  | false =>
    have cc : am_f X 1000 160 [.ref o, .int x] (H, z) = some (.inl (some (.int (-1))), (H, z)) := by
      show am_f X (999 + 1) 160 _ _ = _
      rw [fU_160]
      simp (disch := first | omega | exact Nat.le_of_ble_eq_true rfl | exact hX.ci | exact hT.ci | exact hP.ci | exact hX.ci | exact hT.ci | exact hP.ci | (refine xF_lt ?_; omega) | (refine tF_lt ?_; omega) | (refine pF_lt ?_; omega)) only [own_160, am_go dc_160_0, J_iload_1, K_il, ld_1, am_go dc_160_1, sw_160_1_0, sw_160_1_1, sw_160_1_2, sw_160_1_3, sw_160_1_4, sw_160_1_5, am_go dc_160_40, J_aload_0, K_al, ld_0, am_go dc_160_41, J_getfield, gf_r, fk_0_12_0, am_go dc_160_44, fk_0_80_1, am_go dc_160_47, J_ret_i ret_160, am_go dc_160_48, am_go dc_160_49, am_go dc_160_52, fk_0_136_1, am_go dc_160_55, am_go dc_160_56, am_go dc_160_57, am_go dc_160_60, cv_0_272_1 own_160, JR_v, JR_0, JR_ite, ci1_r, am_go dc_160_63, am_go dc_160_64, am_go dc_160_65, fk_0_19_0, am_go dc_160_68, J_iconst, c32_3, am_go dc_160_69, c32_4, am_go dc_160_70, cv_0_275_2 own_160, am_go dc_160_73, am_go dc_160_74, am_go dc_160_75, am_go dc_160_78, c32_1, am_go dc_160_79, c32_2, am_go dc_160_80, am_go dc_160_83, am_go dc_160_84, am_go dc_160_85, cv_0_278_0 own_160, am_go dc_160_88, am_go dc_160_89, i32_m1, am_go dc_160_90, xg_0, tg_1, tg_2, xg_1, hX.c0, hX.c53, hX.c54, hX.c55, hX.c64, hX.c65, hT.c0, hT.c1, hT.c2, hT.c3, hT.c4, hT.c5, hT.c6, hT.c7, hP.c0, hP.c1, hP.c2, hP.c3, hP.c4, zI_add, zI_mul, zI_lt, zI_le, zI_eq, zI_neg, zI_pos, zI_ne0, zI_gt0, zB_0, lg_cmp_ge, lg_cmp_le, lg_cmp_gt, lg_cmp_lt, lg_cmp_eq, ail_r, abl_r, all_r, ais_r, abs_r, als_r, aal_r, aal_q, aln_r, vrf_s, vrf_n, z32, sd_160_1 hx, Bool.true_eq_false, Bool.false_eq_true, zB_t, zB_f, i8_m3, i8_m4, rwF_v, List.length_cons, List.length_nil, Nat.reduceAdd, Nat.reduceLT, Nat.reduceLeDiff, Nat.reduceEqDiff, ↓reduceIte, bind_s, if_true, if_false, not_true_eq_false, not_false_eq_true, Nat.zero_add]
    have cr : am_f X 1000 271 [.ref (o + 66), .int x] (mH H (o + 66) u, z) = _ := r_count_n (X := X) (d := 998) (h := H) (z := z) hx
    exact gR_id hK hM cc cr mQ.rf hF
  | true =>
    obtain ⟨e1, e2⟩ := qIs_get hx
    generalize wN x = b at *
    subst e1
    rcases (by omega : b = 0 ∨ b = 1 ∨ b = 2 ∨ b = 3 ∨ b = 4 ∨ b = 5) with rfl | rfl | rfl | rfl | rfl | rfl
    · have cc : am_f X 1000 160 [.ref o, .int (zI 0)] (H, z) = some (.inl (some (.int (u.1 1 116))), (H, z)) := by
        show am_f X (999 + 1) 160 _ _ = _
        rw [fU_160]
        simp (disch := first | omega | exact Nat.le_of_ble_eq_true rfl | exact hX.ci | exact hT.ci | exact hP.ci | exact hX.ci | exact hT.ci | exact hP.ci | (refine xF_lt ?_; omega) | (refine tF_lt ?_; omega) | (refine pF_lt ?_; omega)) only [own_160, am_go dc_160_0, J_iload_1, K_il, ld_1, am_go dc_160_1, sw_160_1_0, sw_160_1_1, sw_160_1_2, sw_160_1_3, sw_160_1_4, sw_160_1_5, am_go dc_160_40, J_aload_0, K_al, ld_0, am_go dc_160_41, J_getfield, gf_r, fk_0_12_0, am_go dc_160_44, fk_0_80_1, am_go dc_160_47, J_ret_i ret_160, am_go dc_160_48, am_go dc_160_49, am_go dc_160_52, fk_0_136_1, am_go dc_160_55, am_go dc_160_56, am_go dc_160_57, am_go dc_160_60, cv_0_272_1 own_160, JR_v, JR_0, JR_ite, ci1_r, am_go dc_160_63, am_go dc_160_64, am_go dc_160_65, fk_0_19_0, am_go dc_160_68, J_iconst, c32_3, am_go dc_160_69, c32_4, am_go dc_160_70, cv_0_275_2 own_160, am_go dc_160_73, am_go dc_160_74, am_go dc_160_75, am_go dc_160_78, c32_1, am_go dc_160_79, c32_2, am_go dc_160_80, am_go dc_160_83, am_go dc_160_84, am_go dc_160_85, cv_0_278_0 own_160, am_go dc_160_88, am_go dc_160_89, i32_m1, am_go dc_160_90, xg_0, tg_1, tg_2, xg_1, hX.c0, hX.c53, hX.c54, hX.c55, hX.c64, hX.c65, hT.c0, hT.c1, hT.c2, hT.c3, hT.c4, hT.c5, hT.c6, hT.c7, hP.c0, hP.c1, hP.c2, hP.c3, hP.c4, zI_add, zI_mul, zI_lt, zI_le, zI_eq, zI_neg, zI_pos, zI_ne0, zI_gt0, zB_0, lg_cmp_ge, lg_cmp_le, lg_cmp_gt, lg_cmp_lt, lg_cmp_eq, ail_r, abl_r, all_r, ais_r, abs_r, als_r, aal_r, aal_q, aln_r, vrf_s, vrf_n, z32, hsz1, Bool.true_eq_false, Bool.false_eq_true, zB_t, zB_f, i8_m3, i8_m4, rwF_v, List.length_cons, List.length_nil, Nat.reduceAdd, Nat.reduceLT, Nat.reduceLeDiff, Nat.reduceEqDiff, ↓reduceIte, bind_s, if_true, if_false, not_true_eq_false, not_false_eq_true, Nat.zero_add]
      have cr : am_f X 1000 271 [.ref (o + 66), .int (zI 0)] (mH H (o + 66) u, z) = _ := r_count_0 (X := X) (d := 998) (h := H) (z := z)
      exact gR_id hK hM cc cr mQ.rf hF
    · have cc : am_f X 1000 160 [.ref o, .int (zI 1)] (H, z) = some (.inl (some (.int (u.1 1 117))), (H, z)) := by
        show am_f X (999 + 1) 160 _ _ = _
        rw [fU_160]
        simp (disch := first | omega | exact Nat.le_of_ble_eq_true rfl | exact hX.ci | exact hT.ci | exact hP.ci | exact hX.ci | exact hT.ci | exact hP.ci | (refine xF_lt ?_; omega) | (refine tF_lt ?_; omega) | (refine pF_lt ?_; omega)) only [own_160, am_go dc_160_0, J_iload_1, K_il, ld_1, am_go dc_160_1, sw_160_1_0, sw_160_1_1, sw_160_1_2, sw_160_1_3, sw_160_1_4, sw_160_1_5, am_go dc_160_40, J_aload_0, K_al, ld_0, am_go dc_160_41, J_getfield, gf_r, fk_0_12_0, am_go dc_160_44, fk_0_80_1, am_go dc_160_47, J_ret_i ret_160, am_go dc_160_48, am_go dc_160_49, am_go dc_160_52, fk_0_136_1, am_go dc_160_55, am_go dc_160_56, am_go dc_160_57, am_go dc_160_60, cv_0_272_1 own_160, JR_v, JR_0, JR_ite, ci1_r, am_go dc_160_63, am_go dc_160_64, am_go dc_160_65, fk_0_19_0, am_go dc_160_68, J_iconst, c32_3, am_go dc_160_69, c32_4, am_go dc_160_70, cv_0_275_2 own_160, am_go dc_160_73, am_go dc_160_74, am_go dc_160_75, am_go dc_160_78, c32_1, am_go dc_160_79, c32_2, am_go dc_160_80, am_go dc_160_83, am_go dc_160_84, am_go dc_160_85, cv_0_278_0 own_160, am_go dc_160_88, am_go dc_160_89, i32_m1, am_go dc_160_90, xg_0, tg_1, tg_2, xg_1, hX.c0, hX.c53, hX.c54, hX.c55, hX.c64, hX.c65, hT.c0, hT.c1, hT.c2, hT.c3, hT.c4, hT.c5, hT.c6, hT.c7, hP.c0, hP.c1, hP.c2, hP.c3, hP.c4, zI_add, zI_mul, zI_lt, zI_le, zI_eq, zI_neg, zI_pos, zI_ne0, zI_gt0, zB_0, lg_cmp_ge, lg_cmp_le, lg_cmp_gt, lg_cmp_lt, lg_cmp_eq, ail_r, abl_r, all_r, ais_r, abs_r, als_r, aal_r, aal_q, aln_r, vrf_s, vrf_n, z32, hbl, Bool.true_eq_false, Bool.false_eq_true, zB_t, zB_f, i8_m3, i8_m4, rwF_v, List.length_cons, List.length_nil, Nat.reduceAdd, Nat.reduceLT, Nat.reduceLeDiff, Nat.reduceEqDiff, ↓reduceIte, bind_s, if_true, if_false, not_true_eq_false, not_false_eq_true, Nat.zero_add]
      have cr : am_f X 1000 271 [.ref (o + 66), .int (zI 1)] (mH H (o + 66) u, z) = _ := r_count_1 (X := X) (d := 998) (h := H) (z := z)
      exact gR_id hK hM cc cr mQ.rf hF
    · have cc : am_f X 1000 160 [.ref o, .int (zI 2)] (H, z) = some (.inl (some (.int (fo (q_ct (u.1 1) 2) 0 (wN (u.1 1 116)) (zI 0)))), (H, z)) := by
        show am_f X (999 + 1) 160 _ _ = _
        rw [fU_160]
        simp (disch := first | omega | exact Nat.le_of_ble_eq_true rfl | exact hX.ci | exact hT.ci | exact hP.ci | exact hX.ci | exact hT.ci | exact hP.ci | (refine xF_lt ?_; omega) | (refine tF_lt ?_; omega) | (refine pF_lt ?_; omega)) only [own_160, am_go dc_160_0, J_iload_1, K_il, ld_1, am_go dc_160_1, sw_160_1_0, sw_160_1_1, sw_160_1_2, sw_160_1_3, sw_160_1_4, sw_160_1_5, am_go dc_160_40, J_aload_0, K_al, ld_0, am_go dc_160_41, J_getfield, gf_r, fk_0_12_0, am_go dc_160_44, fk_0_80_1, am_go dc_160_47, J_ret_i ret_160, am_go dc_160_48, am_go dc_160_49, am_go dc_160_52, fk_0_136_1, am_go dc_160_55, am_go dc_160_56, am_go dc_160_57, am_go dc_160_60, cv_0_272_1 own_160, JR_v, JR_0, JR_ite, ci1_r, am_go dc_160_63, am_go dc_160_64, am_go dc_160_65, fk_0_19_0, am_go dc_160_68, J_iconst, c32_3, am_go dc_160_69, c32_4, am_go dc_160_70, cv_0_275_2 own_160, am_go dc_160_73, am_go dc_160_74, am_go dc_160_75, am_go dc_160_78, c32_1, am_go dc_160_79, c32_2, am_go dc_160_80, am_go dc_160_83, am_go dc_160_84, am_go dc_160_85, cv_0_278_0 own_160, am_go dc_160_88, am_go dc_160_89, i32_m1, am_go dc_160_90, xg_0, tg_1, tg_2, xg_1, hX.c0, hX.c53, hX.c54, hX.c55, hX.c64, hX.c65, hT.c0, hT.c1, hT.c2, hT.c3, hT.c4, hT.c5, hT.c6, hT.c7, hP.c0, hP.c1, hP.c2, hP.c3, hP.c4, zI_add, zI_mul, zI_lt, zI_le, zI_eq, zI_neg, zI_pos, zI_ne0, zI_gt0, zB_0, lg_cmp_ge, lg_cmp_le, lg_cmp_gt, lg_cmp_lt, lg_cmp_eq, ail_r, abl_r, all_r, ais_r, abs_r, als_r, aal_r, aal_q, aln_r, vrf_s, vrf_n, z32, kas, Bool.true_eq_false, Bool.false_eq_true, zB_t, zB_f, i8_m3, i8_m4, rwF_v, List.length_cons, List.length_nil, Nat.reduceAdd, Nat.reduceLT, Nat.reduceLeDiff, Nat.reduceEqDiff, ↓reduceIte, bind_s, if_true, if_false, not_true_eq_false, not_false_eq_true, Nat.zero_add]
      have cr : am_f X 1000 271 [.ref (o + 66), .int (zI 2)] (mH H (o + 66) u, z) = _ := r_count_y (X := X) (d := 996) (h := H) (z := z) (w := 2) hG hq (by omega) (by omega)
      exact gR_id hK hM cc cr mQ.rf hF
    · have cc : am_f X 1000 160 [.ref o, .int (zI 3)] (H, z) = some (.inl (some (.int (fo (q_ct (u.1 1) 3) 0 (wN (u.1 1 116)) (zI 0)))), (H, z)) := by
        show am_f X (999 + 1) 160 _ _ = _
        rw [fU_160]
        simp (disch := first | omega | exact Nat.le_of_ble_eq_true rfl | exact hX.ci | exact hT.ci | exact hP.ci | exact hX.ci | exact hT.ci | exact hP.ci | (refine xF_lt ?_; omega) | (refine tF_lt ?_; omega) | (refine pF_lt ?_; omega)) only [own_160, am_go dc_160_0, J_iload_1, K_il, ld_1, am_go dc_160_1, sw_160_1_0, sw_160_1_1, sw_160_1_2, sw_160_1_3, sw_160_1_4, sw_160_1_5, am_go dc_160_40, J_aload_0, K_al, ld_0, am_go dc_160_41, J_getfield, gf_r, fk_0_12_0, am_go dc_160_44, fk_0_80_1, am_go dc_160_47, J_ret_i ret_160, am_go dc_160_48, am_go dc_160_49, am_go dc_160_52, fk_0_136_1, am_go dc_160_55, am_go dc_160_56, am_go dc_160_57, am_go dc_160_60, cv_0_272_1 own_160, JR_v, JR_0, JR_ite, ci1_r, am_go dc_160_63, am_go dc_160_64, am_go dc_160_65, fk_0_19_0, am_go dc_160_68, J_iconst, c32_3, am_go dc_160_69, c32_4, am_go dc_160_70, cv_0_275_2 own_160, am_go dc_160_73, am_go dc_160_74, am_go dc_160_75, am_go dc_160_78, c32_1, am_go dc_160_79, c32_2, am_go dc_160_80, am_go dc_160_83, am_go dc_160_84, am_go dc_160_85, cv_0_278_0 own_160, am_go dc_160_88, am_go dc_160_89, i32_m1, am_go dc_160_90, xg_0, tg_1, tg_2, xg_1, hX.c0, hX.c53, hX.c54, hX.c55, hX.c64, hX.c65, hT.c0, hT.c1, hT.c2, hT.c3, hT.c4, hT.c5, hT.c6, hT.c7, hP.c0, hP.c1, hP.c2, hP.c3, hP.c4, zI_add, zI_mul, zI_lt, zI_le, zI_eq, zI_neg, zI_pos, zI_ne0, zI_gt0, zB_0, lg_cmp_ge, lg_cmp_le, lg_cmp_gt, lg_cmp_lt, lg_cmp_eq, ail_r, abl_r, all_r, ais_r, abs_r, als_r, aal_r, aal_q, aln_r, vrf_s, vrf_n, z32, kc3, Bool.true_eq_false, Bool.false_eq_true, zB_t, zB_f, i8_m3, i8_m4, rwF_v, List.length_cons, List.length_nil, Nat.reduceAdd, Nat.reduceLT, Nat.reduceLeDiff, Nat.reduceEqDiff, ↓reduceIte, bind_s, if_true, if_false, not_true_eq_false, not_false_eq_true, Nat.zero_add]
      have cr : am_f X 1000 271 [.ref (o + 66), .int (zI 3)] (mH H (o + 66) u, z) = _ := r_count_y (X := X) (d := 996) (h := H) (z := z) (w := 3) hG hq (by omega) (by omega)
      exact gR_id hK hM cc cr mQ.rf hF
    · have cc : am_f X 1000 160 [.ref o, .int (zI 4)] (H, z) = some (.inl (some (.int (fo (q_ct (u.1 1) 4) 0 (wN (u.1 1 116)) (zI 0)))), (H, z)) := by
        show am_f X (999 + 1) 160 _ _ = _
        rw [fU_160]
        simp (disch := first | omega | exact Nat.le_of_ble_eq_true rfl | exact hX.ci | exact hT.ci | exact hP.ci | exact hX.ci | exact hT.ci | exact hP.ci | (refine xF_lt ?_; omega) | (refine tF_lt ?_; omega) | (refine pF_lt ?_; omega)) only [own_160, am_go dc_160_0, J_iload_1, K_il, ld_1, am_go dc_160_1, sw_160_1_0, sw_160_1_1, sw_160_1_2, sw_160_1_3, sw_160_1_4, sw_160_1_5, am_go dc_160_40, J_aload_0, K_al, ld_0, am_go dc_160_41, J_getfield, gf_r, fk_0_12_0, am_go dc_160_44, fk_0_80_1, am_go dc_160_47, J_ret_i ret_160, am_go dc_160_48, am_go dc_160_49, am_go dc_160_52, fk_0_136_1, am_go dc_160_55, am_go dc_160_56, am_go dc_160_57, am_go dc_160_60, cv_0_272_1 own_160, JR_v, JR_0, JR_ite, ci1_r, am_go dc_160_63, am_go dc_160_64, am_go dc_160_65, fk_0_19_0, am_go dc_160_68, J_iconst, c32_3, am_go dc_160_69, c32_4, am_go dc_160_70, cv_0_275_2 own_160, am_go dc_160_73, am_go dc_160_74, am_go dc_160_75, am_go dc_160_78, c32_1, am_go dc_160_79, c32_2, am_go dc_160_80, am_go dc_160_83, am_go dc_160_84, am_go dc_160_85, cv_0_278_0 own_160, am_go dc_160_88, am_go dc_160_89, i32_m1, am_go dc_160_90, xg_0, tg_1, tg_2, xg_1, hX.c0, hX.c53, hX.c54, hX.c55, hX.c64, hX.c65, hT.c0, hT.c1, hT.c2, hT.c3, hT.c4, hT.c5, hT.c6, hT.c7, hP.c0, hP.c1, hP.c2, hP.c3, hP.c4, zI_add, zI_mul, zI_lt, zI_le, zI_eq, zI_neg, zI_pos, zI_ne0, zI_gt0, zB_0, lg_cmp_ge, lg_cmp_le, lg_cmp_gt, lg_cmp_lt, lg_cmp_eq, ail_r, abl_r, all_r, ais_r, abs_r, als_r, aal_r, aal_q, aln_r, vrf_s, vrf_n, z32, kc4, Bool.true_eq_false, Bool.false_eq_true, zB_t, zB_f, i8_m3, i8_m4, rwF_v, List.length_cons, List.length_nil, Nat.reduceAdd, Nat.reduceLT, Nat.reduceLeDiff, Nat.reduceEqDiff, ↓reduceIte, bind_s, if_true, if_false, not_true_eq_false, not_false_eq_true, Nat.zero_add]
      have cr : am_f X 1000 271 [.ref (o + 66), .int (zI 4)] (mH H (o + 66) u, z) = _ := r_count_y (X := X) (d := 996) (h := H) (z := z) (w := 4) hG hq (by omega) (by omega)
      exact gR_id hK hM cc cr mQ.rf hF
    · have cc : am_f X 1000 160 [.ref o, .int (zI 5)] (H, z) = some (.inl (some (.int (fo (q_ct (u.1 1) 5) 0 (wN (u.1 1 116)) (zI 0)))), (H, z)) := by
        show am_f X (999 + 1) 160 _ _ = _
        rw [fU_160]
        simp (disch := first | omega | exact Nat.le_of_ble_eq_true rfl | exact hX.ci | exact hT.ci | exact hP.ci | exact hX.ci | exact hT.ci | exact hP.ci | (refine xF_lt ?_; omega) | (refine tF_lt ?_; omega) | (refine pF_lt ?_; omega)) only [own_160, am_go dc_160_0, J_iload_1, K_il, ld_1, am_go dc_160_1, sw_160_1_0, sw_160_1_1, sw_160_1_2, sw_160_1_3, sw_160_1_4, sw_160_1_5, am_go dc_160_40, J_aload_0, K_al, ld_0, am_go dc_160_41, J_getfield, gf_r, fk_0_12_0, am_go dc_160_44, fk_0_80_1, am_go dc_160_47, J_ret_i ret_160, am_go dc_160_48, am_go dc_160_49, am_go dc_160_52, fk_0_136_1, am_go dc_160_55, am_go dc_160_56, am_go dc_160_57, am_go dc_160_60, cv_0_272_1 own_160, JR_v, JR_0, JR_ite, ci1_r, am_go dc_160_63, am_go dc_160_64, am_go dc_160_65, fk_0_19_0, am_go dc_160_68, J_iconst, c32_3, am_go dc_160_69, c32_4, am_go dc_160_70, cv_0_275_2 own_160, am_go dc_160_73, am_go dc_160_74, am_go dc_160_75, am_go dc_160_78, c32_1, am_go dc_160_79, c32_2, am_go dc_160_80, am_go dc_160_83, am_go dc_160_84, am_go dc_160_85, cv_0_278_0 own_160, am_go dc_160_88, am_go dc_160_89, i32_m1, am_go dc_160_90, xg_0, tg_1, tg_2, xg_1, hX.c0, hX.c53, hX.c54, hX.c55, hX.c64, hX.c65, hT.c0, hT.c1, hT.c2, hT.c3, hT.c4, hT.c5, hT.c6, hT.c7, hP.c0, hP.c1, hP.c2, hP.c3, hP.c4, zI_add, zI_mul, zI_lt, zI_le, zI_eq, zI_neg, zI_pos, zI_ne0, zI_gt0, zB_0, lg_cmp_ge, lg_cmp_le, lg_cmp_gt, lg_cmp_lt, lg_cmp_eq, ail_r, abl_r, all_r, ais_r, abs_r, als_r, aal_r, aal_q, aln_r, vrf_s, vrf_n, z32, kmy, Bool.true_eq_false, Bool.false_eq_true, zB_t, zB_f, i8_m3, i8_m4, rwF_v, List.length_cons, List.length_nil, Nat.reduceAdd, Nat.reduceLT, Nat.reduceLeDiff, Nat.reduceEqDiff, ↓reduceIte, bind_s, if_true, if_false, not_true_eq_false, not_false_eq_true, Nat.zero_add]
      have cr : am_f X 1000 271 [.ref (o + 66), .int (zI 5)] (mH H (o + 66) u, z) = _ := r_count_y (X := X) (d := 996) (h := H) (z := z) (w := 5) hG hq (by omega) (by omega)
      exact gR_id hK hM cc cr mQ.rf hF
end FC
