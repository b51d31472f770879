/-! the face: rows -/
section FL
variable {X : am_X} {o k : Nat} {H : am_H} {z : Nat × Nat} {u : mU}
theorem qIs_c {y : Int32} {s : Nat} (hs : s < 1000000) (h : qIs y s = false) : y < 0 ∨ (¬ y < 0 ∧ ¬ y < zI s) := by
  by_cases c : y < 0
  · exact Or.inl c
  · refine Or.inr ⟨c, fun q => ?_⟩
    have := qIs_lt (x := y) (m := s) (by omega)
    rw [h, if_neg c, if_neg (Int32.not_le.mpr q)] at this
    exact absurd this (by decide)
theorem x_low {d : Nat} {s v : Int32} {σ : am_S} : am_f X (d + 1) 167 [.int s, .int v] σ = some (.inl (some (.int (qLow s v))), σ) := by
  unfold qLow
  rw [fU_167]
  by_cases c0 : s = 0
  · simp (disch := first | omega | exact Nat.le_of_ble_eq_true rfl) only [own_167, am_go dc_167_0, J_iload_0, K_il, ld_0, am_go dc_167_1, J_if_ne, am_go dc_167_4, J_iload_1, ld_1, am_go dc_167_5, J_i2b, am_go dc_167_6, J_ret_i ret_167, am_go dc_167_7, am_go dc_167_8, J_iconst, c32_1, am_go dc_167_9, J_icmp_ne, am_go dc_167_12, am_go dc_167_13, J_i2s, am_go dc_167_14, J_goto, am_go dc_167_17, am_go dc_167_18, zI_add, zI_mul, zI_lt, zI_le, zI_eq, zI_neg, zI_pos, zI_ne0, zI_gt0, zB_0, lg_cmp_ge, lg_cmp_le, lg_cmp_gt, lg_cmp_lt, lg_cmp_eq, ail_r, abl_r, all_r, ais_r, abs_r, als_r, aal_r, aal_q, aln_r, vrf_s, vrf_n, z32, c0, Bool.true_eq_false, Bool.false_eq_true, zB_t, zB_f, i32_m1, i8_m3, i8_m4, rwF_v, List.length_cons, List.length_nil, Nat.reduceAdd, Nat.reduceLT, Nat.reduceLeDiff, Nat.reduceEqDiff, ↓reduceIte, bind_s, if_true, if_false, not_true_eq_false, not_false_eq_true, Nat.zero_add]
  · by_cases c1 : s = zI 1
    · have z1 : ¬ zI 1 = 0 := by decide
      simp (disch := first | omega | exact Nat.le_of_ble_eq_true rfl) only [own_167, am_go dc_167_0, J_iload_0, K_il, ld_0, am_go dc_167_1, J_if_ne, am_go dc_167_4, J_iload_1, ld_1, am_go dc_167_5, J_i2b, am_go dc_167_6, J_ret_i ret_167, am_go dc_167_7, am_go dc_167_8, J_iconst, c32_1, am_go dc_167_9, J_icmp_ne, am_go dc_167_12, am_go dc_167_13, J_i2s, am_go dc_167_14, J_goto, am_go dc_167_17, am_go dc_167_18, zI_add, zI_mul, zI_lt, zI_le, zI_eq, zI_neg, zI_pos, zI_ne0, zI_gt0, zB_0, lg_cmp_ge, lg_cmp_le, lg_cmp_gt, lg_cmp_lt, lg_cmp_eq, ail_r, abl_r, all_r, ais_r, abs_r, als_r, aal_r, aal_q, aln_r, vrf_s, vrf_n, z32, c1, z1, Bool.true_eq_false, Bool.false_eq_true, zB_t, zB_f, i32_m1, i8_m3, i8_m4, rwF_v, List.length_cons, List.length_nil, Nat.reduceAdd, Nat.reduceLT, Nat.reduceLeDiff, Nat.reduceEqDiff, ↓reduceIte, bind_s, if_true, if_false, not_true_eq_false, not_false_eq_true, Nat.zero_add]
    · simp (disch := first | omega | exact Nat.le_of_ble_eq_true rfl) only [own_167, am_go dc_167_0, J_iload_0, K_il, ld_0, am_go dc_167_1, J_if_ne, am_go dc_167_4, J_iload_1, ld_1, am_go dc_167_5, J_i2b, am_go dc_167_6, J_ret_i ret_167, am_go dc_167_7, am_go dc_167_8, J_iconst, c32_1, am_go dc_167_9, J_icmp_ne, am_go dc_167_12, am_go dc_167_13, J_i2s, am_go dc_167_14, J_goto, am_go dc_167_17, am_go dc_167_18, zI_add, zI_mul, zI_lt, zI_le, zI_eq, zI_neg, zI_pos, zI_ne0, zI_gt0, zB_0, lg_cmp_ge, lg_cmp_le, lg_cmp_gt, lg_cmp_lt, lg_cmp_eq, ail_r, abl_r, all_r, ais_r, abs_r, als_r, aal_r, aal_q, aln_r, vrf_s, vrf_n, z32, c0, c1, Bool.true_eq_false, Bool.false_eq_true, zB_t, zB_f, i32_m1, i8_m3, i8_m4, rwF_v, List.length_cons, List.length_nil, Nat.reduceAdd, Nat.reduceLT, Nat.reduceLeDiff, Nat.reduceEqDiff, ↓reduceIte, bind_s, if_true, if_false, not_true_eq_false, not_false_eq_true, Nat.zero_add]
theorem f_row (hK : gK o k H z u) (hM : cM H (o + 66) u) (hF : mFr u) {x y w : Int32} : gR X o k 165 274 [.int x, .int y, .int w] H z u := by
  obtain ⟨C, D, T, P, TI, PI, lu, m, a, N, hX, hgT, hgI, hgE, hgL, hgS, hma, haa, hCC, hz0, hno, hup⟩ := g_up hK
  have hTN := hgT.1
  have hP := hgT.2.1
  have hpS := hgT.2.2.1
  have hI := hgT.2.2.2
  have hS := hTN.1
  have hT := hS.iT
  have hG := hI.1
  have hL := hI.pl
  have hq := hI.qw
  have hm5 := hG.m.2
  have hsz := hS.sz
  have hbl := hS.bell
  have ks : am_f X 999 7 [.int x] (H, z) = _ := x_isShelf (X := X) (d := 998)
  cases hx : qIs x 8 with
  | false =>
    rw [hx] at ks
    have cc : am_f X 1000 165 [.ref o, .int x, .int y, .int w] (H, z) = some (.inl (some (.int (-1))), (H, z)) := by
      show am_f X (999 + 1) 165 _ _ = _
      rw [fU_165]
      simp (disch := first | omega | exact Nat.le_of_ble_eq_true rfl | exact hX.ci | exact hT.ci | exact hP.ci | exact hX.ci | exact hT.ci | exact hP.ci | (refine xF_lt ?_; omega) | (refine tF_lt ?_; omega) | (refine pF_lt ?_; omega)) only [own_165, am_go dc_165_0, J_iload_1, K_il, ld_1, am_go dc_165_1, cs_0_73 own_165, JR_v, JR_0, JR_ite, am_go dc_165_4, J_if_eq, am_go dc_165_7, J_iload_2, ld_2, am_go dc_165_8, J_if_lt, am_go dc_165_11, am_go dc_165_12, J_iconst, c32_2, am_go dc_165_13, J_icmp_gt, am_go dc_165_16, J_iload_3, ld_3, am_go dc_165_17, J_bipush, c8_120, am_go dc_165_19, J_icmp_le, am_go dc_165_22, i32_m1, am_go dc_165_23, J_ret_i ret_165, am_go dc_165_24, am_go dc_165_25, J_if_ge, am_go dc_165_28, i8_m14, am_go dc_165_30, am_go dc_165_31, J_aload_0, K_al, ld_0, am_go dc_165_32, J_getfield, gf_r, fk_0_52_0, am_go dc_165_35, am_go dc_165_36, am_go dc_165_37, J_iastore, am_go dc_165_38, am_go dc_165_39, fk_0_58_0, am_go dc_165_42, am_go dc_165_43, J_null, am_go dc_165_44, am_go dc_165_45, am_go dc_165_46, fk_0_67_0, am_go dc_165_49, am_go dc_165_50, am_go dc_165_51, am_go dc_165_52, am_go dc_165_53, fk_0_70_0, am_go dc_165_56, am_go dc_165_57, am_go dc_165_58, am_go dc_165_59, am_go dc_165_60, fk_0_64_0, am_go dc_165_63, am_go dc_165_64, J_aaload, am_go dc_165_65, c32_0, am_go dc_165_66, cs_0_281 own_165, am_go dc_165_69, am_go dc_165_70, xg_8, xg_9, xg_11, xg_12, xg_10, hX.c0, hX.c53, hX.c54, hX.c55, hX.c64, hX.c65, hT.c0, hT.c1, hT.c2, hT.c3, hT.c4, hT.c5, hT.c6, hT.c7, hP.c0, hP.c1, hP.c2, hP.c3, hP.c4, zI_add, zI_mul, zI_lt, zI_le, zI_eq, zI_neg, zI_pos, zI_ne0, zI_gt0, zB_0, lg_cmp_ge, lg_cmp_le, lg_cmp_gt, lg_cmp_lt, lg_cmp_eq, ail_r, abl_r, all_r, ais_r, abs_r, als_r, aal_r, aal_q, aln_r, vrf_s, vrf_n, z32, ks, Bool.true_eq_false, Bool.false_eq_true, zB_t, zB_f, i8_m3, i8_m4, rwF_v, List.length_cons, List.length_nil, Nat.reduceAdd, Nat.reduceLT, Nat.reduceLeDiff, Nat.reduceEqDiff, ↓reduceIte, bind_s, if_true, if_false, not_true_eq_false, not_false_eq_true, Nat.zero_add]
    have cr : am_f X 1000 274 [.ref (o + 66), .int x, .int y, .int w] (mH H (o + 66) u, z) = _ := r_row_n (X := X) (d := 997) (h := H) (z := z) hx
    exact gR_id hK hM cc cr mQ.rf hF
  | true =>
    obtain ⟨e1, e2⟩ := qIs_get hx
    generalize wN x = e at *
    subst e1
    rw [hx] at ks
    obtain ⟨⟨v5, v6, v7, c5, c6, ⟨s, hs2, hs⟩, v8⟩, vb⟩ := hgS e e2
    cases hy : qIs y 3 with
    | false =>
      have cr : am_f X 1000 274 [.ref (o + 66), .int (zI e), .int y, .int w] (mH H (o + 66) u, z) = _ := r_row_m (X := X) (d := 997) (h := H) (z := z) e2 hy
      rcases qIs_b (n := 2) (by omega) hy with q | ⟨q1, q2⟩
      · have cc : am_f X 1000 165 [.ref o, .int (zI e), .int y, .int w] (H, z) = some (.inl (some (.int (-1))), (H, z)) := by
          show am_f X (999 + 1) 165 _ _ = _
          rw [fU_165]
          simp (disch := first | omega | exact Nat.le_of_ble_eq_true rfl | exact hX.ci | exact hT.ci | exact hP.ci | exact hX.ci | exact hT.ci | exact hP.ci | (refine xF_lt ?_; omega) | (refine tF_lt ?_; omega) | (refine pF_lt ?_; omega)) only [own_165, am_go dc_165_0, J_iload_1, K_il, ld_1, am_go dc_165_1, cs_0_73 own_165, JR_v, JR_0, JR_ite, am_go dc_165_4, J_if_eq, am_go dc_165_7, J_iload_2, ld_2, am_go dc_165_8, J_if_lt, am_go dc_165_11, am_go dc_165_12, J_iconst, c32_2, am_go dc_165_13, J_icmp_gt, am_go dc_165_16, J_iload_3, ld_3, am_go dc_165_17, J_bipush, c8_120, am_go dc_165_19, J_icmp_le, am_go dc_165_22, i32_m1, am_go dc_165_23, J_ret_i ret_165, am_go dc_165_24, am_go dc_165_25, J_if_ge, am_go dc_165_28, i8_m14, am_go dc_165_30, am_go dc_165_31, J_aload_0, K_al, ld_0, am_go dc_165_32, J_getfield, gf_r, fk_0_52_0, am_go dc_165_35, am_go dc_165_36, am_go dc_165_37, J_iastore, am_go dc_165_38, am_go dc_165_39, fk_0_58_0, am_go dc_165_42, am_go dc_165_43, J_null, am_go dc_165_44, am_go dc_165_45, am_go dc_165_46, fk_0_67_0, am_go dc_165_49, am_go dc_165_50, am_go dc_165_51, am_go dc_165_52, am_go dc_165_53, fk_0_70_0, am_go dc_165_56, am_go dc_165_57, am_go dc_165_58, am_go dc_165_59, am_go dc_165_60, fk_0_64_0, am_go dc_165_63, am_go dc_165_64, J_aaload, am_go dc_165_65, c32_0, am_go dc_165_66, cs_0_281 own_165, am_go dc_165_69, am_go dc_165_70, xg_8, xg_9, xg_11, xg_12, xg_10, hX.c0, hX.c53, hX.c54, hX.c55, hX.c64, hX.c65, hT.c0, hT.c1, hT.c2, hT.c3, hT.c4, hT.c5, hT.c6, hT.c7, hP.c0, hP.c1, hP.c2, hP.c3, hP.c4, zI_add, zI_mul, zI_lt, zI_le, zI_eq, zI_neg, zI_pos, zI_ne0, zI_gt0, zB_0, lg_cmp_ge, lg_cmp_le, lg_cmp_gt, lg_cmp_lt, lg_cmp_eq, ail_r, abl_r, all_r, ais_r, abs_r, als_r, aal_r, aal_q, aln_r, vrf_s, vrf_n, z32, ks, q, Bool.true_eq_false, Bool.false_eq_true, zB_t, zB_f, i8_m3, i8_m4, rwF_v, List.length_cons, List.length_nil, Nat.reduceAdd, Nat.reduceLT, Nat.reduceLeDiff, Nat.reduceEqDiff, ↓reduceIte, bind_s, if_true, if_false, not_true_eq_false, not_false_eq_true, Nat.zero_add]
        exact gR_id hK hM cc cr mQ.rf hF
      · have q3 : zI 2 < y := Int32.not_le.mp q2
        have cc : am_f X 1000 165 [.ref o, .int (zI e), .int y, .int w] (H, z) = some (.inl (some (.int (-1))), (H, z)) := by
          show am_f X (999 + 1) 165 _ _ = _
          rw [fU_165]
          simp (disch := first | omega | exact Nat.le_of_ble_eq_true rfl | exact hX.ci | exact hT.ci | exact hP.ci | exact hX.ci | exact hT.ci | exact hP.ci | (refine xF_lt ?_; omega) | (refine tF_lt ?_; omega) | (refine pF_lt ?_; omega)) only [own_165, am_go dc_165_0, J_iload_1, K_il, ld_1, am_go dc_165_1, cs_0_73 own_165, JR_v, JR_0, JR_ite, am_go dc_165_4, J_if_eq, am_go dc_165_7, J_iload_2, ld_2, am_go dc_165_8, J_if_lt, am_go dc_165_11, am_go dc_165_12, J_iconst, c32_2, am_go dc_165_13, J_icmp_gt, am_go dc_165_16, J_iload_3, ld_3, am_go dc_165_17, J_bipush, c8_120, am_go dc_165_19, J_icmp_le, am_go dc_165_22, i32_m1, am_go dc_165_23, J_ret_i ret_165, am_go dc_165_24, am_go dc_165_25, J_if_ge, am_go dc_165_28, i8_m14, am_go dc_165_30, am_go dc_165_31, J_aload_0, K_al, ld_0, am_go dc_165_32, J_getfield, gf_r, fk_0_52_0, am_go dc_165_35, am_go dc_165_36, am_go dc_165_37, J_iastore, am_go dc_165_38, am_go dc_165_39, fk_0_58_0, am_go dc_165_42, am_go dc_165_43, J_null, am_go dc_165_44, am_go dc_165_45, am_go dc_165_46, fk_0_67_0, am_go dc_165_49, am_go dc_165_50, am_go dc_165_51, am_go dc_165_52, am_go dc_165_53, fk_0_70_0, am_go dc_165_56, am_go dc_165_57, am_go dc_165_58, am_go dc_165_59, am_go dc_165_60, fk_0_64_0, am_go dc_165_63, am_go dc_165_64, J_aaload, am_go dc_165_65, c32_0, am_go dc_165_66, cs_0_281 own_165, am_go dc_165_69, am_go dc_165_70, xg_8, xg_9, xg_11, xg_12, xg_10, hX.c0, hX.c53, hX.c54, hX.c55, hX.c64, hX.c65, hT.c0, hT.c1, hT.c2, hT.c3, hT.c4, hT.c5, hT.c6, hT.c7, hP.c0, hP.c1, hP.c2, hP.c3, hP.c4, zI_add, zI_mul, zI_lt, zI_le, zI_eq, zI_neg, zI_pos, zI_ne0, zI_gt0, zB_0, lg_cmp_ge, lg_cmp_le, lg_cmp_gt, lg_cmp_lt, lg_cmp_eq, ail_r, abl_r, all_r, ais_r, abs_r, als_r, aal_r, aal_q, aln_r, vrf_s, vrf_n, z32, ks, q1, q3, Bool.true_eq_false, Bool.false_eq_true, zB_t, zB_f, i8_m3, i8_m4, rwF_v, List.length_cons, List.length_nil, Nat.reduceAdd, Nat.reduceLT, Nat.reduceLeDiff, Nat.reduceEqDiff, ↓reduceIte, bind_s, if_true, if_false, not_true_eq_false, not_false_eq_true, Nat.zero_add]
        exact gR_id hK hM cc cr mQ.rf hF
    | true =>
      obtain ⟨gg1, gg2⟩ := qIs_get hy
      generalize wN y = c at *
      subst gg1
      have nlt : ¬ zI c < 0 := by
        rw [show (0 : Int32) = zI 0 from rfl, zI_lt (by omega) (by omega)]
        omega
      have ngt : ¬ 2 < c := by omega
      cases hw : qIs w 121 with
      | false =>
        rcases qIs_b (n := 120) (by omega) hw with q | ⟨q1, q2⟩
        · have q2 : w ≤ zI 120 := Int32.le_trans (Int32.le_of_lt q) (by decide)
          have q3 : ¬ 0 ≤ w := Int32.not_le.mpr q
          have cr : am_f X 1000 274 [.ref (o + 66), .int (zI e), .int (zI c), .int w] (mH H (o + 66) u, z) = _ := r_row_p (X := X) (d := 997) (h := H) (z := z) e2 hy q2 q3
          have cc : am_f X 1000 165 [.ref o, .int (zI e), .int (zI c), .int w] (H, z) = some (.inl (some (.int (-14))), (H, z)) := by
            show am_f X (999 + 1) 165 _ _ = _
            rw [fU_165]
            simp (disch := first | omega | exact Nat.le_of_ble_eq_true rfl | exact hX.ci | exact hT.ci | exact hP.ci | exact hX.ci | exact hT.ci | exact hP.ci | (refine xF_lt ?_; omega) | (refine tF_lt ?_; omega) | (refine pF_lt ?_; omega)) only [own_165, am_go dc_165_0, J_iload_1, K_il, ld_1, am_go dc_165_1, cs_0_73 own_165, JR_v, JR_0, JR_ite, am_go dc_165_4, J_if_eq, am_go dc_165_7, J_iload_2, ld_2, am_go dc_165_8, J_if_lt, am_go dc_165_11, am_go dc_165_12, J_iconst, c32_2, am_go dc_165_13, J_icmp_gt, am_go dc_165_16, J_iload_3, ld_3, am_go dc_165_17, J_bipush, c8_120, am_go dc_165_19, J_icmp_le, am_go dc_165_22, i32_m1, am_go dc_165_23, J_ret_i ret_165, am_go dc_165_24, am_go dc_165_25, J_if_ge, am_go dc_165_28, i8_m14, am_go dc_165_30, am_go dc_165_31, J_aload_0, K_al, ld_0, am_go dc_165_32, J_getfield, gf_r, fk_0_52_0, am_go dc_165_35, am_go dc_165_36, am_go dc_165_37, J_iastore, am_go dc_165_38, am_go dc_165_39, fk_0_58_0, am_go dc_165_42, am_go dc_165_43, J_null, am_go dc_165_44, am_go dc_165_45, am_go dc_165_46, fk_0_67_0, am_go dc_165_49, am_go dc_165_50, am_go dc_165_51, am_go dc_165_52, am_go dc_165_53, fk_0_70_0, am_go dc_165_56, am_go dc_165_57, am_go dc_165_58, am_go dc_165_59, am_go dc_165_60, fk_0_64_0, am_go dc_165_63, am_go dc_165_64, J_aaload, am_go dc_165_65, c32_0, am_go dc_165_66, cs_0_281 own_165, am_go dc_165_69, am_go dc_165_70, xg_8, xg_9, xg_11, xg_12, xg_10, hX.c0, hX.c53, hX.c54, hX.c55, hX.c64, hX.c65, hT.c0, hT.c1, hT.c2, hT.c3, hT.c4, hT.c5, hT.c6, hT.c7, hP.c0, hP.c1, hP.c2, hP.c3, hP.c4, zI_add, zI_mul, zI_lt, zI_le, zI_eq, zI_neg, zI_pos, zI_ne0, zI_gt0, zB_0, lg_cmp_ge, lg_cmp_le, lg_cmp_gt, lg_cmp_lt, lg_cmp_eq, ail_r, abl_r, all_r, ais_r, abs_r, als_r, aal_r, aal_q, aln_r, vrf_s, vrf_n, z32, ks, nlt, ngt, q2, q3, Bool.true_eq_false, Bool.false_eq_true, zB_t, zB_f, i8_m3, i8_m4, rwF_v, List.length_cons, List.length_nil, Nat.reduceAdd, Nat.reduceLT, Nat.reduceLeDiff, Nat.reduceEqDiff, ↓reduceIte, bind_s, if_true, if_false, not_true_eq_false, not_false_eq_true, Nat.zero_add]
          exact gR_id hK hM cc cr mQ.rf hF
        · have cr : am_f X 1000 274 [.ref (o + 66), .int (zI e), .int (zI c), .int w] (mH H (o + 66) u, z) = _ := r_row_o (X := X) (d := 997) (h := H) (z := z) e2 hy q2
          have cc : am_f X 1000 165 [.ref o, .int (zI e), .int (zI c), .int w] (H, z) = some (.inl (some (.int (-1))), (H, z)) := by
            show am_f X (999 + 1) 165 _ _ = _
            rw [fU_165]
            simp (disch := first | omega | exact Nat.le_of_ble_eq_true rfl | exact hX.ci | exact hT.ci | exact hP.ci | exact hX.ci | exact hT.ci | exact hP.ci | (refine xF_lt ?_; omega) | (refine tF_lt ?_; omega) | (refine pF_lt ?_; omega)) only [own_165, am_go dc_165_0, J_iload_1, K_il, ld_1, am_go dc_165_1, cs_0_73 own_165, JR_v, JR_0, JR_ite, am_go dc_165_4, J_if_eq, am_go dc_165_7, J_iload_2, ld_2, am_go dc_165_8, J_if_lt, am_go dc_165_11, am_go dc_165_12, J_iconst, c32_2, am_go dc_165_13, J_icmp_gt, am_go dc_165_16, J_iload_3, ld_3, am_go dc_165_17, J_bipush, c8_120, am_go dc_165_19, J_icmp_le, am_go dc_165_22, i32_m1, am_go dc_165_23, J_ret_i ret_165, am_go dc_165_24, am_go dc_165_25, J_if_ge, am_go dc_165_28, i8_m14, am_go dc_165_30, am_go dc_165_31, J_aload_0, K_al, ld_0, am_go dc_165_32, J_getfield, gf_r, fk_0_52_0, am_go dc_165_35, am_go dc_165_36, am_go dc_165_37, J_iastore, am_go dc_165_38, am_go dc_165_39, fk_0_58_0, am_go dc_165_42, am_go dc_165_43, J_null, am_go dc_165_44, am_go dc_165_45, am_go dc_165_46, fk_0_67_0, am_go dc_165_49, am_go dc_165_50, am_go dc_165_51, am_go dc_165_52, am_go dc_165_53, fk_0_70_0, am_go dc_165_56, am_go dc_165_57, am_go dc_165_58, am_go dc_165_59, am_go dc_165_60, fk_0_64_0, am_go dc_165_63, am_go dc_165_64, J_aaload, am_go dc_165_65, c32_0, am_go dc_165_66, cs_0_281 own_165, am_go dc_165_69, am_go dc_165_70, xg_8, xg_9, xg_11, xg_12, xg_10, hX.c0, hX.c53, hX.c54, hX.c55, hX.c64, hX.c65, hT.c0, hT.c1, hT.c2, hT.c3, hT.c4, hT.c5, hT.c6, hT.c7, hP.c0, hP.c1, hP.c2, hP.c3, hP.c4, zI_add, zI_mul, zI_lt, zI_le, zI_eq, zI_neg, zI_pos, zI_ne0, zI_gt0, zB_0, lg_cmp_ge, lg_cmp_le, lg_cmp_gt, lg_cmp_lt, lg_cmp_eq, ail_r, abl_r, all_r, ais_r, abs_r, als_r, aal_r, aal_q, aln_r, vrf_s, vrf_n, z32, ks, nlt, ngt, q2, Bool.true_eq_false, Bool.false_eq_true, zB_t, zB_f, i8_m3, i8_m4, rwF_v, List.length_cons, List.length_nil, Nat.reduceAdd, Nat.reduceLT, Nat.reduceLeDiff, Nat.reduceEqDiff, ↓reduceIte, bind_s, if_true, if_false, not_true_eq_false, not_false_eq_true, Nat.zero_add]
          exact gR_id hK hM cc cr mQ.rf hF
      | true =>
        obtain ⟨k1, k2⟩ := qIs_get hw
        generalize wN w = n at *
        subst k1
        have hn9 : n ≤ 120 := by omega
        have p0 : (0 : Int32) ≤ zI n := by
          rw [show (0 : Int32) = zI 0 from rfl, zI_le (by omega) (by omega)]
          omega
        obtain ⟨w8, hw8⟩ : ∃ w8, w8 = fo (q_zero e) 0 120 (u.1 8) := ⟨_, rfl⟩
        have hw8v : ∀ j, w8 j = if 120 * e ≤ j ∧ j < 120 * e + 120 then zI 0 else u.1 8 j := fun j => by
          rw [hw8, show q_zero e = (fun i f => upd f (120 * e + i) (zI 0)) from rfl, fo_updr (g := fun _ => zI 0)]
          rfl
        obtain ⟨h, hH⟩ : ∃ h, xH h o D = H := ⟨H, hX.eq⟩
        subst hH
        have hcr : ∀ D', xH h o D' (o + 56 + e) = _ := fun D' => xH_is.cr e2
        have h55 : ∀ D', xH h o D' (o + 55) = _ := fun D' => xH_is.c55
        have hTx : ∀ D', isT (xH h o D') (o + 1) T := fun D' => hT.fr (fun x q1 q2 => by rw [xH_x (by unfold xK; omega), xH_x (by unfold xK; omega)])
        have t0 := fun D' => (hTx D').c0
        have t1 := fun D' => (hTx D').c1
        have frx : ∀ D' x, (x ≠ o ∧ (x < o + 53 ∨ o + 66 ≤ x)) → xH h o D' x = xH h o D x := fun D' x q => by
          rw [xH_x (by unfold xK; omega), xH_x (by unfold xK; omega)]
        have kf0 := a_fill (X := X) (H := xH h o (mS (mS (mS D.1 8 (upd (D.1.1 8) e (zI 2))) 11 (upd (D.1.1 11) e (zI c))) 12 (upd (D.1.1 12) e (zI n)), va_up D.2 e none)) (a := o + 56 + e) (d := 998) (z := z) (n := 120) (x := zI 0) (xH_is.cr e2) (by omega)
        rw [xw_r e2] at kf0
        have kf : am_f X 999 21 [.ref (o + 56 + e), .int (zI 0)] (xH h o (mS (mS (mS D.1 8 (upd (D.1.1 8) e (zI 2))) 11 (upd (D.1.1 11) e (zI c))) 12 (upd (D.1.1 12) e (zI n)), va_up D.2 e none), z) = some (.inl none, (xH h o (mS (mS (mS (mS D.1 8 (upd (D.1.1 8) e (zI 2))) 11 (upd (D.1.1 11) e (zI c))) 12 (upd (D.1.1 12) e (zI n))) (56 + e) (updr (D.1.1 (56 + e)) 0 120 (fun _ => zI 0)), va_up D.2 e none), z)) := by
          refine kf0.trans ?_
          simp (disch := omega) only [mS_s, mS_o]
        have cc : am_f X 1000 165 [.ref o, .int (zI e), .int (zI c), .int (zI n)] (xH h o D, z) = some (.inl (some (.int (zI 0))), (xH h o (mS (mS (mS (mS D.1 8 (upd (D.1.1 8) e (zI 2))) 11 (upd (D.1.1 11) e (zI c))) 12 (upd (D.1.1 12) e (zI n))) (56 + e) (updr (D.1.1 (56 + e)) 0 120 (fun _ => zI 0)), va_up D.2 e none), z)) := by
          show am_f X (999 + 1) 165 _ _ = _
          rw [fU_165]
          simp (disch := first | omega | exact Nat.le_of_ble_eq_true rfl | exact hP.ci | exact hX.ci | exact hT.ci | exact hP.ci | (refine xF_lt ?_; omega) | (refine tF_lt ?_; omega) | (refine pF_lt ?_; omega) | exact xH_ci | (refine xF_lt ?_; omega)) only [own_165, am_go dc_165_0, J_iload_1, K_il, ld_1, am_go dc_165_1, cs_0_73 own_165, JR_v, JR_0, JR_ite, am_go dc_165_4, J_if_eq, am_go dc_165_7, J_iload_2, ld_2, am_go dc_165_8, J_if_lt, am_go dc_165_11, am_go dc_165_12, J_iconst, c32_2, am_go dc_165_13, J_icmp_gt, am_go dc_165_16, J_iload_3, ld_3, am_go dc_165_17, J_bipush, c8_120, am_go dc_165_19, J_icmp_le, am_go dc_165_22, i32_m1, am_go dc_165_23, J_ret_i ret_165, am_go dc_165_24, am_go dc_165_25, J_if_ge, am_go dc_165_28, i8_m14, am_go dc_165_30, am_go dc_165_31, J_aload_0, K_al, ld_0, am_go dc_165_32, J_getfield, gf_r, fk_0_52_0, am_go dc_165_35, am_go dc_165_36, am_go dc_165_37, J_iastore, am_go dc_165_38, am_go dc_165_39, fk_0_58_0, am_go dc_165_42, am_go dc_165_43, J_null, am_go dc_165_44, am_go dc_165_45, am_go dc_165_46, fk_0_67_0, am_go dc_165_49, am_go dc_165_50, am_go dc_165_51, am_go dc_165_52, am_go dc_165_53, fk_0_70_0, am_go dc_165_56, am_go dc_165_57, am_go dc_165_58, am_go dc_165_59, am_go dc_165_60, fk_0_64_0, am_go dc_165_63, am_go dc_165_64, J_aaload, am_go dc_165_65, c32_0, am_go dc_165_66, cs_0_281 own_165, am_go dc_165_69, am_go dc_165_70, xg_8, xg_9, xg_11, xg_12, xg_10, hP.c0, hP.c1, hP.c2, hP.c3, hP.c4, zI_add, zI_mul, zI_lt, zI_le, zI_eq, zI_neg, zI_pos, zI_ne0, zI_gt0, zB_0, lg_cmp_ge, lg_cmp_le, lg_cmp_gt, lg_cmp_lt, lg_cmp_eq, ail_r, abl_r, all_r, ais_r, abs_r, als_r, aal_r, aal_q, aln_r, vrf_s, vrf_n, z32, ks, nlt, ngt, hn9, p0, kf, xH_0, xH_53, xH_54, xH_64, xH_65, xw_53, xw_54, xw_64, xw_65, hcr, h55, t0, t1, aas_r, J_aastoreN, J_aastore, mS_s, mS_o, mS_2, Bool.true_eq_false, Bool.false_eq_true, zB_t, zB_f, i8_m3, i8_m4, rwF_v, List.length_cons, List.length_nil, Nat.reduceAdd, Nat.reduceLT, Nat.reduceLeDiff, Nat.reduceEqDiff, ↓reduceIte, bind_s, if_true, if_false, not_true_eq_false, not_false_eq_true, Nat.zero_add]
        have fr1 : ∀ x, x < z.1 → (x ≠ o ∧ (x < o + 53 ∨ o + 66 ≤ x)) → xH h o (mS (mS (mS (mS D.1 8 (upd (D.1.1 8) e (zI 2))) 11 (upd (D.1.1 11) e (zI c))) 12 (upd (D.1.1 12) e (zI n))) (56 + e) (updr (D.1.1 (56 + e)) 0 120 (fun _ => zI 0)), va_up D.2 e none) x = xH h o D x := fun x _ q => frx _ x q
        have hn1 : ∀ x, z.1 ≤ x → xH h o (mS (mS (mS (mS D.1 8 (upd (D.1.1 8) e (zI 2))) 11 (upd (D.1.1 11) e (zI c))) 12 (upd (D.1.1 12) e (zI n))) (56 + e) (updr (D.1.1 (56 + e)) 0 120 (fun _ => zI 0)), va_up D.2 e none) x = none := fun x hx => by
          rw [frx _ x (by omega)]
          exact hno x hx
        have hC1 : ∀ x, C x → xH h o (mS (mS (mS (mS D.1 8 (upd (D.1.1 8) e (zI 2))) 11 (upd (D.1.1 11) e (zI c))) 12 (upd (D.1.1 12) e (zI n))) (56 + e) (updr (D.1.1 (56 + e)) 0 120 (fun _ => zI 0)), va_up D.2 e none) x = xH h o D x := fun x hx => fr1 x (hCC x hx).2 (by have := hCC x hx; omega)
        obtain ⟨g1, g2⟩ := hup (xH h o (mS (mS (mS (mS D.1 8 (upd (D.1.1 8) e (zI 2))) 11 (upd (D.1.1 11) e (zI c))) 12 (upd (D.1.1 12) e (zI n))) (56 + e) (updr (D.1.1 (56 + e)) 0 120 (fun _ => zI 0)), va_up D.2 e none)) (z) (C) (mS (mS (mS (mS D.1 8 (upd (D.1.1 8) e (zI 2))) 11 (upd (D.1.1 11) e (zI c))) 12 (upd (D.1.1 12) e (zI n))) (56 + e) (updr (D.1.1 (56 + e)) 0 120 (fun _ => zI 0)), va_up D.2 e none) (T) (P) (TI) (PI) (lu) (mS (mS (mS (mS u 5 (upd (u.1 5) e (zI 2))) 6 (upd (u.1 6) e (zI c))) 7 (upd (u.1 7) e (zI n))) 8 w8) (fun x q1 q2 => fr1 x q1 (by omega)) (fun x q1 => fr1 x (by omega) (by omega)) xH_is (hgT.fr (fun x q1 q2 => fr1 x (by omega) (by omega)) hC1 (fun _ h => h)) (hgI.fr (fun x q1 q2 => fr1 x (by omega) (by omega)) hC1 (fun _ h => h)) (hgE.fr (fun x q1 q2 => fr1 x (by omega) (by omega))) (hgL.fr (fun x hx => fr1 x (by omega) (by omega))) (gS_set (hgS.fr hC1 (fun _ h => h)) e (fun e' h8 ne => by
          refine ⟨?_, ?_, ?_, ?_, vu_o ne⟩ <;> simp (disch := omega) only [mS_s, mS_o, upd_s, upd_o, vu_s, vu_o]) (fun e' h8 ne => by
          refine ⟨upd_o ne, upd_o ne, upd_o ne, rfl, rfl, fun i hi => ?_⟩
          show w8 _ = _
          rw [hw8v, if_neg (by omega)]) (by
          refine ⟨⟨?_, ?_, ?_, Or.inr (Or.inr upd_s), ?_, ⟨n, hn9, upd_s⟩, fun i hi => ?_⟩, fun q => ?_⟩
          · simp (disch := omega) only [mS_s, mS_o, upd_s]
          · simp (disch := omega) only [mS_s, mS_o, upd_s]
          · simp (disch := omega) only [mS_s, mS_o, upd_s]
          · show upd (u.1 6) e (zI c) e = _ ∨ upd (u.1 6) e (zI c) e = _ ∨ upd (u.1 6) e (zI c) e = _
            rw [upd_s]
            rcases (by omega : c = 0 ∨ c = 1 ∨ c = 2) with rfl | rfl | rfl
            · exact Or.inl rfl
            · exact Or.inr (Or.inl rfl)
            · exact Or.inr (Or.inr rfl)
          · simp (disch := omega) only [mS_s, mS_o]
            rw [hw8v, if_pos (by omega)]
            unfold updr
            rw [if_pos (by omega)]
          · exact absurd ((show upd (u.1 5) e (zI 2) e = zI 2 from upd_s).symm.trans q) (by decide))) (fun x hx => Or.inl hx) (Nat.le_refl _) (by omega) (by omega) hn1
        have cr : am_f X 1000 274 [.ref (o + 66), .int (zI e), .int (zI c), .int (zI n)] (mH (xH h o (mS (mS (mS (mS D.1 8 (upd (D.1.1 8) e (zI 2))) 11 (upd (D.1.1 11) e (zI c))) 12 (upd (D.1.1 12) e (zI n))) (56 + e) (updr (D.1.1 (56 + e)) 0 120 (fun _ => zI 0)), va_up D.2 e none)) (o + 66) u, z) = _ := r_row_y (X := X) (d := 997) (h := xH h o (mS (mS (mS (mS D.1 8 (upd (D.1.1 8) e (zI 2))) 11 (upd (D.1.1 11) e (zI c))) 12 (upd (D.1.1 12) e (zI n))) (56 + e) (updr (D.1.1 (56 + e)) 0 120 (fun _ => zI 0)), va_up D.2 e none)) (z := z) e2 hy hn9
        rw [← hw8] at cr
        exact gR_mk hM cc g1 g2 cr mQ.rf (mFr_cg hF (fun j q1 q2 => (if_neg (by omega)).trans ((if_neg (by omega)).trans ((if_neg (by omega)).trans (if_neg (by omega))))) rfl rfl (fun j _ => rfl))
theorem f_put (hK : gK o k H z u) (hM : cM H (o + 66) u) (hF : mFr u) {x y w : Int32} : gR X o k 166 275 [.int x, .int y, .int w] H z u := by
  obtain ⟨C, D, T, P, TI, PI, lu, m, a, N, hX, hgT, hgI, hgE, hgL, hgS, hma, haa, hCC, hz0, hno, hup⟩ := g_up hK
  have hTN := hgT.1
  have hP := hgT.2.1
  have hpS := hgT.2.2.1
  have hI := hgT.2.2.2
  have hS := hTN.1
  have hT := hS.iT
  have hG := hI.1
  have hL := hI.pl
  have hq := hI.qw
  have hm5 := hG.m.2
  have hsz := hS.sz
  have hbl := hS.bell
  have ks : am_f X 999 7 [.int x] (H, z) = _ := x_isShelf (X := X) (d := 998)
  cases hx : qIs x 8 with
  | false =>
    rw [hx] at ks
    have cc : am_f X 1000 166 [.ref o, .int x, .int y, .int w] (H, z) = some (.inl (some (.int (-1))), (H, z)) := by
      show am_f X (999 + 1) 166 _ _ = _
      rw [fU_166]
      simp (disch := first | omega | exact Nat.le_of_ble_eq_true rfl | exact hX.ci | exact hT.ci | exact hP.ci | exact hX.ci | exact hT.ci | exact hP.ci | (refine xF_lt ?_; omega) | (refine tF_lt ?_; omega) | (refine pF_lt ?_; omega)) only [own_166, am_go dc_166_0, J_iload_1, K_il, ld_1, am_go dc_166_1, cs_0_73 own_166, JR_v, JR_0, JR_ite, am_go dc_166_4, J_if_ne, am_go dc_166_7, J_iconst, i32_m1, am_go dc_166_8, J_ret_i ret_166, am_go dc_166_9, J_aload_0, K_al, ld_0, am_go dc_166_10, J_getfield, gf_r, fk_0_52_0, am_go dc_166_13, am_go dc_166_14, J_iaload, am_go dc_166_15, am_go dc_166_18, J_bipush, i8_m11, am_go dc_166_20, am_go dc_166_21, am_go dc_166_22, am_go dc_166_25, am_go dc_166_26, am_go dc_166_27, c32_2, am_go dc_166_28, J_icmp_eq, am_go dc_166_31, i8_m12, am_go dc_166_33, am_go dc_166_34, J_iload_2, ld_2, am_go dc_166_35, J_if_lt, am_go dc_166_38, am_go dc_166_39, am_go dc_166_40, fk_0_70_0, am_go dc_166_43, am_go dc_166_44, am_go dc_166_45, J_icmp_lt, am_go dc_166_48, i8_m13, am_go dc_166_50, am_go dc_166_51, am_go dc_166_52, fk_0_64_0, am_go dc_166_55, am_go dc_166_56, J_aaload, am_go dc_166_57, am_go dc_166_58, am_go dc_166_59, fk_0_67_0, am_go dc_166_62, am_go dc_166_63, am_go dc_166_64, J_iload_3, ld_3, am_go dc_166_65, cs_0_287 own_166, am_go dc_166_68, J_iastore, am_go dc_166_69, c32_0, am_go dc_166_70, xg_8, xg_12, xg_10, xg_11, hX.c0, hX.c53, hX.c54, hX.c55, hX.c64, hX.c65, hT.c0, hT.c1, hT.c2, hT.c3, hT.c4, hT.c5, hT.c6, hT.c7, hP.c0, hP.c1, hP.c2, hP.c3, hP.c4, zI_add, zI_mul, zI_lt, zI_le, zI_eq, zI_neg, zI_pos, zI_ne0, zI_gt0, zB_0, lg_cmp_ge, lg_cmp_le, lg_cmp_gt, lg_cmp_lt, lg_cmp_eq, ail_r, abl_r, all_r, ais_r, abs_r, als_r, aal_r, aal_q, aln_r, vrf_s, vrf_n, z32, ks, Bool.true_eq_false, Bool.false_eq_true, zB_t, zB_f, i8_m3, i8_m4, rwF_v, List.length_cons, List.length_nil, Nat.reduceAdd, Nat.reduceLT, Nat.reduceLeDiff, Nat.reduceEqDiff, ↓reduceIte, bind_s, if_true, if_false, not_true_eq_false, not_false_eq_true, Nat.zero_add]
    have cr : am_f X 1000 275 [.ref (o + 66), .int x, .int y, .int w] (mH H (o + 66) u, z) = _ := r_put_n (X := X) (d := 996) (h := H) (z := z) hx
    exact gR_id hK hM cc cr mQ.rf hF
  | true =>
    obtain ⟨e1, e2⟩ := qIs_get hx
    generalize wN x = e at *
    subst e1
    rw [hx] at ks
    obtain ⟨⟨v5, v6, v7, c5, c6, ⟨s, hs2, hs⟩, v8⟩, vb⟩ := hgS e e2
    rcases c5 with q | q | q
    · have hwr : qWr u e (-1) = -11 := by
        unfold qWr
        rw [q]
        rfl
      rw [q] at v5
      have z10 : ¬ zI 1 = 0 := by decide
      have z12 : ¬ zI 1 = zI 2 := by decide
      have cr : am_f X 1000 275 [.ref (o + 66), .int (zI e), .int y, .int w] (mH H (o + 66) u, z) = _ := r_put_m (X := X) (d := 996) (h := H) (z := z) e2 (by rw [hwr]; decide)
      rw [hwr] at cr
      have cc : am_f X 1000 166 [.ref o, .int (zI e), .int y, .int w] (H, z) = some (.inl (some (.int (-11))), (H, z)) := by
        show am_f X (999 + 1) 166 _ _ = _
        rw [fU_166]
        simp (disch := first | omega | exact Nat.le_of_ble_eq_true rfl | exact hX.ci | exact hT.ci | exact hP.ci | exact hX.ci | exact hT.ci | exact hP.ci | (refine xF_lt ?_; omega) | (refine tF_lt ?_; omega) | (refine pF_lt ?_; omega)) only [own_166, am_go dc_166_0, J_iload_1, K_il, ld_1, am_go dc_166_1, cs_0_73 own_166, JR_v, JR_0, JR_ite, am_go dc_166_4, J_if_ne, am_go dc_166_7, J_iconst, i32_m1, am_go dc_166_8, J_ret_i ret_166, am_go dc_166_9, J_aload_0, K_al, ld_0, am_go dc_166_10, J_getfield, gf_r, fk_0_52_0, am_go dc_166_13, am_go dc_166_14, J_iaload, am_go dc_166_15, am_go dc_166_18, J_bipush, i8_m11, am_go dc_166_20, am_go dc_166_21, am_go dc_166_22, am_go dc_166_25, am_go dc_166_26, am_go dc_166_27, c32_2, am_go dc_166_28, J_icmp_eq, am_go dc_166_31, i8_m12, am_go dc_166_33, am_go dc_166_34, J_iload_2, ld_2, am_go dc_166_35, J_if_lt, am_go dc_166_38, am_go dc_166_39, am_go dc_166_40, fk_0_70_0, am_go dc_166_43, am_go dc_166_44, am_go dc_166_45, J_icmp_lt, am_go dc_166_48, i8_m13, am_go dc_166_50, am_go dc_166_51, am_go dc_166_52, fk_0_64_0, am_go dc_166_55, am_go dc_166_56, J_aaload, am_go dc_166_57, am_go dc_166_58, am_go dc_166_59, fk_0_67_0, am_go dc_166_62, am_go dc_166_63, am_go dc_166_64, J_iload_3, ld_3, am_go dc_166_65, cs_0_287 own_166, am_go dc_166_68, J_iastore, am_go dc_166_69, c32_0, am_go dc_166_70, xg_8, xg_12, xg_10, xg_11, hX.c0, hX.c53, hX.c54, hX.c55, hX.c64, hX.c65, hT.c0, hT.c1, hT.c2, hT.c3, hT.c4, hT.c5, hT.c6, hT.c7, hP.c0, hP.c1, hP.c2, hP.c3, hP.c4, zI_add, zI_mul, zI_lt, zI_le, zI_eq, zI_neg, zI_pos, zI_ne0, zI_gt0, zB_0, lg_cmp_ge, lg_cmp_le, lg_cmp_gt, lg_cmp_lt, lg_cmp_eq, ail_r, abl_r, all_r, ais_r, abs_r, als_r, aal_r, aal_q, aln_r, vrf_s, vrf_n, z32, ks, v5, z10, z12, Bool.true_eq_false, Bool.false_eq_true, zB_t, zB_f, i8_m3, i8_m4, rwF_v, List.length_cons, List.length_nil, Nat.reduceAdd, Nat.reduceLT, Nat.reduceLeDiff, Nat.reduceEqDiff, ↓reduceIte, bind_s, if_true, if_false, not_true_eq_false, not_false_eq_true, Nat.zero_add]
      exact gR_id hK hM cc cr mQ.rf hF
    · have hwr : qWr u e (-1) = -12 := by
        unfold qWr
        rw [q]
        rfl
      rw [q] at v5
      have z10 : ¬ zI 1 = 0 := by decide
      have z12 : ¬ zI 1 = zI 2 := by decide
      have cr : am_f X 1000 275 [.ref (o + 66), .int (zI e), .int y, .int w] (mH H (o + 66) u, z) = _ := r_put_m (X := X) (d := 996) (h := H) (z := z) e2 (by rw [hwr]; decide)
      rw [hwr] at cr
      have cc : am_f X 1000 166 [.ref o, .int (zI e), .int y, .int w] (H, z) = some (.inl (some (.int (-12))), (H, z)) := by
        show am_f X (999 + 1) 166 _ _ = _
        rw [fU_166]
        simp (disch := first | omega | exact Nat.le_of_ble_eq_true rfl | exact hX.ci | exact hT.ci | exact hP.ci | exact hX.ci | exact hT.ci | exact hP.ci | (refine xF_lt ?_; omega) | (refine tF_lt ?_; omega) | (refine pF_lt ?_; omega)) only [own_166, am_go dc_166_0, J_iload_1, K_il, ld_1, am_go dc_166_1, cs_0_73 own_166, JR_v, JR_0, JR_ite, am_go dc_166_4, J_if_ne, am_go dc_166_7, J_iconst, i32_m1, am_go dc_166_8, J_ret_i ret_166, am_go dc_166_9, J_aload_0, K_al, ld_0, am_go dc_166_10, J_getfield, gf_r, fk_0_52_0, am_go dc_166_13, am_go dc_166_14, J_iaload, am_go dc_166_15, am_go dc_166_18, J_bipush, i8_m11, am_go dc_166_20, am_go dc_166_21, am_go dc_166_22, am_go dc_166_25, am_go dc_166_26, am_go dc_166_27, c32_2, am_go dc_166_28, J_icmp_eq, am_go dc_166_31, i8_m12, am_go dc_166_33, am_go dc_166_34, J_iload_2, ld_2, am_go dc_166_35, J_if_lt, am_go dc_166_38, am_go dc_166_39, am_go dc_166_40, fk_0_70_0, am_go dc_166_43, am_go dc_166_44, am_go dc_166_45, J_icmp_lt, am_go dc_166_48, i8_m13, am_go dc_166_50, am_go dc_166_51, am_go dc_166_52, fk_0_64_0, am_go dc_166_55, am_go dc_166_56, J_aaload, am_go dc_166_57, am_go dc_166_58, am_go dc_166_59, fk_0_67_0, am_go dc_166_62, am_go dc_166_63, am_go dc_166_64, J_iload_3, ld_3, am_go dc_166_65, cs_0_287 own_166, am_go dc_166_68, J_iastore, am_go dc_166_69, c32_0, am_go dc_166_70, xg_8, xg_12, xg_10, xg_11, hX.c0, hX.c53, hX.c54, hX.c55, hX.c64, hX.c65, hT.c0, hT.c1, hT.c2, hT.c3, hT.c4, hT.c5, hT.c6, hT.c7, hP.c0, hP.c1, hP.c2, hP.c3, hP.c4, zI_add, zI_mul, zI_lt, zI_le, zI_eq, zI_neg, zI_pos, zI_ne0, zI_gt0, zB_0, lg_cmp_ge, lg_cmp_le, lg_cmp_gt, lg_cmp_lt, lg_cmp_eq, ail_r, abl_r, all_r, ais_r, abs_r, als_r, aal_r, aal_q, aln_r, vrf_s, vrf_n, z32, ks, v5, z10, z12, Bool.true_eq_false, Bool.false_eq_true, zB_t, zB_f, i8_m3, i8_m4, rwF_v, List.length_cons, List.length_nil, Nat.reduceAdd, Nat.reduceLT, Nat.reduceLeDiff, Nat.reduceEqDiff, ↓reduceIte, bind_s, if_true, if_false, not_true_eq_false, not_false_eq_true, Nat.zero_add]
      exact gR_id hK hM cc cr mQ.rf hF
    · have hwr : qWr u e (-1) = 0 := by
        unfold qWr
        rw [q]
        rfl
      rw [q] at v5
      have z20 : ¬ zI 2 = 0 := by decide
      cases hy : qIs y s with
      | false =>
        have cr : am_f X 1000 275 [.ref (o + 66), .int (zI e), .int y, .int w] (mH H (o + 66) u, z) = _ := r_put_o (X := X) (d := 996) (h := H) (z := z) e2 hwr hs hs2 hy
        rcases qIs_c (by omega) hy with q1 | ⟨q1, q2⟩
        · have cc : am_f X 1000 166 [.ref o, .int (zI e), .int y, .int w] (H, z) = some (.inl (some (.int (-13))), (H, z)) := by
            show am_f X (999 + 1) 166 _ _ = _
            rw [fU_166]
            simp (disch := first | omega | exact Nat.le_of_ble_eq_true rfl | exact hX.ci | exact hT.ci | exact hP.ci | exact hX.ci | exact hT.ci | exact hP.ci | (refine xF_lt ?_; omega) | (refine tF_lt ?_; omega) | (refine pF_lt ?_; omega)) only [own_166, am_go dc_166_0, J_iload_1, K_il, ld_1, am_go dc_166_1, cs_0_73 own_166, JR_v, JR_0, JR_ite, am_go dc_166_4, J_if_ne, am_go dc_166_7, J_iconst, i32_m1, am_go dc_166_8, J_ret_i ret_166, am_go dc_166_9, J_aload_0, K_al, ld_0, am_go dc_166_10, J_getfield, gf_r, fk_0_52_0, am_go dc_166_13, am_go dc_166_14, J_iaload, am_go dc_166_15, am_go dc_166_18, J_bipush, i8_m11, am_go dc_166_20, am_go dc_166_21, am_go dc_166_22, am_go dc_166_25, am_go dc_166_26, am_go dc_166_27, c32_2, am_go dc_166_28, J_icmp_eq, am_go dc_166_31, i8_m12, am_go dc_166_33, am_go dc_166_34, J_iload_2, ld_2, am_go dc_166_35, J_if_lt, am_go dc_166_38, am_go dc_166_39, am_go dc_166_40, fk_0_70_0, am_go dc_166_43, am_go dc_166_44, am_go dc_166_45, J_icmp_lt, am_go dc_166_48, i8_m13, am_go dc_166_50, am_go dc_166_51, am_go dc_166_52, fk_0_64_0, am_go dc_166_55, am_go dc_166_56, J_aaload, am_go dc_166_57, am_go dc_166_58, am_go dc_166_59, fk_0_67_0, am_go dc_166_62, am_go dc_166_63, am_go dc_166_64, J_iload_3, ld_3, am_go dc_166_65, cs_0_287 own_166, am_go dc_166_68, J_iastore, am_go dc_166_69, c32_0, am_go dc_166_70, xg_8, xg_12, xg_10, xg_11, hX.c0, hX.c53, hX.c54, hX.c55, hX.c64, hX.c65, hT.c0, hT.c1, hT.c2, hT.c3, hT.c4, hT.c5, hT.c6, hT.c7, hP.c0, hP.c1, hP.c2, hP.c3, hP.c4, zI_add, zI_mul, zI_lt, zI_le, zI_eq, zI_neg, zI_pos, zI_ne0, zI_gt0, zB_0, lg_cmp_ge, lg_cmp_le, lg_cmp_gt, lg_cmp_lt, lg_cmp_eq, ail_r, abl_r, all_r, ais_r, abs_r, als_r, aal_r, aal_q, aln_r, vrf_s, vrf_n, z32, ks, v5, z20, q1, Bool.true_eq_false, Bool.false_eq_true, zB_t, zB_f, i8_m3, i8_m4, rwF_v, List.length_cons, List.length_nil, Nat.reduceAdd, Nat.reduceLT, Nat.reduceLeDiff, Nat.reduceEqDiff, ↓reduceIte, bind_s, if_true, if_false, not_true_eq_false, not_false_eq_true, Nat.zero_add]
          exact gR_id hK hM cc cr mQ.rf hF
        · have cc : am_f X 1000 166 [.ref o, .int (zI e), .int y, .int w] (H, z) = some (.inl (some (.int (-13))), (H, z)) := by
            show am_f X (999 + 1) 166 _ _ = _
            rw [fU_166]
            simp (disch := first | omega | exact Nat.le_of_ble_eq_true rfl | exact hX.ci | exact hT.ci | exact hP.ci | exact hX.ci | exact hT.ci | exact hP.ci | (refine xF_lt ?_; omega) | (refine tF_lt ?_; omega) | (refine pF_lt ?_; omega)) only [own_166, am_go dc_166_0, J_iload_1, K_il, ld_1, am_go dc_166_1, cs_0_73 own_166, JR_v, JR_0, JR_ite, am_go dc_166_4, J_if_ne, am_go dc_166_7, J_iconst, i32_m1, am_go dc_166_8, J_ret_i ret_166, am_go dc_166_9, J_aload_0, K_al, ld_0, am_go dc_166_10, J_getfield, gf_r, fk_0_52_0, am_go dc_166_13, am_go dc_166_14, J_iaload, am_go dc_166_15, am_go dc_166_18, J_bipush, i8_m11, am_go dc_166_20, am_go dc_166_21, am_go dc_166_22, am_go dc_166_25, am_go dc_166_26, am_go dc_166_27, c32_2, am_go dc_166_28, J_icmp_eq, am_go dc_166_31, i8_m12, am_go dc_166_33, am_go dc_166_34, J_iload_2, ld_2, am_go dc_166_35, J_if_lt, am_go dc_166_38, am_go dc_166_39, am_go dc_166_40, fk_0_70_0, am_go dc_166_43, am_go dc_166_44, am_go dc_166_45, J_icmp_lt, am_go dc_166_48, i8_m13, am_go dc_166_50, am_go dc_166_51, am_go dc_166_52, fk_0_64_0, am_go dc_166_55, am_go dc_166_56, J_aaload, am_go dc_166_57, am_go dc_166_58, am_go dc_166_59, fk_0_67_0, am_go dc_166_62, am_go dc_166_63, am_go dc_166_64, J_iload_3, ld_3, am_go dc_166_65, cs_0_287 own_166, am_go dc_166_68, J_iastore, am_go dc_166_69, c32_0, am_go dc_166_70, xg_8, xg_12, xg_10, xg_11, hX.c0, hX.c53, hX.c54, hX.c55, hX.c64, hX.c65, hT.c0, hT.c1, hT.c2, hT.c3, hT.c4, hT.c5, hT.c6, hT.c7, hP.c0, hP.c1, hP.c2, hP.c3, hP.c4, zI_add, zI_mul, zI_lt, zI_le, zI_eq, zI_neg, zI_pos, zI_ne0, zI_gt0, zB_0, lg_cmp_ge, lg_cmp_le, lg_cmp_gt, lg_cmp_lt, lg_cmp_eq, ail_r, abl_r, all_r, ais_r, abs_r, als_r, aal_r, aal_q, aln_r, vrf_s, vrf_n, z32, ks, v5, z20, v7, hs, q1, q2, Bool.true_eq_false, Bool.false_eq_true, zB_t, zB_f, i8_m3, i8_m4, rwF_v, List.length_cons, List.length_nil, Nat.reduceAdd, Nat.reduceLT, Nat.reduceLeDiff, Nat.reduceEqDiff, ↓reduceIte, bind_s, if_true, if_false, not_true_eq_false, not_false_eq_true, Nat.zero_add]
          exact gR_id hK hM cc cr mQ.rf hF
      | true =>
        obtain ⟨gg1, gg2⟩ := qIs_get hy
        generalize wN y = i at *
        subst gg1
        have nlt : ¬ zI i < 0 := by
          rw [show (0 : Int32) = zI 0 from rfl, zI_lt (by omega) (by omega)]
          omega
        obtain ⟨h, hH⟩ : ∃ h, xH h o D = H := ⟨H, hX.eq⟩
        subst hH
        have hcr : ∀ D', xH h o D' (o + 56 + e) = _ := fun D' => xH_is.cr e2
        have h55 : ∀ D', xH h o D' (o + 55) = _ := fun D' => xH_is.c55
        have hTx : ∀ D', isT (xH h o D') (o + 1) T := fun D' => hT.fr (fun x q1 q2 => by rw [xH_x (by unfold xK; omega), xH_x (by unfold xK; omega)])
        have t0 := fun D' => (hTx D').c0
        have t1 := fun D' => (hTx D').c1
        have frx : ∀ D' x, (x ≠ o ∧ (x < o + 53 ∨ o + 66 ≤ x)) → xH h o D' x = xH h o D x := fun D' x q => by
          rw [xH_x (by unfold xK; omega), xH_x (by unfold xK; omega)]
        have kl : am_f X 999 167 [.int (u.1 6 e), .int w] (xH h o D, z) = _ := x_low (X := X) (d := 998)
        have cc : am_f X 1000 166 [.ref o, .int (zI e), .int (zI i), .int w] (xH h o D, z) = some (.inl (some (.int (zI 0))), (xH h o (mS D.1 (56 + e) (upd (D.1.1 (56 + e)) i (qLow (u.1 6 e) w)), D.2), z)) := by
          show am_f X (999 + 1) 166 _ _ = _
          rw [fU_166]
          simp (disch := first | omega | exact Nat.le_of_ble_eq_true rfl | exact hP.ci | exact hX.ci | exact hT.ci | exact hP.ci | (refine xF_lt ?_; omega) | (refine tF_lt ?_; omega) | (refine pF_lt ?_; omega) | exact xH_ci | (refine xF_lt ?_; omega)) only [own_166, am_go dc_166_0, J_iload_1, K_il, ld_1, am_go dc_166_1, cs_0_73 own_166, JR_v, JR_0, JR_ite, am_go dc_166_4, J_if_ne, am_go dc_166_7, J_iconst, i32_m1, am_go dc_166_8, J_ret_i ret_166, am_go dc_166_9, J_aload_0, K_al, ld_0, am_go dc_166_10, J_getfield, gf_r, fk_0_52_0, am_go dc_166_13, am_go dc_166_14, J_iaload, am_go dc_166_15, am_go dc_166_18, J_bipush, i8_m11, am_go dc_166_20, am_go dc_166_21, am_go dc_166_22, am_go dc_166_25, am_go dc_166_26, am_go dc_166_27, c32_2, am_go dc_166_28, J_icmp_eq, am_go dc_166_31, i8_m12, am_go dc_166_33, am_go dc_166_34, J_iload_2, ld_2, am_go dc_166_35, J_if_lt, am_go dc_166_38, am_go dc_166_39, am_go dc_166_40, fk_0_70_0, am_go dc_166_43, am_go dc_166_44, am_go dc_166_45, J_icmp_lt, am_go dc_166_48, i8_m13, am_go dc_166_50, am_go dc_166_51, am_go dc_166_52, fk_0_64_0, am_go dc_166_55, am_go dc_166_56, J_aaload, am_go dc_166_57, am_go dc_166_58, am_go dc_166_59, fk_0_67_0, am_go dc_166_62, am_go dc_166_63, am_go dc_166_64, J_iload_3, ld_3, am_go dc_166_65, cs_0_287 own_166, am_go dc_166_68, J_iastore, am_go dc_166_69, c32_0, am_go dc_166_70, xg_8, xg_12, xg_10, xg_11, hP.c0, hP.c1, hP.c2, hP.c3, hP.c4, zI_add, zI_mul, zI_lt, zI_le, zI_eq, zI_neg, zI_pos, zI_ne0, zI_gt0, zB_0, lg_cmp_ge, lg_cmp_le, lg_cmp_gt, lg_cmp_lt, lg_cmp_eq, ail_r, abl_r, all_r, ais_r, abs_r, als_r, aal_r, aal_q, aln_r, vrf_s, vrf_n, z32, ks, v5, v6, v7, hs, z20, nlt, gg2, kl, xw_r e2, xH_0, xH_53, xH_54, xH_64, xH_65, xw_53, xw_54, xw_64, xw_65, hcr, h55, t0, t1, aas_r, J_aastoreN, J_aastore, mS_s, mS_o, mS_2, Bool.true_eq_false, Bool.false_eq_true, zB_t, zB_f, i8_m3, i8_m4, rwF_v, List.length_cons, List.length_nil, Nat.reduceAdd, Nat.reduceLT, Nat.reduceLeDiff, Nat.reduceEqDiff, ↓reduceIte, bind_s, if_true, if_false, not_true_eq_false, not_false_eq_true, Nat.zero_add]
        have fr1 : ∀ x, x < z.1 → (x ≠ o ∧ (x < o + 53 ∨ o + 66 ≤ x)) → xH h o (mS D.1 (56 + e) (upd (D.1.1 (56 + e)) i (qLow (u.1 6 e) w)), D.2) x = xH h o D x := fun x _ q => frx _ x q
        have hn1 : ∀ x, z.1 ≤ x → xH h o (mS D.1 (56 + e) (upd (D.1.1 (56 + e)) i (qLow (u.1 6 e) w)), D.2) x = none := fun x hx => by
          rw [frx _ x (by omega)]
          exact hno x hx
        have hC1 : ∀ x, C x → xH h o (mS D.1 (56 + e) (upd (D.1.1 (56 + e)) i (qLow (u.1 6 e) w)), D.2) x = xH h o D x := fun x hx => fr1 x (hCC x hx).2 (by have := hCC x hx; omega)
        obtain ⟨g1, g2⟩ := hup (xH h o (mS D.1 (56 + e) (upd (D.1.1 (56 + e)) i (qLow (u.1 6 e) w)), D.2)) (z) (C) (mS D.1 (56 + e) (upd (D.1.1 (56 + e)) i (qLow (u.1 6 e) w)), D.2) (T) (P) (TI) (PI) (lu) (mS u 8 (upd (u.1 8) (120 * e + i) (qLow (u.1 6 e) w))) (fun x q1 q2 => fr1 x q1 (by omega)) (fun x q1 => fr1 x (by omega) (by omega)) xH_is (hgT.fr (fun x q1 q2 => fr1 x (by omega) (by omega)) hC1 (fun _ h => h)) (hgI.fr (fun x q1 q2 => fr1 x (by omega) (by omega)) hC1 (fun _ h => h)) (hgE.fr (fun x q1 q2 => fr1 x (by omega) (by omega))) (hgL.fr (fun x hx => fr1 x (by omega) (by omega))) (gS_set (hgS.fr hC1 (fun _ h => h)) e (fun e' h8 ne => by
          refine ⟨?_, ?_, ?_, ?_, rfl⟩ <;> simp (disch := omega) only [mS_s, mS_o, upd_s, upd_o, vu_s, vu_o]) (fun e' h8 ne => by
          refine ⟨rfl, rfl, rfl, rfl, rfl, fun j hj => ?_⟩
          show upd (u.1 8) _ _ _ = _
          exact upd_o (by omega)) (by
          refine ⟨⟨?_, ?_, ?_, Or.inr (Or.inr q), c6, ⟨s, hs2, hs⟩, fun j hj => ?_⟩, fun q' => ?_⟩
          · simp (disch := omega) only [mS_o]
            exact v5.trans q.symm
          · simp (disch := omega) only [mS_o]
            exact v6
          · simp (disch := omega) only [mS_o]
            exact v7
          · simp (disch := omega) only [mS_s]
            by_cases ej : j = i
            · subst ej
              rw [upd_s, upd_s]
            · rw [upd_o ej, upd_o (by omega)]
              exact v8 j hj
          · exact absurd (q.symm.trans q') (by decide))) (fun x hx => Or.inl hx) (Nat.le_refl _) (by omega) (by omega) hn1
        have cr : am_f X 1000 275 [.ref (o + 66), .int (zI e), .int (zI i), .int w] (mH (xH h o (mS D.1 (56 + e) (upd (D.1.1 (56 + e)) i (qLow (u.1 6 e) w)), D.2)) (o + 66) u, z) = _ := r_put_y (X := X) (d := 996) (h := xH h o (mS D.1 (56 + e) (upd (D.1.1 (56 + e)) i (qLow (u.1 6 e) w)), D.2)) (z := z) e2 hwr hs hs2 gg2
        exact gR_mk hM cc g1 g2 cr mQ.rf (mFr_cg hF (fun j q1 q2 => if_neg (by omega)) rfl rfl (fun j _ => rfl))
end FL
