/-! the face: prices, the bell -/
section FH
variable {X : am_X} {o k : Nat} {H : am_H} {z : Nat × Nat} {u : mU}
theorem rI_pr {S : Nat → Int32} {b n : Nat} (hI : rI S) (hb : b < wN (S 116)) (hn : n ≤ 999) : rI (qPr S b n) := by
  obtain ⟨hG, a, h10, ha, hk⟩ := hI
  have hm5 := hG.m.2
  exact ⟨hG.pr hb hn, a, h10, (upd_o (by omega)).trans ha, hOk_cg a S _ (fun j hj => upd_o (by omega)) hk⟩
theorem rI_bell {S : Nat → Int32} {n : Nat} (hI : rI S) (hn : n ≤ 99) : rI (upd S 117 (zI n)) := by
  obtain ⟨hG, a, h10, ha, hk⟩ := hI
  exact ⟨qG_bell hG hn, a, h10, (upd_o (by omega)).trans ha, hOk_cg a S _ (fun j hj => upd_o (by omega)) hk⟩
theorem f_price (hK : gK o k H z u) (hM : cM H (o + 66) u) (hF : mFr u) {x y : Int32} : gR X o k 60 213 [.int x, .int y] H z u := by
  obtain ⟨C, D, T, P, TI, PI, lu, m, a, N, hX, hgT, hgI, hgE, hgL, hgS, hma, haa, hCC, hz0, hno, hup⟩ := g_up hK
  have hTN := hgT.1
  have hP := hgT.2.1
  have hpS := hgT.2.2.1
  have hI := hgT.2.2.2
  have hS := hTN.1
  have hT := hS.iT
  have hG := hI.1
  have hL := hI.pl
  have hq := hI.qw
  have hm5 := hG.m.2
  have hsz := hS.sz
  have hbl := hS.bell
  have kh : am_f X 999 32 [.ref (o + 1), .int (x)] (H, z) = _ := c_has (X := X) (d := 998) (z := z) hS
  cases hx : qIs x (wN (u.1 1 116)) with
  | false =>
    rw [hx] at kh
    have cc : am_f X 1000 60 [.ref o, .int x, .int y] (H, z) = some (.inl (some (.int (-1))), (H, z)) := by
      show am_f X (999 + 1) 60 _ _ = _
      rw [fU_60]
      simp (disch := first | omega | exact Nat.le_of_ble_eq_true rfl | exact hX.ci | exact hT.ci | exact hP.ci | exact hX.ci | exact hT.ci | exact hP.ci | (refine xF_lt ?_; omega) | (refine tF_lt ?_; omega) | (refine pF_lt ?_; omega)) only [own_60, am_go dc_60_0, J_aload_0, K_al, ld_0, am_go dc_60_1, J_getfield, gf_r, fk_0_12_0, am_go dc_60_4, J_iload_1, K_il, ld_1, am_go dc_60_5, cv_0_94_1 own_60, JR_v, JR_0, JR_ite, ci1_r, am_go dc_60_8, J_if_eq, am_go dc_60_11, J_iload_2, ld_2, am_go dc_60_12, J_if_lt, am_go dc_60_15, am_go dc_60_16, J_sipush, c16_999, am_go dc_60_19, J_icmp_le, am_go dc_60_22, J_iconst, i32_m1, am_go dc_60_23, J_ret_i ret_60, am_go dc_60_24, am_go dc_60_25, am_go dc_60_28, fk_0_97_1, am_go dc_60_31, am_go dc_60_32, J_aaload, am_go dc_60_33, am_go dc_60_36, J_istore_3, st1_0, st1_1, st1_s, kl_i, kl_l, kl_r, kl_n, am_go dc_60_37, am_go dc_60_38, am_go dc_60_41, am_go dc_60_42, am_go dc_60_43, cv_0_132_1 own_60, am_go dc_60_46, am_go dc_60_47, fk_0_41_0, am_go dc_60_50, am_go dc_60_53, J_iload_3, ld_3, am_go dc_60_54, xg_0, tg_0, xg_6, hX.c0, hX.c53, hX.c54, hX.c55, hX.c64, hX.c65, hT.c0, hT.c1, hT.c2, hT.c3, hT.c4, hT.c5, hT.c6, hT.c7, hP.c0, hP.c1, hP.c2, hP.c3, hP.c4, zI_add, zI_mul, zI_lt, zI_le, zI_eq, zI_neg, zI_pos, zI_ne0, zI_gt0, zB_0, lg_cmp_ge, lg_cmp_le, lg_cmp_gt, lg_cmp_lt, lg_cmp_eq, ail_r, abl_r, all_r, ais_r, abs_r, als_r, aal_r, aal_q, aln_r, vrf_s, vrf_n, z32, kh, Bool.true_eq_false, Bool.false_eq_true, zB_t, zB_f, i8_m3, i8_m4, rwF_v, List.length_cons, List.length_nil, Nat.reduceAdd, Nat.reduceLT, Nat.reduceLeDiff, Nat.reduceEqDiff, ↓reduceIte, bind_s, if_true, if_false, not_true_eq_false, not_false_eq_true, Nat.zero_add]
    have cr : am_f X 1000 213 [.ref (o + 66), .int x, .int y] (mH H (o + 66) u, z) = _ := r_price_n (X := X) (d := 997) (h := H) (z := z) hq hx
    exact gR_id hK hM cc cr mQ.rf hF
  | true =>
    obtain ⟨e1, e2⟩ := qIs_get hx
    generalize wN x = b at *
    subst e1
    rw [hx] at kh
    have hb5 : b < 5 := by omega
    cases hy : qIs y 1000 with
    | false =>
      have cr : am_f X 1000 213 [.ref (o + 66), .int (zI b), .int y] (mH H (o + 66) u, z) = _ := r_price_m (X := X) (d := 997) (h := H) (z := z) hq e2 hy
      rcases qIs_b (n := 999) (by omega) hy with q | ⟨q1, q2⟩
      · have cc : am_f X 1000 60 [.ref o, .int (zI b), .int y] (H, z) = some (.inl (some (.int (-1))), (H, z)) := by
          show am_f X (999 + 1) 60 _ _ = _
          rw [fU_60]
          simp (disch := first | omega | exact Nat.le_of_ble_eq_true rfl | exact hX.ci | exact hT.ci | exact hP.ci | exact hX.ci | exact hT.ci | exact hP.ci | (refine xF_lt ?_; omega) | (refine tF_lt ?_; omega) | (refine pF_lt ?_; omega)) only [own_60, am_go dc_60_0, J_aload_0, K_al, ld_0, am_go dc_60_1, J_getfield, gf_r, fk_0_12_0, am_go dc_60_4, J_iload_1, K_il, ld_1, am_go dc_60_5, cv_0_94_1 own_60, JR_v, JR_0, JR_ite, ci1_r, am_go dc_60_8, J_if_eq, am_go dc_60_11, J_iload_2, ld_2, am_go dc_60_12, J_if_lt, am_go dc_60_15, am_go dc_60_16, J_sipush, c16_999, am_go dc_60_19, J_icmp_le, am_go dc_60_22, J_iconst, i32_m1, am_go dc_60_23, J_ret_i ret_60, am_go dc_60_24, am_go dc_60_25, am_go dc_60_28, fk_0_97_1, am_go dc_60_31, am_go dc_60_32, J_aaload, am_go dc_60_33, am_go dc_60_36, J_istore_3, st1_0, st1_1, st1_s, kl_i, kl_l, kl_r, kl_n, am_go dc_60_37, am_go dc_60_38, am_go dc_60_41, am_go dc_60_42, am_go dc_60_43, cv_0_132_1 own_60, am_go dc_60_46, am_go dc_60_47, fk_0_41_0, am_go dc_60_50, am_go dc_60_53, J_iload_3, ld_3, am_go dc_60_54, xg_0, tg_0, xg_6, hX.c0, hX.c53, hX.c54, hX.c55, hX.c64, hX.c65, hT.c0, hT.c1, hT.c2, hT.c3, hT.c4, hT.c5, hT.c6, hT.c7, hP.c0, hP.c1, hP.c2, hP.c3, hP.c4, zI_add, zI_mul, zI_lt, zI_le, zI_eq, zI_neg, zI_pos, zI_ne0, zI_gt0, zB_0, lg_cmp_ge, lg_cmp_le, lg_cmp_gt, lg_cmp_lt, lg_cmp_eq, ail_r, abl_r, all_r, ais_r, abs_r, als_r, aal_r, aal_q, aln_r, vrf_s, vrf_n, z32, kh, q, Bool.true_eq_false, Bool.false_eq_true, zB_t, zB_f, i8_m3, i8_m4, rwF_v, List.length_cons, List.length_nil, Nat.reduceAdd, Nat.reduceLT, Nat.reduceLeDiff, Nat.reduceEqDiff, ↓reduceIte, bind_s, if_true, if_false, not_true_eq_false, not_false_eq_true, Nat.zero_add]
        exact gR_id hK hM cc cr mQ.rf hF
      · have cc : am_f X 1000 60 [.ref o, .int (zI b), .int y] (H, z) = some (.inl (some (.int (-1))), (H, z)) := by
          show am_f X (999 + 1) 60 _ _ = _
          rw [fU_60]
          simp (disch := first | omega | exact Nat.le_of_ble_eq_true rfl | exact hX.ci | exact hT.ci | exact hP.ci | exact hX.ci | exact hT.ci | exact hP.ci | (refine xF_lt ?_; omega) | (refine tF_lt ?_; omega) | (refine pF_lt ?_; omega)) only [own_60, am_go dc_60_0, J_aload_0, K_al, ld_0, am_go dc_60_1, J_getfield, gf_r, fk_0_12_0, am_go dc_60_4, J_iload_1, K_il, ld_1, am_go dc_60_5, cv_0_94_1 own_60, JR_v, JR_0, JR_ite, ci1_r, am_go dc_60_8, J_if_eq, am_go dc_60_11, J_iload_2, ld_2, am_go dc_60_12, J_if_lt, am_go dc_60_15, am_go dc_60_16, J_sipush, c16_999, am_go dc_60_19, J_icmp_le, am_go dc_60_22, J_iconst, i32_m1, am_go dc_60_23, J_ret_i ret_60, am_go dc_60_24, am_go dc_60_25, am_go dc_60_28, fk_0_97_1, am_go dc_60_31, am_go dc_60_32, J_aaload, am_go dc_60_33, am_go dc_60_36, J_istore_3, st1_0, st1_1, st1_s, kl_i, kl_l, kl_r, kl_n, am_go dc_60_37, am_go dc_60_38, am_go dc_60_41, am_go dc_60_42, am_go dc_60_43, cv_0_132_1 own_60, am_go dc_60_46, am_go dc_60_47, fk_0_41_0, am_go dc_60_50, am_go dc_60_53, J_iload_3, ld_3, am_go dc_60_54, xg_0, tg_0, xg_6, hX.c0, hX.c53, hX.c54, hX.c55, hX.c64, hX.c65, hT.c0, hT.c1, hT.c2, hT.c3, hT.c4, hT.c5, hT.c6, hT.c7, hP.c0, hP.c1, hP.c2, hP.c3, hP.c4, zI_add, zI_mul, zI_lt, zI_le, zI_eq, zI_neg, zI_pos, zI_ne0, zI_gt0, zB_0, lg_cmp_ge, lg_cmp_le, lg_cmp_gt, lg_cmp_lt, lg_cmp_eq, ail_r, abl_r, all_r, ais_r, abs_r, als_r, aal_r, aal_q, aln_r, vrf_s, vrf_n, z32, kh, q1, q2, Bool.true_eq_false, Bool.false_eq_true, zB_t, zB_f, i8_m3, i8_m4, rwF_v, List.length_cons, List.length_nil, Nat.reduceAdd, Nat.reduceLT, Nat.reduceLeDiff, Nat.reduceEqDiff, ↓reduceIte, bind_s, if_true, if_false, not_true_eq_false, not_false_eq_true, Nat.zero_add]
        exact gR_id hK hM cc cr mQ.rf hF
    | true =>
      obtain ⟨gg1, gg2⟩ := qIs_get hy
      generalize wN y = n at *
      subst gg1
      have hn9 : n ≤ 999 := by omega
      have nlt : ¬ zI n < 0 := by
        rw [show (0 : Int32) = zI 0 from rfl, zI_lt (by omega) (by omega)]
        omega
      obtain ⟨a', bb, ha', hB⟩ := hS.box e2
      have h1 : qRow (u.1 1) b 1 = u.1 1 (18 * b + 1) := rfl
      have eT : tH H (o + 1) T = H := ov_eq hT
      obtain ⟨T', e, n', kr0, hn7, hTN'⟩ := c_reprice (X := X) (d := 994) (h := H) (t := o + 1) (T := T) (z := z) (S := u.1 1) (C := C) (b := b) (P := n) (by rw [eT]; exact hTN) (fun x hx => by have := hCC x hx; omega) e2 hn9 (by rw [eT]; exact hno _ (Nat.le_refl _))
      rw [eT] at kr0
      have kr : am_f X 999 61 [.ref (o + 1), .int (zI b), .int (zI n)] (H, z) = _ := kr0
      have fr2 : ∀ x, x ≠ z.1 → (x < o + 1 ∨ o + 9 ≤ x) → tH (am_up H z.1 e) (o + 1) T' x = H x := fun x q1 q2 => by
        rw [tH_x (by omega), up_x q1]
      have hX2 : isX (tH (am_up H z.1 e) (o + 1) T') o D := hX.fr (fun x hx => fr2 x (by unfold xK at hx; omega) (by unfold xK at hx; omega))
      have cL2 := hgL.no (H' := tH (am_up H z.1 e) (o + 1) T') (fun x hx => fr2 x (by omega) (by omega))
      obtain ⟨H1, kf0, f1, cL1⟩ := l_forget (X := X) (d := 998) (z := (z.1 + 1, z.2 + n')) cL2
      have kf : am_f X 999 45 [.ref (o + 40)] (tH (am_up H z.1 e) (o + 1) T', (z.1 + 1, z.2 + n')) = _ := kf0
      have lci : am_ci1 ((tH (am_up H z.1 e) (o + 1) T', (z.1 + 1, z.2 + n')).1 (o + 40)) = some 4 := by
        have := lH_ci (h := tH (am_up H z.1 e) (o + 1) T') (l := o + 40) (D := (lu, (o + 1, m, a, N))) (z := (z.1 + 1, z.2 + n'))
        rw [cL2.2] at this
        exact this
      have cc : am_f X 1000 60 [.ref o, .int (zI b), .int (zI n)] (H, z) = some (.inl (some (.int (u.1 1 (18 * b + 1)))), (H1, (z.1 + 1, z.2 + n'))) := by
        show am_f X (999 + 1) 60 _ _ = _
        rw [fU_60]
        simp (disch := first | omega | exact Nat.le_of_ble_eq_true rfl | exact hX.ci | exact hT.ci | exact hP.ci | exact hX.ci | exact hT.ci | exact hP.ci | (refine xF_lt ?_; omega) | (refine tF_lt ?_; omega) | (refine pF_lt ?_; omega) | exact lci | exact hX2.ci) only [own_60, am_go dc_60_0, J_aload_0, K_al, ld_0, am_go dc_60_1, J_getfield, gf_r, fk_0_12_0, am_go dc_60_4, J_iload_1, K_il, ld_1, am_go dc_60_5, cv_0_94_1 own_60, JR_v, JR_0, JR_ite, ci1_r, am_go dc_60_8, J_if_eq, am_go dc_60_11, J_iload_2, ld_2, am_go dc_60_12, J_if_lt, am_go dc_60_15, am_go dc_60_16, J_sipush, c16_999, am_go dc_60_19, J_icmp_le, am_go dc_60_22, J_iconst, i32_m1, am_go dc_60_23, J_ret_i ret_60, am_go dc_60_24, am_go dc_60_25, am_go dc_60_28, fk_0_97_1, am_go dc_60_31, am_go dc_60_32, J_aaload, am_go dc_60_33, am_go dc_60_36, J_istore_3, st1_0, st1_1, st1_s, kl_i, kl_l, kl_r, kl_n, am_go dc_60_37, am_go dc_60_38, am_go dc_60_41, am_go dc_60_42, am_go dc_60_43, cv_0_132_1 own_60, am_go dc_60_46, am_go dc_60_47, fk_0_41_0, am_go dc_60_50, cv_0_88_4 own_60, am_go dc_60_53, J_iload_3, ld_3, am_go dc_60_54, xg_0, tg_0, xg_6, hX.c0, hX.c53, hX.c54, hX.c55, hX.c64, hX.c65, hT.c0, hT.c1, hT.c2, hT.c3, hT.c4, hT.c5, hT.c6, hT.c7, hP.c0, hP.c1, hP.c2, hP.c3, hP.c4, zI_add, zI_mul, zI_lt, zI_le, zI_eq, zI_neg, zI_pos, zI_ne0, zI_gt0, zB_0, lg_cmp_ge, lg_cmp_le, lg_cmp_gt, lg_cmp_lt, lg_cmp_eq, ail_r, abl_r, all_r, ais_r, abs_r, als_r, aal_r, aal_q, aln_r, vrf_s, vrf_n, z32, kh, ha', bf_0_104 hB, h1, nlt, hn9, kr, hX2.c0, kf, Bool.true_eq_false, Bool.false_eq_true, zB_t, zB_f, i8_m3, i8_m4, rwF_v, List.length_cons, List.length_nil, Nat.reduceAdd, Nat.reduceLT, Nat.reduceLeDiff, Nat.reduceEqDiff, ↓reduceIte, bind_s, if_true, if_false, not_true_eq_false, not_false_eq_true, Nat.zero_add]
      have fr1 : ∀ x, x < z.1 → (x < o + 1 ∨ o + 9 ≤ x) ∧ x ≠ o + 40 → H1 x = H x := fun x q1 q2 => by
        rw [f1 x q2.2, fr2 x (by omega) q2.1]
      have hn1 : ∀ x, z.1 + 1 ≤ x → H1 x = none := fun x hx => by
        rw [f1 x (by omega), fr2 x (by omega) (by omega)]
        exact hno x (by omega)
      have hC1 : ∀ x, C x → H1 x = H x := fun x hx => fr1 x (hCC x hx).2 (by have := hCC x hx; omega)
      obtain ⟨g1, g2⟩ := hup (H1) (z.1 + 1, z.2 + n') (fun x => C x ∨ x = z.1) (D) (T') (P) (TI) (PI) (mI lu 2 (zI 0)) (mS u 1 (qPr (u.1 1) b n)) (fun x q1 q2 => fr1 x q1 (by omega)) (fun x q1 => fr1 x (by omega) (by omega)) (hX.fr (fun x hx => fr1 x (by unfold xK at hx; omega) (by unfold xK at hx; omega))) ⟨hTN'.fr (fun x q1 q2 => f1 x (by omega)) (fun x hx => f1 x (by rcases hx with hx | hx; (have := hCC x hx; omega); omega)) (fun _ h => h), hP.fr (fun x q1 q2 => fr1 x (by omega) (by omega)), pS_cg (fun j q1 q2 => upd_o (by omega)) hpS, rI_pr hI e2 hn9⟩ (hgI.fr (fun x q1 q2 => fr1 x (by omega) (by omega)) hC1 (fun _ h => Or.inl h)) (hgE.fr (fun x q1 q2 => fr1 x (by omega) (by omega))) ⟨cL1, hgL.2.1, Or.inl rfl⟩ (hgS.fr hC1 (fun _ h => Or.inl h)) (fun x hx => by rcases hx with hx | hx; exact Or.inl hx; (right; subst hx; exact ⟨Nat.le_refl _, Nat.lt_succ_self _⟩)) (Nat.le_succ _) (by show z.1 + 1 ≤ z.1 + 25; omega) (by show z.2 + n' ≤ z.2 + 100; omega) hn1
      have cr : am_f X 1000 213 [.ref (o + 66), .int (zI b), .int (zI n)] (mH H1 (o + 66) u, (z.1 + 1, z.2 + n')) = _ := r_price_y (X := X) (d := 997) (h := H1) (z := (z.1 + 1, z.2 + n')) hq e2 hy
      exact gR_mk hM cc g1 g2 cr ⟨fun _ _ => rfl, rfl⟩ (Or.inr rfl)
theorem f_bell (hK : gK o k H z u) (hM : cM H (o + 66) u) (hF : mFr u) {y : Int32} : gR X o k 68 215 [.int y] H z u := by
  obtain ⟨C, D, T, P, TI, PI, lu, m, a, N, hX, hgT, hgI, hgE, hgL, hgS, hma, haa, hCC, hz0, hno, hup⟩ := g_up hK
  have hTN := hgT.1
  have hP := hgT.2.1
  have hpS := hgT.2.2.1
  have hI := hgT.2.2.2
  have hS := hTN.1
  have hT := hS.iT
  have hG := hI.1
  have hL := hI.pl
  have hq := hI.qw
  have hm5 := hG.m.2
  have hsz := hS.sz
  have hbl := hS.bell
  cases hy : qIs y 100 with
  | false =>
    have cr : am_f X 1000 215 [.ref (o + 66), .int y] (mH H (o + 66) u, z) = _ := r_bell_n (X := X) (d := 997) (h := H) (z := z) hy
    rcases qIs_b (n := 99) (by omega) hy with q | ⟨q1, q2⟩
    · have cc : am_f X 1000 68 [.ref o, .int y] (H, z) = some (.inl (some (.int (-1))), (H, z)) := by
        show am_f X (999 + 1) 68 _ _ = _
        rw [fU_68]
        simp (disch := first | omega | exact Nat.le_of_ble_eq_true rfl | exact hX.ci | exact hT.ci | exact hP.ci | exact hX.ci | exact hT.ci | exact hP.ci | (refine xF_lt ?_; omega) | (refine tF_lt ?_; omega) | (refine pF_lt ?_; omega)) only [own_68, am_go dc_68_0, J_iload_1, K_il, ld_1, am_go dc_68_1, J_if_lt, am_go dc_68_4, am_go dc_68_5, J_bipush, c8_99, am_go dc_68_7, J_icmp_le, am_go dc_68_10, J_iconst, i32_m1, am_go dc_68_11, J_ret_i ret_68, am_go dc_68_12, J_aload_0, K_al, ld_0, am_go dc_68_13, J_getfield, gf_r, fk_0_12_0, am_go dc_68_16, fk_0_136_1, am_go dc_68_19, J_istore_2, st1_0, st1_1, st1_s, kl_i, kl_l, kl_r, kl_n, am_go dc_68_20, am_go dc_68_21, am_go dc_68_24, am_go dc_68_25, J_putfield_i, J_putfield_l, J_putfield_r, ini_68, pk_0_136_1, am_go dc_68_28, am_go dc_68_29, fk_0_41_0, am_go dc_68_32, JR_v, JR_0, JR_ite, ci1_r, am_go dc_68_35, J_iload_2, ld_2, am_go dc_68_36, xg_0, tg_2, tp_2, pf_i pk_0_136_1 rfl, xg_6, hX.c0, hX.c53, hX.c54, hX.c55, hX.c64, hX.c65, hT.c0, hT.c1, hT.c2, hT.c3, hT.c4, hT.c5, hT.c6, hT.c7, hP.c0, hP.c1, hP.c2, hP.c3, hP.c4, zI_add, zI_mul, zI_lt, zI_le, zI_eq, zI_neg, zI_pos, zI_ne0, zI_gt0, zB_0, lg_cmp_ge, lg_cmp_le, lg_cmp_gt, lg_cmp_lt, lg_cmp_eq, ail_r, abl_r, all_r, ais_r, abs_r, als_r, aal_r, aal_q, aln_r, vrf_s, vrf_n, z32, q, Bool.true_eq_false, Bool.false_eq_true, zB_t, zB_f, i8_m3, i8_m4, rwF_v, List.length_cons, List.length_nil, Nat.reduceAdd, Nat.reduceLT, Nat.reduceLeDiff, Nat.reduceEqDiff, ↓reduceIte, bind_s, if_true, if_false, not_true_eq_false, not_false_eq_true, Nat.zero_add]
      exact gR_id hK hM cc cr mQ.rf hF
    · have cc : am_f X 1000 68 [.ref o, .int y] (H, z) = some (.inl (some (.int (-1))), (H, z)) := by
        show am_f X (999 + 1) 68 _ _ = _
        rw [fU_68]
        simp (disch := first | omega | exact Nat.le_of_ble_eq_true rfl | exact hX.ci | exact hT.ci | exact hP.ci | exact hX.ci | exact hT.ci | exact hP.ci | (refine xF_lt ?_; omega) | (refine tF_lt ?_; omega) | (refine pF_lt ?_; omega)) only [own_68, am_go dc_68_0, J_iload_1, K_il, ld_1, am_go dc_68_1, J_if_lt, am_go dc_68_4, am_go dc_68_5, J_bipush, c8_99, am_go dc_68_7, J_icmp_le, am_go dc_68_10, J_iconst, i32_m1, am_go dc_68_11, J_ret_i ret_68, am_go dc_68_12, J_aload_0, K_al, ld_0, am_go dc_68_13, J_getfield, gf_r, fk_0_12_0, am_go dc_68_16, fk_0_136_1, am_go dc_68_19, J_istore_2, st1_0, st1_1, st1_s, kl_i, kl_l, kl_r, kl_n, am_go dc_68_20, am_go dc_68_21, am_go dc_68_24, am_go dc_68_25, J_putfield_i, J_putfield_l, J_putfield_r, ini_68, pk_0_136_1, am_go dc_68_28, am_go dc_68_29, fk_0_41_0, am_go dc_68_32, JR_v, JR_0, JR_ite, ci1_r, am_go dc_68_35, J_iload_2, ld_2, am_go dc_68_36, xg_0, tg_2, tp_2, pf_i pk_0_136_1 rfl, xg_6, hX.c0, hX.c53, hX.c54, hX.c55, hX.c64, hX.c65, hT.c0, hT.c1, hT.c2, hT.c3, hT.c4, hT.c5, hT.c6, hT.c7, hP.c0, hP.c1, hP.c2, hP.c3, hP.c4, zI_add, zI_mul, zI_lt, zI_le, zI_eq, zI_neg, zI_pos, zI_ne0, zI_gt0, zB_0, lg_cmp_ge, lg_cmp_le, lg_cmp_gt, lg_cmp_lt, lg_cmp_eq, ail_r, abl_r, all_r, ais_r, abs_r, als_r, aal_r, aal_q, aln_r, vrf_s, vrf_n, z32, q1, q2, Bool.true_eq_false, Bool.false_eq_true, zB_t, zB_f, i8_m3, i8_m4, rwF_v, List.length_cons, List.length_nil, Nat.reduceAdd, Nat.reduceLT, Nat.reduceLeDiff, Nat.reduceEqDiff, ↓reduceIte, bind_s, if_true, if_false, not_true_eq_false, not_false_eq_true, Nat.zero_add]
      exact gR_id hK hM cc cr mQ.rf hF
  | true =>
    obtain ⟨gg1, gg2⟩ := qIs_get hy
    generalize wN y = n at *
    subst gg1
    have hn9 : n ≤ 99 := by omega
    have nlt : ¬ zI n < 0 := by
      rw [show (0 : Int32) = zI 0 from rfl, zI_lt (by omega) (by omega)]
      omega
    obtain ⟨h, hH⟩ : ∃ h, tH h (o + 1) T = H := ⟨H, ov_eq hT⟩
    subst hH
    have hTN' := hTN.bell (a := n) (fun x hx => by have := hCC x hx; omega) hn9
    have fr2 : ∀ x, (x < o + 1 ∨ o + 9 ≤ x) → tH h (o + 1) (mI T.1 2 (zI n), T.2) x = tH h (o + 1) T x := fun x q2 => by
      rw [tH_x (by omega), tH_x (by omega)]
    have hX2 : isX (tH h (o + 1) (mI T.1 2 (zI n), T.2)) o D := hX.fr (fun x hx => fr2 x (by unfold xK at hx; omega))
    have cL2 := hgL.no (H' := tH h (o + 1) (mI T.1 2 (zI n), T.2)) (fun x hx => fr2 x (by omega))
    obtain ⟨H1, kf0, f1, cL1⟩ := l_forget (X := X) (d := 998) (z := z) cL2
    have kf : am_f X 999 45 [.ref (o + 40)] (tH h (o + 1) (mI T.1 2 (zI n), T.2), z) = _ := kf0
    have lci : am_ci1 ((tH h (o + 1) (mI T.1 2 (zI n), T.2), z).1 (o + 40)) = some 4 := by
      have := lH_ci (h := tH h (o + 1) (mI T.1 2 (zI n), T.2)) (l := o + 40) (D := (lu, (o + 1, m, a, N))) (z := z)
      rw [cL2.2] at this
      exact this
    have cc : am_f X 1000 68 [.ref o, .int (zI n)] (tH h (o + 1) T, z) = some (.inl (some (.int (u.1 1 117))), (H1, z)) := by
      show am_f X (999 + 1) 68 _ _ = _
      rw [fU_68]
      simp (disch := first | omega | exact Nat.le_of_ble_eq_true rfl | exact hX.ci | exact hT.ci | exact hP.ci | exact hX.ci | exact hT.ci | exact hP.ci | (refine xF_lt ?_; omega) | (refine tF_lt ?_; omega) | (refine pF_lt ?_; omega) | exact lci | exact hX2.ci) only [own_68, am_go dc_68_0, J_iload_1, K_il, ld_1, am_go dc_68_1, J_if_lt, am_go dc_68_4, am_go dc_68_5, J_bipush, c8_99, am_go dc_68_7, J_icmp_le, am_go dc_68_10, J_iconst, i32_m1, am_go dc_68_11, J_ret_i ret_68, am_go dc_68_12, J_aload_0, K_al, ld_0, am_go dc_68_13, J_getfield, gf_r, fk_0_12_0, am_go dc_68_16, fk_0_136_1, am_go dc_68_19, J_istore_2, st1_0, st1_1, st1_s, kl_i, kl_l, kl_r, kl_n, am_go dc_68_20, am_go dc_68_21, am_go dc_68_24, am_go dc_68_25, J_putfield_i, J_putfield_l, J_putfield_r, ini_68, pk_0_136_1, am_go dc_68_28, am_go dc_68_29, fk_0_41_0, am_go dc_68_32, cv_0_88_4 own_68, JR_v, JR_0, JR_ite, ci1_r, am_go dc_68_35, J_iload_2, ld_2, am_go dc_68_36, xg_0, tg_2, tp_2, pf_i pk_0_136_1 rfl, xg_6, hX.c0, hX.c53, hX.c54, hX.c55, hX.c64, hX.c65, hT.c0, hT.c1, hT.c2, hT.c3, hT.c4, hT.c5, hT.c6, hT.c7, hP.c0, hP.c1, hP.c2, hP.c3, hP.c4, zI_add, zI_mul, zI_lt, zI_le, zI_eq, zI_neg, zI_pos, zI_ne0, zI_gt0, zB_0, lg_cmp_ge, lg_cmp_le, lg_cmp_gt, lg_cmp_lt, lg_cmp_eq, ail_r, abl_r, all_r, ais_r, abs_r, als_r, aal_r, aal_q, aln_r, vrf_s, vrf_n, z32, nlt, hn9, hbl, hX2.c0, kf, Bool.true_eq_false, Bool.false_eq_true, zB_t, zB_f, i8_m3, i8_m4, rwF_v, List.length_cons, List.length_nil, Nat.reduceAdd, Nat.reduceLT, Nat.reduceLeDiff, Nat.reduceEqDiff, ↓reduceIte, bind_s, if_true, if_false, not_true_eq_false, not_false_eq_true, Nat.zero_add]
    have fr1 : ∀ x, x < z.1 → (x < o + 1 ∨ o + 9 ≤ x) ∧ x ≠ o + 40 → H1 x = tH h (o + 1) T x := fun x q1 q2 => by
      rw [f1 x q2.2, fr2 x q2.1]
    have hn1 : ∀ x, z.1 ≤ x → H1 x = none := fun x hx => by
      rw [f1 x (by omega), fr2 x (by omega)]
      exact hno x (by omega)
    have hC1 : ∀ x, C x → H1 x = tH h (o + 1) T x := fun x hx => fr1 x (hCC x hx).2 (by have := hCC x hx; omega)
    obtain ⟨g1, g2⟩ := hup (H1) (z) (C) (D) ((mI T.1 2 (zI n), T.2)) (P) (TI) (PI) (mI lu 2 (zI 0)) (mS u 1 (upd (u.1 1) 117 (zI n))) (fun x q1 q2 => fr1 x q1 (by omega)) (fun x q1 => fr1 x (by omega) (by omega)) (hX.fr (fun x hx => fr1 x (by unfold xK at hx; omega) (by unfold xK at hx; omega))) ⟨hTN'.fr (fun x q1 q2 => f1 x (by omega)) (fun x hx => f1 x (by have := hCC x hx; omega)) (fun _ h => h), hP.fr (fun x q1 q2 => fr1 x (by omega) (by omega)), pS_cg (fun j q1 q2 => upd_o (by omega)) hpS, rI_bell hI hn9⟩ (hgI.fr (fun x q1 q2 => fr1 x (by omega) (by omega)) hC1 (fun _ h => h)) (hgE.fr (fun x q1 q2 => fr1 x (by omega) (by omega))) ⟨cL1, hgL.2.1, Or.inl rfl⟩ (hgS.fr hC1 (fun _ h => h)) (fun x hx => Or.inl hx) (Nat.le_refl _) (by omega) (by omega) hn1
    have cr : am_f X 1000 215 [.ref (o + 66), .int (zI n)] (mH H1 (o + 66) u, z) = _ := r_bell_y (X := X) (d := 997) (h := H1) (z := z) hy
    exact gR_mk hM cc g1 g2 cr ⟨fun _ _ => rfl, rfl⟩ (Or.inr rfl)
end FH
