/-! the face: plans -/
section FD
variable {X : am_X} {o k : Nat} {H : am_H} {z : Nat × Nat} {u : mU}
theorem mEd.mq {u u' : mU} (h : mEd u u') : mQ u u' := ⟨fun j hj => h.1.1 j (by omega) (by omega) (by omega), h.1.2 10 (by omega)⟩
theorem mSt.mq {u u' : mU} (h : mSt u u') : mQ u u' := ⟨fun j hj => h.1.1 j (by omega) (by omega) (by omega), h.1.2 10 (by omega)⟩
theorem mSt.fr {u u' : mU} (h : mSt u u') : mFr u' := Or.inr h.2
theorem f_ruleMean (hK : gK o k H z u) (hM : cM H (o + 66) u) (hF : mFr u)  : gR X o k 104 239 [] H z u := by
  obtain ⟨C, D, T, P, Q, lu, m, a, N, hX, hTN, hP, hpS, hI, hpl, hr, hkn, hLH, hlow, hre⟩ := g_plan hK
  have hS := hTN.1
  have hT := hS.iT
  have hN := hTN.2.1
  have hG := hI.1
  have hL := hI.pl
  have hq := hI.qw
  have hm5 := hG.m.2
  have hsz := hS.sz
  have hbl := hS.bell
  have kp : am_f X 999 71 [.ref (o + 9), .ref (o + 1)] (H, z) = _ := p_packed (X := X) (d := 997) (z := z) hS hP hpS hL
  have kr : am_f X 999 90 [.ref (o + 9), .ref (o + 1)] (H, z) = _ := p_rank (X := X) (d := 997) (z := z) hS hP hpS hL
  obtain ⟨erk, rlt, ehas, -⟩ := lk_rk hr hG qRw.rf hL
  rw [erk] at kr
  have lci : am_ci1 ((H, z).1 (o + 40)) = some 4 := by
    have := lH_ci (h := H) (l := o + 40) (D := (lu, (o + 1, m, a, N))) (z := z)
    rw [hLH] at this
    exact this
  have ku : am_f X 999 105 [.ref (o + 40), .int (zI (pk (qDg (u.1 1)))), .int (zI (rkN T (u.1 1)))] (H, z) = some (.inl (some (.long (qRm (u.1 1)))), (H, z)) := by
    have := l_ruleMean (X := X) (d := 988) (z := z) (u := lu) hG hr hN hL hpl.st
    rw [hLH] at this
    exact this
  have cc : am_f X 1000 104 [.ref o] (H, z) = some (.inl (some (.long (qRm (u.1 1)))), (H, z)) := by
    show am_f X (999 + 1) 104 _ _ = _
    rw [fU_104]
    simp (disch := first | omega | exact Nat.le_of_ble_eq_true rfl | exact hX.ci | exact hT.ci | exact hP.ci | exact hX.ci | exact hT.ci | exact hP.ci | (refine xF_lt ?_; omega) | (refine tF_lt ?_; omega) | (refine pF_lt ?_; omega) | exact lci) only [own_104, am_go dc_104_0, J_aload_0, K_al, ld_0, am_go dc_104_1, J_getfield, gf_r, fk_0_41_0, am_go dc_104_4, am_go dc_104_5, fk_0_19_0, am_go dc_104_8, am_go dc_104_9, fk_0_12_0, am_go dc_104_12, cv_0_142_2 own_104, JR_v, JR_0, JR_ite, ci1_r, am_go dc_104_15, am_go dc_104_16, am_go dc_104_19, am_go dc_104_20, am_go dc_104_23, cv_0_198_2 own_104, am_go dc_104_26, cv_0_204_4 own_104, am_go dc_104_29, J_ret_l ret_104, xg_6, xg_1, xg_0, hX.c0, hX.c53, hX.c54, hX.c55, hX.c64, hX.c65, hT.c0, hT.c1, hT.c2, hT.c3, hT.c4, hT.c5, hT.c6, hT.c7, hP.c0, hP.c1, hP.c2, hP.c3, hP.c4, zI_add, zI_mul, zI_lt, zI_le, zI_eq, zI_neg, zI_pos, zI_ne0, zI_gt0, zB_0, lg_cmp_ge, lg_cmp_le, lg_cmp_gt, lg_cmp_lt, lg_cmp_eq, ail_r, abl_r, all_r, ais_r, abs_r, als_r, aal_r, aal_q, aln_r, vrf_s, vrf_n, z32, kp, kr, ku, Bool.true_eq_false, Bool.false_eq_true, zB_t, zB_f, i32_m1, i8_m3, i8_m4, rwF_v, List.length_cons, List.length_nil, Nat.reduceAdd, Nat.reduceLT, Nat.reduceLeDiff, Nat.reduceEqDiff, ↓reduceIte, bind_s, if_true, if_false, not_true_eq_false, not_false_eq_true, Nat.zero_add]
  obtain ⟨u2, cr0, cf⟩ := r_ruleMean (X := X) (d := 973) (h := H) (o := o + 66) (z := z) (u := u) hG hI.hw hF
  have cr : am_f X 1000 239 [.ref (o + 66)] (mH H (o + 66) u, z) = _ := cr0
  exact gR_id hK hM cc cr (mEd.mq cf) cf.fr
theorem f_best (hK : gK o k H z u) (hM : cM H (o + 66) u) (hF : mFr u)  : gR X o k 107 246 [] H z u := by
  obtain ⟨C, D, T, P, Q, lu, m, a, N, hX, hTN, hP, hpS, hI, hpl, hr, hkn, hLH, hlow, hre⟩ := g_plan hK
  have hS := hTN.1
  have hT := hS.iT
  have hN := hTN.2.1
  have hG := hI.1
  have hL := hI.pl
  have hq := hI.qw
  have hm5 := hG.m.2
  have hsz := hS.sz
  have hbl := hS.bell
  have kp : am_f X 999 71 [.ref (o + 9), .ref (o + 1)] (H, z) = _ := p_packed (X := X) (d := 997) (z := z) hS hP hpS hL
  have kr : am_f X 999 90 [.ref (o + 9), .ref (o + 1)] (H, z) = _ := p_rank (X := X) (d := 997) (z := z) hS hP hpS hL
  obtain ⟨erk, rlt, ehas, -⟩ := lk_rk hr hG qRw.rf hL
  rw [erk] at kr
  have lci : am_ci1 ((H, z).1 (o + 40)) = some 4 := by
    have := lH_ci (h := H) (l := o + 40) (D := (lu, (o + 1, m, a, N))) (z := z)
    rw [hLH] at this
    exact this
  obtain ⟨h', u1, m', a', N', z', e1, e2, e3, -, e5, e6⟩ := l_actAt (X := X) (d := 991) hpl hr hkn hL
  have fr : ∀ x, x < z.1 → lK (o + 40) x → x ≠ m → x ≠ a → lH h' (o + 40) (u1, (o + 1, m', a', N')) x = H x := fun x q1 q2 q3 q4 => by
    rw [e5 x q1 q2 q3 q4, hLH]
  obtain ⟨g1, g2, hX1⟩ := hre h' u1 m' a' N' z' e2 (Or.inr e3) fr e6
  rw [hLH] at e1
  have ke : am_f X 999 108 [.ref (o + 40), .int (zI (pk (qDg (u.1 1)))), .int (zI (rkN T (u.1 1)))] (H, z) = _ := e1
  have cc : am_f X 1000 107 [.ref o] (H, z) = some (.inl (some (.int (qB (u.1 1)).2)), (lH h' (o + 40) (u1, (o + 1, m', a', N')), z')) := by
    show am_f X (999 + 1) 107 _ _ = _
    rw [fU_107]
    simp (disch := first | omega | exact Nat.le_of_ble_eq_true rfl | exact hX.ci | exact hT.ci | exact hP.ci | exact hX.ci | exact hT.ci | exact hP.ci | (refine xF_lt ?_; omega) | (refine tF_lt ?_; omega) | (refine pF_lt ?_; omega) | exact lci) only [own_107, am_go dc_107_0, J_aload_0, K_al, ld_0, am_go dc_107_1, J_getfield, gf_r, fk_0_41_0, am_go dc_107_4, am_go dc_107_5, fk_0_19_0, am_go dc_107_8, am_go dc_107_9, fk_0_12_0, am_go dc_107_12, cv_0_142_2 own_107, JR_v, JR_0, JR_ite, ci1_r, am_go dc_107_15, am_go dc_107_16, am_go dc_107_19, am_go dc_107_20, am_go dc_107_23, cv_0_198_2 own_107, am_go dc_107_26, cv_0_208_4 own_107, am_go dc_107_29, J_ret_i ret_107, xg_6, xg_1, xg_0, hX.c0, hX.c53, hX.c54, hX.c55, hX.c64, hX.c65, hT.c0, hT.c1, hT.c2, hT.c3, hT.c4, hT.c5, hT.c6, hT.c7, hP.c0, hP.c1, hP.c2, hP.c3, hP.c4, zI_add, zI_mul, zI_lt, zI_le, zI_eq, zI_neg, zI_pos, zI_ne0, zI_gt0, zB_0, lg_cmp_ge, lg_cmp_le, lg_cmp_gt, lg_cmp_lt, lg_cmp_eq, ail_r, abl_r, all_r, ais_r, abs_r, als_r, aal_r, aal_q, aln_r, vrf_s, vrf_n, z32, kp, kr, ke, Bool.true_eq_false, Bool.false_eq_true, zB_t, zB_f, i32_m1, i8_m3, i8_m4, rwF_v, List.length_cons, List.length_nil, Nat.reduceAdd, Nat.reduceLT, Nat.reduceLeDiff, Nat.reduceEqDiff, ↓reduceIte, bind_s, if_true, if_false, not_true_eq_false, not_false_eq_true, Nat.zero_add]
  obtain ⟨u2, cr0, cf⟩ := r_best (X := X) (h := lH h' (o + 40) (u1, (o + 1, m', a', N'))) (o := o + 66) (z := z') (u := u) (d := 969) hG hI.hw hF
  have cr : am_f X 1000 246 [.ref (o + 66)] (mH (lH h' (o + 40) (u1, (o + 1, m', a', N'))) (o + 66) u, z') = _ := cr0
  exact gR_mk hM cc g1 g2 cr (mEd.mq cf) cf.fr
theorem f_bestMean (hK : gK o k H z u) (hM : cM H (o + 66) u) (hF : mFr u)  : gR X o k 124 249 [] H z u := by
  obtain ⟨C, D, T, P, Q, lu, m, a, N, hX, hTN, hP, hpS, hI, hpl, hr, hkn, hLH, hlow, hre⟩ := g_plan hK
  have hS := hTN.1
  have hT := hS.iT
  have hN := hTN.2.1
  have hG := hI.1
  have hL := hI.pl
  have hq := hI.qw
  have hm5 := hG.m.2
  have hsz := hS.sz
  have hbl := hS.bell
  have kp : am_f X 999 71 [.ref (o + 9), .ref (o + 1)] (H, z) = _ := p_packed (X := X) (d := 997) (z := z) hS hP hpS hL
  have kr : am_f X 999 90 [.ref (o + 9), .ref (o + 1)] (H, z) = _ := p_rank (X := X) (d := 997) (z := z) hS hP hpS hL
  obtain ⟨erk, rlt, ehas, -⟩ := lk_rk hr hG qRw.rf hL
  rw [erk] at kr
  have lci : am_ci1 ((H, z).1 (o + 40)) = some 4 := by
    have := lH_ci (h := H) (l := o + 40) (D := (lu, (o + 1, m, a, N))) (z := z)
    rw [hLH] at this
    exact this
  obtain ⟨h', u1, m', a', N', z', e1, e2, e3, -, e5, e6⟩ := l_meanAt (X := X) (d := 991) hpl hr hkn hL
  have fr : ∀ x, x < z.1 → lK (o + 40) x → x ≠ m → x ≠ a → lH h' (o + 40) (u1, (o + 1, m', a', N')) x = H x := fun x q1 q2 q3 q4 => by
    rw [e5 x q1 q2 q3 q4, hLH]
  obtain ⟨g1, g2, hX1⟩ := hre h' u1 m' a' N' z' e2 (Or.inr e3) fr e6
  rw [hLH] at e1
  have ke : am_f X 999 125 [.ref (o + 40), .int (zI (pk (qDg (u.1 1)))), .int (zI (rkN T (u.1 1)))] (H, z) = _ := e1
  have cc : am_f X 1000 124 [.ref o] (H, z) = some (.inl (some (.long (qB (u.1 1)).1)), (lH h' (o + 40) (u1, (o + 1, m', a', N')), z')) := by
    show am_f X (999 + 1) 124 _ _ = _
    rw [fU_124]
    simp (disch := first | omega | exact Nat.le_of_ble_eq_true rfl | exact hX.ci | exact hT.ci | exact hP.ci | exact hX.ci | exact hT.ci | exact hP.ci | (refine xF_lt ?_; omega) | (refine tF_lt ?_; omega) | (refine pF_lt ?_; omega) | exact lci) only [own_124, am_go dc_124_0, J_aload_0, K_al, ld_0, am_go dc_124_1, J_getfield, gf_r, fk_0_41_0, am_go dc_124_4, am_go dc_124_5, fk_0_19_0, am_go dc_124_8, am_go dc_124_9, fk_0_12_0, am_go dc_124_12, cv_0_142_2 own_124, JR_v, JR_0, JR_ite, ci1_r, am_go dc_124_15, am_go dc_124_16, am_go dc_124_19, am_go dc_124_20, am_go dc_124_23, cv_0_198_2 own_124, am_go dc_124_26, cv_0_211_4 own_124, am_go dc_124_29, J_ret_l ret_124, xg_6, xg_1, xg_0, hX.c0, hX.c53, hX.c54, hX.c55, hX.c64, hX.c65, hT.c0, hT.c1, hT.c2, hT.c3, hT.c4, hT.c5, hT.c6, hT.c7, hP.c0, hP.c1, hP.c2, hP.c3, hP.c4, zI_add, zI_mul, zI_lt, zI_le, zI_eq, zI_neg, zI_pos, zI_ne0, zI_gt0, zB_0, lg_cmp_ge, lg_cmp_le, lg_cmp_gt, lg_cmp_lt, lg_cmp_eq, ail_r, abl_r, all_r, ais_r, abs_r, als_r, aal_r, aal_q, aln_r, vrf_s, vrf_n, z32, kp, kr, ke, Bool.true_eq_false, Bool.false_eq_true, zB_t, zB_f, i32_m1, i8_m3, i8_m4, rwF_v, List.length_cons, List.length_nil, Nat.reduceAdd, Nat.reduceLT, Nat.reduceLeDiff, Nat.reduceEqDiff, ↓reduceIte, bind_s, if_true, if_false, not_true_eq_false, not_false_eq_true, Nat.zero_add]
  obtain ⟨u2, cr0, cf⟩ := r_bestMean (X := X) (h := lH h' (o + 40) (u1, (o + 1, m', a', N'))) (o := o + 66) (z := z') (u := u) (d := 970) hG hI.hw hF
  have cr : am_f X 1000 249 [.ref (o + 66)] (mH (lH h' (o + 40) (u1, (o + 1, m', a', N'))) (o + 66) u, z') = _ := cr0
  exact gR_mk hM cc g1 g2 cr (mEd.mq cf) cf.fr
theorem f_loss (hK : gK o k H z u) (hM : cM H (o + 66) u) (hF : mFr u)  : gR X o k 126 250 [] H z u := by
  obtain ⟨C, D, T, P, Q, lu, m, a, N, hX, hTN, hP, hpS, hI, hpl, hr, hkn, hLH, hlow, hre⟩ := g_plan hK
  have hS := hTN.1
  have hT := hS.iT
  have hN := hTN.2.1
  have hG := hI.1
  have hL := hI.pl
  have hq := hI.qw
  have hm5 := hG.m.2
  have hsz := hS.sz
  have hbl := hS.bell
  have kp : am_f X 999 71 [.ref (o + 9), .ref (o + 1)] (H, z) = _ := p_packed (X := X) (d := 997) (z := z) hS hP hpS hL
  have kr : am_f X 999 90 [.ref (o + 9), .ref (o + 1)] (H, z) = _ := p_rank (X := X) (d := 997) (z := z) hS hP hpS hL
  obtain ⟨erk, rlt, ehas, -⟩ := lk_rk hr hG qRw.rf hL
  rw [erk] at kr
  have lci : am_ci1 ((H, z).1 (o + 40)) = some 4 := by
    have := lH_ci (h := H) (l := o + 40) (D := (lu, (o + 1, m, a, N))) (z := z)
    rw [hLH] at this
    exact this
  obtain ⟨h', u1, m', a', N', z', e1, e2, e3, -, e5, e6⟩ := l_meanAt (X := X) (d := 991) hpl hr hkn hL
  have fr : ∀ x, x < z.1 → lK (o + 40) x → x ≠ m → x ≠ a → lH h' (o + 40) (u1, (o + 1, m', a', N')) x = H x := fun x q1 q2 q3 q4 => by
    rw [e5 x q1 q2 q3 q4, hLH]
  obtain ⟨g1, g2, hX1⟩ := hre h' u1 m' a' N' z' e2 (Or.inr e3) fr e6
  rw [hLH] at e1
  have ke : am_f X 999 125 [.ref (o + 40), .int (zI (pk (qDg (u.1 1)))), .int (zI (rkN T (u.1 1)))] (H, z) = _ := e1
  have ku : am_f X 999 105 [.ref (o + 40), .int (zI (pk (qDg (u.1 1)))), .int (zI (rkN T (u.1 1)))] (lH h' (o + 40) (u1, (o + 1, m', a', N')), z') = _ := l_ruleMean (X := X) (d := 988) (z := z') (u := u1) hG hr hN hL e2.st
  have cc : am_f X 1000 126 [.ref o] (H, z) = some (.inl (some (.long ((qB (u.1 1)).1 - qRm (u.1 1)))), (lH h' (o + 40) (u1, (o + 1, m', a', N')), z')) := by
    show am_f X (999 + 1) 126 _ _ = _
    rw [fU_126]
    simp (disch := first | omega | exact Nat.le_of_ble_eq_true rfl | exact hX.ci | exact hT.ci | exact hP.ci | exact hX.ci | exact hT.ci | exact hP.ci | (refine xF_lt ?_; omega) | (refine tF_lt ?_; omega) | (refine pF_lt ?_; omega) | exact lci | exact hX1.ci | exact lH_ci) only [own_126, am_go dc_126_0, J_aload_0, K_al, ld_0, am_go dc_126_1, J_getfield, gf_r, fk_0_19_0, am_go dc_126_4, am_go dc_126_5, fk_0_12_0, am_go dc_126_8, cv_0_142_2 own_126, JR_v, JR_0, JR_ite, ci1_r, am_go dc_126_11, J_istore_1, st1_0, st1_1, st1_s, kl_i, kl_l, kl_r, kl_n, am_go dc_126_12, am_go dc_126_13, am_go dc_126_16, am_go dc_126_17, am_go dc_126_20, cv_0_198_2 own_126, am_go dc_126_23, J_istore_2, am_go dc_126_24, am_go dc_126_25, fk_0_41_0, am_go dc_126_28, J_iload_1, K_il, ld_1, am_go dc_126_29, J_iload_2, ld_2, am_go dc_126_30, cv_0_211_4 own_126, am_go dc_126_33, am_go dc_126_34, am_go dc_126_37, am_go dc_126_38, am_go dc_126_39, cv_0_204_4 own_126, am_go dc_126_42, J_lsub, am_go dc_126_43, J_ret_l ret_126, xg_1, xg_0, xg_6, hX.c0, hX.c53, hX.c54, hX.c55, hX.c64, hX.c65, hT.c0, hT.c1, hT.c2, hT.c3, hT.c4, hT.c5, hT.c6, hT.c7, hP.c0, hP.c1, hP.c2, hP.c3, hP.c4, zI_add, zI_mul, zI_lt, zI_le, zI_eq, zI_neg, zI_pos, zI_ne0, zI_gt0, zB_0, lg_cmp_ge, lg_cmp_le, lg_cmp_gt, lg_cmp_lt, lg_cmp_eq, ail_r, abl_r, all_r, ais_r, abs_r, als_r, aal_r, aal_q, aln_r, vrf_s, vrf_n, z32, kp, kr, ke, ku, hX1.c0, Bool.true_eq_false, Bool.false_eq_true, zB_t, zB_f, i32_m1, i8_m3, i8_m4, rwF_v, List.length_cons, List.length_nil, Nat.reduceAdd, Nat.reduceLT, Nat.reduceLeDiff, Nat.reduceEqDiff, ↓reduceIte, bind_s, if_true, if_false, not_true_eq_false, not_false_eq_true, Nat.zero_add]
  obtain ⟨u2, cr0, cf⟩ := r_loss (X := X) (h := lH h' (o + 40) (u1, (o + 1, m', a', N'))) (o := o + 66) (z := z') (u := u) (d := 970) hG hI.hw hF
  have cr : am_f X 1000 250 [.ref (o + 66)] (mH (lH h' (o + 40) (u1, (o + 1, m', a', N'))) (o + 66) u, z') = _ := cr0
  exact gR_mk hM cc g1 g2 cr (mEd.mq cf) cf.fr
theorem f_breach (hK : gK o k H z u) (hM : cM H (o + 66) u) (hF : mFr u) (hX5 : X.1 X.2 = some (5, am_five)) (hXo : X.2 < o) : gR X o k 127 251 [] H z u := by
  obtain ⟨C, D, T, P, Q, lu, m, a, N, hX, hTN, hP, hpS, hI, hpl, hr, hkn, hLH, hlow, hre⟩ := g_plan hK
  have hS := hTN.1
  have hT := hS.iT
  have hN := hTN.2.1
  have hG := hI.1
  have hL := hI.pl
  have hq := hI.qw
  have hm5 := hG.m.2
  have hsz := hS.sz
  have hbl := hS.bell
  have kp : am_f X 999 71 [.ref (o + 9), .ref (o + 1)] (H, z) = _ := p_packed (X := X) (d := 997) (z := z) hS hP hpS hL
  have kr : am_f X 999 90 [.ref (o + 9), .ref (o + 1)] (H, z) = _ := p_rank (X := X) (d := 997) (z := z) hS hP hpS hL
  obtain ⟨erk, rlt, ehas, -⟩ := lk_rk hr hG qRw.rf hL
  rw [erk] at kr
  have lci : am_ci1 ((H, z).1 (o + 40)) = some 4 := by
    have := lH_ci (h := H) (l := o + 40) (D := (lu, (o + 1, m, a, N))) (z := z)
    rw [hLH] at this
    exact this
  have kd : am_f X 999 96 [.ref (o + 9)] (H, z) = _ := p_digits (X := X) (d := 998) (z := z) hP hpS
  rw [q5_v hI.hw] at kd
  obtain ⟨w1, w2, w3, w4, w5⟩ := hlow X.2 hXo
  obtain ⟨h', u1, m', a', N', z', e1, e2, e3, e5, e6⟩ := l_breach (X := X) (d := 988) (u := lu) hX5 w5 ⟨w1, w2, w3⟩ (by rw [hLH]; exact w4) hpl hr hN hkn hL
  have fr : ∀ x, x < z.1 → lK (o + 40) x → x ≠ m → x ≠ a → lH h' (o + 40) (u1, (o + 1, m', a', N')) x = H x := fun x q1 q2 q3 q4 => by
    rw [e5 x q1 q2 q3 q4, hLH]
  obtain ⟨g1, g2, hX1⟩ := hre h' u1 m' a' N' z' e2 (Or.inr e3) fr e6
  rw [hLH] at e1
  have ke : am_f X 999 128 [.ref (o + 40), .int (zI (pk (qDg (u.1 1)))), .int (zI (rkN T (u.1 1))), .int (zI (N5 (u.1 1)))] (H, z) = _ := e1
  have cc : am_f X 1000 127 [.ref o] (H, z) = some (.inl (some (.int (qBf (u.1 1)))), (lH h' (o + 40) (u1, (o + 1, m', a', N')), z')) := by
    show am_f X (999 + 1) 127 _ _ = _
    rw [fU_127]
    simp (disch := first | omega | exact Nat.le_of_ble_eq_true rfl | exact hX.ci | exact hT.ci | exact hP.ci | exact hX.ci | exact hT.ci | exact hP.ci | (refine xF_lt ?_; omega) | (refine tF_lt ?_; omega) | (refine pF_lt ?_; omega) | exact lci) only [own_127, am_go dc_127_0, J_aload_0, K_al, ld_0, am_go dc_127_1, J_getfield, gf_r, fk_0_41_0, am_go dc_127_4, am_go dc_127_5, fk_0_19_0, am_go dc_127_8, am_go dc_127_9, fk_0_12_0, am_go dc_127_12, cv_0_142_2 own_127, JR_v, JR_0, JR_ite, ci1_r, am_go dc_127_15, am_go dc_127_16, am_go dc_127_19, am_go dc_127_20, am_go dc_127_23, cv_0_198_2 own_127, am_go dc_127_26, am_go dc_127_27, am_go dc_127_30, cv_0_171_2 own_127, am_go dc_127_33, cv_0_214_4 own_127, am_go dc_127_36, J_ret_i ret_127, xg_6, xg_1, xg_0, hX.c0, hX.c53, hX.c54, hX.c55, hX.c64, hX.c65, hT.c0, hT.c1, hT.c2, hT.c3, hT.c4, hT.c5, hT.c6, hT.c7, hP.c0, hP.c1, hP.c2, hP.c3, hP.c4, zI_add, zI_mul, zI_lt, zI_le, zI_eq, zI_neg, zI_pos, zI_ne0, zI_gt0, zB_0, lg_cmp_ge, lg_cmp_le, lg_cmp_gt, lg_cmp_lt, lg_cmp_eq, ail_r, abl_r, all_r, ais_r, abs_r, als_r, aal_r, aal_q, aln_r, vrf_s, vrf_n, z32, kp, kr, kd, ke, Bool.true_eq_false, Bool.false_eq_true, zB_t, zB_f, i32_m1, i8_m3, i8_m4, rwF_v, List.length_cons, List.length_nil, Nat.reduceAdd, Nat.reduceLT, Nat.reduceLeDiff, Nat.reduceEqDiff, ↓reduceIte, bind_s, if_true, if_false, not_true_eq_false, not_false_eq_true, Nat.zero_add]
  obtain ⟨u2, cr0, cf⟩ := r_breach (X := X) (h := lH h' (o + 40) (u1, (o + 1, m', a', N'))) (o := o + 66) (z := z') (u := u) (d := 958) hG hI.hw hF
  have cr : am_f X 1000 251 [.ref (o + 66)] (mH (lH h' (o + 40) (u1, (o + 1, m', a', N'))) (o + 66) u, z') = _ := cr0
  exact gR_mk hM cc g1 g2 cr (mEd.mq cf) cf.fr
theorem f_likely (hK : gK o k H z u) (hM : cM H (o + 66) u) (hF : mFr u) {x y : Int32} : gR X o k 130 253 [.int x, .int y] H z u := by
  obtain ⟨C, D, T, P, Q, lu, m, a, N, hX, hTN, hP, hpS, hI, hpl, hr, hkn, hLH, hlow, hre⟩ := g_plan hK
  have hS := hTN.1
  have hT := hS.iT
  have hN := hTN.2.1
  have hG := hI.1
  have hL := hI.pl
  have hq := hI.qw
  have hm5 := hG.m.2
  have hsz := hS.sz
  have hbl := hS.bell
  have kp : am_f X 999 71 [.ref (o + 9), .ref (o + 1)] (H, z) = _ := p_packed (X := X) (d := 997) (z := z) hS hP hpS hL
  have kr : am_f X 999 90 [.ref (o + 9), .ref (o + 1)] (H, z) = _ := p_rank (X := X) (d := 997) (z := z) hS hP hpS hL
  obtain ⟨erk, rlt, ehas, -⟩ := lk_rk hr hG qRw.rf hL
  rw [erk] at kr
  have lci : am_ci1 ((H, z).1 (o + 40)) = some 4 := by
    have := lH_ci (h := H) (l := o + 40) (D := (lu, (o + 1, m, a, N))) (z := z)
    rw [hLH] at this
    exact this
  have kh : am_f X 999 32 [.ref (o + 1), .int (x)] (H, z) = _ := c_has (X := X) (d := 998) (z := z) hS
  have kho : am_f X 999 131 [.ref (o + 9), .ref (o + 1)] (H, z) = _ := p_holder (X := X) (d := 996) (z := z) hS hP hpS hL
  rw [lk_hd hr hG qRw.rf hL] at kho
  cases hx : qIs x (wN (u.1 1 116)) with
  | false =>
    rw [hx] at kh
    have cc : am_f X 1000 130 [.ref o, .int x, .int y] (H, z) = some (.inl (some (.long (-1))), (H, z)) := by
      show am_f X (999 + 1) 130 _ _ = _
      rw [fU_130]
      simp (disch := first | omega | exact Nat.le_of_ble_eq_true rfl | exact hX.ci | exact hT.ci | exact hP.ci | exact hX.ci | exact hT.ci | exact hP.ci | (refine xF_lt ?_; omega) | (refine tF_lt ?_; omega) | (refine pF_lt ?_; omega) | exact lci) only [own_130, am_go dc_130_0, J_aload_0, K_al, ld_0, am_go dc_130_1, J_getfield, gf_r, fk_0_12_0, am_go dc_130_4, J_iload_1, K_il, ld_1, am_go dc_130_5, cv_0_94_1 own_130, JR_v, JR_0, JR_ite, ci1_r, am_go dc_130_8, J_if_eq, am_go dc_130_11, J_iload_2, ld_2, am_go dc_130_12, J_if_lt, am_go dc_130_15, am_go dc_130_16, J_iconst, c32_1, am_go dc_130_17, J_icmp_le, am_go dc_130_20, J_ldc2, cj_0_217, am_go dc_130_23, J_ret_l ret_130, am_go dc_130_24, am_go dc_130_25, fk_0_41_0, am_go dc_130_28, am_go dc_130_29, fk_0_19_0, am_go dc_130_32, am_go dc_130_33, am_go dc_130_36, cv_0_142_2 own_130, am_go dc_130_39, am_go dc_130_40, am_go dc_130_43, am_go dc_130_44, am_go dc_130_47, cv_0_198_2 own_130, am_go dc_130_50, am_go dc_130_51, am_go dc_130_54, am_go dc_130_55, am_go dc_130_58, cv_0_219_2 own_130, am_go dc_130_61, cv_0_222_4 own_130, am_go dc_130_64, am_go dc_130_65, J_if_ne, am_go dc_130_68, am_go dc_130_69, am_go dc_130_72, fk_0_226_4, am_go dc_130_75, am_go dc_130_76, J_laload, am_go dc_130_77, J_goto, am_go dc_130_80, am_go dc_130_81, am_go dc_130_84, fk_0_229_4, am_go dc_130_87, am_go dc_130_88, am_go dc_130_89, xg_0, xg_6, xg_1, lg_12, lg_13, hX.c0, hX.c53, hX.c54, hX.c55, hX.c64, hX.c65, hT.c0, hT.c1, hT.c2, hT.c3, hT.c4, hT.c5, hT.c6, hT.c7, hP.c0, hP.c1, hP.c2, hP.c3, hP.c4, zI_add, zI_mul, zI_lt, zI_le, zI_eq, zI_neg, zI_pos, zI_ne0, zI_gt0, zB_0, lg_cmp_ge, lg_cmp_le, lg_cmp_gt, lg_cmp_lt, lg_cmp_eq, ail_r, abl_r, all_r, ais_r, abs_r, als_r, aal_r, aal_q, aln_r, vrf_s, vrf_n, z32, kh, Bool.true_eq_false, Bool.false_eq_true, zB_t, zB_f, i32_m1, i8_m3, i8_m4, rwF_v, List.length_cons, List.length_nil, Nat.reduceAdd, Nat.reduceLT, Nat.reduceLeDiff, Nat.reduceEqDiff, ↓reduceIte, bind_s, if_true, if_false, not_true_eq_false, not_false_eq_true, Nat.zero_add]
    have cr : am_f X 1000 253 [.ref (o + 66), .int x, .int y] (mH H (o + 66) u, z) = _ := r_likely_n (X := X) (d := 997) (h := H) (z := z) hq hx
    exact gR_id hK hM cc cr mQ.rf hF
  | true =>
    obtain ⟨e1, e2⟩ := qIs_get hx
    generalize wN x = b at *
    subst e1
    rw [hx] at kh
    have hb5 : b < 5 := by omega
    cases hy : qIs y 2 with
    | false =>
      have cr : am_f X 1000 253 [.ref (o + 66), .int (zI b), .int y] (mH H (o + 66) u, z) = _ := r_likely_m (X := X) (d := 997) (h := H) (z := z) hq e2 hy
      rcases qIs_b (n := 1) (by omega) hy with q | ⟨q1, q2⟩
      · have cc : am_f X 1000 130 [.ref o, .int (zI b), .int y] (H, z) = some (.inl (some (.long (-1))), (H, z)) := by
          show am_f X (999 + 1) 130 _ _ = _
          rw [fU_130]
          simp (disch := first | omega | exact Nat.le_of_ble_eq_true rfl | exact hX.ci | exact hT.ci | exact hP.ci | exact hX.ci | exact hT.ci | exact hP.ci | (refine xF_lt ?_; omega) | (refine tF_lt ?_; omega) | (refine pF_lt ?_; omega) | exact lci) only [own_130, am_go dc_130_0, J_aload_0, K_al, ld_0, am_go dc_130_1, J_getfield, gf_r, fk_0_12_0, am_go dc_130_4, J_iload_1, K_il, ld_1, am_go dc_130_5, cv_0_94_1 own_130, JR_v, JR_0, JR_ite, ci1_r, am_go dc_130_8, J_if_eq, am_go dc_130_11, J_iload_2, ld_2, am_go dc_130_12, J_if_lt, am_go dc_130_15, am_go dc_130_16, J_iconst, c32_1, am_go dc_130_17, J_icmp_le, am_go dc_130_20, J_ldc2, cj_0_217, am_go dc_130_23, J_ret_l ret_130, am_go dc_130_24, am_go dc_130_25, fk_0_41_0, am_go dc_130_28, am_go dc_130_29, fk_0_19_0, am_go dc_130_32, am_go dc_130_33, am_go dc_130_36, cv_0_142_2 own_130, am_go dc_130_39, am_go dc_130_40, am_go dc_130_43, am_go dc_130_44, am_go dc_130_47, cv_0_198_2 own_130, am_go dc_130_50, am_go dc_130_51, am_go dc_130_54, am_go dc_130_55, am_go dc_130_58, cv_0_219_2 own_130, am_go dc_130_61, cv_0_222_4 own_130, am_go dc_130_64, am_go dc_130_65, J_if_ne, am_go dc_130_68, am_go dc_130_69, am_go dc_130_72, fk_0_226_4, am_go dc_130_75, am_go dc_130_76, J_laload, am_go dc_130_77, J_goto, am_go dc_130_80, am_go dc_130_81, am_go dc_130_84, fk_0_229_4, am_go dc_130_87, am_go dc_130_88, am_go dc_130_89, xg_0, xg_6, xg_1, lg_12, lg_13, hX.c0, hX.c53, hX.c54, hX.c55, hX.c64, hX.c65, hT.c0, hT.c1, hT.c2, hT.c3, hT.c4, hT.c5, hT.c6, hT.c7, hP.c0, hP.c1, hP.c2, hP.c3, hP.c4, zI_add, zI_mul, zI_lt, zI_le, zI_eq, zI_neg, zI_pos, zI_ne0, zI_gt0, zB_0, lg_cmp_ge, lg_cmp_le, lg_cmp_gt, lg_cmp_lt, lg_cmp_eq, ail_r, abl_r, all_r, ais_r, abs_r, als_r, aal_r, aal_q, aln_r, vrf_s, vrf_n, z32, kh, q, Bool.true_eq_false, Bool.false_eq_true, zB_t, zB_f, i32_m1, i8_m3, i8_m4, rwF_v, List.length_cons, List.length_nil, Nat.reduceAdd, Nat.reduceLT, Nat.reduceLeDiff, Nat.reduceEqDiff, ↓reduceIte, bind_s, if_true, if_false, not_true_eq_false, not_false_eq_true, Nat.zero_add]
        exact gR_id hK hM cc cr mQ.rf hF
      · have cc : am_f X 1000 130 [.ref o, .int (zI b), .int y] (H, z) = some (.inl (some (.long (-1))), (H, z)) := by
          show am_f X (999 + 1) 130 _ _ = _
          rw [fU_130]
          simp (disch := first | omega | exact Nat.le_of_ble_eq_true rfl | exact hX.ci | exact hT.ci | exact hP.ci | exact hX.ci | exact hT.ci | exact hP.ci | (refine xF_lt ?_; omega) | (refine tF_lt ?_; omega) | (refine pF_lt ?_; omega) | exact lci) only [own_130, am_go dc_130_0, J_aload_0, K_al, ld_0, am_go dc_130_1, J_getfield, gf_r, fk_0_12_0, am_go dc_130_4, J_iload_1, K_il, ld_1, am_go dc_130_5, cv_0_94_1 own_130, JR_v, JR_0, JR_ite, ci1_r, am_go dc_130_8, J_if_eq, am_go dc_130_11, J_iload_2, ld_2, am_go dc_130_12, J_if_lt, am_go dc_130_15, am_go dc_130_16, J_iconst, c32_1, am_go dc_130_17, J_icmp_le, am_go dc_130_20, J_ldc2, cj_0_217, am_go dc_130_23, J_ret_l ret_130, am_go dc_130_24, am_go dc_130_25, fk_0_41_0, am_go dc_130_28, am_go dc_130_29, fk_0_19_0, am_go dc_130_32, am_go dc_130_33, am_go dc_130_36, cv_0_142_2 own_130, am_go dc_130_39, am_go dc_130_40, am_go dc_130_43, am_go dc_130_44, am_go dc_130_47, cv_0_198_2 own_130, am_go dc_130_50, am_go dc_130_51, am_go dc_130_54, am_go dc_130_55, am_go dc_130_58, cv_0_219_2 own_130, am_go dc_130_61, cv_0_222_4 own_130, am_go dc_130_64, am_go dc_130_65, J_if_ne, am_go dc_130_68, am_go dc_130_69, am_go dc_130_72, fk_0_226_4, am_go dc_130_75, am_go dc_130_76, J_laload, am_go dc_130_77, J_goto, am_go dc_130_80, am_go dc_130_81, am_go dc_130_84, fk_0_229_4, am_go dc_130_87, am_go dc_130_88, am_go dc_130_89, xg_0, xg_6, xg_1, lg_12, lg_13, hX.c0, hX.c53, hX.c54, hX.c55, hX.c64, hX.c65, hT.c0, hT.c1, hT.c2, hT.c3, hT.c4, hT.c5, hT.c6, hT.c7, hP.c0, hP.c1, hP.c2, hP.c3, hP.c4, zI_add, zI_mul, zI_lt, zI_le, zI_eq, zI_neg, zI_pos, zI_ne0, zI_gt0, zB_0, lg_cmp_ge, lg_cmp_le, lg_cmp_gt, lg_cmp_lt, lg_cmp_eq, ail_r, abl_r, all_r, ais_r, abs_r, als_r, aal_r, aal_q, aln_r, vrf_s, vrf_n, z32, kh, q1, q2, Bool.true_eq_false, Bool.false_eq_true, zB_t, zB_f, i32_m1, i8_m3, i8_m4, rwF_v, List.length_cons, List.length_nil, Nat.reduceAdd, Nat.reduceLT, Nat.reduceLeDiff, Nat.reduceEqDiff, ↓reduceIte, bind_s, if_true, if_false, not_true_eq_false, not_false_eq_true, Nat.zero_add]
        exact gR_id hK hM cc cr mQ.rf hF
    | true =>
      obtain ⟨gg, f2⟩ := qIs_get hy
      generalize wN y = c at *
      subst gg
      have hb' := e2
      obtain ⟨h', u1, m', a', N', z', e1, e2, e3, e5, e6, e7⟩ := l_follow (X := X) (d := 981) hpl hr hkn hL
      have fr : ∀ x, x < z.1 → lK (o + 40) x → x ≠ m → x ≠ a → lH h' (o + 40) (u1, (o + 1, m', a', N')) x = H x := fun x q1 q2 q3 q4 => by
        rw [e5 x q1 q2 q3 q4, hLH]
      obtain ⟨g1, g2, hX1⟩ := hre h' u1 m' a' N' z' e2 (Or.inr e3) fr e6
      rw [hLH] at e1
      have ke : am_f X 999 132 [.ref (o + 40), .int (zI (pk (qDg (u.1 1)))), .int (zI (rkN T (u.1 1))), .int (hdV T (u.1 1) (wN (u.1 1 116)))] (H, z) = _ := e1
      obtain ⟨l1, l2⟩ := e7 b hb'
      rcases (by omega : c = 0 ∨ c = 1) with rfl | rfl
      · have cc : am_f X 1000 130 [.ref o, .int (zI b), .int (zI 0)] (H, z) = some (.inl (some (.long (qLf b false (u.1 1)))), (lH h' (o + 40) (u1, (o + 1, m', a', N')), z')) := by
          show am_f X (999 + 1) 130 _ _ = _
          rw [fU_130]
          simp (disch := first | omega | exact Nat.le_of_ble_eq_true rfl | exact hX.ci | exact hT.ci | exact hP.ci | exact hX.ci | exact hT.ci | exact hP.ci | (refine xF_lt ?_; omega) | (refine tF_lt ?_; omega) | (refine pF_lt ?_; omega) | exact lci | exact hX1.ci | exact lH_ci | (refine lF_lt ?_; omega)) only [own_130, am_go dc_130_0, J_aload_0, K_al, ld_0, am_go dc_130_1, J_getfield, gf_r, fk_0_12_0, am_go dc_130_4, J_iload_1, K_il, ld_1, am_go dc_130_5, cv_0_94_1 own_130, JR_v, JR_0, JR_ite, ci1_r, am_go dc_130_8, J_if_eq, am_go dc_130_11, J_iload_2, ld_2, am_go dc_130_12, J_if_lt, am_go dc_130_15, am_go dc_130_16, J_iconst, c32_1, am_go dc_130_17, J_icmp_le, am_go dc_130_20, J_ldc2, cj_0_217, am_go dc_130_23, J_ret_l ret_130, am_go dc_130_24, am_go dc_130_25, fk_0_41_0, am_go dc_130_28, am_go dc_130_29, fk_0_19_0, am_go dc_130_32, am_go dc_130_33, am_go dc_130_36, cv_0_142_2 own_130, am_go dc_130_39, am_go dc_130_40, am_go dc_130_43, am_go dc_130_44, am_go dc_130_47, cv_0_198_2 own_130, am_go dc_130_50, am_go dc_130_51, am_go dc_130_54, am_go dc_130_55, am_go dc_130_58, cv_0_219_2 own_130, am_go dc_130_61, cv_0_222_4 own_130, am_go dc_130_64, am_go dc_130_65, J_if_ne, am_go dc_130_68, am_go dc_130_69, am_go dc_130_72, fk_0_226_4, am_go dc_130_75, am_go dc_130_76, J_laload, am_go dc_130_77, J_goto, am_go dc_130_80, am_go dc_130_81, am_go dc_130_84, fk_0_229_4, am_go dc_130_87, am_go dc_130_88, am_go dc_130_89, xg_0, xg_6, xg_1, lg_12, lg_13, hX.c0, hX.c53, hX.c54, hX.c55, hX.c64, hX.c65, hT.c0, hT.c1, hT.c2, hT.c3, hT.c4, hT.c5, hT.c6, hT.c7, hP.c0, hP.c1, hP.c2, hP.c3, hP.c4, zI_add, zI_mul, zI_lt, zI_le, zI_eq, zI_neg, zI_pos, zI_ne0, zI_gt0, zB_0, lg_cmp_ge, lg_cmp_le, lg_cmp_gt, lg_cmp_lt, lg_cmp_eq, ail_r, abl_r, all_r, ais_r, abs_r, als_r, aal_r, aal_q, aln_r, vrf_s, vrf_n, z32, kh, kp, kr, kho, ke, hX1.c0, l1, lH_0, lH_7, lH_8, Bool.true_eq_false, Bool.false_eq_true, zB_t, zB_f, i32_m1, i8_m3, i8_m4, rwF_v, List.length_cons, List.length_nil, Nat.reduceAdd, Nat.reduceLT, Nat.reduceLeDiff, Nat.reduceEqDiff, ↓reduceIte, bind_s, if_true, if_false, not_true_eq_false, not_false_eq_true, Nat.zero_add]
        obtain ⟨u2, cr0, cf⟩ := r_likely_y (X := X) (h := lH h' (o + 40) (u1, (o + 1, m', a', N'))) (o := o + 66) (z := z') (u := u) (d := 960) (k := 0) hG hI.hw hF hb' (by omega)
        have cr : am_f X 1000 253 [.ref (o + 66), .int (zI b), .int (zI 0)] (mH (lH h' (o + 40) (u1, (o + 1, m', a', N'))) (o + 66) u, z') = _ := cr0
        exact gR_mk hM cc g1 g2 cr (mEd.mq cf) cf.fr
      · have cc : am_f X 1000 130 [.ref o, .int (zI b), .int (zI 1)] (H, z) = some (.inl (some (.long (qLf b true (u.1 1)))), (lH h' (o + 40) (u1, (o + 1, m', a', N')), z')) := by
          show am_f X (999 + 1) 130 _ _ = _
          rw [fU_130]
          simp (disch := first | omega | exact Nat.le_of_ble_eq_true rfl | exact hX.ci | exact hT.ci | exact hP.ci | exact hX.ci | exact hT.ci | exact hP.ci | (refine xF_lt ?_; omega) | (refine tF_lt ?_; omega) | (refine pF_lt ?_; omega) | exact lci | exact hX1.ci | exact lH_ci | (refine lF_lt ?_; omega)) only [own_130, am_go dc_130_0, J_aload_0, K_al, ld_0, am_go dc_130_1, J_getfield, gf_r, fk_0_12_0, am_go dc_130_4, J_iload_1, K_il, ld_1, am_go dc_130_5, cv_0_94_1 own_130, JR_v, JR_0, JR_ite, ci1_r, am_go dc_130_8, J_if_eq, am_go dc_130_11, J_iload_2, ld_2, am_go dc_130_12, J_if_lt, am_go dc_130_15, am_go dc_130_16, J_iconst, c32_1, am_go dc_130_17, J_icmp_le, am_go dc_130_20, J_ldc2, cj_0_217, am_go dc_130_23, J_ret_l ret_130, am_go dc_130_24, am_go dc_130_25, fk_0_41_0, am_go dc_130_28, am_go dc_130_29, fk_0_19_0, am_go dc_130_32, am_go dc_130_33, am_go dc_130_36, cv_0_142_2 own_130, am_go dc_130_39, am_go dc_130_40, am_go dc_130_43, am_go dc_130_44, am_go dc_130_47, cv_0_198_2 own_130, am_go dc_130_50, am_go dc_130_51, am_go dc_130_54, am_go dc_130_55, am_go dc_130_58, cv_0_219_2 own_130, am_go dc_130_61, cv_0_222_4 own_130, am_go dc_130_64, am_go dc_130_65, J_if_ne, am_go dc_130_68, am_go dc_130_69, am_go dc_130_72, fk_0_226_4, am_go dc_130_75, am_go dc_130_76, J_laload, am_go dc_130_77, J_goto, am_go dc_130_80, am_go dc_130_81, am_go dc_130_84, fk_0_229_4, am_go dc_130_87, am_go dc_130_88, am_go dc_130_89, xg_0, xg_6, xg_1, lg_12, lg_13, hX.c0, hX.c53, hX.c54, hX.c55, hX.c64, hX.c65, hT.c0, hT.c1, hT.c2, hT.c3, hT.c4, hT.c5, hT.c6, hT.c7, hP.c0, hP.c1, hP.c2, hP.c3, hP.c4, zI_add, zI_mul, zI_lt, zI_le, zI_eq, zI_neg, zI_pos, zI_ne0, zI_gt0, zB_0, lg_cmp_ge, lg_cmp_le, lg_cmp_gt, lg_cmp_lt, lg_cmp_eq, ail_r, abl_r, all_r, ais_r, abs_r, als_r, aal_r, aal_q, aln_r, vrf_s, vrf_n, z32, kh, kp, kr, kho, ke, hX1.c0, l2, lH_0, lH_7, lH_8, Bool.true_eq_false, Bool.false_eq_true, zB_t, zB_f, i32_m1, i8_m3, i8_m4, rwF_v, List.length_cons, List.length_nil, Nat.reduceAdd, Nat.reduceLT, Nat.reduceLeDiff, Nat.reduceEqDiff, ↓reduceIte, bind_s, if_true, if_false, not_true_eq_false, not_false_eq_true, Nat.zero_add]
        obtain ⟨u2, cr0, cf⟩ := r_likely_y (X := X) (h := lH h' (o + 40) (u1, (o + 1, m', a', N'))) (o := o + 66) (z := z') (u := u) (d := 960) (k := 1) hG hI.hw hF hb' (by omega)
        have cr : am_f X 1000 253 [.ref (o + 66), .int (zI b), .int (zI 1)] (mH (lH h' (o + 40) (u1, (o + 1, m', a', N'))) (o + 66) u, z') = _ := cr0
        exact gR_mk hM cc g1 g2 cr (mEd.mq cf) cf.fr
theorem f_edge (hK : gK o k H z u) (hM : cM H (o + 66) u) (hF : mFr u) {x : Int32} : gR X o k 137 256 [.int x] H z u := by
  obtain ⟨C, D, T, P, Q, lu, m, a, N, hX, hTN, hP, hpS, hI, hpl, hr, hkn, hLH, hlow, hre⟩ := g_plan hK
  have hS := hTN.1
  have hT := hS.iT
  have hN := hTN.2.1
  have hG := hI.1
  have hL := hI.pl
  have hq := hI.qw
  have hm5 := hG.m.2
  have hsz := hS.sz
  have hbl := hS.bell
  have kp : am_f X 999 71 [.ref (o + 9), .ref (o + 1)] (H, z) = _ := p_packed (X := X) (d := 997) (z := z) hS hP hpS hL
  have kr : am_f X 999 90 [.ref (o + 9), .ref (o + 1)] (H, z) = _ := p_rank (X := X) (d := 997) (z := z) hS hP hpS hL
  obtain ⟨erk, rlt, ehas, -⟩ := lk_rk hr hG qRw.rf hL
  rw [erk] at kr
  have lci : am_ci1 ((H, z).1 (o + 40)) = some 4 := by
    have := lH_ci (h := H) (l := o + 40) (D := (lu, (o + 1, m, a, N))) (z := z)
    rw [hLH] at this
    exact this
  have kh : am_f X 999 32 [.ref (o + 1), .int (x)] (H, z) = _ := c_has (X := X) (d := 998) (z := z) hS
  cases hx : qIs x (wN (u.1 1 116)) with
  | false =>
    rw [hx] at kh
    have cc : am_f X 1000 137 [.ref o, .int x] (H, z) = some (.inl (some (.int (-1))), (H, z)) := by
      show am_f X (999 + 1) 137 _ _ = _
      rw [fU_137]
      simp (disch := first | omega | exact Nat.le_of_ble_eq_true rfl | exact hX.ci | exact hT.ci | exact hP.ci | exact hX.ci | exact hT.ci | exact hP.ci | (refine xF_lt ?_; omega) | (refine tF_lt ?_; omega) | (refine pF_lt ?_; omega) | exact lci) only [own_137, am_go dc_137_0, J_aload_0, K_al, ld_0, am_go dc_137_1, J_getfield, gf_r, fk_0_12_0, am_go dc_137_4, J_iload_1, K_il, ld_1, am_go dc_137_5, cv_0_94_1 own_137, JR_v, JR_0, JR_ite, ci1_r, am_go dc_137_8, J_if_ne, am_go dc_137_11, J_iconst, i32_m1, am_go dc_137_12, J_ret_i ret_137, am_go dc_137_13, am_go dc_137_14, fk_0_19_0, am_go dc_137_17, am_go dc_137_18, cv_0_232_2 own_137, am_go dc_137_21, J_if_eq, am_go dc_137_24, J_bipush, i8_m3, am_go dc_137_26, am_go dc_137_27, am_go dc_137_28, fk_0_41_0, am_go dc_137_31, am_go dc_137_32, am_go dc_137_35, am_go dc_137_36, am_go dc_137_39, cv_0_142_2 own_137, am_go dc_137_42, am_go dc_137_43, am_go dc_137_46, am_go dc_137_47, am_go dc_137_50, cv_0_198_2 own_137, am_go dc_137_53, am_go dc_137_54, cv_0_235_4 own_137, am_go dc_137_57, J_istore_2, st1_0, st1_1, st1_s, kl_i, kl_l, kl_r, kl_n, am_go dc_137_58, J_iload_2, ld_2, am_go dc_137_59, J_sipush, c16_999, am_go dc_137_62, J_icmp_le, am_go dc_137_65, i8_m4, am_go dc_137_67, J_goto, am_go dc_137_70, am_go dc_137_71, xg_0, xg_1, xg_6, hX.c0, hX.c53, hX.c54, hX.c55, hX.c64, hX.c65, hT.c0, hT.c1, hT.c2, hT.c3, hT.c4, hT.c5, hT.c6, hT.c7, hP.c0, hP.c1, hP.c2, hP.c3, hP.c4, zI_add, zI_mul, zI_lt, zI_le, zI_eq, zI_neg, zI_pos, zI_ne0, zI_gt0, zB_0, lg_cmp_ge, lg_cmp_le, lg_cmp_gt, lg_cmp_lt, lg_cmp_eq, ail_r, abl_r, all_r, ais_r, abs_r, als_r, aal_r, aal_q, aln_r, vrf_s, vrf_n, z32, kh, Bool.true_eq_false, Bool.false_eq_true, zB_t, zB_f, rwF_v, List.length_cons, List.length_nil, Nat.reduceAdd, Nat.reduceLT, Nat.reduceLeDiff, Nat.reduceEqDiff, ↓reduceIte, bind_s, if_true, if_false, not_true_eq_false, not_false_eq_true, Nat.zero_add]
    have cr : am_f X 1000 256 [.ref (o + 66), .int x] (mH H (o + 66) u, z) = _ := r_edge_n (X := X) (d := 997) (h := H) (z := z) hq hx
    exact gR_id hK hM cc cr mQ.rf hF
  | true =>
    obtain ⟨e1, e2⟩ := qIs_get hx
    generalize wN x = b at *
    subst e1
    rw [hx] at kh
    have hb' := e2
    have hb5 : b < 5 := by omega
    obtain ⟨w1, w2⟩ := hL.w hb5
    have kop : am_f X 999 72 [.ref (o + 9), .int (zI b)] (H, z) = _ := p_isOpen (X := X) (d := 998) (z := z) hP hpS hb5 w1 w2
    have hh := hw_le2 hL hb5
    by_cases c : 3 ≤ hw (u.1 1) b
    · rw [decide_eq_true c] at kop
      have cc : am_f X 1000 137 [.ref o, .int (zI b)] (H, z) = some (.inl (some (.int (-3))), (H, z)) := by
        show am_f X (999 + 1) 137 _ _ = _
        rw [fU_137]
        simp (disch := first | omega | exact Nat.le_of_ble_eq_true rfl | exact hX.ci | exact hT.ci | exact hP.ci | exact hX.ci | exact hT.ci | exact hP.ci | (refine xF_lt ?_; omega) | (refine tF_lt ?_; omega) | (refine pF_lt ?_; omega) | exact lci) only [own_137, am_go dc_137_0, J_aload_0, K_al, ld_0, am_go dc_137_1, J_getfield, gf_r, fk_0_12_0, am_go dc_137_4, J_iload_1, K_il, ld_1, am_go dc_137_5, cv_0_94_1 own_137, JR_v, JR_0, JR_ite, ci1_r, am_go dc_137_8, J_if_ne, am_go dc_137_11, J_iconst, i32_m1, am_go dc_137_12, J_ret_i ret_137, am_go dc_137_13, am_go dc_137_14, fk_0_19_0, am_go dc_137_17, am_go dc_137_18, cv_0_232_2 own_137, am_go dc_137_21, J_if_eq, am_go dc_137_24, J_bipush, i8_m3, am_go dc_137_26, am_go dc_137_27, am_go dc_137_28, fk_0_41_0, am_go dc_137_31, am_go dc_137_32, am_go dc_137_35, am_go dc_137_36, am_go dc_137_39, cv_0_142_2 own_137, am_go dc_137_42, am_go dc_137_43, am_go dc_137_46, am_go dc_137_47, am_go dc_137_50, cv_0_198_2 own_137, am_go dc_137_53, am_go dc_137_54, cv_0_235_4 own_137, am_go dc_137_57, J_istore_2, st1_0, st1_1, st1_s, kl_i, kl_l, kl_r, kl_n, am_go dc_137_58, J_iload_2, ld_2, am_go dc_137_59, J_sipush, c16_999, am_go dc_137_62, J_icmp_le, am_go dc_137_65, i8_m4, am_go dc_137_67, J_goto, am_go dc_137_70, am_go dc_137_71, xg_0, xg_1, xg_6, hX.c0, hX.c53, hX.c54, hX.c55, hX.c64, hX.c65, hT.c0, hT.c1, hT.c2, hT.c3, hT.c4, hT.c5, hT.c6, hT.c7, hP.c0, hP.c1, hP.c2, hP.c3, hP.c4, zI_add, zI_mul, zI_lt, zI_le, zI_eq, zI_neg, zI_pos, zI_ne0, zI_gt0, zB_0, lg_cmp_ge, lg_cmp_le, lg_cmp_gt, lg_cmp_lt, lg_cmp_eq, ail_r, abl_r, all_r, ais_r, abs_r, als_r, aal_r, aal_q, aln_r, vrf_s, vrf_n, z32, kh, kop, Bool.true_eq_false, Bool.false_eq_true, zB_t, zB_f, rwF_v, List.length_cons, List.length_nil, Nat.reduceAdd, Nat.reduceLT, Nat.reduceLeDiff, Nat.reduceEqDiff, ↓reduceIte, bind_s, if_true, if_false, not_true_eq_false, not_false_eq_true, Nat.zero_add]
      have cr : am_f X 1000 256 [.ref (o + 66), .int (zI b)] (mH H (o + 66) u, z) = _ := r_edge_m (X := X) (d := 997) (h := H) (z := z) hq hb' (by rw [hh]; omega)
      exact gR_id hK hM cc cr mQ.rf hF
    · rw [decide_eq_false c] at kop
      obtain ⟨h', u1, m', a', N', z', Lr, e1, e2, e3, e5, e6, e7, e8⟩ := l_edgeAt (X := X) (d := 991) hpl hr hkn hL hb'
      have fr : ∀ x, x < z.1 → lK (o + 40) x → x ≠ m → x ≠ a → lH h' (o + 40) (u1, (o + 1, m', a', N')) x = H x := fun x q1 q2 q3 q4 => by
        rw [e5 x q1 q2 q3 q4, hLH]
      obtain ⟨g1, g2, hX1⟩ := hre h' u1 m' a' N' z' e2 (Or.inr e3) fr e6
      rw [hLH] at e1
      have ke : am_f X 999 138 [.ref (o + 40), .int (zI (pk (qDg (u.1 1)))), .int (zI (rkN T (u.1 1))), .int (zI b)] (H, z) = _ := e1
      obtain ⟨u2, cr0, cf⟩ := r_edge_y (X := X) (h := lH h' (o + 40) (u1, (o + 1, m', a', N'))) (o := o + 66) (z := z') (u := u) (d := 968) hG hI.hw hb' (by rw [hh]; omega)
      have cr : am_f X 1000 256 [.ref (o + 66), .int (zI b)] (mH (lH h' (o + 40) (u1, (o + 1, m', a', N'))) (o + 66) u, z') = _ := cr0
      rw [e8] at cr
      by_cases c2 : 999 < Lr
      · have c3 : ¬ Lr ≤ 999 := by omega
        rw [if_pos c2] at cr
        have cc : am_f X 1000 137 [.ref o, .int (zI b)] (H, z) = some (.inl (some (.int (-4))), (lH h' (o + 40) (u1, (o + 1, m', a', N')), z')) := by
          show am_f X (999 + 1) 137 _ _ = _
          rw [fU_137]
          simp (disch := first | omega | exact Nat.le_of_ble_eq_true rfl | exact hX.ci | exact hT.ci | exact hP.ci | exact hX.ci | exact hT.ci | exact hP.ci | (refine xF_lt ?_; omega) | (refine tF_lt ?_; omega) | (refine pF_lt ?_; omega) | exact lci) only [own_137, am_go dc_137_0, J_aload_0, K_al, ld_0, am_go dc_137_1, J_getfield, gf_r, fk_0_12_0, am_go dc_137_4, J_iload_1, K_il, ld_1, am_go dc_137_5, cv_0_94_1 own_137, JR_v, JR_0, JR_ite, ci1_r, am_go dc_137_8, J_if_ne, am_go dc_137_11, J_iconst, i32_m1, am_go dc_137_12, J_ret_i ret_137, am_go dc_137_13, am_go dc_137_14, fk_0_19_0, am_go dc_137_17, am_go dc_137_18, cv_0_232_2 own_137, am_go dc_137_21, J_if_eq, am_go dc_137_24, J_bipush, i8_m3, am_go dc_137_26, am_go dc_137_27, am_go dc_137_28, fk_0_41_0, am_go dc_137_31, am_go dc_137_32, am_go dc_137_35, am_go dc_137_36, am_go dc_137_39, cv_0_142_2 own_137, am_go dc_137_42, am_go dc_137_43, am_go dc_137_46, am_go dc_137_47, am_go dc_137_50, cv_0_198_2 own_137, am_go dc_137_53, am_go dc_137_54, cv_0_235_4 own_137, am_go dc_137_57, J_istore_2, st1_0, st1_1, st1_s, kl_i, kl_l, kl_r, kl_n, am_go dc_137_58, J_iload_2, ld_2, am_go dc_137_59, J_sipush, c16_999, am_go dc_137_62, J_icmp_le, am_go dc_137_65, i8_m4, am_go dc_137_67, J_goto, am_go dc_137_70, am_go dc_137_71, xg_0, xg_1, xg_6, hX.c0, hX.c53, hX.c54, hX.c55, hX.c64, hX.c65, hT.c0, hT.c1, hT.c2, hT.c3, hT.c4, hT.c5, hT.c6, hT.c7, hP.c0, hP.c1, hP.c2, hP.c3, hP.c4, zI_add, zI_mul, zI_lt, zI_le, zI_eq, zI_neg, zI_pos, zI_ne0, zI_gt0, zB_0, lg_cmp_ge, lg_cmp_le, lg_cmp_gt, lg_cmp_lt, lg_cmp_eq, ail_r, abl_r, all_r, ais_r, abs_r, als_r, aal_r, aal_q, aln_r, vrf_s, vrf_n, z32, kh, kop, kp, kr, ke, c3, Bool.true_eq_false, Bool.false_eq_true, zB_t, zB_f, rwF_v, List.length_cons, List.length_nil, Nat.reduceAdd, Nat.reduceLT, Nat.reduceLeDiff, Nat.reduceEqDiff, ↓reduceIte, bind_s, if_true, if_false, not_true_eq_false, not_false_eq_true, Nat.zero_add]
        exact gR_mk hM cc g1 g2 cr (mSt.mq cf) cf.fr
      · have c3 : Lr ≤ 999 := by omega
        rw [if_neg c2] at cr
        have cc : am_f X 1000 137 [.ref o, .int (zI b)] (H, z) = some (.inl (some (.int (zI Lr))), (lH h' (o + 40) (u1, (o + 1, m', a', N')), z')) := by
          show am_f X (999 + 1) 137 _ _ = _
          rw [fU_137]
          simp (disch := first | omega | exact Nat.le_of_ble_eq_true rfl | exact hX.ci | exact hT.ci | exact hP.ci | exact hX.ci | exact hT.ci | exact hP.ci | (refine xF_lt ?_; omega) | (refine tF_lt ?_; omega) | (refine pF_lt ?_; omega) | exact lci) only [own_137, am_go dc_137_0, J_aload_0, K_al, ld_0, am_go dc_137_1, J_getfield, gf_r, fk_0_12_0, am_go dc_137_4, J_iload_1, K_il, ld_1, am_go dc_137_5, cv_0_94_1 own_137, JR_v, JR_0, JR_ite, ci1_r, am_go dc_137_8, J_if_ne, am_go dc_137_11, J_iconst, i32_m1, am_go dc_137_12, J_ret_i ret_137, am_go dc_137_13, am_go dc_137_14, fk_0_19_0, am_go dc_137_17, am_go dc_137_18, cv_0_232_2 own_137, am_go dc_137_21, J_if_eq, am_go dc_137_24, J_bipush, i8_m3, am_go dc_137_26, am_go dc_137_27, am_go dc_137_28, fk_0_41_0, am_go dc_137_31, am_go dc_137_32, am_go dc_137_35, am_go dc_137_36, am_go dc_137_39, cv_0_142_2 own_137, am_go dc_137_42, am_go dc_137_43, am_go dc_137_46, am_go dc_137_47, am_go dc_137_50, cv_0_198_2 own_137, am_go dc_137_53, am_go dc_137_54, cv_0_235_4 own_137, am_go dc_137_57, J_istore_2, st1_0, st1_1, st1_s, kl_i, kl_l, kl_r, kl_n, am_go dc_137_58, J_iload_2, ld_2, am_go dc_137_59, J_sipush, c16_999, am_go dc_137_62, J_icmp_le, am_go dc_137_65, i8_m4, am_go dc_137_67, J_goto, am_go dc_137_70, am_go dc_137_71, xg_0, xg_1, xg_6, hX.c0, hX.c53, hX.c54, hX.c55, hX.c64, hX.c65, hT.c0, hT.c1, hT.c2, hT.c3, hT.c4, hT.c5, hT.c6, hT.c7, hP.c0, hP.c1, hP.c2, hP.c3, hP.c4, zI_add, zI_mul, zI_lt, zI_le, zI_eq, zI_neg, zI_pos, zI_ne0, zI_gt0, zB_0, lg_cmp_ge, lg_cmp_le, lg_cmp_gt, lg_cmp_lt, lg_cmp_eq, ail_r, abl_r, all_r, ais_r, abs_r, als_r, aal_r, aal_q, aln_r, vrf_s, vrf_n, z32, kh, kop, kp, kr, ke, c3, Bool.true_eq_false, Bool.false_eq_true, zB_t, zB_f, rwF_v, List.length_cons, List.length_nil, Nat.reduceAdd, Nat.reduceLT, Nat.reduceLeDiff, Nat.reduceEqDiff, ↓reduceIte, bind_s, if_true, if_false, not_true_eq_false, not_false_eq_true, Nat.zero_add]
        exact gR_mk hM cc g1 g2 cr (mSt.mq cf) cf.fr
theorem f_setPrice (hK : gK o k H z u) (hM : cM H (o + 66) u) (hF : mFr u) {x : Int32} : gR X o k 141 258 [.int x] H z u := by
  obtain ⟨C, D, T, P, Q, lu, m, a, N, hX, hTN, hP, hpS, hI, hpl, hr, hkn, hLH, hlow, hre⟩ := g_plan hK
  have hS := hTN.1
  have hT := hS.iT
  have hN := hTN.2.1
  have hG := hI.1
  have hL := hI.pl
  have hq := hI.qw
  have hm5 := hG.m.2
  have hsz := hS.sz
  have hbl := hS.bell
  have lci : am_ci1 ((H, z).1 (o + 40)) = some 4 := by
    have := lH_ci (h := H) (l := o + 40) (D := (lu, (o + 1, m, a, N))) (z := z)
    rw [hLH] at this
    exact this
  have kh : am_f X 999 32 [.ref (o + 1), .int (x)] (H, z) = _ := c_has (X := X) (d := 998) (z := z) hS
  cases hx : qIs x (wN (u.1 1 116)) with
  | false =>
    rw [hx] at kh
    have cc : am_f X 1000 141 [.ref o, .int x] (H, z) = some (.inl (some (.int (-1))), (H, z)) := by
      show am_f X (999 + 1) 141 _ _ = _
      rw [fU_141]
      simp (disch := first | omega | exact Nat.le_of_ble_eq_true rfl | exact hX.ci | exact hT.ci | exact hP.ci | exact hX.ci | exact hT.ci | exact hP.ci | (refine xF_lt ?_; omega) | (refine tF_lt ?_; omega) | (refine pF_lt ?_; omega) | exact lci) only [own_141, am_go dc_141_0, J_aload_0, K_al, ld_0, am_go dc_141_1, J_getfield, gf_r, fk_0_12_0, am_go dc_141_4, J_iload_1, K_il, ld_1, am_go dc_141_5, cv_0_94_1 own_141, JR_v, JR_0, JR_ite, ci1_r, am_go dc_141_8, J_if_eq, am_go dc_141_11, am_go dc_141_12, fk_0_41_0, am_go dc_141_15, am_go dc_141_16, cv_0_238_4 own_141, am_go dc_141_19, J_goto, am_go dc_141_22, J_iconst, i32_m1, am_go dc_141_23, J_ret_i ret_141, xg_0, xg_6, hX.c0, hX.c53, hX.c54, hX.c55, hX.c64, hX.c65, hT.c0, hT.c1, hT.c2, hT.c3, hT.c4, hT.c5, hT.c6, hT.c7, hP.c0, hP.c1, hP.c2, hP.c3, hP.c4, zI_add, zI_mul, zI_lt, zI_le, zI_eq, zI_neg, zI_pos, zI_ne0, zI_gt0, zB_0, lg_cmp_ge, lg_cmp_le, lg_cmp_gt, lg_cmp_lt, lg_cmp_eq, ail_r, abl_r, all_r, ais_r, abs_r, als_r, aal_r, aal_q, aln_r, vrf_s, vrf_n, z32, kh, Bool.true_eq_false, Bool.false_eq_true, zB_t, zB_f, i8_m3, i8_m4, rwF_v, List.length_cons, List.length_nil, Nat.reduceAdd, Nat.reduceLT, Nat.reduceLeDiff, Nat.reduceEqDiff, ↓reduceIte, bind_s, if_true, if_false, not_true_eq_false, not_false_eq_true, Nat.zero_add]
    have cr : am_f X 1000 258 [.ref (o + 66), .int x] (mH H (o + 66) u, z) = _ := r_setPrice_n (X := X) (d := 997) (h := H) (z := z) hq hx
    exact gR_id hK hM cc cr mQ.rf hF
  | true =>
    obtain ⟨e1, e2⟩ := qIs_get hx
    generalize wN x = b at *
    subst e1
    rw [hx] at kh
    have hb' := e2
    obtain ⟨h', u1, m', a', N', z', e1, e2, e3, e5, e6⟩ := l_dearest (X := X) (d := 981) hpl hr hkn hb'
    have fr : ∀ x, x < z.1 → lK (o + 40) x → x ≠ m → x ≠ a → lH h' (o + 40) (u1, (o + 1, m', a', N')) x = H x := fun x q1 q2 q3 q4 => by
      rw [e5 x q1 q2 q3 q4, hLH]
    obtain ⟨g1, g2, hX1⟩ := hre h' u1 m' a' N' z' e2 (Or.inr e3) fr e6
    rw [hLH] at e1
    have ke : am_f X 999 142 [.ref (o + 40), .int (zI b)] (H, z) = _ := e1
    have cc : am_f X 1000 141 [.ref o, .int (zI b)] (H, z) = some (.inl (some (.int (qSp (u.1 1) b))), (lH h' (o + 40) (u1, (o + 1, m', a', N')), z')) := by
      show am_f X (999 + 1) 141 _ _ = _
      rw [fU_141]
      simp (disch := first | omega | exact Nat.le_of_ble_eq_true rfl | exact hX.ci | exact hT.ci | exact hP.ci | exact hX.ci | exact hT.ci | exact hP.ci | (refine xF_lt ?_; omega) | (refine tF_lt ?_; omega) | (refine pF_lt ?_; omega) | exact lci) only [own_141, am_go dc_141_0, J_aload_0, K_al, ld_0, am_go dc_141_1, J_getfield, gf_r, fk_0_12_0, am_go dc_141_4, J_iload_1, K_il, ld_1, am_go dc_141_5, cv_0_94_1 own_141, JR_v, JR_0, JR_ite, ci1_r, am_go dc_141_8, J_if_eq, am_go dc_141_11, am_go dc_141_12, fk_0_41_0, am_go dc_141_15, am_go dc_141_16, cv_0_238_4 own_141, am_go dc_141_19, J_goto, am_go dc_141_22, J_iconst, i32_m1, am_go dc_141_23, J_ret_i ret_141, xg_0, xg_6, hX.c0, hX.c53, hX.c54, hX.c55, hX.c64, hX.c65, hT.c0, hT.c1, hT.c2, hT.c3, hT.c4, hT.c5, hT.c6, hT.c7, hP.c0, hP.c1, hP.c2, hP.c3, hP.c4, zI_add, zI_mul, zI_lt, zI_le, zI_eq, zI_neg, zI_pos, zI_ne0, zI_gt0, zB_0, lg_cmp_ge, lg_cmp_le, lg_cmp_gt, lg_cmp_lt, lg_cmp_eq, ail_r, abl_r, all_r, ais_r, abs_r, als_r, aal_r, aal_q, aln_r, vrf_s, vrf_n, z32, kh, ke, Bool.true_eq_false, Bool.false_eq_true, zB_t, zB_f, i8_m3, i8_m4, rwF_v, List.length_cons, List.length_nil, Nat.reduceAdd, Nat.reduceLT, Nat.reduceLeDiff, Nat.reduceEqDiff, ↓reduceIte, bind_s, if_true, if_false, not_true_eq_false, not_false_eq_true, Nat.zero_add]
    obtain ⟨u2, cr0, f1, f2, f3⟩ := r_setPrice_y (X := X) (h := lH h' (o + 40) (u1, (o + 1, m', a', N'))) (o := o + 66) (z := z') (u := u) (d := 959) hG hI.hw hb'
    have cr : am_f X 1000 258 [.ref (o + 66), .int (zI b)] (mH (lH h' (o + 40) (u1, (o + 1, m', a', N'))) (o + 66) u, z') = _ := cr0
    exact gR_mk hM cc g1 g2 cr ⟨fun j hj => f1 j (by omega) (by omega) (by omega) (by omega), f2 10 (by omega)⟩ (Or.inr f3)
end FD
