/-! the class's edge -/
section PE
variable {X : am_X} {C : Nat → Prop} {h : am_H} {l t m a N d Q : Nat} {T : mU × (Nat → Option Nat)} {S : Nat → Int32} {z : Nat × Nat} {u : mU}
theorem jI_i32 {n : Nat} (h : n < 2147483648) : (jI (n : Int)).toInt32 = zI n := by
  rw [← jI_z h]
  exact Int32.toInt32_toInt64 _
theorem l_pst {b : Nat} (hG : qG S) (hr : rOk T S Q) (hS : ∀ u, tS C (lH h l (u, (t, m, a, N))) t T S) (hO : lOkk l (t, m, a, N)) (hN2 : N < 1000000) (hL : qPl S) (hk : plKn S T Q u N) (hb : b < wN (S 116)) (hm : qMay S b = true) : ∃ u' K, am_f X (d + 5) 139 [.ref l, .int (zI (pk (qDg S))), .int (zI (rkN T S)), .int (zI b)] (lH h l (u, (t, m, a, N)), z) = some (.inl (some (.int (zI (eHi (oI S S b + (wN (S (18 * b + 1)) : Int) * MM S S - K) (MM S S))))), (lH h l (u', (t, m, a, N)), z)) ∧ lFr u u' ∧ K = (fo (q_bl S) 0 (wN (S 116)) ((qHas S).toInt64 * qMass S, zI 0)).1.toInt := by
  have hm5 := hG.m.2
  have hb5 : b < 5 := by omega
  have hR : qRw S S := qRw.rf
  have hQ := hr.2.2.1
  obtain ⟨-, r1, e3, -⟩ := lk_rk hr hG hR hL
  obtain ⟨u1, g1, g2, g3⟩ := l_look (X := X) (d := d) (z := z) (u := u) (dg := qDg S) hS qDg_ok
  have hk1 := g3.kn hk
  have ho := qMay_le hL hb5 hm
  have kst : am_f X (d + 4) 120 [.ref l, .int (zI (rkN T S))] (lH h l (u1, (t, m, a, N)), z) = _ := l_stop (X := X) (d := d + 3) (z := z) (u := u1) hS (show rkN T S < 21 by omega)
  have g6 := g2.2.1
  rw [g6, e3, lk_ms hG hR hL] at kst
  rw [lk_ms hG hR hL, MM_j hG hR hL] at g6
  have kop : am_f X (d + 4) 121 [.ref l, .int (zI b), .int (zI (rkN T S))] (lH h l (u1, (t, m, a, N)), z) = _ := l_open (X := X) (d := d + 2) (z := z) (u := u1) (r := rkN T S) hS hO hk.2.2.2 hN2 (lk_in hR) g2 hb (by omega)
  have ot := o_t hr hG hR hL hb ho
  have oj : qOpn S (fun S => (qB S).1) b = jI (oI S S b) := by rw [← ot]; exact jI_of _
  obtain ⟨ob1, ob2⟩ := oI_bd hG hR hL hb ho (fun i hi => vI_b hr hG (hR.up (by omega)) (hL.op hR hG hb hi))
  rw [lk_opn hr hG hk1 hR hL hb hm, oj] at kop
  have g11 : (cBl S (qDg S)).2 = u1.2.2.2 11 := (congrArg Prod.snd g2.2.2.2).symm
  have s0 := lk_s0 hr hG hR hL
  have hmx : (if u1.2.2.2 11 < (qHas S).toInt64 * qMass S then (qHas S).toInt64 * qMass S else u1.2.2.2 11) = jI (fo (q_bl S) 0 (wN (S 116)) ((qHas S).toInt64 * qMass S, zI 0)).1.toInt := by
    rw [← jI_of, ← s0]
    unfold cS0
    rw [e3, lk_ms hG hR hL, g11]
    by_cases c1 : (qHas S).toInt64 * qMass S < u1.2.2.2 11
    · rw [if_pos c1, if_neg (fun q => Int64.lt_irrefl (Int64.lt_trans c1 q))]
    · rw [if_neg c1]
      by_cases c2 : u1.2.2.2 11 < (qHas S).toInt64 * qMass S
      · rw [if_pos c2]
      · rw [if_neg c2]
        have q1 := Int64.not_lt.mp c1
        have q2 := Int64.not_lt.mp c2
        exact Int64.le_antisymm q1 q2
  obtain ⟨hs1, hs2⟩ := st_i hr hG hR hL
  have hle := MM_le hG hR hL
  have hnn := MM_nn (R := S) (S := S)
  obtain ⟨c1, c2⟩ := hG.p1 hb
  have hcost : (u1.1 1 b).toInt64 = jI (wN (S (18 * b + 1)) : Int) := by
    rw [hk1.2.2.1 b hb]
    conv => lhs; rw [c1]
    exact jI_z (by omega)
  have hcm : (wN (S (18 * b + 1)) : Int) * MM S S ≤ 999 * MM S S := Int.mul_le_mul_of_nonneg_right (by omega) hnn
  have hcm0 : 0 ≤ (wN (S (18 * b + 1)) : Int) * MM S S := Int.mul_nonneg (by omega) hnn
  have hKb : 0 ≤ (fo (q_bl S) 0 (wN (S 116)) ((qHas S).toInt64 * qMass S, zI 0)).1.toInt ∧ (fo (q_bl S) 0 (wN (S 116)) ((qHas S).toInt64 * qMass S, zI 0)).1.toInt ≤ 999 * MM S S := by
    refine fo_inv (f := q_bl S) (fun _ s => 0 ≤ s.1.toInt ∧ s.1.toInt ≤ 999 * MM S S) (wN (S 116)) 0 _ ?_ (fun j s h1 h2 h3 => ?_)
    · show 0 ≤ ((qHas S).toInt64 * qMass S).toInt ∧ ((qHas S).toInt64 * qMass S).toInt ≤ _
      rw [hs1]
      exact ⟨Int.mul_nonneg (by omega) hnn, Int.mul_le_mul_of_nonneg_right (by omega) hnn⟩
    · unfold q_bl
      split
      · split
        · rename_i e0
          have e1 : (S (90 + j) = 0) = (hw S j = 0) := hw_eq hL (show j < 5 by omega) (k := 0) (by omega)
          rw [e1] at e0
          by_cases q2 : s.1 < qBd S j
          · rw [if_pos q2]
            rw [Int64.lt_iff_toInt_lt] at q2
            exact ⟨by show 0 ≤ (qBd S j).toInt; omega, bd_bd hG hR hL (by omega) e0⟩
          · rw [if_neg q2]
            exact h3
        · exact h3
      · exact h3
  have hcj : (u1.1 1 b).toInt64 * jI (MM S S) = jI ((wN (S (18 * b + 1)) : Int) * MM S S) := by rw [hcost, jI_mul]
  generalize hst : (qHas S).toInt64 * qMass S = st at *
  generalize (fo (q_bl S) 0 (wN (S 116)) (st, zI 0)).1.toInt = K at *
  generalize hbl : u1.2.2.2 11 = bl at *
  generalize (wN (S (18 * b + 1)) : Int) * MM S S = cm at *
  generalize MM S S = M at *
  refine ⟨u1, K, ?_, g3, rfl⟩
  have hab : jI (oI S S b) + jI cm - jI K = jI (oI S S b + cm - K) := by rw [jI_add, jI_sub]
  generalize hab2 : oI S S b + cm - K = ab at *
  have k1 : (jI ab ≤ 0) = (ab ≤ 0) := by rw [jI_0]; exact jI_le (by omega) (by omega) (by omega) (by omega)
  have k2 : (0 < jI M) = (0 < M) := by rw [jI_0]; exact jI_lt (by omega) (by omega) (by omega) (by omega)
  have k3 : (jI M = 0) = (M = 0) := by rw [jI_0]; exact jI_eq (by omega) (by omega) (by omega) (by omega)
  by_cases c1 : ab ≤ 0
  · have hv : eHi ab M = 0 := if_pos (Or.inl c1)
    rw [hv, fU_139]
    simp (disch := first | omega | exact Nat.le_of_ble_eq_true rfl | exact lH_ci | (refine lF_lt ?_; omega) | exact (hS _).iT.ci) only [own_139, am_go dc_139_0, J_aload_0, K_al, ld_0, am_go dc_139_1, J_iload_1, K_il, ld_1, am_go dc_139_2, cv_4_77_4 own_139, JR_v, JR_0, JR_ite, ci1_r, am_go dc_139_5, am_go dc_139_6, J_iload_3, ld_3, am_go dc_139_7, J_iload_2, ld_2, am_go dc_139_8, cv_4_140_4 own_139, am_go dc_139_11, am_go dc_139_12, J_getfield, gf_r, fk_4_9_4, am_go dc_139_15, am_go dc_139_16, J_iaload, am_go dc_139_17, J_i2l, am_go dc_139_18, am_go dc_139_19, fk_4_97_4, am_go dc_139_22, J_lmul, am_go dc_139_23, J_ladd, am_go dc_139_24, am_go dc_139_25, am_go dc_139_26, cv_4_137_4 own_139, am_go dc_139_29, am_go dc_139_30, fk_4_104_4, am_go dc_139_33, cm_4_238 own_139, mth_2, am_go dc_139_36, J_lsub, am_go dc_139_37, J_lstore, st2_0, st2_1, st2_s, kl_i, kl_l, kl_r, kl_n, am_go dc_139_39, J_lload, K_ll, ld_4, am_go dc_139_41, J_lconst, i64_0, am_go dc_139_42, J_lcmp, am_go dc_139_43, J_if_le, am_go dc_139_46, am_go dc_139_47, am_go dc_139_50, am_go dc_139_51, am_go dc_139_52, J_if_gt, am_go dc_139_55, J_iconst, c32_0, am_go dc_139_56, J_ret_i ret_139, am_go dc_139_57, J_ldc2, cj_4_241, am_go dc_139_60, am_go dc_139_62, am_go dc_139_63, am_go dc_139_66, am_go dc_139_67, i64_1, am_go dc_139_68, am_go dc_139_69, am_go dc_139_70, am_go dc_139_73, J_ldiv, am_go dc_139_74, cm_4_243 own_139, mth_3, am_go dc_139_77, J_l2i, am_go dc_139_78, lg_1, lg_6, lg_11, lH_0, lH_1, lH_4, lH_5, lH_6, lH_7, lH_8, lw_1, lw_4, lw_5, lw_6, lw_7, lw_8, zI_add, zI_mul, zI_lt, zI_le, zI_eq, zI_neg, zI_pos, zI_ne0, zI_gt0, zB_0, lg_cmp_ge, lg_cmp_le, lg_cmp_gt, lg_cmp_lt, lg_cmp_eq, ail_r, abl_r, all_r, ais_r, abs_r, als_r, aal_r, aal_q, aln_r, vrf_s, vrf_n, z32, g1, kst, kop, hmx, g6, hcj, hbl, hab, k1, k2, k3, hab2, c1, List.length_cons, List.length_nil, Nat.reduceAdd, Nat.reduceLT, Nat.reduceLeDiff, Nat.reduceEqDiff, ↓reduceIte, bind_s, if_true, if_false, not_true_eq_false, not_false_eq_true, Nat.zero_add]
  · by_cases c2 : 0 < M
    · have c3 : ¬ M = 0 := by omega
      have k4 : jI ab + jI M - 1 = jI (ab + M - 1) := by rw [jI_1, jI_add, jI_sub]
      have k5 : jI (ab + M - 1) / jI M = jI ((ab + M - 1) / M) := jI_div (by omega) (by omega) (by omega) (by omega)
      have q0 : 0 ≤ (ab + M - 1) / M := Int.ediv_nonneg (by omega) (by omega)
      have q1 : (ab + M - 1) / M ≤ ab + M - 1 := Int.ediv_le_self _ (by omega)
      have k6 : (jI ((ab + M - 1) / M) < 1000) = ((ab + M - 1) / M < 1000) := by
        rw [show (1000 : Int64) = jI 1000 from rfl]
        exact jI_lt (by omega) (by omega) (by omega) (by omega)
      have hv : (if (ab + M - 1) / M < 1000 then jI ((ab + M - 1) / M) else 1000).toInt32 = zI (eHi ab M) := by
        unfold eHi
        rw [if_neg (show ¬ (ab ≤ 0 ∨ M ≤ 0) by omega)]
        by_cases c4 : (ab + M - 1) / M < 1000
        · rw [if_pos c4, if_neg (by omega)]
          have e : (ab + M - 1) / M = (((ab + M - 1) / M).toNat : Int) := by omega
          conv => lhs; rw [e]
          exact jI_i32 (by omega)
        · rw [if_neg c4, if_pos (by omega)]
          rfl
      rw [← hv, fU_139]
      simp (disch := first | omega | exact Nat.le_of_ble_eq_true rfl | exact lH_ci | (refine lF_lt ?_; omega) | exact (hS _).iT.ci) only [own_139, am_go dc_139_0, J_aload_0, K_al, ld_0, am_go dc_139_1, J_iload_1, K_il, ld_1, am_go dc_139_2, cv_4_77_4 own_139, JR_v, JR_0, JR_ite, ci1_r, am_go dc_139_5, am_go dc_139_6, J_iload_3, ld_3, am_go dc_139_7, J_iload_2, ld_2, am_go dc_139_8, cv_4_140_4 own_139, am_go dc_139_11, am_go dc_139_12, J_getfield, gf_r, fk_4_9_4, am_go dc_139_15, am_go dc_139_16, J_iaload, am_go dc_139_17, J_i2l, am_go dc_139_18, am_go dc_139_19, fk_4_97_4, am_go dc_139_22, J_lmul, am_go dc_139_23, J_ladd, am_go dc_139_24, am_go dc_139_25, am_go dc_139_26, cv_4_137_4 own_139, am_go dc_139_29, am_go dc_139_30, fk_4_104_4, am_go dc_139_33, cm_4_238 own_139, mth_2, am_go dc_139_36, J_lsub, am_go dc_139_37, J_lstore, st2_0, st2_1, st2_s, kl_i, kl_l, kl_r, kl_n, am_go dc_139_39, J_lload, K_ll, ld_4, am_go dc_139_41, J_lconst, i64_0, am_go dc_139_42, J_lcmp, am_go dc_139_43, J_if_le, am_go dc_139_46, am_go dc_139_47, am_go dc_139_50, am_go dc_139_51, am_go dc_139_52, J_if_gt, am_go dc_139_55, J_iconst, c32_0, am_go dc_139_56, J_ret_i ret_139, am_go dc_139_57, J_ldc2, cj_4_241, am_go dc_139_60, am_go dc_139_62, am_go dc_139_63, am_go dc_139_66, am_go dc_139_67, i64_1, am_go dc_139_68, am_go dc_139_69, am_go dc_139_70, am_go dc_139_73, J_ldiv, am_go dc_139_74, cm_4_243 own_139, mth_3, am_go dc_139_77, J_l2i, am_go dc_139_78, lg_1, lg_6, lg_11, lH_0, lH_1, lH_4, lH_5, lH_6, lH_7, lH_8, lw_1, lw_4, lw_5, lw_6, lw_7, lw_8, zI_add, zI_mul, zI_lt, zI_le, zI_eq, zI_neg, zI_pos, zI_ne0, zI_gt0, zB_0, lg_cmp_ge, lg_cmp_le, lg_cmp_gt, lg_cmp_lt, lg_cmp_eq, ail_r, abl_r, all_r, ais_r, abs_r, als_r, aal_r, aal_q, aln_r, vrf_s, vrf_n, z32, g1, kst, kop, hmx, g6, hcj, hbl, hab, k1, k2, k3, hab2, c1, c2, c3, k4, k5, k6, List.length_cons, List.length_nil, Nat.reduceAdd, Nat.reduceLT, Nat.reduceLeDiff, Nat.reduceEqDiff, ↓reduceIte, bind_s, if_true, if_false, not_true_eq_false, not_false_eq_true, Nat.zero_add]
    · have hv : eHi ab M = 0 := if_pos (Or.inr (by omega))
      rw [hv, fU_139]
      simp (disch := first | omega | exact Nat.le_of_ble_eq_true rfl | exact lH_ci | (refine lF_lt ?_; omega) | exact (hS _).iT.ci) only [own_139, am_go dc_139_0, J_aload_0, K_al, ld_0, am_go dc_139_1, J_iload_1, K_il, ld_1, am_go dc_139_2, cv_4_77_4 own_139, JR_v, JR_0, JR_ite, ci1_r, am_go dc_139_5, am_go dc_139_6, J_iload_3, ld_3, am_go dc_139_7, J_iload_2, ld_2, am_go dc_139_8, cv_4_140_4 own_139, am_go dc_139_11, am_go dc_139_12, J_getfield, gf_r, fk_4_9_4, am_go dc_139_15, am_go dc_139_16, J_iaload, am_go dc_139_17, J_i2l, am_go dc_139_18, am_go dc_139_19, fk_4_97_4, am_go dc_139_22, J_lmul, am_go dc_139_23, J_ladd, am_go dc_139_24, am_go dc_139_25, am_go dc_139_26, cv_4_137_4 own_139, am_go dc_139_29, am_go dc_139_30, fk_4_104_4, am_go dc_139_33, cm_4_238 own_139, mth_2, am_go dc_139_36, J_lsub, am_go dc_139_37, J_lstore, st2_0, st2_1, st2_s, kl_i, kl_l, kl_r, kl_n, am_go dc_139_39, J_lload, K_ll, ld_4, am_go dc_139_41, J_lconst, i64_0, am_go dc_139_42, J_lcmp, am_go dc_139_43, J_if_le, am_go dc_139_46, am_go dc_139_47, am_go dc_139_50, am_go dc_139_51, am_go dc_139_52, J_if_gt, am_go dc_139_55, J_iconst, c32_0, am_go dc_139_56, J_ret_i ret_139, am_go dc_139_57, J_ldc2, cj_4_241, am_go dc_139_60, am_go dc_139_62, am_go dc_139_63, am_go dc_139_66, am_go dc_139_67, i64_1, am_go dc_139_68, am_go dc_139_69, am_go dc_139_70, am_go dc_139_73, J_ldiv, am_go dc_139_74, cm_4_243 own_139, mth_3, am_go dc_139_77, J_l2i, am_go dc_139_78, lg_1, lg_6, lg_11, lH_0, lH_1, lH_4, lH_5, lH_6, lH_7, lH_8, lw_1, lw_4, lw_5, lw_6, lw_7, lw_8, zI_add, zI_mul, zI_lt, zI_le, zI_eq, zI_neg, zI_pos, zI_ne0, zI_gt0, zB_0, lg_cmp_ge, lg_cmp_le, lg_cmp_gt, lg_cmp_lt, lg_cmp_eq, ail_r, abl_r, all_r, ais_r, abs_r, als_r, aal_r, aal_q, aln_r, vrf_s, vrf_n, z32, g1, kst, kop, hmx, g6, hcj, hbl, hab, k1, k2, k3, hab2, c1, c2, List.length_cons, List.length_nil, Nat.reduceAdd, Nat.reduceLT, Nat.reduceLeDiff, Nat.reduceEqDiff, ↓reduceIte, bind_s, if_true, if_false, not_true_eq_false, not_false_eq_true, Nat.zero_add]
end PE
