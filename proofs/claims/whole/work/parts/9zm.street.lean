/-! the face: streets called -/
section FF
variable {X : am_X} {o k : Nat} {H : am_H} {z : Nat × Nat} {u : mU}
theorem mFr_cg {u u' : mU} (h : mFr u) (h1 : ∀ j, 16 ≤ j → j ≤ 18 → u'.1 j = u.1 j) (h2 : u'.2.1 = u.2.1) (h3 : u'.2.2.1 32 = u.2.2.1 32) (h4 : qA0 (u.1 1) (u'.1 1)) : mFr u' := by
  rcases h with ⟨a1, a2⟩ | a
  · refine Or.inl ⟨h3.trans a1, fun S' q1 q2 => ?_⟩
    have := a2 S' (h4.tr q1) q2
    unfold mB mR at *
    rw [h1 16 (by omega) (by omega), h1 17 (by omega) (by omega), h1 18 (by omega) (by omega), h2]
    exact this
  · exact Or.inr (h3.trans a)
theorem mJt.fr {u u' : mU} (h : mJt u u') (hF : mFr u) : mFr u' := mFr_cg hF (fun j h1 h2 => h.1 j (by omega) (by omega)) h.2.1 (h.2.2 32 (by omega) (by omega)) (fun j hj => by rw [h.1 1 (by omega) (by omega)])
theorem mJt.mq {u u' : mU} (h : mJt u u') : mQ u u' := ⟨fun j hj => h.1 j (by omega) (by omega), h.2.2 10 (by omega) (by omega)⟩
theorem f_street (hK : gK o k H z u) (hM : cM H (o + 66) u) (hF : mFr u) {x : Int32} : gR X o k 143 261 [.int x] H z u := by
  obtain ⟨C, D, T, P, Q, wu, sA, sN, mA, mN, hX, hTN, hP, hpS, hI, hSh, hst, hr, hWH, hlow, hre⟩ := g_walk hK
  have hS := hTN.1
  have hT := hS.iT
  have hN := hTN.2.1
  have hG := hI.1
  have hL := hI.pl
  have hq := hI.qw
  have hm5 := hG.m.2
  have hsz := hS.sz
  have hbl := hS.bell
  have wci : am_ci1 ((H, z).1 (o + 49)) = some 5 := by
    have := wH_ci (h := H) (w := o + 49) (D := (wu, (o + 1, sA, sN, mA, mN))) (z := z)
    rw [hWH] at this
    exact this
  have ks : am_f X 999 7 [.int x] (H, z) = _ := x_isShelf (X := X) (d := 998)
  cases hx : qIs x 8 with
  | false =>
    rw [hx] at ks
    have cc : am_f X 1000 143 [.ref o, .int x] (H, z) = some (.inl (some (.long (-4611686018427387904))), (H, z)) := by
      show am_f X (999 + 1) 143 _ _ = _
      rw [fU_143]
      simp (disch := first | omega | exact Nat.le_of_ble_eq_true rfl | exact hX.ci | exact hT.ci | exact hP.ci | exact hX.ci | exact hT.ci | exact hP.ci | (refine xF_lt ?_; omega) | (refine tF_lt ?_; omega) | (refine pF_lt ?_; omega) | exact wci) only [own_143, am_go dc_143_0, J_iload_1, K_il, ld_1, am_go dc_143_1, cs_0_73 own_143, JR_v, JR_0, JR_ite, am_go dc_143_4, J_if_eq, am_go dc_143_7, J_aload_0, K_al, ld_0, am_go dc_143_8, am_go dc_143_9, cv_0_77_0 own_143, ci1_r, am_go dc_143_12, am_go dc_143_15, am_go dc_143_16, am_go dc_143_17, cv_0_241_0 own_143, am_go dc_143_20, J_if_ne, am_go dc_143_23, J_ldc2, cj_0_185, am_go dc_143_26, J_ret_l ret_143, am_go dc_143_27, am_go dc_143_28, J_getfield, gf_r, fk_0_48_0, am_go dc_143_31, am_go dc_143_32, fk_0_64_0, am_go dc_143_35, am_go dc_143_36, J_aaload, am_go dc_143_37, am_go dc_143_38, fk_0_70_0, am_go dc_143_41, am_go dc_143_42, J_iaload, am_go dc_143_43, cv_0_244_5 own_143, am_go dc_143_46, xg_7, xg_10, xg_12, hX.c0, hX.c53, hX.c54, hX.c55, hX.c64, hX.c65, hT.c0, hT.c1, hT.c2, hT.c3, hT.c4, hT.c5, hT.c6, hT.c7, hP.c0, hP.c1, hP.c2, hP.c3, hP.c4, zI_add, zI_mul, zI_lt, zI_le, zI_eq, zI_neg, zI_pos, zI_ne0, zI_gt0, zB_0, lg_cmp_ge, lg_cmp_le, lg_cmp_gt, lg_cmp_lt, lg_cmp_eq, ail_r, abl_r, all_r, ais_r, abs_r, als_r, aal_r, aal_q, aln_r, vrf_s, vrf_n, z32, ks, Bool.true_eq_false, Bool.false_eq_true, zB_t, zB_f, i32_m1, i8_m3, i8_m4, rwF_v, List.length_cons, List.length_nil, Nat.reduceAdd, Nat.reduceLT, Nat.reduceLeDiff, Nat.reduceEqDiff, ↓reduceIte, bind_s, if_true, if_false, not_true_eq_false, not_false_eq_true, Nat.zero_add]
    have cr : am_f X 1000 261 [.ref (o + 66), .int x] (mH H (o + 66) u, z) = _ := r_street_n (X := X) (d := 996) (h := H) (z := z) hx
    exact gR_id hK hM cc cr mQ.rf hF
  | true =>
    obtain ⟨e1, e2⟩ := qIs_get hx
    generalize wN x = e at *
    subst e1
    rw [hx] at ks
    have kb : am_f X 999 8 [.ref o, .int (zI e)] (H, z) = _ := x_isByte (X := X) (d := 998) hX e2
    obtain ⟨⟨v5, v6, v7, c5, c6, ⟨s, hs2, hs⟩, v8⟩, -⟩ := hSh e e2
    rw [v5, v6] at kb
    by_cases c1 : u.1 5 e = zI 2 ∧ u.1 6 e = 0
    · have hwr : qWr u e (zI 0) = 0 := by
        unfold qWr
        rw [c1.1, c1.2]
        rfl
      rw [c1.1, c1.2, decide_eq_true rfl, decide_eq_true rfl] at kb
      have ko : am_f X 999 144 [.ref o, .int (zI e)] (H, z) = _ := x_order (X := X) (d := 997) (z := z) (el := fun j => u.1 8 (120 * e + j)) hX hS e2 (v7.trans hs) hs2 v8
      cases ho : qIsO (fun j => u.1 8 (120 * e + j)) (wN (u.1 1 116)) s 0 (zI 0) with
      | false =>
        rw [ho] at ko
        have cc : am_f X 1000 143 [.ref o, .int (zI e)] (H, z) = some (.inl (some (.long (-4611686018427387904))), (H, z)) := by
          show am_f X (999 + 1) 143 _ _ = _
          rw [fU_143]
          simp (disch := first | omega | exact Nat.le_of_ble_eq_true rfl | exact hX.ci | exact hT.ci | exact hP.ci | exact hX.ci | exact hT.ci | exact hP.ci | (refine xF_lt ?_; omega) | (refine tF_lt ?_; omega) | (refine pF_lt ?_; omega) | exact wci) only [own_143, am_go dc_143_0, J_iload_1, K_il, ld_1, am_go dc_143_1, cs_0_73 own_143, JR_v, JR_0, JR_ite, am_go dc_143_4, J_if_eq, am_go dc_143_7, J_aload_0, K_al, ld_0, am_go dc_143_8, am_go dc_143_9, cv_0_77_0 own_143, ci1_r, am_go dc_143_12, am_go dc_143_15, am_go dc_143_16, am_go dc_143_17, cv_0_241_0 own_143, am_go dc_143_20, J_if_ne, am_go dc_143_23, J_ldc2, cj_0_185, am_go dc_143_26, J_ret_l ret_143, am_go dc_143_27, am_go dc_143_28, J_getfield, gf_r, fk_0_48_0, am_go dc_143_31, am_go dc_143_32, fk_0_64_0, am_go dc_143_35, am_go dc_143_36, J_aaload, am_go dc_143_37, am_go dc_143_38, fk_0_70_0, am_go dc_143_41, am_go dc_143_42, J_iaload, am_go dc_143_43, cv_0_244_5 own_143, am_go dc_143_46, xg_7, xg_10, xg_12, hX.c0, hX.c53, hX.c54, hX.c55, hX.c64, hX.c65, hT.c0, hT.c1, hT.c2, hT.c3, hT.c4, hT.c5, hT.c6, hT.c7, hP.c0, hP.c1, hP.c2, hP.c3, hP.c4, zI_add, zI_mul, zI_lt, zI_le, zI_eq, zI_neg, zI_pos, zI_ne0, zI_gt0, zB_0, lg_cmp_ge, lg_cmp_le, lg_cmp_gt, lg_cmp_lt, lg_cmp_eq, ail_r, abl_r, all_r, ais_r, abs_r, als_r, aal_r, aal_q, aln_r, vrf_s, vrf_n, z32, ks, kb, ko, Bool.and_self, Bool.true_eq_false, Bool.false_eq_true, zB_t, zB_f, i32_m1, i8_m3, i8_m4, rwF_v, List.length_cons, List.length_nil, Nat.reduceAdd, Nat.reduceLT, Nat.reduceLeDiff, Nat.reduceEqDiff, ↓reduceIte, bind_s, if_true, if_false, not_true_eq_false, not_false_eq_true, Nat.zero_add]
        by_cases c2 : s ≤ wN (u.1 1 116)
        · obtain ⟨u2, cr, cj⟩ := r_street_y (X := X) (d := 990) (h := H) (o := o + 66) (z := z) (u := u) hG hI.hw e2 hwr hs c2
          rw [ho, if_neg Bool.false_ne_true] at cr
          exact gR_id hK hM cc cr cj.mq (cj.fr hF)
        · have cr : am_f X 1000 261 [.ref (o + 66), .int (zI e)] (mH H (o + 66) u, z) = _ := r_street_o (X := X) (d := 996) (h := H) (z := z) e2 hwr (by
            rw [hs, hG.m.1, zI_le (by omega) (by omega)]
            exact c2)
          exact gR_id hK hM cc cr mQ.rf hF
      | true =>
        rw [ho] at ko
        obtain ⟨i1, i2⟩ := isO_inv hm5 _ _ _ ho
        have hsm : s ≤ wN (u.1 1 116) := by
          have := isO_le hm5 _ _ _ ho (fun r h1 h2 => by rcases (by omega : r = 0 ∨ r = 1 ∨ r = 2 ∨ r = 3 ∨ r = 4) with rfl | rfl | rfl | rfl | rfl <;> rfl)
          omega
        have hcr := hX.cr e2
        have hlo := hlow (o + 56 + e) (by omega) (by omega)
        obtain ⟨h', u1, sA', sN', mA', mN', z', n, e1, e3, e4, e5, e6⟩ := w_mean (X := X) (d := 992) (LN := 120) (el := D.1.1 (56 + e)) (ord := fun j => wN (u.1 8 (120 * e + j))) (len := s) hst hr hlo (by rw [hWH]; exact hcr) (by omega) hs2 hsm (fun j hj => by
          rw [v8 j (by omega)]
          exact qIs_get (i1 j (by omega) (by omega)).1) (fun j j' q1 q2 q3 => by
          rcases Nat.lt_trichotomy j j' with c | c | c
          · exact absurd q3 (i2 j j' (by omega) c (by omega))
          · exact c
          · exact absurd q3.symm (i2 j' j (by omega) c (by omega)))
        rw [hWH] at e1 e5
        obtain ⟨g1, g2⟩ := hre h' u1 sA' sN' mA' mN' z' n e3 e4 e5 e6
        have km : am_f X 999 145 [.ref (o + 49), .ref (o + 56 + e), .int (zI s)] (H, z) = _ := e1
        have cc : am_f X 1000 143 [.ref o, .int (zI e)] (H, z) = some (.inl (some (.long (qSt (fun j => wN (u.1 8 (120 * e + j))) s 0 (qZ (u.1 1))))), (wH h' (o + 49) (u1, (o + 1, sA', sN', mA', mN')), z')) := by
          show am_f X (999 + 1) 143 _ _ = _
          rw [fU_143]
          simp (disch := first | omega | exact Nat.le_of_ble_eq_true rfl | exact hX.ci | exact hT.ci | exact hP.ci | exact hX.ci | exact hT.ci | exact hP.ci | (refine xF_lt ?_; omega) | (refine tF_lt ?_; omega) | (refine pF_lt ?_; omega) | exact wci) only [own_143, am_go dc_143_0, J_iload_1, K_il, ld_1, am_go dc_143_1, cs_0_73 own_143, JR_v, JR_0, JR_ite, am_go dc_143_4, J_if_eq, am_go dc_143_7, J_aload_0, K_al, ld_0, am_go dc_143_8, am_go dc_143_9, cv_0_77_0 own_143, ci1_r, am_go dc_143_12, am_go dc_143_15, am_go dc_143_16, am_go dc_143_17, cv_0_241_0 own_143, am_go dc_143_20, J_if_ne, am_go dc_143_23, J_ldc2, cj_0_185, am_go dc_143_26, J_ret_l ret_143, am_go dc_143_27, am_go dc_143_28, J_getfield, gf_r, fk_0_48_0, am_go dc_143_31, am_go dc_143_32, fk_0_64_0, am_go dc_143_35, am_go dc_143_36, J_aaload, am_go dc_143_37, am_go dc_143_38, fk_0_70_0, am_go dc_143_41, am_go dc_143_42, J_iaload, am_go dc_143_43, cv_0_244_5 own_143, am_go dc_143_46, xg_7, xg_10, xg_12, hX.c0, hX.c53, hX.c54, hX.c55, hX.c64, hX.c65, hT.c0, hT.c1, hT.c2, hT.c3, hT.c4, hT.c5, hT.c6, hT.c7, hP.c0, hP.c1, hP.c2, hP.c3, hP.c4, zI_add, zI_mul, zI_lt, zI_le, zI_eq, zI_neg, zI_pos, zI_ne0, zI_gt0, zB_0, lg_cmp_ge, lg_cmp_le, lg_cmp_gt, lg_cmp_lt, lg_cmp_eq, ail_r, abl_r, all_r, ais_r, abs_r, als_r, aal_r, aal_q, aln_r, vrf_s, vrf_n, z32, ks, kb, ko, Bool.and_self, km, v7, hs, Bool.true_eq_false, Bool.false_eq_true, zB_t, zB_f, i32_m1, i8_m3, i8_m4, rwF_v, List.length_cons, List.length_nil, Nat.reduceAdd, Nat.reduceLT, Nat.reduceLeDiff, Nat.reduceEqDiff, ↓reduceIte, bind_s, if_true, if_false, not_true_eq_false, not_false_eq_true, Nat.zero_add]
        obtain ⟨u2, cr, cj⟩ := r_street_y (X := X) (d := 990) (h := wH h' (o + 49) (u1, (o + 1, sA', sN', mA', mN'))) (o := o + 66) (z := z') (u := u) hG hI.hw e2 hwr hs hsm
        rw [ho, if_pos rfl] at cr
        exact gR_mk hM cc g1 g2 cr cj.mq (cj.fr hF)
    · have hwr : ¬ qWr u e (zI 0) = 0 := by
        unfold qWr
        rcases c5 with q | q | q <;> rw [q]
        · rw [if_pos (by decide)]
          decide
        · rw [if_neg (by decide), if_neg (by decide)]
          decide
        · rw [if_neg (by decide), if_pos rfl, if_neg (by decide), if_neg (show ¬ u.1 6 e = zI 0 from fun h => c1 ⟨q, h⟩)]
          decide
      have kf : (decide (u.1 5 e = zI 2) && decide (u.1 6 e = 0)) = false := by
        cases h : (decide (u.1 5 e = zI 2) && decide (u.1 6 e = 0)) with
        | false => rfl
        | true =>
          rw [Bool.and_eq_true, decide_eq_true_eq, decide_eq_true_eq] at h
          exact absurd h c1
      rw [kf] at kb
      have cc : am_f X 1000 143 [.ref o, .int (zI e)] (H, z) = some (.inl (some (.long (-4611686018427387904))), (H, z)) := by
        show am_f X (999 + 1) 143 _ _ = _
        rw [fU_143]
        simp (disch := first | omega | exact Nat.le_of_ble_eq_true rfl | exact hX.ci | exact hT.ci | exact hP.ci | exact hX.ci | exact hT.ci | exact hP.ci | (refine xF_lt ?_; omega) | (refine tF_lt ?_; omega) | (refine pF_lt ?_; omega) | exact wci) only [own_143, am_go dc_143_0, J_iload_1, K_il, ld_1, am_go dc_143_1, cs_0_73 own_143, JR_v, JR_0, JR_ite, am_go dc_143_4, J_if_eq, am_go dc_143_7, J_aload_0, K_al, ld_0, am_go dc_143_8, am_go dc_143_9, cv_0_77_0 own_143, ci1_r, am_go dc_143_12, am_go dc_143_15, am_go dc_143_16, am_go dc_143_17, cv_0_241_0 own_143, am_go dc_143_20, J_if_ne, am_go dc_143_23, J_ldc2, cj_0_185, am_go dc_143_26, J_ret_l ret_143, am_go dc_143_27, am_go dc_143_28, J_getfield, gf_r, fk_0_48_0, am_go dc_143_31, am_go dc_143_32, fk_0_64_0, am_go dc_143_35, am_go dc_143_36, J_aaload, am_go dc_143_37, am_go dc_143_38, fk_0_70_0, am_go dc_143_41, am_go dc_143_42, J_iaload, am_go dc_143_43, cv_0_244_5 own_143, am_go dc_143_46, xg_7, xg_10, xg_12, hX.c0, hX.c53, hX.c54, hX.c55, hX.c64, hX.c65, hT.c0, hT.c1, hT.c2, hT.c3, hT.c4, hT.c5, hT.c6, hT.c7, hP.c0, hP.c1, hP.c2, hP.c3, hP.c4, zI_add, zI_mul, zI_lt, zI_le, zI_eq, zI_neg, zI_pos, zI_ne0, zI_gt0, zB_0, lg_cmp_ge, lg_cmp_le, lg_cmp_gt, lg_cmp_lt, lg_cmp_eq, ail_r, abl_r, all_r, ais_r, abs_r, als_r, aal_r, aal_q, aln_r, vrf_s, vrf_n, z32, ks, kb, Bool.true_eq_false, Bool.false_eq_true, zB_t, zB_f, i32_m1, i8_m3, i8_m4, rwF_v, List.length_cons, List.length_nil, Nat.reduceAdd, Nat.reduceLT, Nat.reduceLeDiff, Nat.reduceEqDiff, ↓reduceIte, bind_s, if_true, if_false, not_true_eq_false, not_false_eq_true, Nat.zero_add]
      have cr : am_f X 1000 261 [.ref (o + 66), .int (zI e)] (mH H (o + 66) u, z) = _ := r_street_m (X := X) (d := 996) (h := H) (z := z) e2 hwr
      exact gR_id hK hM cc cr mQ.rf hF
theorem f_bestStreet (hK : gK o k H z u) (hM : cM H (o + 66) u) (hF : mFr u)  : gR X o k 154 263 [] H z u := by
  obtain ⟨C, D, T, P, Q, wu, sA, sN, mA, mN, hX, hTN, hP, hpS, hI, hSh, hst, hr, hWH, hlow, hre⟩ := g_walk hK
  have hS := hTN.1
  have hT := hS.iT
  have hN := hTN.2.1
  have hG := hI.1
  have hL := hI.pl
  have hq := hI.qw
  have hm5 := hG.m.2
  have hsz := hS.sz
  have hbl := hS.bell
  have wci : am_ci1 ((H, z).1 (o + 49)) = some 5 := by
    have := wH_ci (h := H) (w := o + 49) (D := (wu, (o + 1, sA, sN, mA, mN))) (z := z)
    rw [hWH] at this
    exact this
  by_cases c : wN (u.1 1 116) = 0
  · have hm0 : u.1 1 116 = zI 0 := by
      rw [hG.m.1, c]
    rw [c] at hsz
    have cc : am_f X 1000 154 [.ref o] (H, z) = some (.inl (some (.int (-4))), (H, z)) := by
      show am_f X (999 + 1) 154 _ _ = _
      rw [fU_154]
      simp (disch := first | omega | exact Nat.le_of_ble_eq_true rfl | exact hX.ci | exact hT.ci | exact hP.ci | exact hX.ci | exact hT.ci | exact hP.ci | (refine xF_lt ?_; omega) | (refine tF_lt ?_; omega) | (refine pF_lt ?_; omega) | exact wci) only [own_154, am_go dc_154_0, J_aload_0, K_al, ld_0, am_go dc_154_1, J_getfield, gf_r, fk_0_12_0, am_go dc_154_4, fk_0_80_1, am_go dc_154_7, J_if_ne, am_go dc_154_10, J_bipush, i8_m4, am_go dc_154_12, J_goto, am_go dc_154_15, am_go dc_154_16, fk_0_48_0, am_go dc_154_19, cv_0_248_5 own_154, JR_v, JR_0, JR_ite, ci1_r, am_go dc_154_22, J_ret_i ret_154, xg_0, tg_1, xg_7, hX.c0, hX.c53, hX.c54, hX.c55, hX.c64, hX.c65, hT.c0, hT.c1, hT.c2, hT.c3, hT.c4, hT.c5, hT.c6, hT.c7, hP.c0, hP.c1, hP.c2, hP.c3, hP.c4, zI_add, zI_mul, zI_lt, zI_le, zI_eq, zI_neg, zI_pos, zI_ne0, zI_gt0, zB_0, lg_cmp_ge, lg_cmp_le, lg_cmp_gt, lg_cmp_lt, lg_cmp_eq, ail_r, abl_r, all_r, ais_r, abs_r, als_r, aal_r, aal_q, aln_r, vrf_s, vrf_n, z32, hsz, Bool.true_eq_false, Bool.false_eq_true, zB_t, zB_f, i32_m1, i8_m3, rwF_v, List.length_cons, List.length_nil, Nat.reduceAdd, Nat.reduceLT, Nat.reduceLeDiff, Nat.reduceEqDiff, ↓reduceIte, bind_s, if_true, if_false, not_true_eq_false, not_false_eq_true, Nat.zero_add]
    have cr : am_f X 1000 263 [.ref (o + 66)] (mH H (o + 66) u, z) = _ := r_bestStreet_n (X := X) (d := 999) (h := H) (z := z) hm0
    exact gR_id hK hM cc cr mQ.rf hF
  · have hm0 : 0 < wN (u.1 1 116) := by omega
    obtain ⟨h', u1, sA', sN', mA', mN', z', n, e1, e3, e4, e5, e6⟩ := w_best (X := X) (d := 986) (y := u.2.2.2 34) hst hr
    rw [hWH] at e1 e5
    obtain ⟨g1, g2⟩ := hre h' u1 sA' sN' mA' mN' z' n e3 e4 e5 e6
    have km : am_f X 999 155 [.ref (o + 49)] (H, z) = _ := e1
    have cc : am_f X 1000 154 [.ref o] (H, z) = some (.inl (some (.int (qGo (qZ (u.1 1)) (wN (u.1 1 116)) 0 (zI 0) (zI 0) (fun _ => 0) (u.2.2.2 34, -4)).2)), (wH h' (o + 49) (u1, (o + 1, sA', sN', mA', mN')), z')) := by
      show am_f X (999 + 1) 154 _ _ = _
      rw [fU_154]
      simp (disch := first | omega | exact Nat.le_of_ble_eq_true rfl | exact hX.ci | exact hT.ci | exact hP.ci | exact hX.ci | exact hT.ci | exact hP.ci | (refine xF_lt ?_; omega) | (refine tF_lt ?_; omega) | (refine pF_lt ?_; omega) | exact wci) only [own_154, am_go dc_154_0, J_aload_0, K_al, ld_0, am_go dc_154_1, J_getfield, gf_r, fk_0_12_0, am_go dc_154_4, fk_0_80_1, am_go dc_154_7, J_if_ne, am_go dc_154_10, J_bipush, i8_m4, am_go dc_154_12, J_goto, am_go dc_154_15, am_go dc_154_16, fk_0_48_0, am_go dc_154_19, cv_0_248_5 own_154, JR_v, JR_0, JR_ite, ci1_r, am_go dc_154_22, J_ret_i ret_154, xg_0, tg_1, xg_7, hX.c0, hX.c53, hX.c54, hX.c55, hX.c64, hX.c65, hT.c0, hT.c1, hT.c2, hT.c3, hT.c4, hT.c5, hT.c6, hT.c7, hP.c0, hP.c1, hP.c2, hP.c3, hP.c4, zI_add, zI_mul, zI_lt, zI_le, zI_eq, zI_neg, zI_pos, zI_ne0, zI_gt0, zB_0, lg_cmp_ge, lg_cmp_le, lg_cmp_gt, lg_cmp_lt, lg_cmp_eq, ail_r, abl_r, all_r, ais_r, abs_r, als_r, aal_r, aal_q, aln_r, vrf_s, vrf_n, z32, km, hsz, c, Bool.true_eq_false, Bool.false_eq_true, zB_t, zB_f, i32_m1, i8_m3, rwF_v, List.length_cons, List.length_nil, Nat.reduceAdd, Nat.reduceLT, Nat.reduceLeDiff, Nat.reduceEqDiff, ↓reduceIte, bind_s, if_true, if_false, not_true_eq_false, not_false_eq_true, Nat.zero_add]
    obtain ⟨u2, cr, cj⟩ := r_bestStreet_y (X := X) (d := 984) (h := wH h' (o + 49) (u1, (o + 1, sA', sN', mA', mN'))) (o := o + 66) (z := z') (u := u) hG hm0
    exact gR_mk hM cc g1 g2 cr cj.mq (cj.fr hF)
end FF
