/-! the face -/
/-- class and reference answer alike, and all holds behind the call -/
def okL (tc : Nat) : Bool := tc == 97 || (tc == 100 || (tc == 104 || (tc == 124 || (tc == 126 || (tc == 130 || tc == 143)))))
def okR (tc : Nat) (y : Value) : Bool := match y with
  | .int _ => !okL tc
  | .long _ => okL tc
  | _ => false
def gR (X : am_X) (o k tc tr : Nat) (args : List Value) (H : am_H) (z : Nat × Nat) (u : mU) : Prop := ∃ y H1 z1 H2 u', am_f X 1000 tc (.ref o :: args) (H, z) = some (.inl (some y), (H1, z1)) ∧ am_f X 1000 tr (.ref (o + 66) :: args) (H1, z1) = some (.inl (some y), (H2, z1)) ∧ gK o (k + 1) H2 z1 u' ∧ cM H2 (o + 66) u' ∧ mFr u' ∧ okR tc y = true ∧ (∀ x, x < o → H1 x = none) ∧ cM H1 (o + 66) u
section FA
variable {X : am_X} {o k : Nat} {H : am_H} {z : Nat × Nat} {u : mU}
theorem gK.lo {v : mU} (h : gK o k H z v) : ∀ x, x < o → H x = none := by
  obtain ⟨C, D, T, P, TI, PI, lu, m, a, N, wu, sA, sN, mA, mN, h1, h2, h3, h4, h5, h6, h7, h8, h9, h10, h11, h12⟩ := h
  exact h11
theorem gR_mk {tc tr : Nat} {args : List Value} {y : Value} {H1 : am_H} {z1 : Nat × Nat} {v1 u' : mU} (hM : cM H (o + 66) u) (hc : am_f X 1000 tc (.ref o :: args) (H, z) = some (.inl (some y), (H1, z1))) (hk : gK o (k + 1) H1 z1 v1) (hf : ∀ x, o + 66 ≤ x → x < o + 86 → H1 x = H x) (hr : am_f X 1000 tr (.ref (o + 66) :: args) (mH H1 (o + 66) u, z1) = some (.inl (some y), (mH H1 (o + 66) u', z1))) (hq : mQ v1 u') (hF : mFr u') (hy : okR tc y = true := by rfl) : gR X o k tc tr args H z u := by
  have hM1 : cM H1 (o + 66) u := hM.fr (fun x h1 h2 => hf x h1 (by omega))
  rw [hM1] at hr
  exact ⟨y, H1, z1, mH H1 (o + 66) u', u', hc, hr, hk.rf (fun x hx => mH_x (by omega)) hq, cM_is, hF, hy, hk.lo, hM1⟩
theorem gR_id {tc tr : Nat} {args : List Value} {y : Value} {u' : mU} (hK : gK o k H z u) (hM : cM H (o + 66) u) (hc : am_f X 1000 tc (.ref o :: args) (H, z) = some (.inl (some y), (H, z))) (hr : am_f X 1000 tr (.ref (o + 66) :: args) (mH H (o + 66) u, z) = some (.inl (some y), (mH H (o + 66) u', z))) (hq : mQ u u') (hF : mFr u') (hy : okR tc y = true := by rfl) : gR X o k tc tr args H z u := gR_mk hM hc (hK.le (Nat.le_succ k)) (fun _ _ _ => rfl) hr hq hF hy
theorem f_is (hK : gK o k H z u) (hM : cM H (o + 66) u) (hF : mFr u) {x : Int32} : gR X o k 69 216 [.int x] H z u := by
  obtain ⟨C, D, T, P, Q, lu, m, a, N, hX, hTN, hP, hpS, hI, hpl, hr, hkn, hLH, hlow, hre⟩ := g_plan hK
  have hS := hTN.1
  have hT := hS.iT
  have hN := hTN.2.1
  have hG := hI.1
  have hL := hI.pl
  have hq := hI.qw
  have hm5 := hG.m.2
  have hsz := hS.sz
  have hbl := hS.bell
  have kh : am_f X 999 32 [.ref (o + 1), .int (x)] (H, z) = _ := c_has (X := X) (d := 998) (z := z) hS
  cases hx : qIs x (wN (u.1 1 116)) with
  | false =>
    rw [hx] at kh
    have cc : am_f X 1000 69 [.ref o, .int x] (H, z) = some (.inl (some (.int (-1))), (H, z)) := by
      show am_f X (999 + 1) 69 _ _ = _
      rw [fU_69]
      simp (disch := first | omega | exact Nat.le_of_ble_eq_true rfl | exact hX.ci | exact hT.ci | exact hP.ci | exact hX.ci | exact hT.ci | exact hP.ci | (refine xF_lt ?_; omega) | (refine tF_lt ?_; omega) | (refine pF_lt ?_; omega)) only [own_69, am_go dc_69_0, J_aload_0, K_al, ld_0, am_go dc_69_1, J_getfield, gf_r, fk_0_12_0, am_go dc_69_4, J_iload_1, K_il, ld_1, am_go dc_69_5, cv_0_94_1 own_69, JR_v, JR_0, JR_ite, ci1_r, am_go dc_69_8, J_if_eq, am_go dc_69_11, am_go dc_69_12, fk_0_19_0, am_go dc_69_15, fk_0_139_2, am_go dc_69_18, am_go dc_69_19, J_iaload, am_go dc_69_20, J_goto, am_go dc_69_23, J_iconst, i32_m1, am_go dc_69_24, J_ret_i ret_69, xg_0, xg_1, pg_0, hX.c0, hX.c53, hX.c54, hX.c55, hX.c64, hX.c65, hT.c0, hT.c1, hT.c2, hT.c3, hT.c4, hT.c5, hT.c6, hT.c7, hP.c0, hP.c1, hP.c2, hP.c3, hP.c4, zI_add, zI_mul, zI_lt, zI_le, zI_eq, zI_neg, zI_pos, zI_ne0, zI_gt0, zB_0, lg_cmp_ge, lg_cmp_le, lg_cmp_gt, lg_cmp_lt, lg_cmp_eq, ail_r, abl_r, all_r, ais_r, abs_r, als_r, aal_r, aal_q, aln_r, vrf_s, vrf_n, z32, kh, Bool.true_eq_false, Bool.false_eq_true, zB_t, zB_f, i8_m3, i8_m4, rwF_v, List.length_cons, List.length_nil, Nat.reduceAdd, Nat.reduceLT, Nat.reduceLeDiff, Nat.reduceEqDiff, ↓reduceIte, bind_s, if_true, if_false, not_true_eq_false, not_false_eq_true, Nat.zero_add]
    have cr : am_f X 1000 216 [.ref (o + 66), .int x] (mH H (o + 66) u, z) = _ := r_is (X := X) (d := 997) (h := H) (z := z) hq
    rw [hx] at cr
    exact gR_id hK hM cc cr mQ.rf hF
  | true =>
    obtain ⟨e1, e2⟩ := qIs_get hx
    generalize wN x = b at *
    subst e1
    have hb5 : b < 5 := by omega
    rw [hx] at kh
    have hd := (hpS.1 b hb5).1
    have cc : am_f X 1000 69 [.ref o, .int (zI b)] (H, z) = some (.inl (some (.int (qD5 (u.1 1 (90 + b))))), (H, z)) := by
      show am_f X (999 + 1) 69 _ _ = _
      rw [fU_69]
      simp (disch := first | omega | exact Nat.le_of_ble_eq_true rfl | exact hX.ci | exact hT.ci | exact hP.ci | exact hX.ci | exact hT.ci | exact hP.ci | (refine xF_lt ?_; omega) | (refine tF_lt ?_; omega) | (refine pF_lt ?_; omega)) only [own_69, am_go dc_69_0, J_aload_0, K_al, ld_0, am_go dc_69_1, J_getfield, gf_r, fk_0_12_0, am_go dc_69_4, J_iload_1, K_il, ld_1, am_go dc_69_5, cv_0_94_1 own_69, JR_v, JR_0, JR_ite, ci1_r, am_go dc_69_8, J_if_eq, am_go dc_69_11, am_go dc_69_12, fk_0_19_0, am_go dc_69_15, fk_0_139_2, am_go dc_69_18, am_go dc_69_19, J_iaload, am_go dc_69_20, J_goto, am_go dc_69_23, J_iconst, i32_m1, am_go dc_69_24, J_ret_i ret_69, xg_0, xg_1, pg_0, hX.c0, hX.c53, hX.c54, hX.c55, hX.c64, hX.c65, hT.c0, hT.c1, hT.c2, hT.c3, hT.c4, hT.c5, hT.c6, hT.c7, hP.c0, hP.c1, hP.c2, hP.c3, hP.c4, zI_add, zI_mul, zI_lt, zI_le, zI_eq, zI_neg, zI_pos, zI_ne0, zI_gt0, zB_0, lg_cmp_ge, lg_cmp_le, lg_cmp_gt, lg_cmp_lt, lg_cmp_eq, ail_r, abl_r, all_r, ais_r, abs_r, als_r, aal_r, aal_q, aln_r, vrf_s, vrf_n, z32, kh, hd, Bool.true_eq_false, Bool.false_eq_true, zB_t, zB_f, i8_m3, i8_m4, rwF_v, List.length_cons, List.length_nil, Nat.reduceAdd, Nat.reduceLT, Nat.reduceLeDiff, Nat.reduceEqDiff, ↓reduceIte, bind_s, if_true, if_false, not_true_eq_false, not_false_eq_true, Nat.zero_add]
    have cr : am_f X 1000 216 [.ref (o + 66), .int (zI b)] (mH H (o + 66) u, z) = _ := r_is (X := X) (d := 997) (h := H) (z := z) hq
    rw [hx, wN_zI (by omega)] at cr
    exact gR_id hK hM cc cr mQ.rf hF
theorem f_may (hK : gK o k H z u) (hM : cM H (o + 66) u) (hF : mFr u) {x : Int32} : gR X o k 70 218 [.int x] H z u := by
  obtain ⟨C, D, T, P, Q, lu, m, a, N, hX, hTN, hP, hpS, hI, hpl, hr, hkn, hLH, hlow, hre⟩ := g_plan hK
  have hS := hTN.1
  have hT := hS.iT
  have hN := hTN.2.1
  have hG := hI.1
  have hL := hI.pl
  have hq := hI.qw
  have hm5 := hG.m.2
  have hsz := hS.sz
  have hbl := hS.bell
  have kp : am_f X 999 71 [.ref (o + 9), .ref (o + 1)] (H, z) = _ := p_packed (X := X) (d := 997) (z := z) hS hP hpS hL
  have kh : am_f X 999 32 [.ref (o + 1), .int (x)] (H, z) = _ := c_has (X := X) (d := 998) (z := z) hS
  cases hx : qIs x (wN (u.1 1 116)) with
  | false =>
    rw [hx] at kh
    have cc : am_f X 1000 70 [.ref o, .int x] (H, z) = some (.inl (some (.int (-1))), (H, z)) := by
      show am_f X (999 + 1) 70 _ _ = _
      rw [fU_70]
      simp (disch := first | omega | exact Nat.le_of_ble_eq_true rfl | exact hX.ci | exact hT.ci | exact hP.ci | exact hX.ci | exact hT.ci | exact hP.ci | (refine xF_lt ?_; omega) | (refine tF_lt ?_; omega) | (refine pF_lt ?_; omega)) only [own_70, am_go dc_70_0, J_aload_0, K_al, ld_0, am_go dc_70_1, J_getfield, gf_r, fk_0_12_0, am_go dc_70_4, J_iload_1, K_il, ld_1, am_go dc_70_5, cv_0_94_1 own_70, JR_v, JR_0, JR_ite, ci1_r, am_go dc_70_8, J_if_ne, am_go dc_70_11, J_iconst, i32_m1, am_go dc_70_12, J_ret_i ret_70, am_go dc_70_13, am_go dc_70_14, am_go dc_70_17, am_go dc_70_18, fk_0_19_0, am_go dc_70_21, am_go dc_70_22, am_go dc_70_25, cv_0_142_2 own_70, am_go dc_70_28, am_go dc_70_29, cv_0_146_1 own_70, am_go dc_70_32, J_if_eq, am_go dc_70_35, c32_1, am_go dc_70_36, J_goto, am_go dc_70_39, c32_0, am_go dc_70_40, xg_0, xg_1, hX.c0, hX.c53, hX.c54, hX.c55, hX.c64, hX.c65, hT.c0, hT.c1, hT.c2, hT.c3, hT.c4, hT.c5, hT.c6, hT.c7, hP.c0, hP.c1, hP.c2, hP.c3, hP.c4, zI_add, zI_mul, zI_lt, zI_le, zI_eq, zI_neg, zI_pos, zI_ne0, zI_gt0, zB_0, lg_cmp_ge, lg_cmp_le, lg_cmp_gt, lg_cmp_lt, lg_cmp_eq, ail_r, abl_r, all_r, ais_r, abs_r, als_r, aal_r, aal_q, aln_r, vrf_s, vrf_n, z32, kh, Bool.true_eq_false, Bool.false_eq_true, zB_t, zB_f, i8_m3, i8_m4, rwF_v, List.length_cons, List.length_nil, Nat.reduceAdd, Nat.reduceLT, Nat.reduceLeDiff, Nat.reduceEqDiff, ↓reduceIte, bind_s, if_true, if_false, not_true_eq_false, not_false_eq_true, Nat.zero_add]
    have cr : am_f X 1000 218 [.ref (o + 66), .int x] (mH H (o + 66) u, z) = _ := r_may0_n (X := X) (d := 996) (h := H) (z := z) hq hx
    exact gR_id hK hM cc cr mQ.rf hF
  | true =>
    obtain ⟨e1, e2⟩ := qIs_get hx
    generalize wN x = b at *
    subst e1
    rw [hx] at kh
    have km : am_f X 999 75 [.ref (o + 1), .int (zI (pk (qDg (u.1 1)))), .int (zI b)] (H, z) = _ := c_mayOpen (X := X) (d := 996) (z := z) hS qDg_ok e2
    rw [lk_may hG qRw.rf hL e2] at km
    cases hy : qMay (u.1 1) b with
    | false =>
      rw [hy] at km
      have cc : am_f X 1000 70 [.ref o, .int (zI b)] (H, z) = some (.inl (some (.int (zI 0))), (H, z)) := by
        show am_f X (999 + 1) 70 _ _ = _
        rw [fU_70]
        simp (disch := first | omega | exact Nat.le_of_ble_eq_true rfl | exact hX.ci | exact hT.ci | exact hP.ci | exact hX.ci | exact hT.ci | exact hP.ci | (refine xF_lt ?_; omega) | (refine tF_lt ?_; omega) | (refine pF_lt ?_; omega)) only [own_70, am_go dc_70_0, J_aload_0, K_al, ld_0, am_go dc_70_1, J_getfield, gf_r, fk_0_12_0, am_go dc_70_4, J_iload_1, K_il, ld_1, am_go dc_70_5, cv_0_94_1 own_70, JR_v, JR_0, JR_ite, ci1_r, am_go dc_70_8, J_if_ne, am_go dc_70_11, J_iconst, i32_m1, am_go dc_70_12, J_ret_i ret_70, am_go dc_70_13, am_go dc_70_14, am_go dc_70_17, am_go dc_70_18, fk_0_19_0, am_go dc_70_21, am_go dc_70_22, am_go dc_70_25, cv_0_142_2 own_70, am_go dc_70_28, am_go dc_70_29, cv_0_146_1 own_70, am_go dc_70_32, J_if_eq, am_go dc_70_35, c32_1, am_go dc_70_36, J_goto, am_go dc_70_39, c32_0, am_go dc_70_40, xg_0, xg_1, hX.c0, hX.c53, hX.c54, hX.c55, hX.c64, hX.c65, hT.c0, hT.c1, hT.c2, hT.c3, hT.c4, hT.c5, hT.c6, hT.c7, hP.c0, hP.c1, hP.c2, hP.c3, hP.c4, zI_add, zI_mul, zI_lt, zI_le, zI_eq, zI_neg, zI_pos, zI_ne0, zI_gt0, zB_0, lg_cmp_ge, lg_cmp_le, lg_cmp_gt, lg_cmp_lt, lg_cmp_eq, ail_r, abl_r, all_r, ais_r, abs_r, als_r, aal_r, aal_q, aln_r, vrf_s, vrf_n, z32, kh, kp, km, Bool.true_eq_false, Bool.false_eq_true, zB_t, zB_f, i8_m3, i8_m4, rwF_v, List.length_cons, List.length_nil, Nat.reduceAdd, Nat.reduceLT, Nat.reduceLeDiff, Nat.reduceEqDiff, ↓reduceIte, bind_s, if_true, if_false, not_true_eq_false, not_false_eq_true, Nat.zero_add]
      have cr : am_f X 1000 218 [.ref (o + 66), .int (zI b)] (mH H (o + 66) u, z) = _ := r_may0_y (X := X) (d := 996) (h := H) (z := z) hq e2
      rw [hy] at cr
      exact gR_id hK hM cc cr mQ.rf hF
    | true =>
      rw [hy] at km
      have cc : am_f X 1000 70 [.ref o, .int (zI b)] (H, z) = some (.inl (some (.int (zI 1))), (H, z)) := by
        show am_f X (999 + 1) 70 _ _ = _
        rw [fU_70]
        simp (disch := first | omega | exact Nat.le_of_ble_eq_true rfl | exact hX.ci | exact hT.ci | exact hP.ci | exact hX.ci | exact hT.ci | exact hP.ci | (refine xF_lt ?_; omega) | (refine tF_lt ?_; omega) | (refine pF_lt ?_; omega)) only [own_70, am_go dc_70_0, J_aload_0, K_al, ld_0, am_go dc_70_1, J_getfield, gf_r, fk_0_12_0, am_go dc_70_4, J_iload_1, K_il, ld_1, am_go dc_70_5, cv_0_94_1 own_70, JR_v, JR_0, JR_ite, ci1_r, am_go dc_70_8, J_if_ne, am_go dc_70_11, J_iconst, i32_m1, am_go dc_70_12, J_ret_i ret_70, am_go dc_70_13, am_go dc_70_14, am_go dc_70_17, am_go dc_70_18, fk_0_19_0, am_go dc_70_21, am_go dc_70_22, am_go dc_70_25, cv_0_142_2 own_70, am_go dc_70_28, am_go dc_70_29, cv_0_146_1 own_70, am_go dc_70_32, J_if_eq, am_go dc_70_35, c32_1, am_go dc_70_36, J_goto, am_go dc_70_39, c32_0, am_go dc_70_40, xg_0, xg_1, hX.c0, hX.c53, hX.c54, hX.c55, hX.c64, hX.c65, hT.c0, hT.c1, hT.c2, hT.c3, hT.c4, hT.c5, hT.c6, hT.c7, hP.c0, hP.c1, hP.c2, hP.c3, hP.c4, zI_add, zI_mul, zI_lt, zI_le, zI_eq, zI_neg, zI_pos, zI_ne0, zI_gt0, zB_0, lg_cmp_ge, lg_cmp_le, lg_cmp_gt, lg_cmp_lt, lg_cmp_eq, ail_r, abl_r, all_r, ais_r, abs_r, als_r, aal_r, aal_q, aln_r, vrf_s, vrf_n, z32, kh, kp, km, Bool.true_eq_false, Bool.false_eq_true, zB_t, zB_f, i8_m3, i8_m4, rwF_v, List.length_cons, List.length_nil, Nat.reduceAdd, Nat.reduceLT, Nat.reduceLeDiff, Nat.reduceEqDiff, ↓reduceIte, bind_s, if_true, if_false, not_true_eq_false, not_false_eq_true, Nat.zero_add]
      have cr : am_f X 1000 218 [.ref (o + 66), .int (zI b)] (mH H (o + 66) u, z) = _ := r_may0_y (X := X) (d := 996) (h := H) (z := z) hq e2
      rw [hy] at cr
      exact gR_id hK hM cc cr mQ.rf hF
theorem f_mass (hK : gK o k H z u) (hM : cM H (o + 66) u) (hF : mFr u)  : gR X o k 97 232 [] H z u := by
  obtain ⟨C, D, T, P, Q, lu, m, a, N, hX, hTN, hP, hpS, hI, hpl, hr, hkn, hLH, hlow, hre⟩ := g_plan hK
  have hS := hTN.1
  have hT := hS.iT
  have hN := hTN.2.1
  have hG := hI.1
  have hL := hI.pl
  have hq := hI.qw
  have hm5 := hG.m.2
  have hsz := hS.sz
  have hbl := hS.bell
  have kp : am_f X 999 71 [.ref (o + 9), .ref (o + 1)] (H, z) = _ := p_packed (X := X) (d := 997) (z := z) hS hP hpS hL
  have km : am_f X 999 98 [.ref (o + 1), .int (zI (pk (qDg (u.1 1))))] (H, z) = _ := c_mass (X := X) (d := 996) (z := z) hS qDg_ok
  rw [lk_ms hG qRw.rf hL] at km
  have cc : am_f X 1000 97 [.ref o] (H, z) = some (.inl (some (.long (qMass (u.1 1)))), (H, z)) := by
    show am_f X (999 + 1) 97 _ _ = _
    rw [fU_97]
    simp (disch := first | omega | exact Nat.le_of_ble_eq_true rfl | exact hX.ci | exact hT.ci | exact hP.ci | exact hX.ci | exact hT.ci | exact hP.ci | (refine xF_lt ?_; omega) | (refine tF_lt ?_; omega) | (refine pF_lt ?_; omega)) only [own_97, am_go dc_97_0, J_aload_0, K_al, ld_0, am_go dc_97_1, J_getfield, gf_r, fk_0_12_0, am_go dc_97_4, am_go dc_97_5, fk_0_19_0, am_go dc_97_8, am_go dc_97_9, am_go dc_97_12, cv_0_142_2 own_97, JR_v, JR_0, JR_ite, ci1_r, am_go dc_97_15, cv_0_181_1 own_97, am_go dc_97_18, J_ret_l ret_97, xg_0, xg_1, hX.c0, hX.c53, hX.c54, hX.c55, hX.c64, hX.c65, hT.c0, hT.c1, hT.c2, hT.c3, hT.c4, hT.c5, hT.c6, hT.c7, hP.c0, hP.c1, hP.c2, hP.c3, hP.c4, zI_add, zI_mul, zI_lt, zI_le, zI_eq, zI_neg, zI_pos, zI_ne0, zI_gt0, zB_0, lg_cmp_ge, lg_cmp_le, lg_cmp_gt, lg_cmp_lt, lg_cmp_eq, ail_r, abl_r, all_r, ais_r, abs_r, als_r, aal_r, aal_q, aln_r, vrf_s, vrf_n, z32, kp, km, Bool.true_eq_false, Bool.false_eq_true, zB_t, zB_f, i32_m1, i8_m3, i8_m4, rwF_v, List.length_cons, List.length_nil, Nat.reduceAdd, Nat.reduceLT, Nat.reduceLeDiff, Nat.reduceEqDiff, ↓reduceIte, bind_s, if_true, if_false, not_true_eq_false, not_false_eq_true, Nat.zero_add]
  have cr : am_f X 1000 232 [.ref (o + 66)] (mH H (o + 66) u, z) = _ := r_mass0 (X := X) (d := 996) (h := H) (z := z) hq
  exact gR_id hK hM cc cr mQ.rf hF
end FA
