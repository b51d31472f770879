/-! the face: the image -/
section FJ
variable {X : am_X} {o k : Nat} {H : am_H} {z : Nat × Nat} {u : mU}
theorem img_v {u : mU} : (∀ j, j ≠ 2 → (fo q_img 0 118 u).1 j = u.1 j) ∧ (∀ j, j < 118 → (fo q_img 0 118 u).1 2 j = u.1 1 j) ∧ (fo q_img 0 118 u).2 = u.2 := by
  have := fo_inv (f := q_img) (fun i w => (∀ j, j ≠ 2 → w.1 j = u.1 j) ∧ (∀ j, j < i → w.1 2 j = u.1 1 j) ∧ w.2 = u.2) 118 0 u ⟨fun _ _ => rfl, fun j hj => by omega, rfl⟩ (fun i w _ _ ⟨h1, h2, h3⟩ => ⟨fun j hj => (if_neg hj).trans (h1 j hj), fun j hj => by
    show upd (w.1 2) i (w.1 1 i) j = _
    by_cases e : j = i
    · rw [e, upd_s, h1 1 (by omega)]
    · rw [upd_o e]
      exact h2 j (by omega), h3⟩)
  exact this
theorem rst_v {u : mU} : (∀ j, j ≠ 1 → (fo q_rst 0 118 u).1 j = u.1 j) ∧ (∀ j, j < 118 → (fo q_rst 0 118 u).1 1 j = u.1 2 j) ∧ (fo q_rst 0 118 u).2 = u.2 := by
  have := fo_inv (f := q_rst) (fun i w => (∀ j, j ≠ 1 → w.1 j = u.1 j) ∧ (∀ j, j < i → w.1 1 j = u.1 2 j) ∧ w.2 = u.2) 118 0 u ⟨fun _ _ => rfl, fun j hj => by omega, rfl⟩ (fun i w _ _ ⟨h1, h2, h3⟩ => ⟨fun j hj => (if_neg hj).trans (h1 j hj), fun j hj => by
    show upd (w.1 1) i (w.1 2 i) j = _
    by_cases e : j = i
    · rw [e, upd_s, h1 2 (by omega)]
    · rw [upd_o e]
      exact h2 j (by omega), h3⟩)
  exact this
theorem gS_q {C : Nat → Prop} {D : mU × (Nat → Option Nat)} {v v' : mU} (h : gS C H D v) (hq : ∀ j, 5 ≤ j → j ≤ 10 → v'.1 j = v.1 j) : gS C H D v' := by
  unfold gS gSe gSb at *
  rw [hq 5 (by omega) (by omega), hq 6 (by omega) (by omega), hq 7 (by omega) (by omega), hq 8 (by omega) (by omega), hq 9 (by omega) (by omega), hq 10 (by omega) (by omega)]
  exact h
theorem f_image (hK : gK o k H z u) (hM : cM H (o + 66) u) (hF : mFr u)  : gR X o k 157 269 [] H z u := by
  obtain ⟨C, D, T, P, TI, PI, lu, m, a, N, hX, hgT, hgI, hgE, hgL, hgS, hma, haa, hCC, hz0, hno, hup⟩ := g_up hK
  have hTN := hgT.1
  have hP := hgT.2.1
  have hpS := hgT.2.2.1
  have hI := hgT.2.2.2
  have hS := hTN.1
  have hT := hS.iT
  have hG := hI.1
  have hL := hI.pl
  have hq := hI.qw
  have hm5 := hG.m.2
  have hsz := hS.sz
  have hbl := hS.bell
  obtain ⟨i1, i2, i3⟩ := img_v (u := u)
  obtain ⟨w, hw⟩ : ∃ w, w = fo q_img 0 118 u := ⟨_, rfl⟩
  rw [← hw] at i1 i2 i3
  have hTI := hgI.1
  have hA : qA0 (u.1 1) (w.1 2) := fun j hj => i2 j (by omega)
  have eI : tH H (o + 14) TI = H := ov_eq hgI.1
  obtain ⟨TI', kt0, hTI0⟩ := c_take (X := X) (d := 995) (h := H) (t := o + 14) (q := o + 1) (T := TI) (Q := T) (z := z) hTN (Or.inl (by omega)) (fun x hx => by have := hCC x hx; omega) hgI.2.1
  rw [eI] at kt0
  have fr2 : ∀ x, (x < o + 14 ∨ o + 22 ≤ x) → tH H (o + 14) TI' x = H x := fun x q => tH_x (by omega)
  generalize tH H (o + 14) TI' = H2 at *
  have kt : am_f X 999 19 [.ref (o + 14), .ref (o + 1)] (H, z) = _ := kt0
  have hX2 : isX H2 o D := hX.fr (fun x hx => fr2 x (by unfold xK at hx; omega))
  have hP2 : isP H2 (o + 9) P := hP.fr (fun x q1 q2 => fr2 x (by omega))
  have hI2 : isP H2 (o + 22) PI := hgI.2.2.1.fr (fun x q1 q2 => fr2 x (by omega))
  have kp0 := p_take (X := X) (d := 998) (h := H2) (p := o + 22) (q := o + 9) (P := PI) (Q := P) (z := z) hP2 (Or.inl (by omega))
  rw [show pH H2 (o + 22) PI = H2 from ov_eq hI2] at kp0
  have hPI3 : isP (pH H2 (o + 22) (pTk P PI)) (o + 22) (pTk P PI) := pH_is
  have fr3 : ∀ x, (x < o + 22 ∨ o + 27 ≤ x) → pH H2 (o + 22) (pTk P PI) x = H2 x := fun x q => pH_x (by omega)
  generalize pH H2 (o + 22) (pTk P PI) = H3 at *
  have kp : am_f X 999 158 [.ref (o + 22), .ref (o + 9)] (H2, z) = _ := kp0
  have hX3 : isX H3 o D := hX2.fr (fun x hx => fr3 x (by unfold xK at hx; omega))
  have xp : am_up H3 o (.inr (0, (xF o D).set 4 (.int (zI 1)))) = xH H3 o (mI D.1 4 (zI 1), D.2) := by
    have := xp_4 (h := H3) (o := o) (D := D) (x := zI 1)
    rw [hX3.eq] at this
    exact this
  have hX4 : isX (xH H3 o (mI D.1 4 (zI 1), D.2)) o (mI D.1 4 (zI 1), D.2) := xH_is
  have fr4 : ∀ x, x ≠ o → xH H3 o (mI D.1 4 (zI 1), D.2) x = H3 x := fun x hx => by
    rw [← xp]
    exact up_x hx
  generalize xH H3 o (mI D.1 4 (zI 1), D.2) = H4 at *
  have hT4 : isT H4 (o + 1) T := hT.fr (fun x q1 q2 => by
    rw [fr4 x (by omega), fr3 x (by omega), fr2 x (by omega)])
  have cc : am_f X 1000 157 [.ref o] (H, z) = some (.inl (some (.int (zI (wN (u.1 1 116))))), (H4, z)) := by
    show am_f X (999 + 1) 157 _ _ = _
    rw [fU_157]
    simp (disch := first | omega | exact Nat.le_of_ble_eq_true rfl | exact hX.ci | exact hT.ci | exact hP.ci | exact hX.ci | exact hT.ci | exact hP.ci | (refine xF_lt ?_; omega) | (refine tF_lt ?_; omega) | (refine pF_lt ?_; omega) | exact hX2.ci | exact hX3.ci | exact hX4.ci | exact hT4.ci | exact hTI.ci | exact hI2.ci) only [own_157, am_go dc_157_0, J_aload_0, K_al, ld_0, am_go dc_157_1, J_getfield, gf_r, fk_0_23_0, am_go dc_157_4, am_go dc_157_5, fk_0_12_0, am_go dc_157_8, cv_0_262_1 own_157, JR_v, JR_0, JR_ite, ci1_r, am_go dc_157_11, am_go dc_157_12, fk_0_26_0, am_go dc_157_15, am_go dc_157_16, fk_0_19_0, am_go dc_157_19, cv_0_265_2 own_157, am_go dc_157_22, am_go dc_157_23, J_iconst, c32_1, am_go dc_157_24, J_putfield_i, J_putfield_l, J_putfield_r, ini_157, pk_0_268_0, am_go dc_157_27, am_go dc_157_28, am_go dc_157_31, fk_0_80_1, am_go dc_157_34, J_ret_i ret_157, xg_2, xg_0, xg_3, xg_1, pf_z0 pk_0_268_0 rfl, pf_z1 pk_0_268_0 rfl, pf_zB pk_0_268_0 rfl, tg_1, hX.c0, hX.c53, hX.c54, hX.c55, hX.c64, hX.c65, hT.c0, hT.c1, hT.c2, hT.c3, hT.c4, hT.c5, hT.c6, hT.c7, hP.c0, hP.c1, hP.c2, hP.c3, hP.c4, zI_add, zI_mul, zI_lt, zI_le, zI_eq, zI_neg, zI_pos, zI_ne0, zI_gt0, zB_0, lg_cmp_ge, lg_cmp_le, lg_cmp_gt, lg_cmp_lt, lg_cmp_eq, ail_r, abl_r, all_r, ais_r, abs_r, als_r, aal_r, aal_q, aln_r, vrf_s, vrf_n, z32, kt, kp, xp, hX2.c0, hX3.c0, hX4.c0, hT4.c0, hsz, xg_4, Bool.true_eq_false, Bool.false_eq_true, zB_t, zB_f, i32_m1, i8_m3, i8_m4, rwF_v, List.length_cons, List.length_nil, Nat.reduceAdd, Nat.reduceLT, Nat.reduceLeDiff, Nat.reduceEqDiff, ↓reduceIte, bind_s, if_true, if_false, not_true_eq_false, not_false_eq_true, Nat.zero_add]
  have fr1 : ∀ x, x < z.1 → ((x < o + 14 ∨ o + 27 ≤ x) ∧ x ≠ o) → H4 x = H x := fun x _ q => by
    rw [fr4 x (by omega), fr3 x (by omega), fr2 x (by omega)]
  have hn1 : ∀ x, z.1 ≤ x → H4 x = none := fun x hx => by
    rw [fr4 x (by omega), fr3 x (by omega), fr2 x (by omega)]
    exact hno x hx
  have hTI4 : tSN C H4 (o + 14) TI' (u.1 1) := hTI0.fr (fun x q1 q2 => by rw [fr4 x (by omega), fr3 x (by omega)]) (fun x hx => by
    have := hCC x hx
    rw [fr4 x (by omega), fr3 x (by omega)]) (fun _ h => h)
  have hPI4 : isP H4 (o + 22) (pTk P PI) := hPI3.fr (fun x q1 q2 => fr4 x (by omega))
  have hC1 : ∀ x, C x → H4 x = H x := fun x hx => fr1 x (hCC x hx).2 (by have := hCC x hx; omega)
  obtain ⟨g1, g2⟩ := hup (H4) (z) (C) ((mI D.1 4 (zI 1), D.2)) (T) (P) (TI') (pTk P PI) (lu) (mI w 10 (zI 1)) (fun x q1 q2 => fr1 x q1 (by omega)) (fun x q1 => fr1 x (by omega) (by omega)) hX4 (show gT C H4 o T P (mI w 10 (zI 1)) from by
    unfold gT
    rw [show (mI w 10 (zI 1)).1 1 = u.1 1 from i1 1 (by omega)]
    exact hgT.fr (fun x q1 q2 => fr1 x (by omega) (by omega)) hC1 (fun _ h => h)) ⟨hTI4.1.iT, hTI4.w0, hPI4, rfl, Or.inr ⟨rfl, tSN_cg hA hTI4, pS_cg (fun j q1 q2 => i2 j (by omega)) (pS_take hpS), rI_cg i2 hI⟩⟩ (hgE.fr (fun x q1 q2 => fr1 x (by omega) (by omega))) (show gL H4 o T lu m a N (mI w 10 (zI 1)) from by
    unfold gL
    rw [show (mI w 10 (zI 1)).1 1 = u.1 1 from i1 1 (by omega)]
    exact hgL.fr (fun x hx => fr1 x (by omega) (by omega))) (gS_q (hgS.fr hC1 (fun _ h => h)) (fun j q1 q2 => i1 j (by omega))) (fun x hx => Or.inl hx) (Nat.le_refl _) (by omega) (by omega) hn1
  have cr : am_f X 1000 269 [.ref (o + 66)] (mH H4 (o + 66) u, z) = _ := r_image (X := X) (d := 999) (h := H4) (z := z)
  rw [← hw, i1 1 (by omega), hG.m.1] at cr
  exact gR_mk hM cc g1 g2 cr mQ.rf (mFr_cg hF (fun j q1 q2 => i1 j (by omega)) (by show w.2.1 = _; rw [i3]) (by show w.2.2.1 32 = _; rw [i3]) (fun j _ => by rw [show (mI w 10 (zI 1)).1 1 = u.1 1 from i1 1 (by omega)]))
theorem f_restore (hK : gK o k H z u) (hM : cM H (o + 66) u) (hF : mFr u)  : gR X o k 159 270 [] H z u := by
  obtain ⟨C, D, T, P, TI, PI, lu, m, a, N, hX, hgT, hgI, hgE, hgL, hgS, hma, haa, hCC, hz0, hno, hup⟩ := g_up hK
  have hTN := hgT.1
  have hP := hgT.2.1
  have hpS := hgT.2.2.1
  have hI := hgT.2.2.2
  have hS := hTN.1
  have hT := hS.iT
  have hG := hI.1
  have hL := hI.pl
  have hq := hI.qw
  have hm5 := hG.m.2
  have hsz := hS.sz
  have hbl := hS.bell
  obtain ⟨y1, y2, y3, y4, y5⟩ := hgI
  rcases y5 with q | ⟨q, w1, w2, w3⟩
  · rw [q] at y4
    have cc : am_f X 1000 159 [.ref o] (H, z) = some (.inl (some (.int (-3))), (H, z)) := by
      show am_f X (999 + 1) 159 _ _ = _
      rw [fU_159]
      simp (disch := first | omega | exact Nat.le_of_ble_eq_true rfl | exact hX.ci | exact hT.ci | exact hP.ci | exact hX.ci | exact hT.ci | exact hP.ci | (refine xF_lt ?_; omega) | (refine tF_lt ?_; omega) | (refine pF_lt ?_; omega)) only [own_159, am_go dc_159_0, J_aload_0, K_al, ld_0, am_go dc_159_1, J_getfield, gf_r, fk_0_268_0, am_go dc_159_4, J_if_ne, am_go dc_159_7, J_bipush, i8_m3, am_go dc_159_9, J_ret_i ret_159, am_go dc_159_10, am_go dc_159_11, fk_0_12_0, am_go dc_159_14, am_go dc_159_15, fk_0_23_0, am_go dc_159_18, cv_0_262_1 own_159, JR_v, JR_0, JR_ite, ci1_r, am_go dc_159_21, am_go dc_159_22, fk_0_19_0, am_go dc_159_25, am_go dc_159_26, fk_0_26_0, am_go dc_159_29, cv_0_265_2 own_159, am_go dc_159_32, am_go dc_159_33, fk_0_41_0, am_go dc_159_36, am_go dc_159_39, am_go dc_159_40, am_go dc_159_43, fk_0_80_1, am_go dc_159_46, xg_4, xg_0, xg_2, xg_1, xg_3, xg_6, tg_1, hX.c0, hX.c53, hX.c54, hX.c55, hX.c64, hX.c65, hT.c0, hT.c1, hT.c2, hT.c3, hT.c4, hT.c5, hT.c6, hT.c7, hP.c0, hP.c1, hP.c2, hP.c3, hP.c4, zI_add, zI_mul, zI_lt, zI_le, zI_eq, zI_neg, zI_pos, zI_ne0, zI_gt0, zB_0, lg_cmp_ge, lg_cmp_le, lg_cmp_gt, lg_cmp_lt, lg_cmp_eq, ail_r, abl_r, all_r, ais_r, abs_r, als_r, aal_r, aal_q, aln_r, vrf_s, vrf_n, z32, y4, Bool.true_eq_false, Bool.false_eq_true, zB_t, zB_f, i32_m1, i8_m4, rwF_v, List.length_cons, List.length_nil, Nat.reduceAdd, Nat.reduceLT, Nat.reduceLeDiff, Nat.reduceEqDiff, ↓reduceIte, bind_s, if_true, if_false, not_true_eq_false, not_false_eq_true, Nat.zero_add]
    have cr : am_f X 1000 270 [.ref (o + 66)] (mH H (o + 66) u, z) = _ := r_restore_n (X := X) (d := 999) (h := H) (z := z) q
    exact gR_id hK hM cc cr mQ.rf hF
  · rw [q] at y4
    obtain ⟨i1, i2, i3⟩ := rst_v (u := u)
    obtain ⟨w, hw⟩ : ∃ w, w = fo q_rst 0 118 u := ⟨_, rfl⟩
    rw [← hw] at i1 i2 i3
    have hA : qA0 (u.1 2) (w.1 1) := fun j hj => i2 j (by omega)
    have eI : tH H (o + 1) T = H := ov_eq hT
    obtain ⟨T', kt0, hTI0⟩ := c_take (X := X) (d := 995) (h := H) (t := o + 1) (q := o + 14) (T := T) (Q := TI) (z := z) w1 (Or.inr (by omega)) (fun x hx => by have := hCC x hx; omega) hTN.w0
    rw [eI] at kt0
    have fr2 : ∀ x, (x < o + 1 ∨ o + 9 ≤ x) → tH H (o + 1) T' x = H x := fun x q => tH_x (by omega)
    generalize tH H (o + 1) T' = H2 at *
    have kt : am_f X 999 19 [.ref (o + 1), .ref (o + 14)] (H, z) = _ := kt0
    have hX2 : isX H2 o D := hX.fr (fun x hx => fr2 x (by unfold xK at hx; omega))
    have hP2 : isP H2 (o + 9) P := hP.fr (fun x q1 q2 => fr2 x (by omega))
    have hI2 : isP H2 (o + 22) PI := y3.fr (fun x q1 q2 => fr2 x (by omega))
    have kp0 := p_take (X := X) (d := 998) (h := H2) (p := o + 9) (q := o + 22) (P := P) (Q := PI) (z := z) hI2 (Or.inr (by omega))
    rw [show pH H2 (o + 9) P = H2 from ov_eq hP2] at kp0
    have hP3 : isP (pH H2 (o + 9) (pTk PI P)) (o + 9) (pTk PI P) := pH_is
    have fr3 : ∀ x, (x < o + 9 ∨ o + 14 ≤ x) → pH H2 (o + 9) (pTk PI P) x = H2 x := fun x q => pH_x (by omega)
    generalize pH H2 (o + 9) (pTk PI P) = H3 at *
    have kp : am_f X 999 158 [.ref (o + 9), .ref (o + 22)] (H2, z) = _ := kp0
    have hX3 : isX H3 o D := hX2.fr (fun x hx => fr3 x (by unfold xK at hx; omega))
    have cL2 := hgL.no (H' := H3) (fun x hx => by rw [fr3 x (by omega), fr2 x (by omega)])
    obtain ⟨H4, kf0, f1, cL1⟩ := l_forget (X := X) (d := 998) (z := z) cL2
    have kf : am_f X 999 45 [.ref (o + 40)] (H3, z) = _ := kf0
    have lci : am_ci1 ((H3, z).1 (o + 40)) = some 4 := by
      have := lH_ci (h := H3) (l := o + 40) (D := (lu, (o + 1, m, a, N))) (z := z)
      rw [cL2.2] at this
      exact this
    have hX4 : isX H4 o D := hX3.fr (fun x hx => f1 x (by unfold xK at hx; omega))
    have hTN4 : tSN C H4 (o + 1) T' (u.1 2) := hTI0.fr (fun x q1 q2 => by rw [f1 x (by omega), fr3 x (by omega)]) (fun x hx => by
      have := hCC x hx
      rw [f1 x (by omega), fr3 x (by omega)]) (fun _ h => h)
    have hT4 := hTN4.1.iT
    have hsz4 := hTN4.1.sz
    have zne : ¬ zI 1 = 0 := by decide
    have cc : am_f X 1000 159 [.ref o] (H, z) = some (.inl (some (.int (zI (wN (u.1 2 116))))), (H4, z)) := by
      show am_f X (999 + 1) 159 _ _ = _
      rw [fU_159]
      simp (disch := first | omega | exact Nat.le_of_ble_eq_true rfl | exact hX.ci | exact hT.ci | exact hP.ci | exact hX.ci | exact hT.ci | exact hP.ci | (refine xF_lt ?_; omega) | (refine tF_lt ?_; omega) | (refine pF_lt ?_; omega) | exact hX2.ci | exact hX3.ci | exact hX4.ci | exact hT4.ci | exact hP2.ci | exact lci) only [own_159, am_go dc_159_0, J_aload_0, K_al, ld_0, am_go dc_159_1, J_getfield, gf_r, fk_0_268_0, am_go dc_159_4, J_if_ne, am_go dc_159_7, J_bipush, i8_m3, am_go dc_159_9, J_ret_i ret_159, am_go dc_159_10, am_go dc_159_11, fk_0_12_0, am_go dc_159_14, am_go dc_159_15, fk_0_23_0, am_go dc_159_18, cv_0_262_1 own_159, JR_v, JR_0, JR_ite, ci1_r, am_go dc_159_21, am_go dc_159_22, fk_0_19_0, am_go dc_159_25, am_go dc_159_26, fk_0_26_0, am_go dc_159_29, cv_0_265_2 own_159, am_go dc_159_32, am_go dc_159_33, fk_0_41_0, am_go dc_159_36, cv_0_88_4 own_159, am_go dc_159_39, am_go dc_159_40, am_go dc_159_43, fk_0_80_1, am_go dc_159_46, xg_4, xg_0, xg_2, xg_1, xg_3, xg_6, tg_1, hX.c0, hX.c53, hX.c54, hX.c55, hX.c64, hX.c65, hT.c0, hT.c1, hT.c2, hT.c3, hT.c4, hT.c5, hT.c6, hT.c7, hP.c0, hP.c1, hP.c2, hP.c3, hP.c4, zI_add, zI_mul, zI_lt, zI_le, zI_eq, zI_neg, zI_pos, zI_ne0, zI_gt0, zB_0, lg_cmp_ge, lg_cmp_le, lg_cmp_gt, lg_cmp_lt, lg_cmp_eq, ail_r, abl_r, all_r, ais_r, abs_r, als_r, aal_r, aal_q, aln_r, vrf_s, vrf_n, z32, y4, zne, kt, kp, kf, hX2.c0, hX3.c0, hX4.c0, hT4.c0, hsz4, Bool.true_eq_false, Bool.false_eq_true, zB_t, zB_f, i32_m1, i8_m4, rwF_v, List.length_cons, List.length_nil, Nat.reduceAdd, Nat.reduceLT, Nat.reduceLeDiff, Nat.reduceEqDiff, ↓reduceIte, bind_s, if_true, if_false, not_true_eq_false, not_false_eq_true, Nat.zero_add]
    have fr1 : ∀ x, x < z.1 → ((x < o + 1 ∨ o + 14 ≤ x) ∧ x ≠ o + 40) → H4 x = H x := fun x _ q => by
      rw [f1 x (by omega), fr3 x (by omega), fr2 x (by omega)]
    have hn1 : ∀ x, z.1 ≤ x → H4 x = none := fun x hx => by
      rw [f1 x (by omega), fr3 x (by omega), fr2 x (by omega)]
      exact hno x hx
    have hgI : gIm C H o D TI PI u := ⟨y1, y2, y3, by rw [q]; exact y4, Or.inr ⟨q, w1, w2, w3⟩⟩
    have j10 : (mI w 32 (zI 0)).2.2.1 10 = u.2.2.1 10 := by
      show w.2.2.1 10 = _
      rw [i3]
    have hC1 : ∀ x, C x → H4 x = H x := fun x hx => fr1 x (hCC x hx).2 (by have := hCC x hx; omega)
    obtain ⟨g1, g2⟩ := hup (H4) (z) (C) (D) (T') (pTk PI P) (TI) (PI) (mI lu 2 (zI 0)) (mI w 32 (zI 0)) (fun x q1 q2 => fr1 x q1 (by omega)) (fun x q1 => fr1 x (by omega) (by omega)) (hX.fr (fun x hx => fr1 x (by unfold xK at hx; omega) (by unfold xK at hx; omega))) ⟨tSN_cg hA hTN4, hP3.fr (fun x q1 q2 => f1 x (by omega)), pS_cg (fun j q1 q2 => i2 j (by omega)) (pS_take w2), rI_cg i2 w3⟩ (show gIm C H4 o D TI PI (mI w 32 (zI 0)) from by
      unfold gIm
      rw [show (mI w 32 (zI 0)).1 2 = u.1 2 from i1 2 (by omega), j10]
      exact hgI.fr (fun x q1 q2 => fr1 x (by omega) (by omega)) hC1 (fun _ h => h)) (hgE.fr (fun x q1 q2 => fr1 x (by omega) (by omega))) ⟨cL1, hgL.2.1, Or.inl rfl⟩ (gS_q (hgS.fr hC1 (fun _ h => h)) (fun j q1 q2 => i1 j (by omega))) (fun x hx => Or.inl hx) (Nat.le_refl _) (by omega) (by omega) hn1
    have cr : am_f X 1000 270 [.ref (o + 66)] (mH H4 (o + 66) u, z) = _ := r_restore_y (X := X) (d := 999) (h := H4) (z := z) (by rw [q]; exact zne)
    rw [← hw, i2 116 (by omega), w3.1.m.1] at cr
    exact gR_mk hM cc g1 g2 cr mQ.rf (Or.inr rfl)
end FJ
