/-! the face: runs, elements -/
/-- class and reference answer alike, or both throw the same -/
def gR2 (X : am_X) (o k tc tr : Nat) (args : List Value) (H : am_H) (z : Nat × Nat) (u : mU) : Prop := ∃ c y H1 z1 H2 u', am_f X 1000 tc (.ref o :: (args ++ [.ref (o + 86)])) (H, z) = some (.inl (some (.int c)), (H1, z1)) ∧ am_f X 1000 tr (.ref (o + 66) :: args) (H1, z1) = some (.inl (some (.long y)), (H2, z1)) ∧ u'.2.2.1 11 = c ∧ (c = 0 → ∃ f, H2 (o + 86) = some (.inl (.long, 1, .inr (.inl f))) ∧ f 0 = y) ∧ gK o (k + 1) H2 z1 u' ∧ cM H2 (o + 66) u' ∧ mFr u' ∧ (∀ x, x < o → H1 x = none) ∧ cM H1 (o + 66) u
section FO
variable {X : am_X} {o k : Nat} {H : am_H} {z : Nat × Nat} {u : mU}
theorem upx_s {h : am_H} {a : Nat} {e : am_E} : am_up h a e a = some e := if_pos rfl
theorem gR2_mk {tc tr : Nat} {args : List Value} {c : Int32} {y : Int64} {H1 : am_H} {z1 : Nat × Nat} {v1 u' : mU} (hM : cM H (o + 66) u) (hc : am_f X 1000 tc (.ref o :: (args ++ [.ref (o + 86)])) (H, z) = some (.inl (some (.int c)), (H1, z1))) (hk : gK o (k + 1) H1 z1 v1) (hf : ∀ x, o + 66 ≤ x → x < o + 86 → H1 x = H x) (hr : am_f X 1000 tr (.ref (o + 66) :: args) (mH H1 (o + 66) u, z1) = some (.inl (some (.long y)), (mH H1 (o + 66) u', z1))) (hq : mQ v1 u') (hF : mFr u') (h11 : u'.2.2.1 11 = c) (ho : c = 0 → ∃ f, H1 (o + 86) = some (.inl (.long, 1, .inr (.inl f))) ∧ f 0 = y) : gR2 X o k tc tr args H z u := by
  have hM1 : cM H1 (o + 66) u := hM.fr (fun x h1 h2 => hf x h1 (by omega))
  rw [hM1] at hr
  refine ⟨c, y, H1, z1, mH H1 (o + 66) u', u', hc, hr, h11, fun q => ?_, hk.rf (fun x hx => mH_x (by omega)) hq, cM_is, hF, hk.lo, hM1⟩
  rw [mH_x (by omega)]
  exact ho q
theorem gK.gO {v : mU} (h : gK o k H z v) : gO H o := by
  obtain ⟨C, D, T, P, TI, PI, lu, m, a, N, wu, sA, sN, mA, mN, h1, h2, h3, h4, h5, h6, h7, h8, h9, h10, h11, h12⟩ := h
  exact h8
theorem gK.out {v : mU} {f : Nat → Int64} (h : gK o k H z v) : gK o k (am_up H (o + 86) (.inl (.long, 1, .inr (.inl f)))) z v := by
  obtain ⟨C, D, T, P, TI, PI, lu, m, a, N, wu, sA, sN, mA, mN, h1, h2, h3, h4, h5, h6, h7, h8, h9, h10, h11, h12⟩ := h
  have hA := h9
  obtain ⟨a0, ⟨a1, a1'⟩, ⟨a2, a2'⟩, ⟨a3, a3'⟩, ⟨a4, a4'⟩, a5, a6⟩ := h9
  have fr : ∀ x, x ≠ o + 86 → am_up H (o + 86) (.inl (.long, 1, .inr (.inl f))) x = H x := fun x hx => up_x hx
  have hC : ∀ x, C x → am_up H (o + 86) (.inl (.long, 1, .inr (.inl f))) x = H x := fun x hx => fr x (by have := a6 x hx; omega)
  refine ⟨C, D, T, P, TI, PI, lu, m, a, N, wu, sA, sN, mA, mN, h1.fr (fun x hx => fr x (by unfold xK at hx; omega)), h2.fr (fun x q1 q2 => fr x (by omega)) hC (fun _ h => h), h3.fr (fun x q1 q2 => fr x (by omega)) hC (fun _ h => h), h4.fr (fun x q1 q2 => fr x (by omega)), h5.fr (fun x hx => fr x (by omega)), h6.fr (fun x hx => fr x (by omega)), h7.fr hC (fun _ h => h), ⟨f, upx_s⟩, hA, h10, fun x hx => ?_, fun x hx => ?_⟩
  · rw [fr x (by omega)]
    exact h11 x hx
  · rw [fr x (by omega)]
    exact h12 x hx
theorem gK.th {v : mU} (hK : gK o k H z v) : gK o (k + 1) H (z.1 + 1, z.2 + 6) v := by
  obtain ⟨C, D, T, P, TI, PI, lu, m, a, N, hX, hgT, hgI, hgE, hgL, hgS, hma, haa, hCC, hz0, hno, hup⟩ := g_up hK
  exact (hup H (z.1 + 1, z.2 + 6) C D T P TI PI lu v (fun _ _ _ => rfl) (fun _ _ => rfl) hX hgT hgI hgE hgL hgS (fun _ h => Or.inl h) (Nat.le_succ _) (by show z.1 + 1 ≤ z.1 + 25; omega) (by show z.2 + 6 ≤ z.2 + 100; omega) (fun x hx => hno x (by have : z.1 + 1 ≤ x := hx; omega))).1
theorem f_run (hK : gK o k H z u) (hM : cM H (o + 66) u) (hF : mFr u) {x y : Int32} : gR2 X o k 185 265 [.int x, .int y] H z u := by
  obtain ⟨C, D, T, P, Q, lu, m, a, N, hX, hTN, hP, hpS, hI, hpl, hr, hkn, hLH, hlow, hre⟩ := g_plan hK
  have hS := hTN.1
  have hT := hS.iT
  have hN := hTN.2.1
  have hG := hI.1
  have hL := hI.pl
  have hq := hI.qw
  have hm5 := hG.m.2
  have hsz := hS.sz
  have hbl := hS.bell
  have lci : am_ci1 ((H, z).1 (o + 40)) = some 4 := by
    have := lH_ci (h := H) (l := o + 40) (D := (lu, (o + 1, m, a, N))) (z := z)
    rw [hLH] at this
    exact this
  obtain ⟨f, hO⟩ := hK.gO
  cases hx : qIs x 2 with
  | false =>
    rcases qIs_b (n := 1) (by omega) hx with q | ⟨q1, q2⟩
    · have kk : am_f X 999 186 [.ref o, .int x, .int y] (H, z) = some (.inr 17, (H, (z.1 + 1, z.2 + 6))) := by
        show am_f X (998 + 1) 186 _ _ = _
        rw [fU_186]
        simp (disch := first | omega | exact Nat.le_of_ble_eq_true rfl | exact hX.ci | exact hX.ci | (refine xF_lt ?_; omega) | exact lci) only [own_186, am_go dc_186_0, J_iload_1, K_il, ld_1, am_go dc_186_1, J_if_lt, am_go dc_186_4, am_go dc_186_5, J_iconst, c32_1, am_go dc_186_6, J_icmp_le, am_go dc_186_9, am_go dc_186_12, J_dup_i, J_dup_r, am_go dc_186_13, J_ldc, am_go dc_186_15, am_go dc_186_18, am_go dc_186_19, J_aload_0, K_al, ld_0, am_go dc_186_20, J_getfield, gf_r, fk_0_41_0, am_go dc_186_23, am_go dc_186_24, am_go dc_186_25, J_icmp_ne, am_go dc_186_28, am_go dc_186_29, J_goto, am_go dc_186_32, c32_0, am_go dc_186_33, J_iload_2, ld_2, am_go dc_186_34, cv_0_258_4 own_186, JR_v, JR_0, JR_ite, ci1_r, am_go dc_186_37, J_ret_l ret_186, xg_6, hX.c0, hX.c53, hX.c54, hX.c55, hX.c64, hX.c65, zI_add, zI_mul, zI_lt, zI_le, zI_eq, zI_neg, zI_pos, zI_ne0, zI_gt0, zB_0, lg_cmp_ge, lg_cmp_le, lg_cmp_gt, lg_cmp_lt, lg_cmp_eq, ail_r, abl_r, all_r, ais_r, abs_r, als_r, aal_r, aal_q, aln_r, vrf_s, vrf_n, z32, q, nx_186, Bool.true_eq_false, Bool.false_eq_true, zB_t, zB_f, i32_m1, i8_m3, i8_m4, rwF_v, List.length_cons, List.length_nil, Nat.reduceAdd, Nat.reduceLT, Nat.reduceLeDiff, Nat.reduceEqDiff, ↓reduceIte, bind_s, if_true, if_false, not_true_eq_false, not_false_eq_true, Nat.zero_add]
      have cc : am_f X 1000 185 [.ref o, .int x, .int y, .ref (o + 86)] (H, z) = some (.inl (some (.int (zI 1))), (H, (z.1 + 1, z.2 + 6))) := by
        show am_f X (999 + 1) 185 _ _ = _
        rw [fU_185]
        simp (disch := first | omega | exact Nat.le_of_ble_eq_true rfl | exact hX.ci | exact hX.ci) only [own_185, am_go dc_185_0, J_aload_3, K_al, ld_3, am_go dc_185_1, J_iconst, c32_0, am_go dc_185_2, J_aload_0, ld_0, am_go dc_185_3, J_iload_1, K_il, ld_1, am_go dc_185_4, J_iload_2, ld_2, am_go dc_185_5, cv_13_7_0 own_185, JR_v, JR_0, JR_ite, ci1_r, am_go dc_185_8, J_lastore, am_go dc_185_9, J_goto, am_go dc_185_12, J_astore, st1_0, st1_1, st1_s, kl_i, kl_l, kl_r, kl_n, am_go dc_185_14, c32_1, am_go dc_185_15, J_ret_i ret_185, am_go dc_185_16, am_go dc_185_17, hX.c0, zI_add, zI_mul, zI_lt, zI_le, zI_eq, zI_neg, zI_pos, zI_ne0, zI_gt0, zB_0, lg_cmp_ge, lg_cmp_le, lg_cmp_gt, lg_cmp_lt, lg_cmp_eq, ail_r, abl_r, all_r, ais_r, abs_r, als_r, aal_r, aal_q, aln_r, vrf_s, vrf_n, z32, kk, JR_x, hx_185, Bool.true_eq_false, Bool.false_eq_true, zB_t, zB_f, i32_m1, i8_m3, i8_m4, rwF_v, List.length_cons, List.length_nil, Nat.reduceAdd, Nat.reduceLT, Nat.reduceLeDiff, Nat.reduceEqDiff, ↓reduceIte, bind_s, if_true, if_false, not_true_eq_false, not_false_eq_true, Nat.zero_add]
      have cr : am_f X 1000 265 [.ref (o + 66), .int x, .int y] (mH H (o + 66) u, (z.1 + 1, z.2 + 6)) = _ := r_run_n (d := 997) (X := X) (h := H) (z := (z.1 + 1, z.2 + 6)) hx
      exact gR2_mk hM cc hK.th (fun _ _ _ => rfl) cr ⟨fun _ _ => rfl, rfl⟩ (mFr_cg hF (fun _ _ _ => rfl) rfl rfl (fun _ _ => rfl)) rfl (fun q => absurd q (by decide))
    · have kk : am_f X 999 186 [.ref o, .int x, .int y] (H, z) = some (.inr 17, (H, (z.1 + 1, z.2 + 6))) := by
        show am_f X (998 + 1) 186 _ _ = _
        rw [fU_186]
        simp (disch := first | omega | exact Nat.le_of_ble_eq_true rfl | exact hX.ci | exact hX.ci | (refine xF_lt ?_; omega) | exact lci) only [own_186, am_go dc_186_0, J_iload_1, K_il, ld_1, am_go dc_186_1, J_if_lt, am_go dc_186_4, am_go dc_186_5, J_iconst, c32_1, am_go dc_186_6, J_icmp_le, am_go dc_186_9, am_go dc_186_12, J_dup_i, J_dup_r, am_go dc_186_13, J_ldc, am_go dc_186_15, am_go dc_186_18, am_go dc_186_19, J_aload_0, K_al, ld_0, am_go dc_186_20, J_getfield, gf_r, fk_0_41_0, am_go dc_186_23, am_go dc_186_24, am_go dc_186_25, J_icmp_ne, am_go dc_186_28, am_go dc_186_29, J_goto, am_go dc_186_32, c32_0, am_go dc_186_33, J_iload_2, ld_2, am_go dc_186_34, cv_0_258_4 own_186, JR_v, JR_0, JR_ite, ci1_r, am_go dc_186_37, J_ret_l ret_186, xg_6, hX.c0, hX.c53, hX.c54, hX.c55, hX.c64, hX.c65, zI_add, zI_mul, zI_lt, zI_le, zI_eq, zI_neg, zI_pos, zI_ne0, zI_gt0, zB_0, lg_cmp_ge, lg_cmp_le, lg_cmp_gt, lg_cmp_lt, lg_cmp_eq, ail_r, abl_r, all_r, ais_r, abs_r, als_r, aal_r, aal_q, aln_r, vrf_s, vrf_n, z32, q1, q2, nx_186, Bool.true_eq_false, Bool.false_eq_true, zB_t, zB_f, i32_m1, i8_m3, i8_m4, rwF_v, List.length_cons, List.length_nil, Nat.reduceAdd, Nat.reduceLT, Nat.reduceLeDiff, Nat.reduceEqDiff, ↓reduceIte, bind_s, if_true, if_false, not_true_eq_false, not_false_eq_true, Nat.zero_add]
      have cc : am_f X 1000 185 [.ref o, .int x, .int y, .ref (o + 86)] (H, z) = some (.inl (some (.int (zI 1))), (H, (z.1 + 1, z.2 + 6))) := by
        show am_f X (999 + 1) 185 _ _ = _
        rw [fU_185]
        simp (disch := first | omega | exact Nat.le_of_ble_eq_true rfl | exact hX.ci | exact hX.ci) only [own_185, am_go dc_185_0, J_aload_3, K_al, ld_3, am_go dc_185_1, J_iconst, c32_0, am_go dc_185_2, J_aload_0, ld_0, am_go dc_185_3, J_iload_1, K_il, ld_1, am_go dc_185_4, J_iload_2, ld_2, am_go dc_185_5, cv_13_7_0 own_185, JR_v, JR_0, JR_ite, ci1_r, am_go dc_185_8, J_lastore, am_go dc_185_9, J_goto, am_go dc_185_12, J_astore, st1_0, st1_1, st1_s, kl_i, kl_l, kl_r, kl_n, am_go dc_185_14, c32_1, am_go dc_185_15, J_ret_i ret_185, am_go dc_185_16, am_go dc_185_17, hX.c0, zI_add, zI_mul, zI_lt, zI_le, zI_eq, zI_neg, zI_pos, zI_ne0, zI_gt0, zB_0, lg_cmp_ge, lg_cmp_le, lg_cmp_gt, lg_cmp_lt, lg_cmp_eq, ail_r, abl_r, all_r, ais_r, abs_r, als_r, aal_r, aal_q, aln_r, vrf_s, vrf_n, z32, kk, JR_x, hx_185, Bool.true_eq_false, Bool.false_eq_true, zB_t, zB_f, i32_m1, i8_m3, i8_m4, rwF_v, List.length_cons, List.length_nil, Nat.reduceAdd, Nat.reduceLT, Nat.reduceLeDiff, Nat.reduceEqDiff, ↓reduceIte, bind_s, if_true, if_false, not_true_eq_false, not_false_eq_true, Nat.zero_add]
      have cr : am_f X 1000 265 [.ref (o + 66), .int x, .int y] (mH H (o + 66) u, (z.1 + 1, z.2 + 6)) = _ := r_run_n (d := 997) (X := X) (h := H) (z := (z.1 + 1, z.2 + 6)) hx
      exact gR2_mk hM cc hK.th (fun _ _ _ => rfl) cr ⟨fun _ _ => rfl, rfl⟩ (mFr_cg hF (fun _ _ _ => rfl) rfl rfl (fun _ _ => rfl)) rfl (fun q => absurd q (by decide))
  | true =>
    obtain ⟨e1, e2⟩ := qIs_get hx
    generalize wN x = c at *
    subst e1
    rcases (by omega : c = 0 ∨ c = 1) with rfl | rfl
    · obtain ⟨h', u1, m', a', N', z', e1, e2, e3, e5, e6⟩ := l_runB (X := X) (d := 990) (y := y) hpl hr hN hkn
      have fr : ∀ x, x < z.1 → lK (o + 40) x → x ≠ m → x ≠ a → lH h' (o + 40) (u1, (o + 1, m', a', N')) x = H x := fun x q1 q2 q3 q4 => by
        rw [e5 x q1 q2 q3 q4, hLH]
      obtain ⟨g1, g2, hX1⟩ := hre h' u1 m' a' N' z' e2 (Or.inr e3) fr e6
      rw [hLH] at e1
      have k7 : am_f X 998 187 [.ref (o + 40), .int (zI 0), .int y] (H, z) = _ := e1
      obtain ⟨f, hO⟩ := g1.gO
      have kk : am_f X 999 186 [.ref o, .int (zI 0), .int y] (H, z) = some (.inl (some (.long (qRn false 11 (qZ (u.1 1)) y 0))), ((lH h' (o + 40) (u1, (o + 1, m', a', N'))), z')) := by
        show am_f X (998 + 1) 186 _ _ = _
        rw [fU_186]
        simp (disch := first | omega | exact Nat.le_of_ble_eq_true rfl | exact hX.ci | exact hX.ci | (refine xF_lt ?_; omega) | exact lci) only [own_186, am_go dc_186_0, J_iload_1, K_il, ld_1, am_go dc_186_1, J_if_lt, am_go dc_186_4, am_go dc_186_5, J_iconst, c32_1, am_go dc_186_6, J_icmp_le, am_go dc_186_9, am_go dc_186_12, J_dup_i, J_dup_r, am_go dc_186_13, J_ldc, am_go dc_186_15, am_go dc_186_18, am_go dc_186_19, J_aload_0, K_al, ld_0, am_go dc_186_20, J_getfield, gf_r, fk_0_41_0, am_go dc_186_23, am_go dc_186_24, am_go dc_186_25, J_icmp_ne, am_go dc_186_28, am_go dc_186_29, J_goto, am_go dc_186_32, c32_0, am_go dc_186_33, J_iload_2, ld_2, am_go dc_186_34, cv_0_258_4 own_186, JR_v, JR_0, JR_ite, ci1_r, am_go dc_186_37, J_ret_l ret_186, xg_6, hX.c0, hX.c53, hX.c54, hX.c55, hX.c64, hX.c65, zI_add, zI_mul, zI_lt, zI_le, zI_eq, zI_neg, zI_pos, zI_ne0, zI_gt0, zB_0, lg_cmp_ge, lg_cmp_le, lg_cmp_gt, lg_cmp_lt, lg_cmp_eq, ail_r, abl_r, all_r, ais_r, abs_r, als_r, aal_r, aal_q, aln_r, vrf_s, vrf_n, z32, k7, Bool.true_eq_false, Bool.false_eq_true, zB_t, zB_f, i32_m1, i8_m3, i8_m4, rwF_v, List.length_cons, List.length_nil, Nat.reduceAdd, Nat.reduceLT, Nat.reduceLeDiff, Nat.reduceEqDiff, ↓reduceIte, bind_s, if_true, if_false, not_true_eq_false, not_false_eq_true, Nat.zero_add]
      have cc : am_f X 1000 185 [.ref o, .int (zI 0), .int y, .ref (o + 86)] (H, z) = some (.inl (some (.int (zI 0))), ((am_up (lH h' (o + 40) (u1, (o + 1, m', a', N'))) (o + 86) (.inl (.long, 1, .inr (.inl (vp_updL f 0 (qRn false 11 (qZ (u.1 1)) y 0)))))), z')) := by
        show am_f X (999 + 1) 185 _ _ = _
        rw [fU_185]
        simp (disch := first | omega | exact Nat.le_of_ble_eq_true rfl | exact hX.ci | exact hX.ci) only [own_185, am_go dc_185_0, J_aload_3, K_al, ld_3, am_go dc_185_1, J_iconst, c32_0, am_go dc_185_2, J_aload_0, ld_0, am_go dc_185_3, J_iload_1, K_il, ld_1, am_go dc_185_4, J_iload_2, ld_2, am_go dc_185_5, cv_13_7_0 own_185, JR_v, JR_0, JR_ite, ci1_r, am_go dc_185_8, J_lastore, am_go dc_185_9, J_goto, am_go dc_185_12, J_astore, st1_0, st1_1, st1_s, kl_i, kl_l, kl_r, kl_n, am_go dc_185_14, c32_1, am_go dc_185_15, J_ret_i ret_185, am_go dc_185_16, am_go dc_185_17, hX.c0, zI_add, zI_mul, zI_lt, zI_le, zI_eq, zI_neg, zI_pos, zI_ne0, zI_gt0, zB_0, lg_cmp_ge, lg_cmp_le, lg_cmp_gt, lg_cmp_lt, lg_cmp_eq, ail_r, abl_r, all_r, ais_r, abs_r, als_r, aal_r, aal_q, aln_r, vrf_s, vrf_n, z32, kk, hO, Bool.true_eq_false, Bool.false_eq_true, zB_t, zB_f, i32_m1, i8_m3, i8_m4, rwF_v, List.length_cons, List.length_nil, Nat.reduceAdd, Nat.reduceLT, Nat.reduceLeDiff, Nat.reduceEqDiff, ↓reduceIte, bind_s, if_true, if_false, not_true_eq_false, not_false_eq_true, Nat.zero_add]
      obtain ⟨u2, cr0, k1, k2, k3, k4⟩ := r_run_y (X := X) (d := 968) (h := (am_up (lH h' (o + 40) (u1, (o + 1, m', a', N'))) (o + 86) (.inl (.long, 1, .inr (.inl (vp_updL f 0 (qRn false 11 (qZ (u.1 1)) y 0))))))) (o := o + 66) (z := z') (u := u) (k := 0) (y := y) hG hF (by omega)
      have cr : am_f X 1000 265 [.ref (o + 66), .int (zI 0), .int y] (mH (am_up (lH h' (o + 40) (u1, (o + 1, m', a', N'))) (o + 86) (.inl (.long, 1, .inr (.inl (vp_updL f 0 (qRn false 11 (qZ (u.1 1)) y 0)))))) (o + 66) u, z') = some (.inl (some (.long (qRn false 11 (qZ (u.1 1)) y 0))), (mH (am_up (lH h' (o + 40) (u1, (o + 1, m', a', N'))) (o + 86) (.inl (.long, 1, .inr (.inl (vp_updL f 0 (qRn false 11 (qZ (u.1 1)) y 0)))))) (o + 66) u2, z')) := cr0
      exact gR2_mk hM cc (gK.out g1) (fun x q1 q2 => by rw [up_x (by omega)]; exact g2 x q1 q2) cr ⟨fun j hj => k1 j (by omega) (by omega) (by omega) (by omega), k2 10 (by omega) (by omega) (by omega)⟩ k4 k3 (fun _ => ⟨_, upx_s, upL_s⟩)
    · have k7 : am_f X 998 187 [.ref (o + 40), .int (zI 1), .int y] (H, z) = some (.inl (some (.long (qRn true 11 (qZ (u.1 1)) y 0))), (H, z)) := by
        have := l_runR (X := X) (d := 992) (z := z) (u := lu) (y := y) hpl hr hN
        rw [hLH] at this
        exact this
      have kk : am_f X 999 186 [.ref o, .int (zI 1), .int y] (H, z) = some (.inl (some (.long (qRn true 11 (qZ (u.1 1)) y 0))), (H, z)) := by
        show am_f X (998 + 1) 186 _ _ = _
        rw [fU_186]
        simp (disch := first | omega | exact Nat.le_of_ble_eq_true rfl | exact hX.ci | exact hX.ci | (refine xF_lt ?_; omega) | exact lci) only [own_186, am_go dc_186_0, J_iload_1, K_il, ld_1, am_go dc_186_1, J_if_lt, am_go dc_186_4, am_go dc_186_5, J_iconst, c32_1, am_go dc_186_6, J_icmp_le, am_go dc_186_9, am_go dc_186_12, J_dup_i, J_dup_r, am_go dc_186_13, J_ldc, am_go dc_186_15, am_go dc_186_18, am_go dc_186_19, J_aload_0, K_al, ld_0, am_go dc_186_20, J_getfield, gf_r, fk_0_41_0, am_go dc_186_23, am_go dc_186_24, am_go dc_186_25, J_icmp_ne, am_go dc_186_28, am_go dc_186_29, J_goto, am_go dc_186_32, c32_0, am_go dc_186_33, J_iload_2, ld_2, am_go dc_186_34, cv_0_258_4 own_186, JR_v, JR_0, JR_ite, ci1_r, am_go dc_186_37, J_ret_l ret_186, xg_6, hX.c0, hX.c53, hX.c54, hX.c55, hX.c64, hX.c65, zI_add, zI_mul, zI_lt, zI_le, zI_eq, zI_neg, zI_pos, zI_ne0, zI_gt0, zB_0, lg_cmp_ge, lg_cmp_le, lg_cmp_gt, lg_cmp_lt, lg_cmp_eq, ail_r, abl_r, all_r, ais_r, abs_r, als_r, aal_r, aal_q, aln_r, vrf_s, vrf_n, z32, k7, Bool.true_eq_false, Bool.false_eq_true, zB_t, zB_f, i32_m1, i8_m3, i8_m4, rwF_v, List.length_cons, List.length_nil, Nat.reduceAdd, Nat.reduceLT, Nat.reduceLeDiff, Nat.reduceEqDiff, ↓reduceIte, bind_s, if_true, if_false, not_true_eq_false, not_false_eq_true, Nat.zero_add]
      have cc : am_f X 1000 185 [.ref o, .int (zI 1), .int y, .ref (o + 86)] (H, z) = some (.inl (some (.int (zI 0))), ((am_up H (o + 86) (.inl (.long, 1, .inr (.inl (vp_updL f 0 (qRn true 11 (qZ (u.1 1)) y 0)))))), z)) := by
        show am_f X (999 + 1) 185 _ _ = _
        rw [fU_185]
        simp (disch := first | omega | exact Nat.le_of_ble_eq_true rfl | exact hX.ci | exact hX.ci) only [own_185, am_go dc_185_0, J_aload_3, K_al, ld_3, am_go dc_185_1, J_iconst, c32_0, am_go dc_185_2, J_aload_0, ld_0, am_go dc_185_3, J_iload_1, K_il, ld_1, am_go dc_185_4, J_iload_2, ld_2, am_go dc_185_5, cv_13_7_0 own_185, JR_v, JR_0, JR_ite, ci1_r, am_go dc_185_8, J_lastore, am_go dc_185_9, J_goto, am_go dc_185_12, J_astore, st1_0, st1_1, st1_s, kl_i, kl_l, kl_r, kl_n, am_go dc_185_14, c32_1, am_go dc_185_15, J_ret_i ret_185, am_go dc_185_16, am_go dc_185_17, hX.c0, zI_add, zI_mul, zI_lt, zI_le, zI_eq, zI_neg, zI_pos, zI_ne0, zI_gt0, zB_0, lg_cmp_ge, lg_cmp_le, lg_cmp_gt, lg_cmp_lt, lg_cmp_eq, ail_r, abl_r, all_r, ais_r, abs_r, als_r, aal_r, aal_q, aln_r, vrf_s, vrf_n, z32, kk, hO, Bool.true_eq_false, Bool.false_eq_true, zB_t, zB_f, i32_m1, i8_m3, i8_m4, rwF_v, List.length_cons, List.length_nil, Nat.reduceAdd, Nat.reduceLT, Nat.reduceLeDiff, Nat.reduceEqDiff, ↓reduceIte, bind_s, if_true, if_false, not_true_eq_false, not_false_eq_true, Nat.zero_add]
      obtain ⟨u2, cr0, k1, k2, k3, k4⟩ := r_run_y (X := X) (d := 968) (h := (am_up H (o + 86) (.inl (.long, 1, .inr (.inl (vp_updL f 0 (qRn true 11 (qZ (u.1 1)) y 0))))))) (o := o + 66) (z := z) (u := u) (k := 1) (y := y) hG hF (by omega)
      have cr : am_f X 1000 265 [.ref (o + 66), .int (zI 1), .int y] (mH (am_up H (o + 86) (.inl (.long, 1, .inr (.inl (vp_updL f 0 (qRn true 11 (qZ (u.1 1)) y 0)))))) (o + 66) u, z) = some (.inl (some (.long (qRn true 11 (qZ (u.1 1)) y 0))), (mH (am_up H (o + 86) (.inl (.long, 1, .inr (.inl (vp_updL f 0 (qRn true 11 (qZ (u.1 1)) y 0)))))) (o + 66) u2, z)) := cr0
      exact gR2_mk hM cc (gK.out (hK.le (Nat.le_succ k))) (fun x q1 q2 => up_x (by omega)) cr ⟨fun j hj => k1 j (by omega) (by omega) (by omega) (by omega), k2 10 (by omega) (by omega) (by omega)⟩ k4 k3 (fun _ => ⟨_, upx_s, upL_s⟩)
theorem f_element (hK : gK o k H z u) (hM : cM H (o + 66) u) (hF : mFr u) {x y : Int32} : gR2 X o k 190 276 [.int x, .int y] H z u := by
  obtain ⟨C, D, T, P, TI, PI, lu, m, a, N, hX, hgT, hgI, hgE, hgL, hgS, hma, haa, hCC, hz0, hno, hup⟩ := g_up hK
  have hTN := hgT.1
  have hP := hgT.2.1
  have hpS := hgT.2.2.1
  have hI := hgT.2.2.2
  have hS := hTN.1
  have hT := hS.iT
  have hG := hI.1
  have hL := hI.pl
  have hq := hI.qw
  have hm5 := hG.m.2
  have hsz := hS.sz
  have hbl := hS.bell
  obtain ⟨f, hO⟩ := hK.gO
  have ks : am_f X 998 7 [.int x] (H, z) = _ := x_isShelf (X := X) (d := 997)
  cases hx : qIs x 8 with
  | false =>
    rw [hx] at ks
    have kk : am_f X 999 191 [.ref o, .int x, .int y] (H, z) = some (.inr 17, (H, (z.1 + 1, z.2 + 6))) := by
      show am_f X (998 + 1) 191 _ _ = _
      rw [fU_191]
      simp (disch := first | omega | exact Nat.le_of_ble_eq_true rfl | exact hX.ci | exact hX.ci | (refine xF_lt ?_; omega)) only [own_191, am_go dc_191_0, J_iload_1, K_il, ld_1, am_go dc_191_1, cs_0_73 own_191, JR_v, JR_0, JR_ite, am_go dc_191_4, J_if_ne, am_go dc_191_7, am_go dc_191_10, J_dup_i, J_dup_r, am_go dc_191_11, am_go dc_191_14, am_go dc_191_17, am_go dc_191_18, J_aload_0, K_al, ld_0, am_go dc_191_19, J_getfield, gf_r, fk_0_52_0, am_go dc_191_22, am_go dc_191_23, J_iaload, am_go dc_191_24, J_iconst, c32_2, am_go dc_191_25, J_icmp_ne, am_go dc_191_28, J_iload_2, ld_2, am_go dc_191_29, J_if_lt, am_go dc_191_32, am_go dc_191_33, am_go dc_191_34, fk_0_70_0, am_go dc_191_37, am_go dc_191_38, am_go dc_191_39, J_icmp_lt, am_go dc_191_42, am_go dc_191_45, am_go dc_191_46, am_go dc_191_49, am_go dc_191_52, am_go dc_191_53, am_go dc_191_54, fk_0_64_0, am_go dc_191_57, am_go dc_191_58, J_aaload, am_go dc_191_59, am_go dc_191_60, am_go dc_191_61, J_i2l, am_go dc_191_62, J_ret_l ret_191, xg_8, xg_12, xg_10, hX.c0, hX.c53, hX.c54, hX.c55, hX.c64, hX.c65, zI_add, zI_mul, zI_lt, zI_le, zI_eq, zI_neg, zI_pos, zI_ne0, zI_gt0, zB_0, lg_cmp_ge, lg_cmp_le, lg_cmp_gt, lg_cmp_lt, lg_cmp_eq, ail_r, abl_r, all_r, ais_r, abs_r, als_r, aal_r, aal_q, aln_r, vrf_s, vrf_n, z32, ks, nx_191a, Bool.true_eq_false, Bool.false_eq_true, zB_t, zB_f, i32_m1, i8_m3, i8_m4, rwF_v, List.length_cons, List.length_nil, Nat.reduceAdd, Nat.reduceLT, Nat.reduceLeDiff, Nat.reduceEqDiff, ↓reduceIte, bind_s, if_true, if_false, not_true_eq_false, not_false_eq_true, Nat.zero_add]
    have cc : am_f X 1000 190 [.ref o, .int x, .int y, .ref (o + 86)] (H, z) = some (.inl (some (.int (zI 1))), (H, (z.1 + 1, z.2 + 6))) := by
      show am_f X (999 + 1) 190 _ _ = _
      rw [fU_190]
      simp (disch := first | omega | exact Nat.le_of_ble_eq_true rfl | exact hX.ci | exact hX.ci) only [own_190, am_go dc_190_0, J_aload_3, K_al, ld_3, am_go dc_190_1, J_iconst, c32_0, am_go dc_190_2, J_aload_0, ld_0, am_go dc_190_3, J_iload_1, K_il, ld_1, am_go dc_190_4, J_iload_2, ld_2, am_go dc_190_5, cv_13_15_0 own_190, JR_v, JR_0, JR_ite, ci1_r, am_go dc_190_8, J_lastore, am_go dc_190_9, J_goto, am_go dc_190_12, J_astore, st1_0, st1_1, st1_s, kl_i, kl_l, kl_r, kl_n, am_go dc_190_14, c32_1, am_go dc_190_15, J_ret_i ret_190, am_go dc_190_16, am_go dc_190_18, c32_2, am_go dc_190_19, am_go dc_190_20, am_go dc_190_21, hX.c0, zI_add, zI_mul, zI_lt, zI_le, zI_eq, zI_neg, zI_pos, zI_ne0, zI_gt0, zB_0, lg_cmp_ge, lg_cmp_le, lg_cmp_gt, lg_cmp_lt, lg_cmp_eq, ail_r, abl_r, all_r, ais_r, abs_r, als_r, aal_r, aal_q, aln_r, vrf_s, vrf_n, z32, kk, JR_x, hx_190a, Bool.true_eq_false, Bool.false_eq_true, zB_t, zB_f, i32_m1, i8_m3, i8_m4, rwF_v, List.length_cons, List.length_nil, Nat.reduceAdd, Nat.reduceLT, Nat.reduceLeDiff, Nat.reduceEqDiff, ↓reduceIte, bind_s, if_true, if_false, not_true_eq_false, not_false_eq_true, Nat.zero_add]
    have cr : am_f X 1000 276 [.ref (o + 66), .int x, .int y] (mH H (o + 66) u, (z.1 + 1, z.2 + 6)) = _ := r_elem_n (d := 997) (X := X) (h := H) (z := (z.1 + 1, z.2 + 6)) hx
    exact gR2_mk hM cc hK.th (fun _ _ _ => rfl) cr ⟨fun _ _ => rfl, rfl⟩ (mFr_cg hF (fun _ _ _ => rfl) rfl rfl (fun _ _ => rfl)) rfl (fun q => absurd q (by decide))
  | true =>
    obtain ⟨e1, e2⟩ := qIs_get hx
    generalize wN x = e at *
    subst e1
    rw [hx] at ks
    obtain ⟨⟨v5, v6, v7, c5, c6, ⟨s, hs2, hs⟩, v8⟩, vb⟩ := hgS e e2
    by_cases c2 : u.1 5 e = zI 2
    · rw [c2] at v5
      cases hy : qIs y s with
      | false =>
        rcases qIs_c (by omega) hy with q1 | ⟨q1, q2⟩
        · have kk : am_f X 999 191 [.ref o, .int (zI e), .int y] (H, z) = some (.inr 16, (H, (z.1 + 1, z.2 + 6))) := by
            show am_f X (998 + 1) 191 _ _ = _
            rw [fU_191]
            simp (disch := first | omega | exact Nat.le_of_ble_eq_true rfl | exact hX.ci | exact hX.ci | (refine xF_lt ?_; omega)) only [own_191, am_go dc_191_0, J_iload_1, K_il, ld_1, am_go dc_191_1, cs_0_73 own_191, JR_v, JR_0, JR_ite, am_go dc_191_4, J_if_ne, am_go dc_191_7, am_go dc_191_10, J_dup_i, J_dup_r, am_go dc_191_11, am_go dc_191_14, am_go dc_191_17, am_go dc_191_18, J_aload_0, K_al, ld_0, am_go dc_191_19, J_getfield, gf_r, fk_0_52_0, am_go dc_191_22, am_go dc_191_23, J_iaload, am_go dc_191_24, J_iconst, c32_2, am_go dc_191_25, J_icmp_ne, am_go dc_191_28, J_iload_2, ld_2, am_go dc_191_29, J_if_lt, am_go dc_191_32, am_go dc_191_33, am_go dc_191_34, fk_0_70_0, am_go dc_191_37, am_go dc_191_38, am_go dc_191_39, J_icmp_lt, am_go dc_191_42, am_go dc_191_45, am_go dc_191_46, am_go dc_191_49, am_go dc_191_52, am_go dc_191_53, am_go dc_191_54, fk_0_64_0, am_go dc_191_57, am_go dc_191_58, J_aaload, am_go dc_191_59, am_go dc_191_60, am_go dc_191_61, J_i2l, am_go dc_191_62, J_ret_l ret_191, xg_8, xg_12, xg_10, hX.c0, hX.c53, hX.c54, hX.c55, hX.c64, hX.c65, zI_add, zI_mul, zI_lt, zI_le, zI_eq, zI_neg, zI_pos, zI_ne0, zI_gt0, zB_0, lg_cmp_ge, lg_cmp_le, lg_cmp_gt, lg_cmp_lt, lg_cmp_eq, ail_r, abl_r, all_r, ais_r, abs_r, als_r, aal_r, aal_q, aln_r, vrf_s, vrf_n, z32, ks, v5, nx_191b, q1, Bool.true_eq_false, Bool.false_eq_true, zB_t, zB_f, i32_m1, i8_m3, i8_m4, rwF_v, List.length_cons, List.length_nil, Nat.reduceAdd, Nat.reduceLT, Nat.reduceLeDiff, Nat.reduceEqDiff, ↓reduceIte, bind_s, if_true, if_false, not_true_eq_false, not_false_eq_true, Nat.zero_add]
          have cc : am_f X 1000 190 [.ref o, .int (zI e), .int y, .ref (o + 86)] (H, z) = some (.inl (some (.int (zI 2))), (H, (z.1 + 1, z.2 + 6))) := by
            show am_f X (999 + 1) 190 _ _ = _
            rw [fU_190]
            simp (disch := first | omega | exact Nat.le_of_ble_eq_true rfl | exact hX.ci | exact hX.ci) only [own_190, am_go dc_190_0, J_aload_3, K_al, ld_3, am_go dc_190_1, J_iconst, c32_0, am_go dc_190_2, J_aload_0, ld_0, am_go dc_190_3, J_iload_1, K_il, ld_1, am_go dc_190_4, J_iload_2, ld_2, am_go dc_190_5, cv_13_15_0 own_190, JR_v, JR_0, JR_ite, ci1_r, am_go dc_190_8, J_lastore, am_go dc_190_9, J_goto, am_go dc_190_12, J_astore, st1_0, st1_1, st1_s, kl_i, kl_l, kl_r, kl_n, am_go dc_190_14, c32_1, am_go dc_190_15, J_ret_i ret_190, am_go dc_190_16, am_go dc_190_18, c32_2, am_go dc_190_19, am_go dc_190_20, am_go dc_190_21, hX.c0, zI_add, zI_mul, zI_lt, zI_le, zI_eq, zI_neg, zI_pos, zI_ne0, zI_gt0, zB_0, lg_cmp_ge, lg_cmp_le, lg_cmp_gt, lg_cmp_lt, lg_cmp_eq, ail_r, abl_r, all_r, ais_r, abs_r, als_r, aal_r, aal_q, aln_r, vrf_s, vrf_n, z32, kk, JR_x, hx_190b, Bool.true_eq_false, Bool.false_eq_true, zB_t, zB_f, i32_m1, i8_m3, i8_m4, rwF_v, List.length_cons, List.length_nil, Nat.reduceAdd, Nat.reduceLT, Nat.reduceLeDiff, Nat.reduceEqDiff, ↓reduceIte, bind_s, if_true, if_false, not_true_eq_false, not_false_eq_true, Nat.zero_add]
          have cr : am_f X 1000 276 [.ref (o + 66), .int (zI e), .int y] (mH H (o + 66) u, (z.1 + 1, z.2 + 6)) = _ := r_elem_o (d := 997) (X := X) (h := H) (z := (z.1 + 1, z.2 + 6)) e2 c2 hs hs2 hy
          exact gR2_mk hM cc hK.th (fun _ _ _ => rfl) cr ⟨fun _ _ => rfl, rfl⟩ (mFr_cg hF (fun _ _ _ => rfl) rfl rfl (fun _ _ => rfl)) rfl (fun q => absurd q (by decide))
        · have kk : am_f X 999 191 [.ref o, .int (zI e), .int y] (H, z) = some (.inr 16, (H, (z.1 + 1, z.2 + 6))) := by
            show am_f X (998 + 1) 191 _ _ = _
            rw [fU_191]
            simp (disch := first | omega | exact Nat.le_of_ble_eq_true rfl | exact hX.ci | exact hX.ci | (refine xF_lt ?_; omega)) only [own_191, am_go dc_191_0, J_iload_1, K_il, ld_1, am_go dc_191_1, cs_0_73 own_191, JR_v, JR_0, JR_ite, am_go dc_191_4, J_if_ne, am_go dc_191_7, am_go dc_191_10, J_dup_i, J_dup_r, am_go dc_191_11, am_go dc_191_14, am_go dc_191_17, am_go dc_191_18, J_aload_0, K_al, ld_0, am_go dc_191_19, J_getfield, gf_r, fk_0_52_0, am_go dc_191_22, am_go dc_191_23, J_iaload, am_go dc_191_24, J_iconst, c32_2, am_go dc_191_25, J_icmp_ne, am_go dc_191_28, J_iload_2, ld_2, am_go dc_191_29, J_if_lt, am_go dc_191_32, am_go dc_191_33, am_go dc_191_34, fk_0_70_0, am_go dc_191_37, am_go dc_191_38, am_go dc_191_39, J_icmp_lt, am_go dc_191_42, am_go dc_191_45, am_go dc_191_46, am_go dc_191_49, am_go dc_191_52, am_go dc_191_53, am_go dc_191_54, fk_0_64_0, am_go dc_191_57, am_go dc_191_58, J_aaload, am_go dc_191_59, am_go dc_191_60, am_go dc_191_61, J_i2l, am_go dc_191_62, J_ret_l ret_191, xg_8, xg_12, xg_10, hX.c0, hX.c53, hX.c54, hX.c55, hX.c64, hX.c65, zI_add, zI_mul, zI_lt, zI_le, zI_eq, zI_neg, zI_pos, zI_ne0, zI_gt0, zB_0, lg_cmp_ge, lg_cmp_le, lg_cmp_gt, lg_cmp_lt, lg_cmp_eq, ail_r, abl_r, all_r, ais_r, abs_r, als_r, aal_r, aal_q, aln_r, vrf_s, vrf_n, z32, ks, v5, nx_191b, v7, hs, q1, q2, Bool.true_eq_false, Bool.false_eq_true, zB_t, zB_f, i32_m1, i8_m3, i8_m4, rwF_v, List.length_cons, List.length_nil, Nat.reduceAdd, Nat.reduceLT, Nat.reduceLeDiff, Nat.reduceEqDiff, ↓reduceIte, bind_s, if_true, if_false, not_true_eq_false, not_false_eq_true, Nat.zero_add]
          have cc : am_f X 1000 190 [.ref o, .int (zI e), .int y, .ref (o + 86)] (H, z) = some (.inl (some (.int (zI 2))), (H, (z.1 + 1, z.2 + 6))) := by
            show am_f X (999 + 1) 190 _ _ = _
            rw [fU_190]
            simp (disch := first | omega | exact Nat.le_of_ble_eq_true rfl | exact hX.ci | exact hX.ci) only [own_190, am_go dc_190_0, J_aload_3, K_al, ld_3, am_go dc_190_1, J_iconst, c32_0, am_go dc_190_2, J_aload_0, ld_0, am_go dc_190_3, J_iload_1, K_il, ld_1, am_go dc_190_4, J_iload_2, ld_2, am_go dc_190_5, cv_13_15_0 own_190, JR_v, JR_0, JR_ite, ci1_r, am_go dc_190_8, J_lastore, am_go dc_190_9, J_goto, am_go dc_190_12, J_astore, st1_0, st1_1, st1_s, kl_i, kl_l, kl_r, kl_n, am_go dc_190_14, c32_1, am_go dc_190_15, J_ret_i ret_190, am_go dc_190_16, am_go dc_190_18, c32_2, am_go dc_190_19, am_go dc_190_20, am_go dc_190_21, hX.c0, zI_add, zI_mul, zI_lt, zI_le, zI_eq, zI_neg, zI_pos, zI_ne0, zI_gt0, zB_0, lg_cmp_ge, lg_cmp_le, lg_cmp_gt, lg_cmp_lt, lg_cmp_eq, ail_r, abl_r, all_r, ais_r, abs_r, als_r, aal_r, aal_q, aln_r, vrf_s, vrf_n, z32, kk, JR_x, hx_190b, Bool.true_eq_false, Bool.false_eq_true, zB_t, zB_f, i32_m1, i8_m3, i8_m4, rwF_v, List.length_cons, List.length_nil, Nat.reduceAdd, Nat.reduceLT, Nat.reduceLeDiff, Nat.reduceEqDiff, ↓reduceIte, bind_s, if_true, if_false, not_true_eq_false, not_false_eq_true, Nat.zero_add]
          have cr : am_f X 1000 276 [.ref (o + 66), .int (zI e), .int y] (mH H (o + 66) u, (z.1 + 1, z.2 + 6)) = _ := r_elem_o (d := 997) (X := X) (h := H) (z := (z.1 + 1, z.2 + 6)) e2 c2 hs hs2 hy
          exact gR2_mk hM cc hK.th (fun _ _ _ => rfl) cr ⟨fun _ _ => rfl, rfl⟩ (mFr_cg hF (fun _ _ _ => rfl) rfl rfl (fun _ _ => rfl)) rfl (fun q => absurd q (by decide))
      | true =>
        obtain ⟨gg1, gg2⟩ := qIs_get hy
        generalize wN y = i at *
        subst gg1
        have nlt : ¬ zI i < 0 := by
          rw [show (0 : Int32) = zI 0 from rfl, zI_lt (by omega) (by omega)]
          omega
        have hcr := hX.cr e2
        have v8i := v8 i (by omega)
        have kk : am_f X 999 191 [.ref o, .int (zI e), .int (zI i)] (H, z) = some (.inl (some (.long (u.1 8 (120 * e + i)).toInt64)), (H, z)) := by
          show am_f X (998 + 1) 191 _ _ = _
          rw [fU_191]
          simp (disch := first | omega | exact Nat.le_of_ble_eq_true rfl | exact hX.ci | exact hX.ci | (refine xF_lt ?_; omega)) only [own_191, am_go dc_191_0, J_iload_1, K_il, ld_1, am_go dc_191_1, cs_0_73 own_191, JR_v, JR_0, JR_ite, am_go dc_191_4, J_if_ne, am_go dc_191_7, am_go dc_191_10, J_dup_i, J_dup_r, am_go dc_191_11, am_go dc_191_14, am_go dc_191_17, am_go dc_191_18, J_aload_0, K_al, ld_0, am_go dc_191_19, J_getfield, gf_r, fk_0_52_0, am_go dc_191_22, am_go dc_191_23, J_iaload, am_go dc_191_24, J_iconst, c32_2, am_go dc_191_25, J_icmp_ne, am_go dc_191_28, J_iload_2, ld_2, am_go dc_191_29, J_if_lt, am_go dc_191_32, am_go dc_191_33, am_go dc_191_34, fk_0_70_0, am_go dc_191_37, am_go dc_191_38, am_go dc_191_39, J_icmp_lt, am_go dc_191_42, am_go dc_191_45, am_go dc_191_46, am_go dc_191_49, am_go dc_191_52, am_go dc_191_53, am_go dc_191_54, fk_0_64_0, am_go dc_191_57, am_go dc_191_58, J_aaload, am_go dc_191_59, am_go dc_191_60, am_go dc_191_61, J_i2l, am_go dc_191_62, J_ret_l ret_191, xg_8, xg_12, xg_10, hX.c0, hX.c53, hX.c54, hX.c55, hX.c64, hX.c65, zI_add, zI_mul, zI_lt, zI_le, zI_eq, zI_neg, zI_pos, zI_ne0, zI_gt0, zB_0, lg_cmp_ge, lg_cmp_le, lg_cmp_gt, lg_cmp_lt, lg_cmp_eq, ail_r, abl_r, all_r, ais_r, abs_r, als_r, aal_r, aal_q, aln_r, vrf_s, vrf_n, z32, ks, v5, v7, hs, nlt, gg2, hcr, v8i, Bool.true_eq_false, Bool.false_eq_true, zB_t, zB_f, i32_m1, i8_m3, i8_m4, rwF_v, List.length_cons, List.length_nil, Nat.reduceAdd, Nat.reduceLT, Nat.reduceLeDiff, Nat.reduceEqDiff, ↓reduceIte, bind_s, if_true, if_false, not_true_eq_false, not_false_eq_true, Nat.zero_add]
        have cc : am_f X 1000 190 [.ref o, .int (zI e), .int (zI i), .ref (o + 86)] (H, z) = some (.inl (some (.int (zI 0))), ((am_up H (o + 86) (.inl (.long, 1, .inr (.inl (vp_updL f 0 ((u.1 8 (120 * e + i)).toInt64)))))), z)) := by
          show am_f X (999 + 1) 190 _ _ = _
          rw [fU_190]
          simp (disch := first | omega | exact Nat.le_of_ble_eq_true rfl | exact hX.ci | exact hX.ci) only [own_190, am_go dc_190_0, J_aload_3, K_al, ld_3, am_go dc_190_1, J_iconst, c32_0, am_go dc_190_2, J_aload_0, ld_0, am_go dc_190_3, J_iload_1, K_il, ld_1, am_go dc_190_4, J_iload_2, ld_2, am_go dc_190_5, cv_13_15_0 own_190, JR_v, JR_0, JR_ite, ci1_r, am_go dc_190_8, J_lastore, am_go dc_190_9, J_goto, am_go dc_190_12, J_astore, st1_0, st1_1, st1_s, kl_i, kl_l, kl_r, kl_n, am_go dc_190_14, c32_1, am_go dc_190_15, J_ret_i ret_190, am_go dc_190_16, am_go dc_190_18, c32_2, am_go dc_190_19, am_go dc_190_20, am_go dc_190_21, hX.c0, zI_add, zI_mul, zI_lt, zI_le, zI_eq, zI_neg, zI_pos, zI_ne0, zI_gt0, zB_0, lg_cmp_ge, lg_cmp_le, lg_cmp_gt, lg_cmp_lt, lg_cmp_eq, ail_r, abl_r, all_r, ais_r, abs_r, als_r, aal_r, aal_q, aln_r, vrf_s, vrf_n, z32, kk, hO, Bool.true_eq_false, Bool.false_eq_true, zB_t, zB_f, i32_m1, i8_m3, i8_m4, rwF_v, List.length_cons, List.length_nil, Nat.reduceAdd, Nat.reduceLT, Nat.reduceLeDiff, Nat.reduceEqDiff, ↓reduceIte, bind_s, if_true, if_false, not_true_eq_false, not_false_eq_true, Nat.zero_add]
        have cr : am_f X 1000 276 [.ref (o + 66), .int (zI e), .int (zI i)] (mH (am_up H (o + 86) (.inl (.long, 1, .inr (.inl (vp_updL f 0 ((u.1 8 (120 * e + i)).toInt64)))))) (o + 66) u, z) = _ := r_elem_y (X := X) (d := 997) (h := (am_up H (o + 86) (.inl (.long, 1, .inr (.inl (vp_updL f 0 ((u.1 8 (120 * e + i)).toInt64))))))) (z := z) e2 c2 hs hs2 gg2
        exact gR2_mk hM cc (gK.out (hK.le (Nat.le_succ k))) (fun x q1 q2 => up_x (by omega)) cr ⟨fun _ _ => rfl, rfl⟩ (mFr_cg hF (fun _ _ _ => rfl) rfl rfl (fun _ _ => rfl)) rfl (fun _ => ⟨_, upx_s, upL_s⟩)
    · have kk : am_f X 999 191 [.ref o, .int (zI e), .int y] (H, z) = some (.inr 16, (H, (z.1 + 1, z.2 + 6))) := by
        show am_f X (998 + 1) 191 _ _ = _
        rw [fU_191]
        simp (disch := first | omega | exact Nat.le_of_ble_eq_true rfl | exact hX.ci | exact hX.ci | (refine xF_lt ?_; omega)) only [own_191, am_go dc_191_0, J_iload_1, K_il, ld_1, am_go dc_191_1, cs_0_73 own_191, JR_v, JR_0, JR_ite, am_go dc_191_4, J_if_ne, am_go dc_191_7, am_go dc_191_10, J_dup_i, J_dup_r, am_go dc_191_11, am_go dc_191_14, am_go dc_191_17, am_go dc_191_18, J_aload_0, K_al, ld_0, am_go dc_191_19, J_getfield, gf_r, fk_0_52_0, am_go dc_191_22, am_go dc_191_23, J_iaload, am_go dc_191_24, J_iconst, c32_2, am_go dc_191_25, J_icmp_ne, am_go dc_191_28, J_iload_2, ld_2, am_go dc_191_29, J_if_lt, am_go dc_191_32, am_go dc_191_33, am_go dc_191_34, fk_0_70_0, am_go dc_191_37, am_go dc_191_38, am_go dc_191_39, J_icmp_lt, am_go dc_191_42, am_go dc_191_45, am_go dc_191_46, am_go dc_191_49, am_go dc_191_52, am_go dc_191_53, am_go dc_191_54, fk_0_64_0, am_go dc_191_57, am_go dc_191_58, J_aaload, am_go dc_191_59, am_go dc_191_60, am_go dc_191_61, J_i2l, am_go dc_191_62, J_ret_l ret_191, xg_8, xg_12, xg_10, hX.c0, hX.c53, hX.c54, hX.c55, hX.c64, hX.c65, zI_add, zI_mul, zI_lt, zI_le, zI_eq, zI_neg, zI_pos, zI_ne0, zI_gt0, zB_0, lg_cmp_ge, lg_cmp_le, lg_cmp_gt, lg_cmp_lt, lg_cmp_eq, ail_r, abl_r, all_r, ais_r, abs_r, als_r, aal_r, aal_q, aln_r, vrf_s, vrf_n, z32, ks, v5, nx_191b, c2, Bool.true_eq_false, Bool.false_eq_true, zB_t, zB_f, i32_m1, i8_m3, i8_m4, rwF_v, List.length_cons, List.length_nil, Nat.reduceAdd, Nat.reduceLT, Nat.reduceLeDiff, Nat.reduceEqDiff, ↓reduceIte, bind_s, if_true, if_false, not_true_eq_false, not_false_eq_true, Nat.zero_add]
      have cc : am_f X 1000 190 [.ref o, .int (zI e), .int y, .ref (o + 86)] (H, z) = some (.inl (some (.int (zI 2))), (H, (z.1 + 1, z.2 + 6))) := by
        show am_f X (999 + 1) 190 _ _ = _
        rw [fU_190]
        simp (disch := first | omega | exact Nat.le_of_ble_eq_true rfl | exact hX.ci | exact hX.ci) only [own_190, am_go dc_190_0, J_aload_3, K_al, ld_3, am_go dc_190_1, J_iconst, c32_0, am_go dc_190_2, J_aload_0, ld_0, am_go dc_190_3, J_iload_1, K_il, ld_1, am_go dc_190_4, J_iload_2, ld_2, am_go dc_190_5, cv_13_15_0 own_190, JR_v, JR_0, JR_ite, ci1_r, am_go dc_190_8, J_lastore, am_go dc_190_9, J_goto, am_go dc_190_12, J_astore, st1_0, st1_1, st1_s, kl_i, kl_l, kl_r, kl_n, am_go dc_190_14, c32_1, am_go dc_190_15, J_ret_i ret_190, am_go dc_190_16, am_go dc_190_18, c32_2, am_go dc_190_19, am_go dc_190_20, am_go dc_190_21, hX.c0, zI_add, zI_mul, zI_lt, zI_le, zI_eq, zI_neg, zI_pos, zI_ne0, zI_gt0, zB_0, lg_cmp_ge, lg_cmp_le, lg_cmp_gt, lg_cmp_lt, lg_cmp_eq, ail_r, abl_r, all_r, ais_r, abs_r, als_r, aal_r, aal_q, aln_r, vrf_s, vrf_n, z32, kk, JR_x, hx_190b, Bool.true_eq_false, Bool.false_eq_true, zB_t, zB_f, i32_m1, i8_m3, i8_m4, rwF_v, List.length_cons, List.length_nil, Nat.reduceAdd, Nat.reduceLT, Nat.reduceLeDiff, Nat.reduceEqDiff, ↓reduceIte, bind_s, if_true, if_false, not_true_eq_false, not_false_eq_true, Nat.zero_add]
      have cr : am_f X 1000 276 [.ref (o + 66), .int (zI e), .int y] (mH H (o + 66) u, (z.1 + 1, z.2 + 6)) = _ := r_elem_m (d := 997) (X := X) (h := H) (z := (z.1 + 1, z.2 + 6)) e2 c2
      exact gR2_mk hM cc hK.th (fun _ _ _ => rfl) cr ⟨fun _ _ => rfl, rfl⟩ (mFr_cg hF (fun _ _ _ => rfl) rfl rfl (fun _ _ => rfl)) rfl (fun q => absurd q (by decide))
end FO
