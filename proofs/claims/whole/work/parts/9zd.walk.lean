/-! streets as called -/
section SF
variable {X : am_X} {C : Nat → Prop} {h : am_H} {w t sA sN mA mN d n L Q b r : Nat} {T : mU × (Nat → Option Nat)} {S : Nat → Int32} {z : Nat × Nat} {u : mU} {dg : Nat → Nat}
theorem stGr.ad {sA' sN' mA' mN' : Nat} {z' : Nat × Nat} (hg : stGr S n sA sA' sN sN' mA mA' mN mN' z z') : (sA' = sA ∨ z.1 ≤ sA') ∧ (mA' = mA ∨ z.1 ≤ mA') := by
  obtain ⟨z1, a, b⟩ := hg
  have h1 : z.1 ≤ z1.1 := by
    rcases a with q | q
    · rw [q.2.2]
      exact Nat.le_refl _
    · rw [q.2.2.2]
      show z.1 ≤ z.1 + 1
      omega
  constructor
  · rcases a with q | q
    · exact Or.inl q.2.1
    · right
      rw [q.2.2.1]
      exact Nat.le_refl _
  · rcases b with q | q
    · exact Or.inl q.2.1
    · right
      rw [q.2.2.1]
      exact h1
theorem st_fr {h' : am_H} {u1 u' : mU} {sA' sN' mA' mN' : Nat} {z' : Nat × Nat} (hg : stGr S n sA sA' sN sN' mA mA' mN mN' z z') (h1 : ∀ x, x < z.1 → wK w x → x ≠ sA → x ≠ mA → wH h' w (u1, (t, sA', sN', mA', mN')) x = wH h w (u, (t, sA, sN, mA, mN)) x) : ∀ x, x < z.1 → wK w x → x ≠ sA → x ≠ mA → wH h' w (u', (t, sA', sN', mA', mN')) x = wH h w (u, (t, sA, sN, mA, mN)) x := fun x q1 q2 q3 q4 => by
  obtain ⟨hs, hm⟩ := hg.ad
  rw [← h1 x q1 q2 q3 q4, wX q2 (by omega) (by omega), wX q2 (by omega) (by omega)]
theorem w_best (hP : stOk C h w t sA sN mA mN T S u z) (hr : rOk T S Q) {y : Int64} : ∃ h' u' sA' sN' mA' mN' z' n, am_f X (d + 13) 155 [.ref w] (wH h w (u, (t, sA, sN, mA, mN)), z) = some (.inl (some (.int (qGo (qZ S) (wN (S 116)) 0 (zI 0) (zI 0) (fun _ => 0) (y, -4)).2)), (wH h' w (u', (t, sA', sN', mA', mN')), z')) ∧ stOk C h' w t sA' sN' mA' mN' T S u' z' ∧ n ≤ wNb (wN (S 116)) ∧ (∀ x, x < z.1 → wK w x → x ≠ sA → x ≠ mA → wH h' w (u', (t, sA', sN', mA', mN')) x = wH h w (u, (t, sA, sN, mA, mN)) x) ∧ stGr S n sA sA' sN sN' mA mA' mN mN' z z' := by
  obtain ⟨h', u1, sA', sN', mA', mN', z', n, f1, f2, f3, f4, f5, f6, f7, f8, f9, f10⟩ := w_prepare (X := X) (d := d + 7) hP hr
  have hS := f2.st
  have t0 := fun u => (hS u).iT.c0
  have t1 := fun u => (hS u).iT.c1
  have t3 := fun u => (hS u).iT.c3
  have t4 := fun u => (hS u).iT.c4
  have t6 := fun u => (hS u).iT.c6
  have hG := f2.1.2.1
  have hm5 := hG.m.2
  have hsz := (hS u1).sz
  have hZ116 : qZ S 116 = S 116 := qZ_o (by omega)
  have f2' := f2
  obtain ⟨-, -, hW, g4, g5, g6, g7, g8, g9, g10⟩ := f2
  obtain ⟨-, -, e3, -⟩ := lk_rk hr hG (qRw_Z (S := S)) qPl_Z
  have hst : (qHas (qZ S)).toInt64 * qMass (qZ S) = 0 := by
    rw [← e3, rk_Z hr hG, hr.2.2.2.1]
    exact Int64.zero_mul
  have hv : ∀ p, (-9223372036854775808 : Int64) < oV (qZ S) (wN (S 116)) p := fun p => by
    have := qSt_ge (ord := fun j => p.getD j 0) (wN (S 116)) 0 (qZ S)
    rw [hst] at this
    unfold oV
    rw [L64] at this ⊢
    have e1 : (-9223372036854775808 : Int64).toInt = -9223372036854775808 := rfl
    have e2 : (0 : Int64).toInt = 0 := rfl
    omega
  obtain ⟨u2, c1, c2, c3⟩ := w_ch (X := X) (d := d + (5 - wN (S 116))) (z := z') hS hW g5 hr f5 g4 f7 (wN (S 116)) 0 (Nat.zero_add _) [] (fun _ => 0) (mI (mJ u1 6 (-9223372036854775808)) 7 (zI 0)) rfl (fun b hb => by cases hb) wMs_0 (fun b _ => by simp) f3 f6 (fun S' h1 h2 h3 _ => by
    rw [Nat.sub_zero]
    exact w_layer0 hr hG f8 S' h1 h2 h3)
  have hdep : d + (5 - wN (S 116)) + wN (S 116) + 7 = d + 12 := by omega
  rw [hdep] at c1
  have hpk0 : pk (fun _ => 0) = 0 := rfl
  rw [hpk0, show oN [] = 0 from rfl] at c1
  have hres : oRv (wN (S 116)) (u2.2.2.1 7) = (qGo (qZ S) (wN (S 116)) 0 (zI 0) (zI 0) (fun _ => 0) (y, -4)).2 := by
    have e7 := congrArg Prod.snd c3
    have e7' : u2.2.2.1 7 = ((oC (wN (S 116)) (wN (S 116)) []).foldl (upC (oV (qZ S) (wN (S 116)))) (-9223372036854775808, zI 0)).2 := e7
    have gg := qGo_e (S := qZ S) (s := (y, -4)) (by rw [hZ116]; exact hm5)
    rw [hZ116] at gg
    rw [gg, e7']
    exact e_same (by omega) hv
  have lp : ∀ (k i : Nat) (x : Int32), i + k = wN (S 116) → am_I X (am_f X (d + 12)) 155 27 [some (.ref w), some (.int x), some (.int (zI i))] [] (wH h' w (u2, (t, sA', sN', mA', mN')), z') = some (.inl (some (.int (fo (fun i a => (a <<< (zI 3 &&& 31)) ||| ((u2.2.2.1 7 >>> (zI (3 * i) &&& 31)) &&& zI 7)) i k x))), (wH h' w (u2, (t, sA', sN', mA', mN')), z')) := by
    intro k
    induction k with
    | zero =>
      intro i x hi
      have hi' : wN (S 116) ≤ i := by omega
      rw [am_go dc_155_27]
      simp (disch := first | omega | exact Nat.le_of_ble_eq_true rfl | exact wH_ci | (refine wF_lt ?_; omega) | exact (hS _).iT.ci) only [own_155, am_go dc_155_0, J_aload_0, K_al, ld_0, am_go dc_155_1, cv_5_26_5 own_155, JR_v, JR_0, JR_ite, ci1_r, am_go dc_155_4, am_go dc_155_5, J_ldc2, cj_5_50, am_go dc_155_8, J_putfield_i, J_putfield_l, J_putfield_r, ini_155, pk_5_52_5, am_go dc_155_11, am_go dc_155_12, J_iconst, c32_0, am_go dc_155_13, pk_5_56_5, am_go dc_155_16, am_go dc_155_17, am_go dc_155_18, am_go dc_155_19, am_go dc_155_20, cv_5_59_5 own_155, am_go dc_155_23, am_go dc_155_24, J_istore_1, st1_0, st1_1, st1_s, kl_i, kl_l, kl_r, kl_n, am_go dc_155_25, am_go dc_155_26, J_istore_2, J_iload_2, K_il, ld_2, am_go dc_155_28, am_go dc_155_29, J_getfield, gf_r, fk_5_22_5, am_go dc_155_32, fk_5_29_1, am_go dc_155_35, J_icmp_ge, am_go dc_155_38, J_iload_1, ld_1, am_go dc_155_39, c32_3, am_go dc_155_40, J_ishl, am_go dc_155_41, am_go dc_155_42, fk_5_56_5, am_go dc_155_45, am_go dc_155_46, am_go dc_155_47, J_imul, am_go dc_155_48, J_ishr, am_go dc_155_49, J_bipush, c8_7, am_go dc_155_51, J_iand, am_go dc_155_52, J_ior, am_go dc_155_53, am_go dc_155_54, J_iinc, pinc_go, c32_1, am_go dc_155_57, J_goto, am_go dc_155_60, am_go dc_155_61, J_ret_i ret_155, wp_6, pf_l pk_5_52_5 rfl, wp_7, pf_i pk_5_56_5 rfl, wg_0, tg_1, wg_7, wH_0, wH_1, ww_1, zI_add, zI_mul, zI_lt, zI_le, zI_eq, zI_neg, zI_pos, zI_ne0, zI_gt0, zB_0, lg_cmp_ge, lg_cmp_le, lg_cmp_gt, lg_cmp_lt, lg_cmp_eq, ail_r, abl_r, all_r, ais_r, abs_r, als_r, aal_r, aal_q, aln_r, vrf_s, vrf_n, z32, t0, t1, t3, t4, t6, hsz, hi', List.length_cons, List.length_nil, Nat.reduceAdd, Nat.reduceLT, Nat.reduceLeDiff, Nat.reduceEqDiff, ↓reduceIte, bind_s, if_true, if_false, not_true_eq_false, not_false_eq_true, Nat.zero_add]
      rfl
    | succ k ih =>
      intro i x hi
      have hlt : ¬ wN (S 116) ≤ i := by omega
      refine Eq.trans ?_ (ih (i + 1) ((x <<< (zI 3 &&& 31)) ||| ((u2.2.2.1 7 >>> (zI (3 * i) &&& 31)) &&& zI 7)) (by omega))
      rw [am_go dc_155_27]
      simp (disch := first | omega | exact Nat.le_of_ble_eq_true rfl | exact wH_ci | (refine wF_lt ?_; omega) | exact (hS _).iT.ci) only [own_155, am_go dc_155_0, J_aload_0, K_al, ld_0, am_go dc_155_1, cv_5_26_5 own_155, JR_v, JR_0, JR_ite, ci1_r, am_go dc_155_4, am_go dc_155_5, J_ldc2, cj_5_50, am_go dc_155_8, J_putfield_i, J_putfield_l, J_putfield_r, ini_155, pk_5_52_5, am_go dc_155_11, am_go dc_155_12, J_iconst, c32_0, am_go dc_155_13, pk_5_56_5, am_go dc_155_16, am_go dc_155_17, am_go dc_155_18, am_go dc_155_19, am_go dc_155_20, cv_5_59_5 own_155, am_go dc_155_23, am_go dc_155_24, J_istore_1, st1_0, st1_1, st1_s, kl_i, kl_l, kl_r, kl_n, am_go dc_155_25, am_go dc_155_26, J_istore_2, J_iload_2, K_il, ld_2, am_go dc_155_28, am_go dc_155_29, J_getfield, gf_r, fk_5_22_5, am_go dc_155_32, fk_5_29_1, am_go dc_155_35, J_icmp_ge, am_go dc_155_38, J_iload_1, ld_1, am_go dc_155_39, c32_3, am_go dc_155_40, J_ishl, am_go dc_155_41, am_go dc_155_42, fk_5_56_5, am_go dc_155_45, am_go dc_155_46, am_go dc_155_47, J_imul, am_go dc_155_48, J_ishr, am_go dc_155_49, J_bipush, c8_7, am_go dc_155_51, J_iand, am_go dc_155_52, J_ior, am_go dc_155_53, am_go dc_155_54, J_iinc, pinc_go, c32_1, am_go dc_155_57, J_goto, am_go dc_155_60, am_go dc_155_61, J_ret_i ret_155, wp_6, pf_l pk_5_52_5 rfl, wp_7, pf_i pk_5_56_5 rfl, wg_0, tg_1, wg_7, wH_0, wH_1, ww_1, zI_add, zI_mul, zI_lt, zI_le, zI_eq, zI_neg, zI_pos, zI_ne0, zI_gt0, zB_0, lg_cmp_ge, lg_cmp_le, lg_cmp_gt, lg_cmp_lt, lg_cmp_eq, ail_r, abl_r, all_r, ais_r, abs_r, als_r, aal_r, aal_q, aln_r, vrf_s, vrf_n, z32, t0, t1, t3, t4, t6, hsz, hlt, List.length_cons, List.length_nil, Nat.reduceAdd, Nat.reduceLT, Nat.reduceLeDiff, Nat.reduceEqDiff, ↓reduceIte, bind_s, if_true, if_false, not_true_eq_false, not_false_eq_true, Nat.zero_add]
  refine ⟨h', u2, sA', sN', mA', mN', z', n, ?_, f2'.uu, f4, st_fr f10 f9, f10⟩
  rw [← hres]
  have l0 := lp (wN (S 116)) 0 (zI 0) (Nat.zero_add _)
  unfold oRv
  rw [← l0, fU_155]
  simp (disch := first | omega | exact Nat.le_of_ble_eq_true rfl | exact wH_ci | (refine wF_lt ?_; omega) | exact (hS _).iT.ci) only [own_155, am_go dc_155_0, J_aload_0, K_al, ld_0, am_go dc_155_1, cv_5_26_5 own_155, JR_v, JR_0, JR_ite, ci1_r, am_go dc_155_4, am_go dc_155_5, J_ldc2, cj_5_50, am_go dc_155_8, J_putfield_i, J_putfield_l, J_putfield_r, ini_155, pk_5_52_5, am_go dc_155_11, am_go dc_155_12, J_iconst, c32_0, am_go dc_155_13, pk_5_56_5, am_go dc_155_16, am_go dc_155_17, am_go dc_155_18, am_go dc_155_19, am_go dc_155_20, cv_5_59_5 own_155, am_go dc_155_23, am_go dc_155_24, J_istore_1, st1_0, st1_1, st1_s, kl_i, kl_l, kl_r, kl_n, am_go dc_155_25, am_go dc_155_26, J_istore_2, J_iload_2, K_il, ld_2, am_go dc_155_28, am_go dc_155_29, J_getfield, gf_r, fk_5_22_5, am_go dc_155_32, fk_5_29_1, am_go dc_155_35, J_icmp_ge, am_go dc_155_38, J_iload_1, ld_1, am_go dc_155_39, c32_3, am_go dc_155_40, J_ishl, am_go dc_155_41, am_go dc_155_42, fk_5_56_5, am_go dc_155_45, am_go dc_155_46, am_go dc_155_47, J_imul, am_go dc_155_48, J_ishr, am_go dc_155_49, J_bipush, c8_7, am_go dc_155_51, J_iand, am_go dc_155_52, J_ior, am_go dc_155_53, am_go dc_155_54, J_iinc, pinc_go, c32_1, am_go dc_155_57, J_goto, am_go dc_155_60, am_go dc_155_61, J_ret_i ret_155, wp_6, pf_l pk_5_52_5 rfl, wp_7, pf_i pk_5_56_5 rfl, wg_0, tg_1, wg_7, wH_0, wH_1, ww_1, zI_add, zI_mul, zI_lt, zI_le, zI_eq, zI_neg, zI_pos, zI_ne0, zI_gt0, zB_0, lg_cmp_ge, lg_cmp_le, lg_cmp_gt, lg_cmp_lt, lg_cmp_eq, ail_r, abl_r, all_r, ais_r, abs_r, als_r, aal_r, aal_q, aln_r, vrf_s, vrf_n, z32, t0, t1, t3, t4, t6, f1, c1, mS_s, mS_o, mS_2, mI_1, mI_2, mI_s, mI_o, mI_3, mI_I, mS_S, mJ_1, mJ_2, mJ_3, mJ_s, mJ_o, mJ_J, mL_1, mL_2, mL_s, mL_o, List.length_cons, List.length_nil, Nat.reduceAdd, Nat.reduceLT, Nat.reduceLeDiff, Nat.reduceEqDiff, ↓reduceIte, bind_s, if_true, if_false, not_true_eq_false, not_false_eq_true, Nat.zero_add]
theorem w_mean {ra LN len : Nat} {el : Nat → Int32} {ord : Nat → Nat} (hP : stOk C h w t sA sN mA mN T S u z) (hr : rOk T S Q) (hra : ra < z.1 ∧ wK w ra ∧ ra ≠ sA ∧ ra ≠ mA) (hA : wH h w (u, (t, sA, sN, mA, mN)) ra = some (.inl (.int, LN, .inl el))) (hLN : LN < 1000000) (hlen : len ≤ LN) (hlm : len ≤ wN (S 116)) (hel : ∀ j, j < len → el j = zI (ord j) ∧ ord j < wN (S 116)) (hinj : ∀ j j', j < len → j' < len → ord j = ord j' → j = j') : ∃ h' u' sA' sN' mA' mN' z' n, am_f X (d + 7) 145 [.ref w, .ref ra, .int (zI len)] (wH h w (u, (t, sA, sN, mA, mN)), z) = some (.inl (some (.long (qSt ord len 0 (qZ S)))), (wH h' w (u', (t, sA', sN', mA', mN')), z')) ∧ stOk C h' w t sA' sN' mA' mN' T S u' z' ∧ n ≤ wNb (wN (S 116)) ∧ (∀ x, x < z.1 → wK w x → x ≠ sA → x ≠ mA → wH h' w (u', (t, sA', sN', mA', mN')) x = wH h w (u, (t, sA, sN, mA, mN)) x) ∧ stGr S n sA sA' sN sN' mA mA' mN mN' z z' := by
  obtain ⟨h', u1, sA', sN', mA', mN', z', n, f1, f2, f3, f4, f5, f6, f7, f8, f9, f10⟩ := w_prepare (X := X) (d := d + 1) hP hr
  have hS := f2.st
  have t0 := fun u => (hS u).iT.c0
  have t1 := fun u => (hS u).iT.c1
  have t3 := fun u => (hS u).iT.c3
  have t4 := fun u => (hS u).iT.c4
  have t6 := fun u => (hS u).iT.c6
  have hG := f2.1.2.1
  have hm5 := hG.m.2
  have f2' := f2
  obtain ⟨-, -, hW, g4, g5, g6, g7, g8, g9, g10⟩ := f2
  have fr : ∀ u', wH h' w (u', (t, sA', sN', mA', mN')) ra = wH h w (u, (t, sA, sN, mA, mN)) ra := fun u' => st_fr f10 f9 ra hra.1 hra.2.1 hra.2.2.1 hra.2.2.2
  obtain ⟨f, s1⟩ := w_mean_l (X := X) (d := d) (z := z') (u := u1) (n := n) (ord := ord) hS hW f3 f6 g5 hr f5 g4 f7 (fun u' => (fr u').trans hA) hLN hlen hlm hel hinj len 0 (fun _ => 0) (u1.2.1 4) none (Nat.zero_add _) wMs_0 (fun b hb => by cases hb) (fun S' h1 h2 h3 _ => w_layer0 hr hG f8 S' h1 h2 h3)
  rw [mL_i, show pk (fun _ => 0) = 0 from rfl] at s1
  refine ⟨h', mL u1 4 f, sA', sN', mA', mN', z', n, ?_, f2'.uu, f4, st_fr f10 f9, f10⟩
  rw [← s1, fU_145]
  simp (disch := first | omega | exact Nat.le_of_ble_eq_true rfl | exact wH_ci | (refine wF_lt ?_; omega) | exact (hS _).iT.ci) only [own_145, am_go dc_145_0, J_aload_0, K_al, ld_0, am_go dc_145_1, cv_5_26_5 own_145, JR_v, JR_0, JR_ite, ci1_r, am_go dc_145_4, J_iconst, c32_0, am_go dc_145_5, J_istore_3, st1_0, st1_1, st1_s, kl_i, kl_l, kl_r, kl_n, am_go dc_145_6, am_go dc_145_7, J_istore, J_iload, K_il, ld_4, am_go dc_145_11, J_iload_2, ld_2, am_go dc_145_12, J_icmp_ge, am_go dc_145_15, am_go dc_145_17, am_go dc_145_18, J_getfield, gf_r, fk_5_22_5, am_go dc_145_21, fk_5_29_1, am_go dc_145_24, am_go dc_145_27, J_aload_1, ld_1, am_go dc_145_28, am_go dc_145_29, c32_1, am_go dc_145_30, J_isub, am_go dc_145_31, am_go dc_145_33, am_go dc_145_34, J_iaload, am_go dc_145_35, am_go dc_145_37, J_iload_3, ld_3, am_go dc_145_38, c32_3, am_go dc_145_39, c32_2, am_go dc_145_40, ld_5, am_go dc_145_42, J_imul, am_go dc_145_43, J_ishl, am_go dc_145_44, J_ior, am_go dc_145_45, am_go dc_145_46, am_go dc_145_47, am_go dc_145_49, am_go dc_145_51, am_go dc_145_52, cv_5_35_5 own_145, am_go dc_145_55, J_iinc, pinc_go, am_go dc_145_58, J_goto, am_go dc_145_61, am_go dc_145_62, fk_5_18_5, am_go dc_145_65, am_go dc_145_66, am_go dc_145_67, am_go dc_145_70, am_go dc_145_73, cm_5_39 own_145, mth_1, am_go dc_145_76, am_go dc_145_77, fk_5_45_5, am_go dc_145_80, am_go dc_145_81, J_laload, am_go dc_145_82, J_ret_l ret_145, wg_0, tg_1, wg_4, wg_5, wH_0, wH_1, ww_1, zI_add, zI_mul, zI_lt, zI_le, zI_eq, zI_neg, zI_pos, zI_ne0, zI_gt0, zB_0, lg_cmp_ge, lg_cmp_le, lg_cmp_gt, lg_cmp_lt, lg_cmp_eq, ail_r, abl_r, all_r, ais_r, abs_r, als_r, aal_r, aal_q, aln_r, vrf_s, vrf_n, z32, t0, t1, t3, t4, t6, f1, List.length_cons, List.length_nil, Nat.reduceAdd, Nat.reduceLT, Nat.reduceLeDiff, Nat.reduceEqDiff, ↓reduceIte, bind_s, if_true, if_false, not_true_eq_false, not_false_eq_true, Nat.zero_add]
end SF
