/-! Plan: runs -/
section PU
variable {X : am_X} {C : Nat → Prop} {h : am_H} {l t m a N d r Q : Nat} {T : mU × (Nat → Option Nat)} {S R : Nat → Int32} {z : Nat × Nat} {u : mU}
theorem lk_tg {x : Nat} (hG : qG R) (hR : qRw R S) (hL : qPl S) (hx : x < wN (R 116)) (ho : hw S x ≤ 2) : cTg R (qDg S) x = zI (qSa S x) := by
  have h5 := hG.m.2
  obtain ⟨c1, c2, c3⟩ := hG.c0 hx
  obtain ⟨q1, q2, q3⟩ := qSa_eq (qG_R hG hR) (show x < wN (S 116) by rw [hR.m]; exact hx) (fun e => by
    rw [hw_eq hL (by omega) (by omega), hw_eq hL (by omega) (by omega)] at e
    rw [hR.r0 (by omega)]
    exact pee_k hR hL hx h5 e)
  rw [hw_eq hL (by omega) (by omega)] at q1 q2 q3
  rw [hw_eq hL (by omega) (by omega)] at q3
  rw [hR.r (by omega) (by omega)] at q1 q2
  unfold cTg
  rw [lk_op hR hL hx h5, decide_eq_false (by omega), if_neg (by simp), dg_v hR hx h5, if_pos ho]
  by_cases w1 : hw S x = 1
  · rw [if_pos w1, q1 w1]
    exact c1
  · rw [if_neg w1]
    by_cases w2 : hw S x = 2
    · rw [if_pos w2]
      have := q2 w2
      conv => lhs; rw [c1]
      rw [zI_sub (by omega)]
      congr 1
      omega
    · rw [if_neg w2, q3 w1 w2]
theorem l_drawn_l {x n w tg : Nat} {y : Int32} (hG : qG R) (hS : ∀ u, tS C (lH h l (u, (t, m, a, N))) t T R) (hR : qRw R S) (hL : qPl S) (hx : x < wN (R 116)) (ho : hw S x ≤ 2) (hn : wN (R (18 * x + 3)) = n + 1) (hw' : w < 1000) : ∀ (k i ac : Nat), i + k = n → ac ≤ w → w < ac + fsum (qSn S x) i (k + 1) → am_I X (am_f X (d + 3)) 189 55 [some (.ref l), some (.int (zI (pk (qDg S)))), some (.int (zI x)), some (.int y), some (.int (zI n)), some (.int (zI tg)), some (.int (zI w)), some (.int (zI ac)), some (.int (zI i))] [] (lH h l (u, (t, m, a, N)), z) = some (.inl (some (.int (zI (qDw (qSn S x) (k + 1) i (w - ac))))), (lH h l (u, (t, m, a, N)), z)) := by
  have t0 := fun u => (hS u).iT.c0
  have t1 := fun u => (hS u).iT.c1
  have t3 := fun u => (hS u).iT.c3
  have t4 := fun u => (hS u).iT.c4
  have t6 := fun u => (hS u).iT.c6
  have t7 := fun u => (hS u).iT.c7
  have hm5 := hG.m.2
  have hn4 := (hG.n hx).2.2
  intro k
  induction k with
  | zero =>
    intro i ac hi h1 h2
    have hi' : n ≤ i := by omega
    have e : qDw (qSn S x) 1 i (w - ac) = n := by
      have : fsum (qSn S x) i 1 = qSn S x i := by rw [fsum_s]; rfl
      rw [this] at h2
      unfold qDw
      rw [if_pos (by omega)]
      omega
    rw [e, am_go dc_189_55]
    simp (disch := first | omega | exact Nat.le_of_ble_eq_true rfl | exact lH_ci | (refine lF_lt ?_; omega) | exact (hS _).iT.ci) only [own_189, am_go dc_189_0, J_aload_0, K_al, ld_0, am_go dc_189_1, J_getfield, gf_r, fk_4_38_4, am_go dc_189_4, fk_4_56_1, am_go dc_189_7, J_iload_2, K_il, ld_2, am_go dc_189_8, J_aaload, am_go dc_189_9, JR_v, JR_0, JR_ite, ci1_r, am_go dc_189_12, J_iconst, c32_1, am_go dc_189_13, J_isub, am_go dc_189_14, J_istore, st1_0, st1_1, st1_s, kl_i, kl_l, kl_r, kl_n, am_go dc_189_16, am_go dc_189_17, am_go dc_189_20, J_iload_1, ld_1, am_go dc_189_21, am_go dc_189_22, cv_4_252_1 own_189, am_go dc_189_25, am_go dc_189_27, J_iload, ld_5, am_go dc_189_29, J_if_le, am_go dc_189_32, J_iload_3, ld_3, am_go dc_189_33, J_ldc, am_go dc_189_35, J_iand, am_go dc_189_36, am_go dc_189_39, J_idiv, am_go dc_189_40, am_go dc_189_42, J_irem, am_go dc_189_43, J_goto, am_go dc_189_46, c32_0, am_go dc_189_47, am_go dc_189_49, am_go dc_189_50, am_go dc_189_52, am_go dc_189_53, ld_8, am_go dc_189_57, ld_4, am_go dc_189_59, J_icmp_ge, am_go dc_189_62, ld_7, am_go dc_189_64, am_go dc_189_65, am_go dc_189_68, am_go dc_189_69, am_go dc_189_70, am_go dc_189_72, cv_4_120_1 own_189, am_go dc_189_75, J_iadd, am_go dc_189_76, am_go dc_189_78, ld_6, am_go dc_189_80, am_go dc_189_82, am_go dc_189_85, am_go dc_189_87, J_ret_i ret_189, am_go dc_189_88, J_iinc, pinc_go, am_go dc_189_91, am_go dc_189_94, am_go dc_189_96, lg_0, tg_0, lH_0, lH_1, lH_4, lH_5, lH_6, lH_7, lH_8, lw_1, lw_4, lw_5, lw_6, lw_7, lw_8, zI_add, zI_mul, zI_lt, zI_le, zI_eq, zI_neg, zI_pos, zI_ne0, zI_gt0, zB_0, lg_cmp_ge, lg_cmp_le, lg_cmp_gt, lg_cmp_lt, lg_cmp_eq, ail_r, abl_r, all_r, ais_r, abs_r, als_r, aal_r, aal_q, aln_r, vrf_s, vrf_n, z32, t0, t1, t3, t4, t6, t7, hi', List.length_cons, List.length_nil, Nat.reduceAdd, Nat.reduceLT, Nat.reduceLeDiff, Nat.reduceEqDiff, ↓reduceIte, bind_s, if_true, if_false, not_true_eq_false, not_false_eq_true, Nat.zero_add]
  | succ k ih =>
    intro i ac hi h1 h2
    have hlt : ¬ n ≤ i := by omega
    have hii : i < wN (R (18 * x + 3)) := by omega
    have kch : am_f X (d + 3) 85 [.ref t, .int (zI (pk (qDg S))), .int (zI x), .int (zI i)] (lH h l (u, (t, m, a, N)), z) = _ := c_chanceAt (X := X) (d := d + 1) (z := z) (hS u) qDg_ok hx hii
    obtain ⟨s1, s2⟩ := qSh_ok (qG_R hG hR) (show x < wN (S 116) by rw [hR.m]; exact hx) (show i < wN (S (18 * x + 3)) by rw [hR.r (by omega) (by omega)]; exact hii)
    rw [lk_ch hG hR hL hx (by omega) ho, s1] at kch
    rw [fsum_s] at h2
    have hq : qDw (qSn S x) (k + 1 + 1) i (w - ac) = if w - ac < qSn S x i then i else qDw (qSn S x) (k + 1) (i + 1) (w - ac - qSn S x i) := rfl
    rw [hq]
    by_cases c : w - ac < qSn S x i
    · rw [if_pos c]
      have c' : ¬ ac + qSn S x i ≤ w := by omega
      rw [am_go dc_189_55]
      simp (disch := first | omega | exact Nat.le_of_ble_eq_true rfl | exact lH_ci | (refine lF_lt ?_; omega) | exact (hS _).iT.ci) only [own_189, am_go dc_189_0, J_aload_0, K_al, ld_0, am_go dc_189_1, J_getfield, gf_r, fk_4_38_4, am_go dc_189_4, fk_4_56_1, am_go dc_189_7, J_iload_2, K_il, ld_2, am_go dc_189_8, J_aaload, am_go dc_189_9, JR_v, JR_0, JR_ite, ci1_r, am_go dc_189_12, J_iconst, c32_1, am_go dc_189_13, J_isub, am_go dc_189_14, J_istore, st1_0, st1_1, st1_s, kl_i, kl_l, kl_r, kl_n, am_go dc_189_16, am_go dc_189_17, am_go dc_189_20, J_iload_1, ld_1, am_go dc_189_21, am_go dc_189_22, cv_4_252_1 own_189, am_go dc_189_25, am_go dc_189_27, J_iload, ld_5, am_go dc_189_29, J_if_le, am_go dc_189_32, J_iload_3, ld_3, am_go dc_189_33, J_ldc, am_go dc_189_35, J_iand, am_go dc_189_36, am_go dc_189_39, J_idiv, am_go dc_189_40, am_go dc_189_42, J_irem, am_go dc_189_43, J_goto, am_go dc_189_46, c32_0, am_go dc_189_47, am_go dc_189_49, am_go dc_189_50, am_go dc_189_52, am_go dc_189_53, ld_8, am_go dc_189_57, ld_4, am_go dc_189_59, J_icmp_ge, am_go dc_189_62, ld_7, am_go dc_189_64, am_go dc_189_65, am_go dc_189_68, am_go dc_189_69, am_go dc_189_70, am_go dc_189_72, cv_4_120_1 own_189, am_go dc_189_75, J_iadd, am_go dc_189_76, am_go dc_189_78, ld_6, am_go dc_189_80, am_go dc_189_82, am_go dc_189_85, am_go dc_189_87, J_ret_i ret_189, am_go dc_189_88, J_iinc, pinc_go, am_go dc_189_91, am_go dc_189_94, am_go dc_189_96, lg_0, tg_0, lH_0, lH_1, lH_4, lH_5, lH_6, lH_7, lH_8, lw_1, lw_4, lw_5, lw_6, lw_7, lw_8, zI_add, zI_mul, zI_lt, zI_le, zI_eq, zI_neg, zI_pos, zI_ne0, zI_gt0, zB_0, lg_cmp_ge, lg_cmp_le, lg_cmp_gt, lg_cmp_lt, lg_cmp_eq, ail_r, abl_r, all_r, ais_r, abs_r, als_r, aal_r, aal_q, aln_r, vrf_s, vrf_n, z32, t0, t1, t3, t4, t6, t7, hlt, kch, c', List.length_cons, List.length_nil, Nat.reduceAdd, Nat.reduceLT, Nat.reduceLeDiff, Nat.reduceEqDiff, ↓reduceIte, bind_s, if_true, if_false, not_true_eq_false, not_false_eq_true, Nat.zero_add]
    · rw [if_neg c]
      have c' : ac + qSn S x i ≤ w := by omega
      have ih' := ih (i + 1) (ac + qSn S x i) (by omega) c' (by omega)
      rw [← Nat.sub_sub] at ih'
      refine Eq.trans ?_ ih'
      conv => lhs; rw [am_go dc_189_55]
      simp (disch := first | omega | exact Nat.le_of_ble_eq_true rfl | exact lH_ci | (refine lF_lt ?_; omega) | exact (hS _).iT.ci) only [own_189, am_go dc_189_0, J_aload_0, K_al, ld_0, am_go dc_189_1, J_getfield, gf_r, fk_4_38_4, am_go dc_189_4, fk_4_56_1, am_go dc_189_7, J_iload_2, K_il, ld_2, am_go dc_189_8, J_aaload, am_go dc_189_9, JR_v, JR_0, JR_ite, ci1_r, am_go dc_189_12, J_iconst, c32_1, am_go dc_189_13, J_isub, am_go dc_189_14, J_istore, st1_0, st1_1, st1_s, kl_i, kl_l, kl_r, kl_n, am_go dc_189_16, am_go dc_189_17, am_go dc_189_20, J_iload_1, ld_1, am_go dc_189_21, am_go dc_189_22, cv_4_252_1 own_189, am_go dc_189_25, am_go dc_189_27, J_iload, ld_5, am_go dc_189_29, J_if_le, am_go dc_189_32, J_iload_3, ld_3, am_go dc_189_33, J_ldc, am_go dc_189_35, J_iand, am_go dc_189_36, am_go dc_189_39, J_idiv, am_go dc_189_40, am_go dc_189_42, J_irem, am_go dc_189_43, J_goto, am_go dc_189_46, c32_0, am_go dc_189_47, am_go dc_189_49, am_go dc_189_50, am_go dc_189_52, am_go dc_189_53, ld_8, am_go dc_189_57, ld_4, am_go dc_189_59, J_icmp_ge, am_go dc_189_62, ld_7, am_go dc_189_64, am_go dc_189_65, am_go dc_189_68, am_go dc_189_69, am_go dc_189_70, am_go dc_189_72, cv_4_120_1 own_189, am_go dc_189_75, J_iadd, am_go dc_189_76, am_go dc_189_78, ld_6, am_go dc_189_80, am_go dc_189_82, am_go dc_189_85, am_go dc_189_87, J_ret_i ret_189, am_go dc_189_88, J_iinc, pinc_go, am_go dc_189_91, am_go dc_189_94, am_go dc_189_96, lg_0, tg_0, lH_0, lH_1, lH_4, lH_5, lH_6, lH_7, lH_8, lw_1, lw_4, lw_5, lw_6, lw_7, lw_8, zI_add, zI_mul, zI_lt, zI_le, zI_eq, zI_neg, zI_pos, zI_ne0, zI_gt0, zB_0, lg_cmp_ge, lg_cmp_le, lg_cmp_gt, lg_cmp_lt, lg_cmp_eq, ail_r, abl_r, all_r, ais_r, abs_r, als_r, aal_r, aal_q, aln_r, vrf_s, vrf_n, z32, t0, t1, t3, t4, t6, t7, hlt, kch, c', List.length_cons, List.length_nil, Nat.reduceAdd, Nat.reduceLT, Nat.reduceLeDiff, Nat.reduceEqDiff, ↓reduceIte, bind_s, if_true, if_false, not_true_eq_false, not_false_eq_true, Nat.zero_add]
theorem l_drawn {x : Nat} {y : Int32} (hG : qG R) (hS : ∀ u, tS C (lH h l (u, (t, m, a, N))) t T R) (hR : qRw R S) (hL : qPl S) (hx : x < wN (R 116)) (ho : hw S x ≤ 2) (hp : 0 < qSa S x ∧ qSa S x ≤ 100) : am_f X (d + 4) 189 [.ref l, .int (zI (pk (qDg S))), .int (zI x), .int y] (lH h l (u, (t, m, a, N)), z) = some (.inl (some (.int (zI (qDw (qSn S x) (wN (R (18 * x + 3))) 0 (qLot y (qSa S x)))))), (lH h l (u, (t, m, a, N)), z)) := by
  have t0 := fun u => (hS u).iT.c0
  have t1 := fun u => (hS u).iT.c1
  have t3 := fun u => (hS u).iT.c3
  have t4 := fun u => (hS u).iT.c4
  have t6 := fun u => (hS u).iT.c6
  have t7 := fun u => (hS u).iT.c7
  have hm5 := hG.m.2
  obtain ⟨hn0, hn1, hn4⟩ := hG.n hx
  obtain ⟨a', bb, ha, hB⟩ := (hS u).box hx
  have hn3 : wN (qRow R x 3) = wN (R (18 * x + 3)) := rfl
  obtain ⟨n, hn⟩ : ∃ n, wN (R (18 * x + 3)) = n + 1 := ⟨wN (R (18 * x + 3)) - 1, by omega⟩
  have ktg : am_f X (d + 3) 99 [.ref t, .int (zI (pk (qDg S))), .int (zI x)] (lH h l (u, (t, m, a, N)), z) = _ := c_tog (X := X) (d := d + 1) (z := z) (hS u) qDg_ok hx
  rw [lk_tg hG hR hL hx ho] at ktg
  have hl := lot_eq (x := y) (n := qSa S x) (by omega) hp.1
  have hne : ¬ qSa S x = 0 := by omega
  have hle : ¬ qSa S x ≤ 0 := by omega
  have h65 : ((65536 : Int32) = 0) = False := by decide
  have hlt : qLot y (qSa S x) < qSa S x := Nat.mod_lt _ hp.1
  have hfs : qSa S x = fsum (qSn S x) 0 (n + 1) := by
    unfold qSa
    rw [hR.r (by omega) (by omega), hn]
  have hloop := l_drawn_l (X := X) (d := d) (z := z) (u := u) (y := y) (tg := qSa S x) (w := qLot y (qSa S x)) hG hS hR hL hx ho hn (by omega) n 0 0 (by omega) (by omega) (by omega)
  rw [Nat.sub_zero] at hloop
  have hsb : zI (n + 1) - zI 1 = zI n := by
    rw [zI_sub (by omega)]
    rfl
  rw [hn] at hn3 ⊢
  refine Eq.trans ?_ hloop
  generalize qLot y (qSa S x) = w at *
  generalize qSa S x = tg at *
  rw [fU_189]
  simp (disch := first | omega | exact Nat.le_of_ble_eq_true rfl | exact lH_ci | (refine lF_lt ?_; omega) | exact (hS _).iT.ci) only [own_189, am_go dc_189_0, J_aload_0, K_al, ld_0, am_go dc_189_1, J_getfield, gf_r, fk_4_38_4, am_go dc_189_4, fk_4_56_1, am_go dc_189_7, J_iload_2, K_il, ld_2, am_go dc_189_8, J_aaload, am_go dc_189_9, JR_v, JR_0, JR_ite, ci1_r, am_go dc_189_12, J_iconst, c32_1, am_go dc_189_13, J_isub, am_go dc_189_14, J_istore, st1_0, st1_1, st1_s, kl_i, kl_l, kl_r, kl_n, am_go dc_189_16, am_go dc_189_17, am_go dc_189_20, J_iload_1, ld_1, am_go dc_189_21, am_go dc_189_22, cv_4_252_1 own_189, am_go dc_189_25, am_go dc_189_27, J_iload, ld_5, am_go dc_189_29, J_if_le, am_go dc_189_32, J_iload_3, ld_3, am_go dc_189_33, J_ldc, am_go dc_189_35, J_iand, am_go dc_189_36, am_go dc_189_39, J_idiv, am_go dc_189_40, am_go dc_189_42, J_irem, am_go dc_189_43, J_goto, am_go dc_189_46, c32_0, am_go dc_189_47, am_go dc_189_49, am_go dc_189_50, am_go dc_189_52, am_go dc_189_53, ld_8, am_go dc_189_57, ld_4, am_go dc_189_59, J_icmp_ge, am_go dc_189_62, ld_7, am_go dc_189_64, am_go dc_189_65, am_go dc_189_68, am_go dc_189_69, am_go dc_189_70, am_go dc_189_72, cv_4_120_1 own_189, am_go dc_189_75, J_iadd, am_go dc_189_76, am_go dc_189_78, ld_6, am_go dc_189_80, am_go dc_189_82, am_go dc_189_85, am_go dc_189_87, J_ret_i ret_189, am_go dc_189_88, J_iinc, pinc_go, am_go dc_189_91, am_go dc_189_94, am_go dc_189_96, lg_0, tg_0, lH_0, lH_1, lH_4, lH_5, lH_6, lH_7, lH_8, lw_1, lw_4, lw_5, lw_6, lw_7, lw_8, zI_add, zI_mul, zI_lt, zI_le, zI_eq, zI_neg, zI_pos, zI_ne0, zI_gt0, zB_0, lg_cmp_ge, lg_cmp_le, lg_cmp_gt, lg_cmp_lt, lg_cmp_eq, ail_r, abl_r, all_r, ais_r, abs_r, als_r, aal_r, aal_q, aln_r, vrf_s, vrf_n, z32, t0, t1, t3, t4, t6, t7, ha, vx_4_117 own_189 hB, hn3, hsb, ktg, zI_le0, hle, J_ldc_w, ck_4_255, ck_4_256, h65, hne, hl, List.length_cons, List.length_nil, Nat.reduceAdd, Nat.reduceLT, Nat.reduceLeDiff, Nat.reduceEqDiff, ↓reduceIte, bind_s, if_true, if_false, not_true_eq_false, not_false_eq_true, Nat.zero_add]
theorem l_ruleAct (hG : qG R) (hr : rOk T R Q) (hN : tNm T R) (hS : ∀ u, tS C (lH h l (u, (t, m, a, N))) t T R) (hR : qRw R S) (hL : qPl S) : am_f X (d + 5) 188 [.ref l, .int (zI (pk (qDg S))), .int (zI (rkN T S))] (lH h l (u, (t, m, a, N)), z) = some (.inl (some (.int (zI (qArl S)))), (lH h l (u, (t, m, a, N)), z)) := by
  have hm5 := hG.m.2
  have hQ := hr.2.2.1
  obtain ⟨-, r1, e3, -⟩ := lk_rk hr hG hR hL
  have krl := l_ruleAt (X := X) (d := d) (z := z) (u := u) hS (dg := qDg S) qDg_ok (show rkN T S < 21 by omega)
  rw [lk_rl hr hG hR hL hN] at krl
  have hnn : qNn S := (qG_R hG hR).nn
  unfold qArl
  rcases qRl_inv hnn with q | ⟨b, b1, b2, b3, b4⟩
  · rw [q] at krl ⊢
    rw [if_pos m4_neg, fU_188]
    simp (disch := first | omega | exact Nat.le_of_ble_eq_true rfl | exact lH_ci) only [own_188, am_go dc_188_0, J_aload_0, K_al, ld_0, am_go dc_188_1, J_iload_1, K_il, ld_1, am_go dc_188_2, J_iload_2, ld_2, am_go dc_188_3, cv_4_192_4 own_188, JR_v, JR_0, JR_ite, ci1_r, am_go dc_188_6, J_istore_3, st1_0, st1_1, st1_s, kl_i, kl_l, kl_r, kl_n, am_go dc_188_7, J_iload_3, ld_3, am_go dc_188_8, J_if_ge, am_go dc_188_11, J_iconst, c32_0, am_go dc_188_12, J_goto, am_go dc_188_15, J_bipush, c8_10, am_go dc_188_17, am_go dc_188_18, J_iadd, am_go dc_188_19, J_ret_i ret_188, lH_0, lH_1, lH_4, lH_5, lH_6, lH_7, lH_8, lw_1, lw_4, lw_5, lw_6, lw_7, lw_8, zI_add, zI_mul, zI_lt, zI_le, zI_eq, zI_neg, zI_pos, zI_ne0, zI_gt0, zB_0, lg_cmp_ge, lg_cmp_le, lg_cmp_gt, lg_cmp_lt, lg_cmp_eq, ail_r, abl_r, all_r, ais_r, abs_r, als_r, aal_r, aal_q, aln_r, vrf_s, vrf_n, z32, krl, m4_ge, List.length_cons, List.length_nil, Nat.reduceAdd, Nat.reduceLT, Nat.reduceLeDiff, Nat.reduceEqDiff, ↓reduceIte, bind_s, if_true, if_false, not_true_eq_false, not_false_eq_true, Nat.zero_add]
  · rw [hR.m] at b1
    rw [b2] at krl
    have hneg : ¬ zI b < 0 := by rw [zI_neg (by omega)]; exact id
    rw [b4, b2, if_neg hneg, fU_188]
    simp (disch := first | omega | exact Nat.le_of_ble_eq_true rfl | exact lH_ci) only [own_188, am_go dc_188_0, J_aload_0, K_al, ld_0, am_go dc_188_1, J_iload_1, K_il, ld_1, am_go dc_188_2, J_iload_2, ld_2, am_go dc_188_3, cv_4_192_4 own_188, JR_v, JR_0, JR_ite, ci1_r, am_go dc_188_6, J_istore_3, st1_0, st1_1, st1_s, kl_i, kl_l, kl_r, kl_n, am_go dc_188_7, J_iload_3, ld_3, am_go dc_188_8, J_if_ge, am_go dc_188_11, J_iconst, c32_0, am_go dc_188_12, J_goto, am_go dc_188_15, J_bipush, c8_10, am_go dc_188_17, am_go dc_188_18, J_iadd, am_go dc_188_19, J_ret_i ret_188, lH_0, lH_1, lH_4, lH_5, lH_6, lH_7, lH_8, lw_1, lw_4, lw_5, lw_6, lw_7, lw_8, zI_add, zI_mul, zI_lt, zI_le, zI_eq, zI_neg, zI_pos, zI_ne0, zI_gt0, zB_0, lg_cmp_ge, lg_cmp_le, lg_cmp_gt, lg_cmp_lt, lg_cmp_eq, ail_r, abl_r, all_r, ais_r, abs_r, als_r, aal_r, aal_q, aln_r, vrf_s, vrf_n, z32, krl, List.length_cons, List.length_nil, Nat.reduceAdd, Nat.reduceLT, Nat.reduceLeDiff, Nat.reduceEqDiff, ↓reduceIte, bind_s, if_true, if_false, not_true_eq_false, not_false_eq_true, Nat.zero_add]
end PU
