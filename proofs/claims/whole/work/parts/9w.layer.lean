/-! Street: a layer -/
section SA
variable {X : am_X} {C : Nat → Prop} {h : am_H} {w t sA sN mA mN d n L Q b r : Nat} {T : mU × (Nat → Option Nat)} {S : Nat → Int32} {z : Nat × Nat} {u : mU} {dg : Nat → Nat}
theorem dg_inj {dg' : Nat → Nat} (h5 : wN (S 116) ≤ 5) (h : dIn S dg) (h' : dIn S dg') (e : pk dg = pk dg') : dg = dg' := by
  funext b
  by_cases hb : b < 5
  · rw [← pk_dig h.1 hb, ← pk_dig h'.1 hb, e]
  · rw [h.2 b (by omega), h'.2 b (by omega)]
theorem wCd.uq {k : Nat} {dg' : Nat → Nat} (h5 : wN (S 116) ≤ 5) (h : wCd S n u) (hv : wVd S dg) (hv' : wVd S dg') (e : u.1 3 (pk dg) = zI k) (hk : k < n) (e' : u.1 1 k = zI (pk dg')) : dg = dg' := by
  obtain ⟨k2, q1, q2, q3⟩ := h.2.2.2.1 dg hv
  have hn := h.2.1
  have p1 := pkc_lt hv.1.1
  have p2 := pkc_lt hv'.1.1
  rw [e, zI_eq (by omega) (by omega)] at q3
  subst q3
  rw [e', zI_eq (by omega) (by omega)] at q2
  exact (dg_inj h5 hv.1 hv'.1 q2.symm)
theorem ix_inj {r r' k k' : Nat} (hk : k < n) (hk' : k' < n) (e : r * n + k = r' * n + k') : r = r' ∧ k = k' := by
  have e1 : (r * n + k) / n = r := by
    rw [Nat.mul_comm, Nat.mul_add_div (by omega), Nat.div_eq_of_lt hk, Nat.add_zero]
  have e2 : (r' * n + k') / n = r' := by
    rw [Nat.mul_comm, Nat.mul_add_div (by omega), Nat.div_eq_of_lt hk', Nat.add_zero]
  have : r = r' := by rw [← e1, e, e2]
  subst this
  exact ⟨rfl, by omega⟩
theorem w_meet {kk : Nat} {M : Nat → Int64} (hS : ∀ u, tS C (wH h w (u, (t, sA, sN, mA, mN))) t T S) (hW : wOkk w (t, sA, sN, mA, mN)) (hcd : wCd S n u) (hly : u.2.2.1 5 = zI (21 * n)) (hm : mN < 1000000) (hr : rOk T S Q) (hNs : 4 ^ wN (S 116) ≤ sN) (hNs2 : sN < 1000000) (hv : wVd S dg) (hkk : u.1 3 (pk dg) = zI kk) (hkn : kk < n) (hL : L ≤ 4) (hNm : L * (21 * n) + 21 * n + 21 * n ≤ mN) (hb : b < wN (S 116)) : ∃ f, am_f X (d + 5) 152 [.ref w, .int (zI b), .int (zI (L * (21 * n))), .int (zI (pk dg))] (wH h w (mL u 4 M, (t, sA, sN, mA, mN)), z) = some (.inl none, (wH h w (mL u 4 f, (t, sA, sN, mA, mN)), z)) ∧ (∀ r, r < Q → bt (cSeen T S dg) r = true → f (L * (21 * n) + (r * n + kk) + 21 * n) = wMe S T (u.1 3) M n L b dg r) ∧ (∀ j, (∀ r, r < Q → j ≠ L * (21 * n) + (r * n + kk) + 21 * n) → f j = M j) := by
  have t0 := fun u => (hS u).iT.c0
  have t1 := fun u => (hS u).iT.c1
  have t3 := fun u => (hS u).iT.c3
  have t4 := fun u => (hS u).iT.c4
  have t6 := fun u => (hS u).iT.c6
  have hm5 := (hS u).2.1.m.2
  have hb5 : b < 5 := by omega
  obtain ⟨a', bb, ha, hB⟩ := (hS (mL u 4 M)).box hb
  have h1 : qRow S b 1 = S (18 * b + 1) := rfl
  have km : am_f X (d + 4) 75 [.ref t, .int (zI (pk dg)), .int (zI b)] (wH h w (mL u 4 M, (t, sA, sN, mA, mN)), z) = _ := c_mayOpen (X := X) (d := d + 1) (z := z) (hS (mL u 4 M)) hv.1.1 hb
  have ks : am_f X (d + 4) 98 [.ref t, .int (zI (pk dg))] (wH h w (mL u 4 M, (t, sA, sN, mA, mN)), z) = _ := c_mass (X := X) (d := d + 1) (z := z) (hS (mL u 4 M)) hv.1.1
  have kr : am_f X (d + 4) 118 [.ref t, .int (zI (pk dg))] (wH h w (mL u 4 M, (t, sA, sN, mA, mN)), z) = _ := c_seenRanks (X := X) (d := d + 2) (z := z) (hS (mL u 4 M)) hv.1.1
  obtain ⟨f, s1, s2, s3⟩ := w_meet_l (X := X) (d := d) (z := z) (u := u) (n := n) (L := L) (dg := dg) hS hW hcd hly hm hr hNs hNs2 hv hkk hkn hL hNm hb Q 0 M none none (Nat.zero_add _)
  refine ⟨f, Eq.trans ?_ s1, fun r h2 h3 => s2 r (by omega) h2 h3, fun j hj => s3 j (fun r _ hr' => hj r hr')⟩
  rw [fU_152]
  simp (disch := first | omega | exact Nat.le_of_ble_eq_true rfl | exact wH_ci | (refine wF_lt ?_; omega) | exact (hS _).iT.ci) only [own_152, am_go dc_152_0, J_aload_0, K_al, ld_0, am_go dc_152_1, J_getfield, gf_r, fk_5_22_5, am_go dc_152_4, J_iload_3, K_il, ld_3, am_go dc_152_5, J_iload_1, ld_1, am_go dc_152_6, cv_5_98_1 own_152, JR_v, JR_0, JR_ite, ci1_r, am_go dc_152_9, J_istore, st1_0, st1_1, st1_s, kl_i, kl_l, kl_r, kl_n, am_go dc_152_11, am_go dc_152_12, am_go dc_152_15, fk_5_102_1, am_go dc_152_18, am_go dc_152_19, J_aaload, am_go dc_152_20, am_go dc_152_23, J_i2l, am_go dc_152_24, am_go dc_152_25, am_go dc_152_28, am_go dc_152_29, cv_5_82_1 own_152, am_go dc_152_32, J_lmul, am_go dc_152_33, J_lstore, st2_0, st2_1, st2_s, am_go dc_152_35, am_go dc_152_36, am_go dc_152_39, am_go dc_152_40, cv_5_111_1 own_152, am_go dc_152_43, am_go dc_152_45, J_iconst, c32_0, am_go dc_152_46, J_iload, ld_8, am_go dc_152_50, am_go dc_152_51, am_go dc_152_54, fk_5_86_1, am_go dc_152_57, J_icmp_ge, am_go dc_152_60, ld_7, am_go dc_152_62, c32_1, am_go dc_152_63, am_go dc_152_65, J_ishl, am_go dc_152_66, J_iand, am_go dc_152_67, J_if_eq, am_go dc_152_70, J_iload_2, ld_2, am_go dc_152_71, am_go dc_152_72, am_go dc_152_73, am_go dc_152_75, cv_5_89_5 own_152, am_go dc_152_78, J_iadd, am_go dc_152_79, am_go dc_152_81, am_go dc_152_82, fk_5_18_5, am_go dc_152_85, ld_9, am_go dc_152_87, J_laload, am_go dc_152_88, am_go dc_152_90, am_go dc_152_91, am_go dc_152_94, am_go dc_152_96, am_go dc_152_97, fk_5_45_5, am_go dc_152_100, am_go dc_152_101, ld_4, am_go dc_152_103, am_go dc_152_106, J_lload, K_ll, ld_10, am_go dc_152_108, am_go dc_152_109, am_go dc_152_110, am_go dc_152_111, am_go dc_152_112, am_go dc_152_114, cv_5_115_5 own_152, am_go dc_152_117, ld_5, am_go dc_152_119, J_lsub, am_go dc_152_120, cm_5_119 own_152, mth_2, am_go dc_152_123, J_goto, am_go dc_152_126, am_go dc_152_128, J_lastore, am_go dc_152_129, J_iinc, pinc_go, am_go dc_152_132, am_go dc_152_135, J_ret_v ret_152, wg_0, tg_0, tg_5, wg_4, wg_5, wH_0, wH_1, ww_1, zI_add, zI_mul, zI_lt, zI_le, zI_eq, zI_neg, zI_pos, zI_ne0, zI_gt0, zB_0, lg_cmp_ge, lg_cmp_le, lg_cmp_gt, lg_cmp_lt, lg_cmp_eq, ail_r, abl_r, all_r, ais_r, abs_r, als_r, aal_r, aal_q, aln_r, vrf_s, vrf_n, z32, t0, t1, t3, t4, t6, km, ks, kr, ha, bf_5_106 hB, h1, List.length_cons, List.length_nil, Nat.reduceAdd, Nat.reduceLT, Nat.reduceLeDiff, Nat.reduceEqDiff, ↓reduceIte, bind_s, if_true, if_false, not_true_eq_false, not_false_eq_true, Nat.zero_add]
theorem w_put_l {wd : Nat → Nat} (hS : ∀ u, tS C (wH h w (u, (t, sA, sN, mA, mN))) t T S) (hW : wOkk w (t, sA, sN, mA, mN)) (hcd : wCd S n u) (hly : u.2.2.1 5 = zI (21 * n)) (hm : mN < 1000000) (hr : rOk T S Q) (hNs : 4 ^ wN (S 116) ≤ sN) (hNs2 : sN < 1000000) (hwd : wMs wd) (hL : L ≤ 4) (hNm : L * (21 * n) + 21 * n + 21 * n ≤ mN) (hb : b < wN (S 116)) : ∀ (k i : Nat) (M : Nat → Int64), i + k = n → ∃ f, am_I X (am_f X (d + 5)) 151 3 [some (.ref w), some (.int (zI b)), some (.int (zI L)), some (.int (zI (pk wd))), some (.int (zI i))] [] (wH h w (mL u 4 M, (t, sA, sN, mA, mN)), z) = some (.inl none, (wH h w (mL u 4 f, (t, sA, sN, mA, mN)), z)) ∧ (∀ kk dg, i ≤ kk → kk < n → wVd S dg → u.1 3 (pk dg) = zI kk → (∀ b', b' < 5 → wd b' = 3 → dg b' = 0) → ∀ r, r < Q → bt (cSeen T S dg) r = true → f (L * (21 * n) + (r * n + kk) + 21 * n) = wMe S T (u.1 3) M n L b dg r) ∧ (∀ j, j < L * (21 * n) + 21 * n ∨ L * (21 * n) + 21 * n + 21 * n ≤ j → f j = M j) ∧ (∀ kk r, kk < i → r < Q → f (L * (21 * n) + (r * n + kk) + 21 * n) = M (L * (21 * n) + (r * n + kk) + 21 * n)) := by
  have t0 := fun u => (hS u).iT.c0
  have t1 := fun u => (hS u).iT.c1
  have t3 := fun u => (hS u).iT.c3
  have t4 := fun u => (hS u).iT.c4
  have t6 := fun u => (hS u).iT.c6
  have hm5 := (hS u).2.1.m.2
  have hQ := hr.2.2.1
  have hn2 := hcd.2.1
  have hn1 := hcd.1
  have hLn : L * (21 * n) ≤ 4 * (21 * n) := Nat.mul_le_mul_right _ hL
  intro k
  induction k with
  | zero =>
    intro i M hi
    have hi' : n ≤ i := by omega
    refine ⟨M, ?_, fun kk dg h1 h2 => by omega, fun _ _ => rfl, fun _ _ _ _ => rfl⟩
    rw [am_go dc_151_3]
    simp (disch := first | omega | exact Nat.le_of_ble_eq_true rfl | exact wH_ci | (refine wF_lt ?_; omega) | exact (hS _).iT.ci) only [own_151, am_go dc_151_0, J_iconst, c32_0, am_go dc_151_1, J_istore, st1_0, st1_1, st1_s, kl_i, kl_l, kl_r, kl_n, J_iload, K_il, ld_4, am_go dc_151_5, J_aload_0, K_al, ld_0, am_go dc_151_6, J_getfield, gf_r, fk_5_62_5, am_go dc_151_9, J_icmp_ge, am_go dc_151_12, am_go dc_151_13, fk_5_11_5, am_go dc_151_16, am_go dc_151_18, J_iaload, am_go dc_151_19, J_iload_3, ld_3, am_go dc_151_20, J_iand, am_go dc_151_21, J_if_ne, am_go dc_151_24, am_go dc_151_25, J_iload_1, ld_1, am_go dc_151_26, J_iload_2, ld_2, am_go dc_151_27, am_go dc_151_28, fk_5_45_5, am_go dc_151_31, J_imul, am_go dc_151_32, am_go dc_151_33, am_go dc_151_36, am_go dc_151_38, am_go dc_151_39, cv_5_95_5 own_151, JR_v, JR_0, JR_ite, ci1_r, am_go dc_151_42, J_iinc, pinc_go, c32_1, am_go dc_151_45, J_goto, am_go dc_151_48, J_ret_v ret_151, wg_2, wg_1, wg_5, wH_0, wH_1, ww_1, zI_add, zI_mul, zI_lt, zI_le, zI_eq, zI_neg, zI_pos, zI_ne0, zI_gt0, zB_0, lg_cmp_ge, lg_cmp_le, lg_cmp_gt, lg_cmp_lt, lg_cmp_eq, ail_r, abl_r, all_r, ais_r, abs_r, als_r, aal_r, aal_q, aln_r, vrf_s, vrf_n, z32, t0, t1, t3, t4, t6, hn1, hi', mS_s, mS_o, mS_2, mI_1, mI_2, mI_s, mI_o, mI_3, mI_I, mS_S, mJ_1, mJ_2, mJ_3, mJ_s, mJ_o, mJ_J, mL_1, mL_2, mL_s, mL_o, List.length_cons, List.length_nil, Nat.reduceAdd, Nat.reduceLT, Nat.reduceLeDiff, Nat.reduceEqDiff, ↓reduceIte, bind_s, if_true, if_false, not_true_eq_false, not_false_eq_true, Nat.zero_add]
  | succ k ih =>
    intro i M hi
    have hlt : ¬ n ≤ i := by omega
    obtain ⟨dg, hv, e1, e2⟩ := hcd.2.2.1 i (by omega)
    have hand := hwd.2.2 dg hv.1.1
    have hz : ∀ r, r < Q → r * n + i < 21 * n := fun r h => by
      have : r * n ≤ 20 * n := Nat.mul_le_mul_right n (by omega)
      omega
    by_cases c : zI (pk dg) &&& zI (pk wd) = 0
    · obtain ⟨f1, g1, g2, g3⟩ := w_meet (X := X) (d := d) (z := z) (u := u) (n := n) (L := L) (M := M) (dg := dg) hS hW hcd hly hm hr hNs hNs2 hv e2 (by omega) hL hNm hb
      obtain ⟨f, s1, s2, s3, s4⟩ := ih (i + 1) f1 (by omega)
      have low : ∀ j, j < L * (21 * n) + 21 * n → f1 j = M j := fun j hj => g3 j (fun r _ e => by omega)
      refine ⟨f, Eq.trans ?_ s1, fun kk dg' h1 h2 h3 h4 h5 r h6 h7 => ?_, fun j hj => ?_, fun kk r h1 h2 => ?_⟩
      · rw [am_go dc_151_3]
        simp (disch := first | omega | exact Nat.le_of_ble_eq_true rfl | exact wH_ci | (refine wF_lt ?_; omega) | exact (hS _).iT.ci) only [own_151, am_go dc_151_0, J_iconst, c32_0, am_go dc_151_1, J_istore, st1_0, st1_1, st1_s, kl_i, kl_l, kl_r, kl_n, J_iload, K_il, ld_4, am_go dc_151_5, J_aload_0, K_al, ld_0, am_go dc_151_6, J_getfield, gf_r, fk_5_62_5, am_go dc_151_9, J_icmp_ge, am_go dc_151_12, am_go dc_151_13, fk_5_11_5, am_go dc_151_16, am_go dc_151_18, J_iaload, am_go dc_151_19, J_iload_3, ld_3, am_go dc_151_20, J_iand, am_go dc_151_21, J_if_ne, am_go dc_151_24, am_go dc_151_25, J_iload_1, ld_1, am_go dc_151_26, J_iload_2, ld_2, am_go dc_151_27, am_go dc_151_28, fk_5_45_5, am_go dc_151_31, J_imul, am_go dc_151_32, am_go dc_151_33, am_go dc_151_36, am_go dc_151_38, am_go dc_151_39, cv_5_95_5 own_151, JR_v, JR_0, JR_ite, ci1_r, am_go dc_151_42, J_iinc, pinc_go, c32_1, am_go dc_151_45, J_goto, am_go dc_151_48, J_ret_v ret_151, wg_2, wg_1, wg_5, wH_0, wH_1, ww_1, zI_add, zI_mul, zI_lt, zI_le, zI_eq, zI_neg, zI_pos, zI_ne0, zI_gt0, zB_0, lg_cmp_ge, lg_cmp_le, lg_cmp_gt, lg_cmp_lt, lg_cmp_eq, ail_r, abl_r, all_r, ais_r, abs_r, als_r, aal_r, aal_q, aln_r, vrf_s, vrf_n, z32, t0, t1, t3, t4, t6, hn1, hlt, e1, c, hly, g1, mS_s, mS_o, mS_2, mI_1, mI_2, mI_s, mI_o, mI_3, mI_I, mS_S, mJ_1, mJ_2, mJ_3, mJ_s, mJ_o, mJ_J, mL_1, mL_2, mL_s, mL_o, List.length_cons, List.length_nil, Nat.reduceAdd, Nat.reduceLT, Nat.reduceLeDiff, Nat.reduceEqDiff, ↓reduceIte, bind_s, if_true, if_false, not_true_eq_false, not_false_eq_true, Nat.zero_add]
      · by_cases e : kk = i
        · subst e
          have := hcd.uq hm5 h3 hv h4 h2 e1
          subst this
          rw [s4 kk r (by omega) h6, g2 r h6 h7]
        · rw [s2 kk dg' (by omega) h2 h3 h4 h5 r h6 h7]
          exact wMe_cg hcd hr hm5 h3 hb h6 low
      · rw [s3 j hj, g3 j (fun r h1 e => by have := hz r h1; omega)]
      · rw [s4 kk r (by omega) h2, g3 _ (fun r' h1' e => by
          have := (ix_inj (n := n) (r := r) (r' := r') (k := kk) (k' := i) (by omega) (by omega) (by omega)).2
          omega)]
    · obtain ⟨f, s1, s2, s3, s4⟩ := ih (i + 1) M (by omega)
      refine ⟨f, Eq.trans ?_ s1, fun kk dg' h1 h2 h3 h4 h5 r h6 h7 => ?_, s3, fun kk r h1 h2 => s4 kk r (by omega) h2⟩
      · rw [am_go dc_151_3]
        simp (disch := first | omega | exact Nat.le_of_ble_eq_true rfl | exact wH_ci | (refine wF_lt ?_; omega) | exact (hS _).iT.ci) only [own_151, am_go dc_151_0, J_iconst, c32_0, am_go dc_151_1, J_istore, st1_0, st1_1, st1_s, kl_i, kl_l, kl_r, kl_n, J_iload, K_il, ld_4, am_go dc_151_5, J_aload_0, K_al, ld_0, am_go dc_151_6, J_getfield, gf_r, fk_5_62_5, am_go dc_151_9, J_icmp_ge, am_go dc_151_12, am_go dc_151_13, fk_5_11_5, am_go dc_151_16, am_go dc_151_18, J_iaload, am_go dc_151_19, J_iload_3, ld_3, am_go dc_151_20, J_iand, am_go dc_151_21, J_if_ne, am_go dc_151_24, am_go dc_151_25, J_iload_1, ld_1, am_go dc_151_26, J_iload_2, ld_2, am_go dc_151_27, am_go dc_151_28, fk_5_45_5, am_go dc_151_31, J_imul, am_go dc_151_32, am_go dc_151_33, am_go dc_151_36, am_go dc_151_38, am_go dc_151_39, cv_5_95_5 own_151, JR_v, JR_0, JR_ite, ci1_r, am_go dc_151_42, J_iinc, pinc_go, c32_1, am_go dc_151_45, J_goto, am_go dc_151_48, J_ret_v ret_151, wg_2, wg_1, wg_5, wH_0, wH_1, ww_1, zI_add, zI_mul, zI_lt, zI_le, zI_eq, zI_neg, zI_pos, zI_ne0, zI_gt0, zB_0, lg_cmp_ge, lg_cmp_le, lg_cmp_gt, lg_cmp_lt, lg_cmp_eq, ail_r, abl_r, all_r, ais_r, abs_r, als_r, aal_r, aal_q, aln_r, vrf_s, vrf_n, z32, t0, t1, t3, t4, t6, hn1, hlt, e1, c, mS_s, mS_o, mS_2, mI_1, mI_2, mI_s, mI_o, mI_3, mI_I, mS_S, mJ_1, mJ_2, mJ_3, mJ_s, mJ_o, mJ_J, mL_1, mL_2, mL_s, mL_o, List.length_cons, List.length_nil, Nat.reduceAdd, Nat.reduceLT, Nat.reduceLeDiff, Nat.reduceEqDiff, ↓reduceIte, bind_s, if_true, if_false, not_true_eq_false, not_false_eq_true, Nat.zero_add]
      · by_cases e : kk = i
        · subst e
          have := hcd.uq hm5 h3 hv h4 h2 e1
          subst this
          exact absurd (hand.mpr h5) c
        · exact s2 kk dg' (by omega) h2 h3 h4 h5 r h6 h7
theorem w_put {wd : Nat → Nat} {M : Nat → Int64} (hS : ∀ u, tS C (wH h w (u, (t, sA, sN, mA, mN))) t T S) (hW : wOkk w (t, sA, sN, mA, mN)) (hcd : wCd S n u) (hly : u.2.2.1 5 = zI (21 * n)) (hm : mN < 1000000) (hr : rOk T S Q) (hNs : 4 ^ wN (S 116) ≤ sN) (hNs2 : sN < 1000000) (hwd : wMs wd) (hL : L ≤ 4) (hNm : L * (21 * n) + 21 * n + 21 * n ≤ mN) (hb : b < wN (S 116)) : ∃ f, am_f X (d + 6) 151 [.ref w, .int (zI b), .int (zI L), .int (zI (pk wd))] (wH h w (mL u 4 M, (t, sA, sN, mA, mN)), z) = some (.inl none, (wH h w (mL u 4 f, (t, sA, sN, mA, mN)), z)) ∧ (∀ dg, wVd S dg → (∀ b', b' < 5 → wd b' = 3 → dg b' = 0) → ∀ r, r < Q → bt (cSeen T S dg) r = true → wTt (u.1 3) f n (L + 1) dg r = wMe S T (u.1 3) M n L b dg r) ∧ (∀ j, j < L * (21 * n) + 21 * n → f j = M j) := by
  have hn2 := hcd.2.1
  obtain ⟨f, s1, s2, s3, s4⟩ := w_put_l (X := X) (d := d) (z := z) (u := u) (n := n) (L := L) hS hW hcd hly hm hr hNs hNs2 hwd hL hNm hb n 0 M (Nat.zero_add _)
  refine ⟨f, Eq.trans ?_ s1, fun dg hv hw r h1 h2 => ?_, fun j hj => s3 j (Or.inl hj)⟩
  · rw [fU_151]
    simp (disch := first | omega | exact Nat.le_of_ble_eq_true rfl | exact wH_ci | (refine wF_lt ?_; omega) | exact (hS _).iT.ci) only [own_151, am_go dc_151_0, J_iconst, c32_0, am_go dc_151_1, J_istore, st1_0, st1_1, st1_s, kl_i, kl_l, kl_r, kl_n, J_iload, K_il, ld_4, am_go dc_151_5, J_aload_0, K_al, ld_0, am_go dc_151_6, J_getfield, gf_r, fk_5_62_5, am_go dc_151_9, J_icmp_ge, am_go dc_151_12, am_go dc_151_13, fk_5_11_5, am_go dc_151_16, am_go dc_151_18, J_iaload, am_go dc_151_19, J_iload_3, ld_3, am_go dc_151_20, J_iand, am_go dc_151_21, J_if_ne, am_go dc_151_24, am_go dc_151_25, J_iload_1, ld_1, am_go dc_151_26, J_iload_2, ld_2, am_go dc_151_27, am_go dc_151_28, fk_5_45_5, am_go dc_151_31, J_imul, am_go dc_151_32, am_go dc_151_33, am_go dc_151_36, am_go dc_151_38, am_go dc_151_39, cv_5_95_5 own_151, JR_v, JR_0, JR_ite, ci1_r, am_go dc_151_42, J_iinc, pinc_go, c32_1, am_go dc_151_45, J_goto, am_go dc_151_48, J_ret_v ret_151, wg_2, wg_1, wg_5, wH_0, wH_1, ww_1, zI_add, zI_mul, zI_lt, zI_le, zI_eq, zI_neg, zI_pos, zI_ne0, zI_gt0, zB_0, lg_cmp_ge, lg_cmp_le, lg_cmp_gt, lg_cmp_lt, lg_cmp_eq, ail_r, abl_r, all_r, ais_r, abs_r, als_r, aal_r, aal_q, aln_r, vrf_s, vrf_n, z32, List.length_cons, List.length_nil, Nat.reduceAdd, Nat.reduceLT, Nat.reduceLeDiff, Nat.reduceEqDiff, ↓reduceIte, bind_s, if_true, if_false, not_true_eq_false, not_false_eq_true, Nat.zero_add]
  · obtain ⟨k, k1, -, k3⟩ := hcd.2.2.2.1 dg hv
    rw [← s2 k dg (by omega) k1 hv k3 hw r h1 h2]
    unfold wTt
    rw [k3, wN_zI (by omega), Nat.succ_mul]
    congr 1
    omega
theorem w_stop_l {kk : Nat} (hS : ∀ u, tS C (wH h w (u, (t, sA, sN, mA, mN))) t T S) (hW : wOkk w (t, sA, sN, mA, mN)) (hcd : wCd S n u) (hly : u.2.2.1 5 = zI (21 * n)) (hm : mN < 1000000) (hr : rOk T S Q) (hNs : 4 ^ wN (S 116) ≤ sN) (hNs2 : sN < 1000000) (hv : wVd S dg) (hkk : u.1 3 (pk dg) = zI kk) (hkn : kk < n) (hNm : 21 * n ≤ mN) : ∀ (k i : Nat) (M : Nat → Int64), i + k = Q → ∃ f, am_I X (am_f X (d + 1)) 149 12 [some (.ref w), some (.int (zI (pk dg))), some (.long (cMs S dg)), none, some (.int (zI i))] [] (wH h w (mL u 4 M, (t, sA, sN, mA, mN)), z) = some (.inl none, (wH h w (mL u 4 f, (t, sA, sN, mA, mN)), z)) ∧ (∀ r, i ≤ r → r < Q → f (r * n + kk) = (T.1.1 4 r).toInt64 * cMs S dg) ∧ (∀ j, (∀ r, i ≤ r → r < Q → j ≠ r * n + kk) → f j = M j) := by
  have t0 := fun u => (hS u).iT.c0
  have t1 := fun u => (hS u).iT.c1
  have t3 := fun u => (hS u).iT.c3
  have t4 := fun u => (hS u).iT.c4
  have t6 := fun u => (hS u).iT.c6
  have hm5 := (hS u).2.1.m.2
  have hQ := hr.2.2.1
  have hQ2 := hr.1
  have hn2 := hcd.2.1
  have hn1 := hcd.1
  intro k
  induction k with
  | zero =>
    intro i M hi
    have hi' : Q ≤ i := by omega
    refine ⟨M, ?_, fun r h1 h2 => by omega, fun _ _ => rfl⟩
    rw [am_go dc_149_12]
    simp (disch := first | omega | exact Nat.le_of_ble_eq_true rfl | exact wH_ci | (refine wF_lt ?_; omega) | exact (hS _).iT.ci) only [own_149, am_go dc_149_0, J_aload_0, K_al, ld_0, am_go dc_149_1, J_getfield, gf_r, fk_5_22_5, am_go dc_149_4, J_iload_1, K_il, ld_1, am_go dc_149_5, cv_5_82_1 own_149, JR_v, JR_0, JR_ite, ci1_r, am_go dc_149_8, J_lstore_2, st2_0, st2_1, st2_s, kl_i, kl_l, kl_r, kl_n, am_go dc_149_9, J_iconst, c32_0, am_go dc_149_10, J_istore, st1_0, st1_1, st1_s, J_iload, ld_4, am_go dc_149_14, am_go dc_149_15, am_go dc_149_18, fk_5_86_1, am_go dc_149_21, J_icmp_ge, am_go dc_149_24, am_go dc_149_25, fk_5_18_5, am_go dc_149_28, am_go dc_149_29, am_go dc_149_30, am_go dc_149_32, cv_5_89_5 own_149, am_go dc_149_35, am_go dc_149_36, am_go dc_149_39, fk_5_92_1, am_go dc_149_42, am_go dc_149_44, J_iaload, am_go dc_149_45, J_i2l, am_go dc_149_46, J_lload_2, K_ll, ld_2, am_go dc_149_47, J_lmul, am_go dc_149_48, J_lastore, am_go dc_149_49, J_iinc, pinc_go, c32_1, am_go dc_149_52, J_goto, am_go dc_149_55, J_ret_v ret_149, wg_0, tg_5, wg_4, tg_4, wH_0, wH_1, ww_1, zI_add, zI_mul, zI_lt, zI_le, zI_eq, zI_neg, zI_pos, zI_ne0, zI_gt0, zB_0, lg_cmp_ge, lg_cmp_le, lg_cmp_gt, lg_cmp_lt, lg_cmp_eq, ail_r, abl_r, all_r, ais_r, abs_r, als_r, aal_r, aal_q, aln_r, vrf_s, vrf_n, z32, t0, t1, t3, t4, t6, hQ2, hi', List.length_cons, List.length_nil, Nat.reduceAdd, Nat.reduceLT, Nat.reduceLeDiff, Nat.reduceEqDiff, ↓reduceIte, bind_s, if_true, if_false, not_true_eq_false, not_false_eq_true, Nat.zero_add]
  | succ k ih =>
    intro i M hi
    have hlt : ¬ Q ≤ i := by omega
    have hi21 : i < 21 := by omega
    have hMn := wMn (h := h) (u := mL u 4 M) hW
    have hMw := fun f => wMw (h := h) (u := mL u 4 M) (f := f) hW
    have hin : i * n ≤ 20 * n := Nat.mul_le_mul_right n (by omega)
    have ksp : am_f X (d + 1) 150 [.ref w, .int (zI (pk dg)), .int (zI i)] (wH h w (mL u 4 M, (t, sA, sN, mA, mN)), z) = _ := w_spot (X := X) (d := d) (u := mL u 4 M) (n := n) (r := i) (k := kk) hS hW hn1 (by have := pkm_lt hv.1 hm5; omega) hNs2 hkk (by omega) (by omega) (by omega) (by omega)
    obtain ⟨f, s1, s2, s3⟩ := ih (i + 1) (vp_updL M (i * n + kk) ((T.1.1 4 i).toInt64 * cMs S dg)) (by omega)
    refine ⟨f, Eq.trans ?_ s1, fun r h1 h2 => ?_, fun j hj => ?_⟩
    · rw [am_go dc_149_12]
      simp (disch := first | omega | exact Nat.le_of_ble_eq_true rfl | exact wH_ci | (refine wF_lt ?_; omega) | exact (hS _).iT.ci) only [own_149, am_go dc_149_0, J_aload_0, K_al, ld_0, am_go dc_149_1, J_getfield, gf_r, fk_5_22_5, am_go dc_149_4, J_iload_1, K_il, ld_1, am_go dc_149_5, cv_5_82_1 own_149, JR_v, JR_0, JR_ite, ci1_r, am_go dc_149_8, J_lstore_2, st2_0, st2_1, st2_s, kl_i, kl_l, kl_r, kl_n, am_go dc_149_9, J_iconst, c32_0, am_go dc_149_10, J_istore, st1_0, st1_1, st1_s, J_iload, ld_4, am_go dc_149_14, am_go dc_149_15, am_go dc_149_18, fk_5_86_1, am_go dc_149_21, J_icmp_ge, am_go dc_149_24, am_go dc_149_25, fk_5_18_5, am_go dc_149_28, am_go dc_149_29, am_go dc_149_30, am_go dc_149_32, cv_5_89_5 own_149, am_go dc_149_35, am_go dc_149_36, am_go dc_149_39, fk_5_92_1, am_go dc_149_42, am_go dc_149_44, J_iaload, am_go dc_149_45, J_i2l, am_go dc_149_46, J_lload_2, K_ll, ld_2, am_go dc_149_47, J_lmul, am_go dc_149_48, J_lastore, am_go dc_149_49, J_iinc, pinc_go, c32_1, am_go dc_149_52, J_goto, am_go dc_149_55, J_ret_v ret_149, wg_0, tg_5, wg_4, tg_4, wH_0, wH_1, ww_1, zI_add, zI_mul, zI_lt, zI_le, zI_eq, zI_neg, zI_pos, zI_ne0, zI_gt0, zB_0, lg_cmp_ge, lg_cmp_le, lg_cmp_gt, lg_cmp_lt, lg_cmp_eq, ail_r, abl_r, all_r, ais_r, abs_r, als_r, aal_r, aal_q, aln_r, vrf_s, vrf_n, z32, t0, t1, t3, t4, t6, hQ2, hlt, ksp, hMn, hMw, mLL, mS_s, mS_o, mS_2, mI_1, mI_2, mI_s, mI_o, mI_3, mI_I, mS_S, mJ_1, mJ_2, mJ_3, mJ_s, mJ_o, mJ_J, mL_1, mL_2, mL_s, mL_o, List.length_cons, List.length_nil, Nat.reduceAdd, Nat.reduceLT, Nat.reduceLeDiff, Nat.reduceEqDiff, ↓reduceIte, bind_s, if_true, if_false, not_true_eq_false, not_false_eq_true, Nat.zero_add]
    · by_cases e : r = i
      · subst e
        rw [s3 _ (fun r' h1' h2' e => by
          have := (ix_inj hkn hkn e).1
          omega), upL_s]
      · exact s2 r (by omega) h2
    · rw [s3 j (fun r' h1' => hj r' (by omega)), upL_o (hj i (by omega) (by omega))]
theorem w_stop {kk : Nat} {M : Nat → Int64} (hS : ∀ u, tS C (wH h w (u, (t, sA, sN, mA, mN))) t T S) (hW : wOkk w (t, sA, sN, mA, mN)) (hcd : wCd S n u) (hly : u.2.2.1 5 = zI (21 * n)) (hm : mN < 1000000) (hr : rOk T S Q) (hNs : 4 ^ wN (S 116) ≤ sN) (hNs2 : sN < 1000000) (hv : wVd S dg) (hkk : u.1 3 (pk dg) = zI kk) (hkn : kk < n) (hNm : 21 * n ≤ mN) : ∃ f, am_f X (d + 4) 149 [.ref w, .int (zI (pk dg))] (wH h w (mL u 4 M, (t, sA, sN, mA, mN)), z) = some (.inl none, (wH h w (mL u 4 f, (t, sA, sN, mA, mN)), z)) ∧ (∀ r, r < Q → f (r * n + kk) = (T.1.1 4 r).toInt64 * cMs S dg) ∧ (∀ j, (∀ r, r < Q → j ≠ r * n + kk) → f j = M j) := by
  have t0 := fun u => (hS u).iT.c0
  have t1 := fun u => (hS u).iT.c1
  have t3 := fun u => (hS u).iT.c3
  have t4 := fun u => (hS u).iT.c4
  have t6 := fun u => (hS u).iT.c6
  have ks : am_f X (d + 3) 98 [.ref t, .int (zI (pk dg))] (wH h w (mL u 4 M, (t, sA, sN, mA, mN)), z) = _ := c_mass (X := X) (d := d) (z := z) (hS (mL u 4 M)) hv.1.1
  obtain ⟨f, s1, s2, s3⟩ := w_stop_l (X := X) (d := d + 2) (z := z) (u := u) (n := n) (dg := dg) hS hW hcd hly hm hr hNs hNs2 hv hkk hkn hNm Q 0 M (Nat.zero_add _)
  refine ⟨f, Eq.trans ?_ s1, fun r h1 => s2 r (by omega) h1, fun j hj => s3 j (fun r _ h1 => hj r h1)⟩
  rw [fU_149]
  simp (disch := first | omega | exact Nat.le_of_ble_eq_true rfl | exact wH_ci | (refine wF_lt ?_; omega) | exact (hS _).iT.ci) only [own_149, am_go dc_149_0, J_aload_0, K_al, ld_0, am_go dc_149_1, J_getfield, gf_r, fk_5_22_5, am_go dc_149_4, J_iload_1, K_il, ld_1, am_go dc_149_5, cv_5_82_1 own_149, JR_v, JR_0, JR_ite, ci1_r, am_go dc_149_8, J_lstore_2, st2_0, st2_1, st2_s, kl_i, kl_l, kl_r, kl_n, am_go dc_149_9, J_iconst, c32_0, am_go dc_149_10, J_istore, st1_0, st1_1, st1_s, J_iload, ld_4, am_go dc_149_14, am_go dc_149_15, am_go dc_149_18, fk_5_86_1, am_go dc_149_21, J_icmp_ge, am_go dc_149_24, am_go dc_149_25, fk_5_18_5, am_go dc_149_28, am_go dc_149_29, am_go dc_149_30, am_go dc_149_32, cv_5_89_5 own_149, am_go dc_149_35, am_go dc_149_36, am_go dc_149_39, fk_5_92_1, am_go dc_149_42, am_go dc_149_44, J_iaload, am_go dc_149_45, J_i2l, am_go dc_149_46, J_lload_2, K_ll, ld_2, am_go dc_149_47, J_lmul, am_go dc_149_48, J_lastore, am_go dc_149_49, J_iinc, pinc_go, c32_1, am_go dc_149_52, J_goto, am_go dc_149_55, J_ret_v ret_149, wg_0, tg_5, wg_4, tg_4, wH_0, wH_1, ww_1, zI_add, zI_mul, zI_lt, zI_le, zI_eq, zI_neg, zI_pos, zI_ne0, zI_gt0, zB_0, lg_cmp_ge, lg_cmp_le, lg_cmp_gt, lg_cmp_lt, lg_cmp_eq, ail_r, abl_r, all_r, ais_r, abs_r, als_r, aal_r, aal_q, aln_r, vrf_s, vrf_n, z32, t0, t1, t3, t4, t6, ks, List.length_cons, List.length_nil, Nat.reduceAdd, Nat.reduceLT, Nat.reduceLeDiff, Nat.reduceEqDiff, ↓reduceIte, bind_s, if_true, if_false, not_true_eq_false, not_false_eq_true, Nat.zero_add]
end SA
