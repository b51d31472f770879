/-! Street: choose -/
def oS (m : Nat) (p : List Nat) (j : Nat) : Nat := p.getD (j + p.length - m) 0
/-- what choosing leaves as it was -/
def chF (n L : Nat) (u u' : mU) : Prop := u'.1 = u.1 ∧ (∀ j, j < L * (21 * n) + 21 * n → u'.2.1 4 j = u.2.1 4 j) ∧ ∀ j, j ≠ 7 → u'.2.2.1 j = u.2.2.1 j
/-- the layer L is that of the boxes that wait -/
def chW (S : Nat → Int32) (T : mU × (Nat → Option Nat)) (n L : Nat) (wd : Nat → Nat) (p : List Nat) (u : mU) : Prop := ∀ S', qRw S S' → qPl S' → qNp S' → (∀ b, b < 5 → wd b = 3 → hw S' b = 0) → wTt (u.1 3) (u.2.1 4) n L (qDg S') (rkN T S') = qSt (oS (wN (S 116)) p) L (wN (S 116) - L) S'
section SE
variable {X : am_X} {C : Nat → Prop} {h : am_H} {w t sA sN mA mN d n L Q b r : Nat} {T : mU × (Nat → Option Nat)} {S : Nat → Int32} {z : Nat × Nat} {u : mU} {dg : Nat → Nat}
theorem chF.rf : chF n L u u := ⟨rfl, fun _ _ => rfl, fun _ _ => rfl⟩
theorem chF.tr {u' u'' : mU} (h : chF n L u u') (h2 : chF n L u' u'') : chF n L u u'' := ⟨h2.1.trans h.1, fun j hj => (h2.2.1 j hj).trans (h.2.1 j hj), fun j hj => (h2.2.2 j hj).trans (h.2.2 j hj)⟩
theorem chF.cd {u' : mU} (h : chF n L u u') (hc : wCd S n u) : wCd S n u' := by
  unfold wCd at *
  rw [h.1, h.2.2 2 (by omega)]
  exact hc
theorem chF.wq {u' : mU} {wd : Nat → Nat} {p : List Nat} (hr : rOk T S Q) (hG : qG S) (hc : wCd S n u) (h : chF n L u u') (hw : chW S T n L wd p u) : chW S T n L wd p u' := fun S' h1 h2 h3 h4 => by
  rw [← hw S' h1 h2 h3 h4, h.1]
  obtain ⟨k, k1, -, k3⟩ := hc.2.2.2.1 _ (wVd_q hG h1 h2 h3)
  obtain ⟨-, r1, -, -⟩ := lk_rk hr hG h1 h2
  have hQ := hr.2.2.1
  exact wTt_cg k3 k1 hc.2.1 (by omega) (fun j hj => h.2.1 j hj)
theorem mL_i : mL u 4 (u.2.1 4) = u := by
  unfold mL
  obtain ⟨a, b, c⟩ := u
  congr 2
  funext k
  by_cases e : k = 4
  · subst e
    rfl
  · simp [e]
theorem oS_c {m b j : Nat} {p : List Nat} (hp : p.length < m) (hj : m - p.length ≤ j) : oS m (b :: p) j = oS m p j := by
  unfold oS
  show (b :: p).getD (j + (p.length + 1) - m) 0 = _
  rw [show j + (p.length + 1) - m = (j + p.length - m) + 1 by omega]
  rfl
theorem oS_0 {m b : Nat} {p : List Nat} (hp : p.length < m) : oS m (b :: p) (m - p.length - 1) = b := by
  unfold oS
  show (b :: p).getD (m - p.length - 1 + (p.length + 1) - m) 0 = b
  rw [show m - p.length - 1 + (p.length + 1) - m = 0 by omega]
  rfl
theorem w_ch0 {p : List Nat} {wd : Nat → Nat} (hS : ∀ u, tS C (wH h w (u, (t, sA, sN, mA, mN))) t T S) (hW : wOkk w (t, sA, sN, mA, mN)) (hm : mN < 1000000) (hr : rOk T S Q) (hNs : 4 ^ wN (S 116) ≤ sN) (hNs2 : sN < 1000000) (hNm : 21 * n * (wN (S 116) + 1) ≤ mN) (hcd : wCd S n u) (hly : u.2.2.1 5 = zI (21 * n)) (hl : p.length = wN (S 116)) (hp : ∀ b, b ∈ p → b < wN (S 116)) (hw : chW S T n (wN (S 116)) wd p u) : ∃ u', am_f X (d + 1) 156 [.ref w, .int (zI (wN (S 116))), .int (zI (pk wd)), .int (zI (oN p))] (wH h w (u, (t, sA, sN, mA, mN)), z) = some (.inl none, (wH h w (u', (t, sA, sN, mA, mN)), z)) ∧ chF n (wN (S 116)) u u' ∧ (u'.2.2.2 6, u'.2.2.1 7) = upC (oV (qZ S) (wN (S 116))) (u.2.2.2 6, u.2.2.1 7) p := by
  have t0 := fun u => (hS u).iT.c0
  have t1 := fun u => (hS u).iT.c1
  have t3 := fun u => (hS u).iT.c3
  have t4 := fun u => (hS u).iT.c4
  have t6 := fun u => (hS u).iT.c6
  have hG := (hS u).2.1
  have hm5 := hG.m.2
  have hsz := (hS u).sz
  have hn2 := hcd.2.1
  have hMn := wMn (h := h) (u := u) hW
  have e := hw (qZ S) qRw_Z qPl_Z qNp_Z (fun b hb _ => hw_Z hb)
  rw [rk_Z hr hG] at e
  unfold wTt at e
  rw [dg_Z hm5, hcd.2.2.2.2, show wN (zI 0) = 0 from rfl, Nat.zero_mul, Nat.sub_self, Nat.add_zero] at e
  have ev : qSt (oS (wN (S 116)) p) (wN (S 116)) 0 (qZ S) = oV (qZ S) (wN (S 116)) p := qSt_cg _ _ _ (fun j _ hj => by
    unfold oS
    rw [hl, Nat.add_sub_cancel])
  rw [ev] at e
  have hb : wN (S 116) * (21 * n) + 21 * n ≤ mN := by
    rw [Nat.mul_add, Nat.mul_one, Nat.mul_comm (21 * n)] at hNm
    omega
  have hn0 : 0 < n := by
    obtain ⟨k0, k1, -⟩ := hcd.2.2.2.1 _ (wVd_q (S := qZ S) hG qRw_Z qPl_Z qNp_Z)
    omega
  have hon : oN p < 32768 := by
    have h1 := oN_lt p (fun b hb => by have := hp b hb; omega)
    have : 8 ^ p.length ≤ 8 ^ 5 := Nat.pow_le_pow_right (by omega) (by omega)
    have e5 : 8 ^ 5 = 32768 := rfl
    omega
  unfold upC
  generalize oV (qZ S) (wN (S 116)) p = v at *
  by_cases c1 : u.2.2.2 6 < v
  · refine ⟨mI (mJ u 6 v) 7 (zI (oN p)), ?_, ⟨rfl, fun _ _ => rfl, fun j hj => mI_o hj⟩, ?_⟩
    · rw [fU_156]
      simp (disch := first | omega | exact Nat.le_of_ble_eq_true rfl | exact wH_ci | (refine wF_lt ?_; omega) | exact (hS _).iT.ci) only [own_156, am_go dc_156_0, J_iload_1, K_il, ld_1, am_go dc_156_1, J_aload_0, K_al, ld_0, am_go dc_156_2, J_getfield, gf_r, fk_5_22_5, am_go dc_156_5, fk_5_29_1, am_go dc_156_8, J_icmp_lt, am_go dc_156_11, am_go dc_156_12, fk_5_18_5, am_go dc_156_15, am_go dc_156_16, am_go dc_156_17, fk_5_45_5, am_go dc_156_20, J_imul, am_go dc_156_21, J_laload, am_go dc_156_22, J_lstore, st2_0, st2_1, st2_s, kl_i, kl_l, kl_r, kl_n, am_go dc_156_24, J_lload, K_ll, ld_4, am_go dc_156_26, am_go dc_156_27, fk_5_52_5, am_go dc_156_30, J_lcmp, am_go dc_156_31, J_if_gt, am_go dc_156_34, am_go dc_156_36, am_go dc_156_37, am_go dc_156_40, am_go dc_156_41, J_if_ne, am_go dc_156_44, J_iload_3, ld_3, am_go dc_156_45, am_go dc_156_46, fk_5_56_5, am_go dc_156_49, J_icmp_ge, am_go dc_156_52, am_go dc_156_53, am_go dc_156_55, J_putfield_i, J_putfield_l, J_putfield_r, ini_156, pk_5_52_5, am_go dc_156_58, am_go dc_156_59, am_go dc_156_60, pk_5_56_5, am_go dc_156_63, J_ret_v ret_156, am_go dc_156_64, J_iconst, c32_0, am_go dc_156_65, J_istore, st1_0, st1_1, st1_s, J_iload, am_go dc_156_69, am_go dc_156_70, am_go dc_156_73, am_go dc_156_76, am_go dc_156_79, c32_3, am_go dc_156_80, c32_2, am_go dc_156_81, am_go dc_156_83, am_go dc_156_84, J_ishl, am_go dc_156_85, am_go dc_156_87, J_iload_2, ld_2, am_go dc_156_88, ld_5, am_go dc_156_90, J_iand, am_go dc_156_91, am_go dc_156_94, am_go dc_156_95, am_go dc_156_97, am_go dc_156_98, am_go dc_156_99, am_go dc_156_101, J_ior, am_go dc_156_102, cv_5_35_5 own_156, JR_v, JR_0, JR_ite, ci1_r, am_go dc_156_105, am_go dc_156_106, am_go dc_156_107, c32_1, am_go dc_156_108, J_iadd, am_go dc_156_109, am_go dc_156_110, am_go dc_156_112, am_go dc_156_113, am_go dc_156_114, am_go dc_156_116, am_go dc_156_117, am_go dc_156_118, am_go dc_156_119, am_go dc_156_120, am_go dc_156_121, cv_5_59_5 own_156, am_go dc_156_124, J_iinc, pinc_go, am_go dc_156_127, J_goto, am_go dc_156_130, wg_0, tg_1, wg_4, wg_5, wg_6, wg_7, wp_6, pf_l pk_5_52_5 rfl, wp_7, pf_i pk_5_56_5 rfl, wH_0, wH_1, ww_1, zI_add, zI_mul, zI_lt, zI_le, zI_eq, zI_neg, zI_pos, zI_ne0, zI_gt0, zB_0, lg_cmp_ge, lg_cmp_le, lg_cmp_gt, lg_cmp_lt, lg_cmp_eq, ail_r, abl_r, all_r, ais_r, abs_r, als_r, aal_r, aal_q, aln_r, vrf_s, vrf_n, z32, t0, t1, t3, t4, t6, hsz, hMn, hly, e, Nat.lt_irrefl, mS_s, mS_o, mS_2, mI_1, mI_2, mI_s, mI_o, mI_3, mI_I, mS_S, mJ_1, mJ_2, mJ_3, mJ_s, mJ_o, mJ_J, mL_1, mL_2, mL_s, mL_o, c1, List.length_cons, List.length_nil, Nat.reduceAdd, Nat.reduceLT, Nat.reduceLeDiff, Nat.reduceEqDiff, ↓reduceIte, bind_s, if_true, if_false, not_true_eq_false, not_false_eq_true, Nat.zero_add]
    · rw [if_pos c1]
      rfl
  · rw [if_neg c1]
    have ir : ¬ u.2.2.2 6 < u.2.2.2 6 := Int64.lt_irrefl
    by_cases c2 : v = u.2.2.2 6
    · by_cases c3 : zI (oN p) < u.2.2.1 7
      · have c3' : ¬ u.2.2.1 7 ≤ zI (oN p) := Int32.not_le.mpr c3
        refine ⟨mI (mJ u 6 v) 7 (zI (oN p)), ?_, ⟨rfl, fun _ _ => rfl, fun j hj => mI_o hj⟩, ?_⟩
        · rw [fU_156]
          simp (disch := first | omega | exact Nat.le_of_ble_eq_true rfl | exact wH_ci | (refine wF_lt ?_; omega) | exact (hS _).iT.ci) only [own_156, am_go dc_156_0, J_iload_1, K_il, ld_1, am_go dc_156_1, J_aload_0, K_al, ld_0, am_go dc_156_2, J_getfield, gf_r, fk_5_22_5, am_go dc_156_5, fk_5_29_1, am_go dc_156_8, J_icmp_lt, am_go dc_156_11, am_go dc_156_12, fk_5_18_5, am_go dc_156_15, am_go dc_156_16, am_go dc_156_17, fk_5_45_5, am_go dc_156_20, J_imul, am_go dc_156_21, J_laload, am_go dc_156_22, J_lstore, st2_0, st2_1, st2_s, kl_i, kl_l, kl_r, kl_n, am_go dc_156_24, J_lload, K_ll, ld_4, am_go dc_156_26, am_go dc_156_27, fk_5_52_5, am_go dc_156_30, J_lcmp, am_go dc_156_31, J_if_gt, am_go dc_156_34, am_go dc_156_36, am_go dc_156_37, am_go dc_156_40, am_go dc_156_41, J_if_ne, am_go dc_156_44, J_iload_3, ld_3, am_go dc_156_45, am_go dc_156_46, fk_5_56_5, am_go dc_156_49, J_icmp_ge, am_go dc_156_52, am_go dc_156_53, am_go dc_156_55, J_putfield_i, J_putfield_l, J_putfield_r, ini_156, pk_5_52_5, am_go dc_156_58, am_go dc_156_59, am_go dc_156_60, pk_5_56_5, am_go dc_156_63, J_ret_v ret_156, am_go dc_156_64, J_iconst, c32_0, am_go dc_156_65, J_istore, st1_0, st1_1, st1_s, J_iload, am_go dc_156_69, am_go dc_156_70, am_go dc_156_73, am_go dc_156_76, am_go dc_156_79, c32_3, am_go dc_156_80, c32_2, am_go dc_156_81, am_go dc_156_83, am_go dc_156_84, J_ishl, am_go dc_156_85, am_go dc_156_87, J_iload_2, ld_2, am_go dc_156_88, ld_5, am_go dc_156_90, J_iand, am_go dc_156_91, am_go dc_156_94, am_go dc_156_95, am_go dc_156_97, am_go dc_156_98, am_go dc_156_99, am_go dc_156_101, J_ior, am_go dc_156_102, cv_5_35_5 own_156, JR_v, JR_0, JR_ite, ci1_r, am_go dc_156_105, am_go dc_156_106, am_go dc_156_107, c32_1, am_go dc_156_108, J_iadd, am_go dc_156_109, am_go dc_156_110, am_go dc_156_112, am_go dc_156_113, am_go dc_156_114, am_go dc_156_116, am_go dc_156_117, am_go dc_156_118, am_go dc_156_119, am_go dc_156_120, am_go dc_156_121, cv_5_59_5 own_156, am_go dc_156_124, J_iinc, pinc_go, am_go dc_156_127, J_goto, am_go dc_156_130, wg_0, tg_1, wg_4, wg_5, wg_6, wg_7, wp_6, pf_l pk_5_52_5 rfl, wp_7, pf_i pk_5_56_5 rfl, wH_0, wH_1, ww_1, zI_add, zI_mul, zI_lt, zI_le, zI_eq, zI_neg, zI_pos, zI_ne0, zI_gt0, zB_0, lg_cmp_ge, lg_cmp_le, lg_cmp_gt, lg_cmp_lt, lg_cmp_eq, ail_r, abl_r, all_r, ais_r, abs_r, als_r, aal_r, aal_q, aln_r, vrf_s, vrf_n, z32, t0, t1, t3, t4, t6, hsz, hMn, hly, e, Nat.lt_irrefl, mS_s, mS_o, mS_2, mI_1, mI_2, mI_s, mI_o, mI_3, mI_I, mS_S, mJ_1, mJ_2, mJ_3, mJ_s, mJ_o, mJ_J, mL_1, mL_2, mL_s, mL_o, c1, c2, c3', ir, List.length_cons, List.length_nil, Nat.reduceAdd, Nat.reduceLT, Nat.reduceLeDiff, Nat.reduceEqDiff, ↓reduceIte, bind_s, if_true, if_false, not_true_eq_false, not_false_eq_true, Nat.zero_add]
        · rw [if_pos c2, if_pos c3]
          rfl
      · have c3' : u.2.2.1 7 ≤ zI (oN p) := Int32.not_lt.mp c3
        refine ⟨u, ?_, chF.rf, ?_⟩
        · rw [fU_156]
          simp (disch := first | omega | exact Nat.le_of_ble_eq_true rfl | exact wH_ci | (refine wF_lt ?_; omega) | exact (hS _).iT.ci) only [own_156, am_go dc_156_0, J_iload_1, K_il, ld_1, am_go dc_156_1, J_aload_0, K_al, ld_0, am_go dc_156_2, J_getfield, gf_r, fk_5_22_5, am_go dc_156_5, fk_5_29_1, am_go dc_156_8, J_icmp_lt, am_go dc_156_11, am_go dc_156_12, fk_5_18_5, am_go dc_156_15, am_go dc_156_16, am_go dc_156_17, fk_5_45_5, am_go dc_156_20, J_imul, am_go dc_156_21, J_laload, am_go dc_156_22, J_lstore, st2_0, st2_1, st2_s, kl_i, kl_l, kl_r, kl_n, am_go dc_156_24, J_lload, K_ll, ld_4, am_go dc_156_26, am_go dc_156_27, fk_5_52_5, am_go dc_156_30, J_lcmp, am_go dc_156_31, J_if_gt, am_go dc_156_34, am_go dc_156_36, am_go dc_156_37, am_go dc_156_40, am_go dc_156_41, J_if_ne, am_go dc_156_44, J_iload_3, ld_3, am_go dc_156_45, am_go dc_156_46, fk_5_56_5, am_go dc_156_49, J_icmp_ge, am_go dc_156_52, am_go dc_156_53, am_go dc_156_55, J_putfield_i, J_putfield_l, J_putfield_r, ini_156, pk_5_52_5, am_go dc_156_58, am_go dc_156_59, am_go dc_156_60, pk_5_56_5, am_go dc_156_63, J_ret_v ret_156, am_go dc_156_64, J_iconst, c32_0, am_go dc_156_65, J_istore, st1_0, st1_1, st1_s, J_iload, am_go dc_156_69, am_go dc_156_70, am_go dc_156_73, am_go dc_156_76, am_go dc_156_79, c32_3, am_go dc_156_80, c32_2, am_go dc_156_81, am_go dc_156_83, am_go dc_156_84, J_ishl, am_go dc_156_85, am_go dc_156_87, J_iload_2, ld_2, am_go dc_156_88, ld_5, am_go dc_156_90, J_iand, am_go dc_156_91, am_go dc_156_94, am_go dc_156_95, am_go dc_156_97, am_go dc_156_98, am_go dc_156_99, am_go dc_156_101, J_ior, am_go dc_156_102, cv_5_35_5 own_156, JR_v, JR_0, JR_ite, ci1_r, am_go dc_156_105, am_go dc_156_106, am_go dc_156_107, c32_1, am_go dc_156_108, J_iadd, am_go dc_156_109, am_go dc_156_110, am_go dc_156_112, am_go dc_156_113, am_go dc_156_114, am_go dc_156_116, am_go dc_156_117, am_go dc_156_118, am_go dc_156_119, am_go dc_156_120, am_go dc_156_121, cv_5_59_5 own_156, am_go dc_156_124, J_iinc, pinc_go, am_go dc_156_127, J_goto, am_go dc_156_130, wg_0, tg_1, wg_4, wg_5, wg_6, wg_7, wp_6, pf_l pk_5_52_5 rfl, wp_7, pf_i pk_5_56_5 rfl, wH_0, wH_1, ww_1, zI_add, zI_mul, zI_lt, zI_le, zI_eq, zI_neg, zI_pos, zI_ne0, zI_gt0, zB_0, lg_cmp_ge, lg_cmp_le, lg_cmp_gt, lg_cmp_lt, lg_cmp_eq, ail_r, abl_r, all_r, ais_r, abs_r, als_r, aal_r, aal_q, aln_r, vrf_s, vrf_n, z32, t0, t1, t3, t4, t6, hsz, hMn, hly, e, Nat.lt_irrefl, mS_s, mS_o, mS_2, mI_1, mI_2, mI_s, mI_o, mI_3, mI_I, mS_S, mJ_1, mJ_2, mJ_3, mJ_s, mJ_o, mJ_J, mL_1, mL_2, mL_s, mL_o, c1, c2, c3', ir, List.length_cons, List.length_nil, Nat.reduceAdd, Nat.reduceLT, Nat.reduceLeDiff, Nat.reduceEqDiff, ↓reduceIte, bind_s, if_true, if_false, not_true_eq_false, not_false_eq_true, Nat.zero_add]
        · rw [if_pos c2, if_neg c3]
    · refine ⟨u, ?_, chF.rf, ?_⟩
      · rw [fU_156]
        simp (disch := first | omega | exact Nat.le_of_ble_eq_true rfl | exact wH_ci | (refine wF_lt ?_; omega) | exact (hS _).iT.ci) only [own_156, am_go dc_156_0, J_iload_1, K_il, ld_1, am_go dc_156_1, J_aload_0, K_al, ld_0, am_go dc_156_2, J_getfield, gf_r, fk_5_22_5, am_go dc_156_5, fk_5_29_1, am_go dc_156_8, J_icmp_lt, am_go dc_156_11, am_go dc_156_12, fk_5_18_5, am_go dc_156_15, am_go dc_156_16, am_go dc_156_17, fk_5_45_5, am_go dc_156_20, J_imul, am_go dc_156_21, J_laload, am_go dc_156_22, J_lstore, st2_0, st2_1, st2_s, kl_i, kl_l, kl_r, kl_n, am_go dc_156_24, J_lload, K_ll, ld_4, am_go dc_156_26, am_go dc_156_27, fk_5_52_5, am_go dc_156_30, J_lcmp, am_go dc_156_31, J_if_gt, am_go dc_156_34, am_go dc_156_36, am_go dc_156_37, am_go dc_156_40, am_go dc_156_41, J_if_ne, am_go dc_156_44, J_iload_3, ld_3, am_go dc_156_45, am_go dc_156_46, fk_5_56_5, am_go dc_156_49, J_icmp_ge, am_go dc_156_52, am_go dc_156_53, am_go dc_156_55, J_putfield_i, J_putfield_l, J_putfield_r, ini_156, pk_5_52_5, am_go dc_156_58, am_go dc_156_59, am_go dc_156_60, pk_5_56_5, am_go dc_156_63, J_ret_v ret_156, am_go dc_156_64, J_iconst, c32_0, am_go dc_156_65, J_istore, st1_0, st1_1, st1_s, J_iload, am_go dc_156_69, am_go dc_156_70, am_go dc_156_73, am_go dc_156_76, am_go dc_156_79, c32_3, am_go dc_156_80, c32_2, am_go dc_156_81, am_go dc_156_83, am_go dc_156_84, J_ishl, am_go dc_156_85, am_go dc_156_87, J_iload_2, ld_2, am_go dc_156_88, ld_5, am_go dc_156_90, J_iand, am_go dc_156_91, am_go dc_156_94, am_go dc_156_95, am_go dc_156_97, am_go dc_156_98, am_go dc_156_99, am_go dc_156_101, J_ior, am_go dc_156_102, cv_5_35_5 own_156, JR_v, JR_0, JR_ite, ci1_r, am_go dc_156_105, am_go dc_156_106, am_go dc_156_107, c32_1, am_go dc_156_108, J_iadd, am_go dc_156_109, am_go dc_156_110, am_go dc_156_112, am_go dc_156_113, am_go dc_156_114, am_go dc_156_116, am_go dc_156_117, am_go dc_156_118, am_go dc_156_119, am_go dc_156_120, am_go dc_156_121, cv_5_59_5 own_156, am_go dc_156_124, J_iinc, pinc_go, am_go dc_156_127, J_goto, am_go dc_156_130, wg_0, tg_1, wg_4, wg_5, wg_6, wg_7, wp_6, pf_l pk_5_52_5 rfl, wp_7, pf_i pk_5_56_5 rfl, wH_0, wH_1, ww_1, zI_add, zI_mul, zI_lt, zI_le, zI_eq, zI_neg, zI_pos, zI_ne0, zI_gt0, zB_0, lg_cmp_ge, lg_cmp_le, lg_cmp_gt, lg_cmp_lt, lg_cmp_eq, ail_r, abl_r, all_r, ais_r, abs_r, als_r, aal_r, aal_q, aln_r, vrf_s, vrf_n, z32, t0, t1, t3, t4, t6, hsz, hMn, hly, e, Nat.lt_irrefl, mS_s, mS_o, mS_2, mI_1, mI_2, mI_s, mI_o, mI_3, mI_I, mS_S, mJ_1, mJ_2, mJ_3, mJ_s, mJ_o, mJ_J, mL_1, mL_2, mL_s, mL_o, c1, c2, List.length_cons, List.length_nil, Nat.reduceAdd, Nat.reduceLT, Nat.reduceLeDiff, Nat.reduceEqDiff, ↓reduceIte, bind_s, if_true, if_false, not_true_eq_false, not_false_eq_true, Nat.zero_add]
      · rw [if_neg c2]
/-- choosing on, from a place -/
def chOk (X : am_X) (h : am_H) (w t sA sN mA mN D : Nat) (T : mU × (Nat → Option Nat)) (S : Nat → Int32) (n r L : Nat) (z : Nat × Nat) : Prop := ∀ (p : List Nat) (wd : Nat → Nat) (u : mU), p.length = L → (∀ b, b ∈ p → b < wN (S 116)) → wMs wd → (∀ b, b < 5 → (wd b = 3 ↔ p.contains b = true)) → wCd S n u → u.2.2.1 5 = zI (21 * n) → chW S T n L wd p u → ∃ u', am_f X D 156 [.ref w, .int (zI L), .int (zI (pk wd)), .int (zI (oN p))] (wH h w (u, (t, sA, sN, mA, mN)), z) = some (.inl none, (wH h w (u', (t, sA, sN, mA, mN)), z)) ∧ chF n L u u' ∧ (u'.2.2.2 6, u'.2.2.1 7) = (oC (wN (S 116)) r p).foldl (upC (oV (qZ S) (wN (S 116)))) (u.2.2.2 6, u.2.2.1 7)
theorem w_ch_l {r : Nat} {p : List Nat} {wd : Nat → Nat} (hS : ∀ u, tS C (wH h w (u, (t, sA, sN, mA, mN))) t T S) (hW : wOkk w (t, sA, sN, mA, mN)) (hm : mN < 1000000) (hr : rOk T S Q) (hNs : 4 ^ wN (S 116) ≤ sN) (hNs2 : sN < 1000000) (hNm : 21 * n * (wN (S 116) + 1) ≤ mN) (hlr : L + r + 1 = wN (S 116)) (ih : chOk X h w t sA sN mA mN (d + 6) T S n r (L + 1) z) (hl : p.length = L) (hp : ∀ b, b ∈ p → b < wN (S 116)) (hwd : wMs wd) (hwp : ∀ b, b < 5 → (wd b = 3 ↔ p.contains b = true)) : ∀ (k b : Nat) (u : mU) (v5 : Option Value), b + k = wN (S 116) → wCd S n u → u.2.2.1 5 = zI (21 * n) → chW S T n L wd p u → ∃ u', am_I X (am_f X (d + 6)) 156 67 [some (.ref w), some (.int (zI L)), some (.int (zI (pk wd))), some (.int (zI (oN p))), some (.int (zI b)), v5] [] (wH h w (u, (t, sA, sN, mA, mN)), z) = some (.inl none, (wH h w (u', (t, sA, sN, mA, mN)), z)) ∧ chF n L u u' ∧ (u'.2.2.2 6, u'.2.2.1 7) = ((List.range' b k).flatMap (fun b => if p.contains b = true then [] else oC (wN (S 116)) r (b :: p))).foldl (upC (oV (qZ S) (wN (S 116)))) (u.2.2.2 6, u.2.2.1 7) := by
  have t0 := fun u => (hS u).iT.c0
  have t1 := fun u => (hS u).iT.c1
  have t3 := fun u => (hS u).iT.c3
  have t4 := fun u => (hS u).iT.c4
  have t6 := fun u => (hS u).iT.c6
  intro k
  induction k with
  | zero =>
    intro b u v5 hb hcd hly hw
    have hsz := (hS u).sz
    have hm5 := (hS u).2.1.m.2
    have hb' : wN (S 116) ≤ b := by omega
    refine ⟨u, ?_, chF.rf, rfl⟩
    rw [am_go dc_156_67]
    simp (disch := first | omega | exact Nat.le_of_ble_eq_true rfl | exact wH_ci | (refine wF_lt ?_; omega) | exact (hS _).iT.ci) only [own_156, am_go dc_156_0, J_iload_1, K_il, ld_1, am_go dc_156_1, J_aload_0, K_al, ld_0, am_go dc_156_2, J_getfield, gf_r, fk_5_22_5, am_go dc_156_5, fk_5_29_1, am_go dc_156_8, J_icmp_lt, am_go dc_156_11, am_go dc_156_12, fk_5_18_5, am_go dc_156_15, am_go dc_156_16, am_go dc_156_17, fk_5_45_5, am_go dc_156_20, J_imul, am_go dc_156_21, J_laload, am_go dc_156_22, J_lstore, st2_0, st2_1, st2_s, kl_i, kl_l, kl_r, kl_n, am_go dc_156_24, J_lload, K_ll, ld_4, am_go dc_156_26, am_go dc_156_27, fk_5_52_5, am_go dc_156_30, J_lcmp, am_go dc_156_31, J_if_gt, am_go dc_156_34, am_go dc_156_36, am_go dc_156_37, am_go dc_156_40, am_go dc_156_41, J_if_ne, am_go dc_156_44, J_iload_3, ld_3, am_go dc_156_45, am_go dc_156_46, fk_5_56_5, am_go dc_156_49, J_icmp_ge, am_go dc_156_52, am_go dc_156_53, am_go dc_156_55, J_putfield_i, J_putfield_l, J_putfield_r, ini_156, pk_5_52_5, am_go dc_156_58, am_go dc_156_59, am_go dc_156_60, pk_5_56_5, am_go dc_156_63, J_ret_v ret_156, am_go dc_156_64, J_iconst, c32_0, am_go dc_156_65, J_istore, st1_0, st1_1, st1_s, J_iload, am_go dc_156_69, am_go dc_156_70, am_go dc_156_73, am_go dc_156_76, am_go dc_156_79, c32_3, am_go dc_156_80, c32_2, am_go dc_156_81, am_go dc_156_83, am_go dc_156_84, J_ishl, am_go dc_156_85, am_go dc_156_87, J_iload_2, ld_2, am_go dc_156_88, ld_5, am_go dc_156_90, J_iand, am_go dc_156_91, am_go dc_156_94, am_go dc_156_95, am_go dc_156_97, am_go dc_156_98, am_go dc_156_99, am_go dc_156_101, J_ior, am_go dc_156_102, cv_5_35_5 own_156, JR_v, JR_0, JR_ite, ci1_r, am_go dc_156_105, am_go dc_156_106, am_go dc_156_107, c32_1, am_go dc_156_108, J_iadd, am_go dc_156_109, am_go dc_156_110, am_go dc_156_112, am_go dc_156_113, am_go dc_156_114, am_go dc_156_116, am_go dc_156_117, am_go dc_156_118, am_go dc_156_119, am_go dc_156_120, am_go dc_156_121, cv_5_59_5 own_156, am_go dc_156_124, J_iinc, pinc_go, am_go dc_156_127, J_goto, am_go dc_156_130, wg_0, tg_1, wg_4, wg_5, wg_6, wg_7, wp_6, pf_l pk_5_52_5 rfl, wp_7, pf_i pk_5_56_5 rfl, wH_0, wH_1, ww_1, zI_add, zI_mul, zI_lt, zI_le, zI_eq, zI_neg, zI_pos, zI_ne0, zI_gt0, zB_0, lg_cmp_ge, lg_cmp_le, lg_cmp_gt, lg_cmp_lt, lg_cmp_eq, ail_r, abl_r, all_r, ais_r, abs_r, als_r, aal_r, aal_q, aln_r, vrf_s, vrf_n, z32, t0, t1, t3, t4, t6, hsz, hb', List.length_cons, List.length_nil, Nat.reduceAdd, Nat.reduceLT, Nat.reduceLeDiff, Nat.reduceEqDiff, ↓reduceIte, bind_s, if_true, if_false, not_true_eq_false, not_false_eq_true, Nat.zero_add]
  | succ k ihk =>
    intro b u v5 hb hcd hly hw
    have hG := (hS u).2.1
    have hsz := (hS u).sz
    have hm5 := hG.m.2
    have hQ := hr.2.2.1
    have hlt : ¬ wN (S 116) ≤ b := by omega
    have hb5 : b < 5 := by omega
    have hmk := m3_z (dg := wd) hwd.1 hb5
    rw [List.range'_succ, List.flatMap_cons, List.foldl_append]
    by_cases c : p.contains b = true
    · have hne : ¬ wd b = 0 := by
        have := (hwp b hb5).mpr c
        omega
      obtain ⟨u', s1, s2, s3⟩ := ihk (b + 1) u (some (.int (zI 3 <<< (zI (2 * b) &&& 31)))) (by omega) hcd hly hw
      refine ⟨u', Eq.trans ?_ s1, s2, ?_⟩
      · rw [am_go dc_156_67]
        simp (disch := first | omega | exact Nat.le_of_ble_eq_true rfl | exact wH_ci | (refine wF_lt ?_; omega) | exact (hS _).iT.ci) only [own_156, am_go dc_156_0, J_iload_1, K_il, ld_1, am_go dc_156_1, J_aload_0, K_al, ld_0, am_go dc_156_2, J_getfield, gf_r, fk_5_22_5, am_go dc_156_5, fk_5_29_1, am_go dc_156_8, J_icmp_lt, am_go dc_156_11, am_go dc_156_12, fk_5_18_5, am_go dc_156_15, am_go dc_156_16, am_go dc_156_17, fk_5_45_5, am_go dc_156_20, J_imul, am_go dc_156_21, J_laload, am_go dc_156_22, J_lstore, st2_0, st2_1, st2_s, kl_i, kl_l, kl_r, kl_n, am_go dc_156_24, J_lload, K_ll, ld_4, am_go dc_156_26, am_go dc_156_27, fk_5_52_5, am_go dc_156_30, J_lcmp, am_go dc_156_31, J_if_gt, am_go dc_156_34, am_go dc_156_36, am_go dc_156_37, am_go dc_156_40, am_go dc_156_41, J_if_ne, am_go dc_156_44, J_iload_3, ld_3, am_go dc_156_45, am_go dc_156_46, fk_5_56_5, am_go dc_156_49, J_icmp_ge, am_go dc_156_52, am_go dc_156_53, am_go dc_156_55, J_putfield_i, J_putfield_l, J_putfield_r, ini_156, pk_5_52_5, am_go dc_156_58, am_go dc_156_59, am_go dc_156_60, pk_5_56_5, am_go dc_156_63, J_ret_v ret_156, am_go dc_156_64, J_iconst, c32_0, am_go dc_156_65, J_istore, st1_0, st1_1, st1_s, J_iload, am_go dc_156_69, am_go dc_156_70, am_go dc_156_73, am_go dc_156_76, am_go dc_156_79, c32_3, am_go dc_156_80, c32_2, am_go dc_156_81, am_go dc_156_83, am_go dc_156_84, J_ishl, am_go dc_156_85, am_go dc_156_87, J_iload_2, ld_2, am_go dc_156_88, ld_5, am_go dc_156_90, J_iand, am_go dc_156_91, am_go dc_156_94, am_go dc_156_95, am_go dc_156_97, am_go dc_156_98, am_go dc_156_99, am_go dc_156_101, J_ior, am_go dc_156_102, cv_5_35_5 own_156, JR_v, JR_0, JR_ite, ci1_r, am_go dc_156_105, am_go dc_156_106, am_go dc_156_107, c32_1, am_go dc_156_108, J_iadd, am_go dc_156_109, am_go dc_156_110, am_go dc_156_112, am_go dc_156_113, am_go dc_156_114, am_go dc_156_116, am_go dc_156_117, am_go dc_156_118, am_go dc_156_119, am_go dc_156_120, am_go dc_156_121, cv_5_59_5 own_156, am_go dc_156_124, J_iinc, pinc_go, am_go dc_156_127, J_goto, am_go dc_156_130, wg_0, tg_1, wg_4, wg_5, wg_6, wg_7, wp_6, pf_l pk_5_52_5 rfl, wp_7, pf_i pk_5_56_5 rfl, wH_0, wH_1, ww_1, zI_add, zI_mul, zI_lt, zI_le, zI_eq, zI_neg, zI_pos, zI_ne0, zI_gt0, zB_0, lg_cmp_ge, lg_cmp_le, lg_cmp_gt, lg_cmp_lt, lg_cmp_eq, ail_r, abl_r, all_r, ais_r, abs_r, als_r, aal_r, aal_q, aln_r, vrf_s, vrf_n, z32, t0, t1, t3, t4, t6, hsz, hlt, hmk, hne, List.length_cons, List.length_nil, Nat.reduceAdd, Nat.reduceLT, Nat.reduceLeDiff, Nat.reduceEqDiff, ↓reduceIte, bind_s, if_true, if_false, not_true_eq_false, not_false_eq_true, Nat.zero_add]
      · rw [if_pos c]
        exact s3
    · have hwb : wd b = 0 := by
        rcases hwd.2.1 b with q | q
        · exact q
        · exact absurd ((hwp b hb5).mp q) c
      have hwb3 : wd b ≠ 3 := by omega
      obtain ⟨m1, m2⟩ := hwd.set hb5
      obtain ⟨f, g1, g2, g3⟩ := w_put (X := X) (d := d) (z := z) (u := u) (n := n) (L := L) (M := u.2.1 4) (b := b) hS hW hcd hly hm hr hNs hNs2 m2 (by omega) (by
        have : 21 * n * (L + 2) ≤ 21 * n * (wN (S 116) + 1) := Nat.mul_le_mul_left _ (by omega)
        rw [Nat.mul_add, Nat.mul_comm (21 * n) L] at this
        omega) (by omega)
      rw [mL_i] at g1
      have hk1 : wN (S 116) - L - 1 + 1 = wN (S 116) - L := by omega
      have ho : oS (wN (S 116)) (b :: p) (wN (S 116) - L - 1) = b := by
        rw [← hl]
        exact oS_0 (by omega)
      have hlay := w_layer (n := n) (ord := oS (wN (S 116)) (b :: p)) (wd := wd) (sp := u.1 3) (f := f) (M := u.2.1 4) (i := L) (k := wN (S 116) - L - 1) hr hG (by rw [ho]; omega) (by rw [ho]; exact hwb3) (fun S' h1 h2 h3 h4 => by
        rw [hk1, hw S' h1 h2 h3 h4]
        exact qSt_cg _ _ _ (fun j h1 h2 => (oS_c (by omega) (by omega)).symm)) (by rw [ho]; exact g2)
      rw [ho] at hlay
      have hch : chF n L u (mL u 4 f) := ⟨rfl, fun j hj => by rw [mL_s]; exact g3 j hj, fun _ _ => rfl⟩
      obtain ⟨u1, e1, e2, e3⟩ := ih (b :: p) (dset wd b 3) (mL u 4 f) (by rw [List.length_cons, hl]) (fun x hx => by
        rcases List.mem_cons.mp hx with q | q
        · rw [q]
          omega
        · exact hp x q) m2 (fun x hx => by
        by_cases q : x = b
        · rw [q, dset_s]
          simp
        · rw [dset_o q, hwp x hx]
          simp [q]) hcd hly (fun S' h1 h2 h3 h4 => by
        rw [show wN (S 116) - (L + 1) = wN (S 116) - L - 1 by omega]
        show wTt (u.1 3) ((mL u 4 f).2.1 4) n (L + 1) _ _ = _
        rw [mL_s]
        exact hlay S' h1 h2 h3 h4)
      have e2' : chF n L u u1 := hch.tr ⟨e2.1, fun j hj => e2.2.1 j (by rw [Nat.succ_mul]; omega), e2.2.2⟩
      obtain ⟨u', s1, s2, s3⟩ := ihk (b + 1) u1 (some (.int (zI 3 <<< (zI (2 * b) &&& 31)))) (by omega) (e2'.cd hcd) (by rw [e2'.2.2 5 (by omega)]; exact hly) (e2'.wq hr hG hcd hw)
      refine ⟨u', Eq.trans ?_ s1, e2'.tr s2, ?_⟩
      · have hdk : zI (oN p) ||| (zI b <<< (zI (3 * L) &&& 31)) = zI (oN (b :: p)) := by
          rw [dg_key L (by omega) _ (by rw [← hl]; exact oN_lt p (fun x hx => by have := hp x hx; omega)) b hb5, oN_cons, hl, Nat.add_comm]
        rw [am_go dc_156_67]
        simp (disch := first | omega | exact Nat.le_of_ble_eq_true rfl | exact wH_ci | (refine wF_lt ?_; omega) | exact (hS _).iT.ci) only [own_156, am_go dc_156_0, J_iload_1, K_il, ld_1, am_go dc_156_1, J_aload_0, K_al, ld_0, am_go dc_156_2, J_getfield, gf_r, fk_5_22_5, am_go dc_156_5, fk_5_29_1, am_go dc_156_8, J_icmp_lt, am_go dc_156_11, am_go dc_156_12, fk_5_18_5, am_go dc_156_15, am_go dc_156_16, am_go dc_156_17, fk_5_45_5, am_go dc_156_20, J_imul, am_go dc_156_21, J_laload, am_go dc_156_22, J_lstore, st2_0, st2_1, st2_s, kl_i, kl_l, kl_r, kl_n, am_go dc_156_24, J_lload, K_ll, ld_4, am_go dc_156_26, am_go dc_156_27, fk_5_52_5, am_go dc_156_30, J_lcmp, am_go dc_156_31, J_if_gt, am_go dc_156_34, am_go dc_156_36, am_go dc_156_37, am_go dc_156_40, am_go dc_156_41, J_if_ne, am_go dc_156_44, J_iload_3, ld_3, am_go dc_156_45, am_go dc_156_46, fk_5_56_5, am_go dc_156_49, J_icmp_ge, am_go dc_156_52, am_go dc_156_53, am_go dc_156_55, J_putfield_i, J_putfield_l, J_putfield_r, ini_156, pk_5_52_5, am_go dc_156_58, am_go dc_156_59, am_go dc_156_60, pk_5_56_5, am_go dc_156_63, J_ret_v ret_156, am_go dc_156_64, J_iconst, c32_0, am_go dc_156_65, J_istore, st1_0, st1_1, st1_s, J_iload, am_go dc_156_69, am_go dc_156_70, am_go dc_156_73, am_go dc_156_76, am_go dc_156_79, c32_3, am_go dc_156_80, c32_2, am_go dc_156_81, am_go dc_156_83, am_go dc_156_84, J_ishl, am_go dc_156_85, am_go dc_156_87, J_iload_2, ld_2, am_go dc_156_88, ld_5, am_go dc_156_90, J_iand, am_go dc_156_91, am_go dc_156_94, am_go dc_156_95, am_go dc_156_97, am_go dc_156_98, am_go dc_156_99, am_go dc_156_101, J_ior, am_go dc_156_102, cv_5_35_5 own_156, JR_v, JR_0, JR_ite, ci1_r, am_go dc_156_105, am_go dc_156_106, am_go dc_156_107, c32_1, am_go dc_156_108, J_iadd, am_go dc_156_109, am_go dc_156_110, am_go dc_156_112, am_go dc_156_113, am_go dc_156_114, am_go dc_156_116, am_go dc_156_117, am_go dc_156_118, am_go dc_156_119, am_go dc_156_120, am_go dc_156_121, cv_5_59_5 own_156, am_go dc_156_124, J_iinc, pinc_go, am_go dc_156_127, J_goto, am_go dc_156_130, wg_0, tg_1, wg_4, wg_5, wg_6, wg_7, wp_6, pf_l pk_5_52_5 rfl, wp_7, pf_i pk_5_56_5 rfl, wH_0, wH_1, ww_1, zI_add, zI_mul, zI_lt, zI_le, zI_eq, zI_neg, zI_pos, zI_ne0, zI_gt0, zB_0, lg_cmp_ge, lg_cmp_le, lg_cmp_gt, lg_cmp_lt, lg_cmp_eq, ail_r, abl_r, all_r, ais_r, abs_r, als_r, aal_r, aal_q, aln_r, vrf_s, vrf_n, z32, t0, t1, t3, t4, t6, hsz, hlt, hmk, hwb, m1, g1, e1, hdk, List.length_cons, List.length_nil, Nat.reduceAdd, Nat.reduceLT, Nat.reduceLeDiff, Nat.reduceEqDiff, ↓reduceIte, bind_s, if_true, if_false, not_true_eq_false, not_false_eq_true, Nat.zero_add]
      · rw [s3, e3, if_neg c]
        rfl
theorem w_ch (hS : ∀ u, tS C (wH h w (u, (t, sA, sN, mA, mN))) t T S) (hW : wOkk w (t, sA, sN, mA, mN)) (hm : mN < 1000000) (hr : rOk T S Q) (hNs : 4 ^ wN (S 116) ≤ sN) (hNs2 : sN < 1000000) (hNm : 21 * n * (wN (S 116) + 1) ≤ mN) : ∀ (r L : Nat), L + r = wN (S 116) → chOk X h w t sA sN mA mN (d + r + 7) T S n r L z := by
  have t0 := fun u => (hS u).iT.c0
  have t1 := fun u => (hS u).iT.c1
  have t3 := fun u => (hS u).iT.c3
  have t4 := fun u => (hS u).iT.c4
  have t6 := fun u => (hS u).iT.c6
  intro r
  induction r with
  | zero =>
    intro L hL p wd u hl hp hwd hwp hcd hly hw
    have hL' : L = wN (S 116) := by omega
    subst hL'
    exact w_ch0 (X := X) (d := d + 6) (z := z) hS hW hm hr hNs hNs2 hNm hcd hly hl hp hw
  | succ r ih =>
    intro L hL p wd u hl hp hwd hwp hcd hly hw
    have hsz := (hS u).sz
    have hm5 := (hS u).2.1.m.2
    have hlt : L < wN (S 116) := by omega
    obtain ⟨u', s1, s2, s3⟩ := w_ch_l (X := X) (d := d + r + 1) (z := z) (r := r) hS hW hm hr hNs hNs2 hNm (by omega) (ih (L + 1) (by omega)) hl hp hwd hwp (wN (S 116)) 0 u none (Nat.zero_add _) hcd hly hw
    refine ⟨u', Eq.trans ?_ s1, s2, ?_⟩
    · show am_f X (d + r + 1 + 6 + 1) 156 _ _ = _
      rw [fU_156]
      simp (disch := first | omega | exact Nat.le_of_ble_eq_true rfl | exact wH_ci | (refine wF_lt ?_; omega) | exact (hS _).iT.ci) only [own_156, am_go dc_156_0, J_iload_1, K_il, ld_1, am_go dc_156_1, J_aload_0, K_al, ld_0, am_go dc_156_2, J_getfield, gf_r, fk_5_22_5, am_go dc_156_5, fk_5_29_1, am_go dc_156_8, J_icmp_lt, am_go dc_156_11, am_go dc_156_12, fk_5_18_5, am_go dc_156_15, am_go dc_156_16, am_go dc_156_17, fk_5_45_5, am_go dc_156_20, J_imul, am_go dc_156_21, J_laload, am_go dc_156_22, J_lstore, st2_0, st2_1, st2_s, kl_i, kl_l, kl_r, kl_n, am_go dc_156_24, J_lload, K_ll, ld_4, am_go dc_156_26, am_go dc_156_27, fk_5_52_5, am_go dc_156_30, J_lcmp, am_go dc_156_31, J_if_gt, am_go dc_156_34, am_go dc_156_36, am_go dc_156_37, am_go dc_156_40, am_go dc_156_41, J_if_ne, am_go dc_156_44, J_iload_3, ld_3, am_go dc_156_45, am_go dc_156_46, fk_5_56_5, am_go dc_156_49, J_icmp_ge, am_go dc_156_52, am_go dc_156_53, am_go dc_156_55, J_putfield_i, J_putfield_l, J_putfield_r, ini_156, pk_5_52_5, am_go dc_156_58, am_go dc_156_59, am_go dc_156_60, pk_5_56_5, am_go dc_156_63, J_ret_v ret_156, am_go dc_156_64, J_iconst, c32_0, am_go dc_156_65, J_istore, st1_0, st1_1, st1_s, J_iload, am_go dc_156_69, am_go dc_156_70, am_go dc_156_73, am_go dc_156_76, am_go dc_156_79, c32_3, am_go dc_156_80, c32_2, am_go dc_156_81, am_go dc_156_83, am_go dc_156_84, J_ishl, am_go dc_156_85, am_go dc_156_87, J_iload_2, ld_2, am_go dc_156_88, ld_5, am_go dc_156_90, J_iand, am_go dc_156_91, am_go dc_156_94, am_go dc_156_95, am_go dc_156_97, am_go dc_156_98, am_go dc_156_99, am_go dc_156_101, J_ior, am_go dc_156_102, cv_5_35_5 own_156, JR_v, JR_0, JR_ite, ci1_r, am_go dc_156_105, am_go dc_156_106, am_go dc_156_107, c32_1, am_go dc_156_108, J_iadd, am_go dc_156_109, am_go dc_156_110, am_go dc_156_112, am_go dc_156_113, am_go dc_156_114, am_go dc_156_116, am_go dc_156_117, am_go dc_156_118, am_go dc_156_119, am_go dc_156_120, am_go dc_156_121, cv_5_59_5 own_156, am_go dc_156_124, J_iinc, pinc_go, am_go dc_156_127, J_goto, am_go dc_156_130, wg_0, tg_1, wg_4, wg_5, wg_6, wg_7, wp_6, pf_l pk_5_52_5 rfl, wp_7, pf_i pk_5_56_5 rfl, wH_0, wH_1, ww_1, zI_add, zI_mul, zI_lt, zI_le, zI_eq, zI_neg, zI_pos, zI_ne0, zI_gt0, zB_0, lg_cmp_ge, lg_cmp_le, lg_cmp_gt, lg_cmp_lt, lg_cmp_eq, ail_r, abl_r, all_r, ais_r, abs_r, als_r, aal_r, aal_q, aln_r, vrf_s, vrf_n, z32, t0, t1, t3, t4, t6, hsz, hlt, List.length_cons, List.length_nil, Nat.reduceAdd, Nat.reduceLT, Nat.reduceLeDiff, Nat.reduceEqDiff, ↓reduceIte, bind_s, if_true, if_false, not_true_eq_false, not_false_eq_true, Nat.zero_add]
    · rw [s3, ← List.range_eq_range']
      rfl
end SE
