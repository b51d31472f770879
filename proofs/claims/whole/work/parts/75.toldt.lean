/-! Told, settled: ranks of steps, numbers -/
theorem nbR_c {p : Int32} {n : Nat} {ch ch' w : Nat → Int32} (hc : ∀ i, i < n → ch i = ch' i) : nbR p n ch w = nbR p n ch' w := by
  unfold nbR
  refine fo_congr n 0 _ (fun j _ hj s => ?_)
  unfold q_nb
  rw [hc j (by omega)]
theorem nbT_c {p : Int32} {n : Nat} {ch ch' w : Nat → Int32} (hc : ∀ i, i < n → ch i = ch' i) : nbT p n ch w = nbT p n ch' w := by
  unfold nbT nbC
  rw [nbR_c hc]
theorem nbF_c {p : Int32} {n : Nat} {ch ch' w : Nat → Int32} (hc : ∀ i, i < n → ch i = ch' i) : nbF p n ch w = nbF p n ch' w := by
  unfold nbF nbC
  rw [nbR_c hc]
section SF
variable {X : am_X} {h : am_H} {t d : Nat} {T : mU × (Nat → Option Nat)} {z : Nat × Nat} {S : Nat → Int32}
theorem c_se3 {b a on R : Nat} {bb : Nat × Nat × Nat × Nat} {id : Int32} {f g : Nat → Int32} {v3 : Option Value} (hB : ∀ T', isB (tH h t T') a bb id f on g) (hb : b < 5) (h21 : R ≤ 21) : ∀ (k i : Nat) (T : mU × (Nat → Option Nat)), i + k = wN (f 3) → T.2 b = some a → T.1.2.2.1 5 = zI R → am_I X (am_f X (d + 1)) 20 139 [some (.ref t), some (.int (zI b)), some (.int (zI i)), v3] [] (tH h t T, z) = am_I X (am_f X (d + 1)) 20 183 [some (.ref t), some (.int (zI b)), some (.int (zI (wN (f 3)))), v3] [] (tH h t (mS T.1 6 (updr (T.1.1 6) (4 * b + i) k (fun y => zI (rkO (T.1.1 4) (f (6 + (i + y))) R 0))), T.2), z) := by
  intro k
  induction k with
  | zero =>
    intro i T hi ha hR
    have hn := (hB T).n
    have hi' : i = wN (f 3) := by omega
    have : updr (T.1.1 6) (4 * b + i) 0 (fun y => zI (rkO (T.1.1 4) (f (6 + (i + y))) R 0)) = T.1.1 6 := by
      funext j
      exact if_neg (by omega)
    rw [this, mS_id, hi', am_go dc_20_139]
    simp (disch := first | omega | exact Nat.le_of_ble_eq_true rfl | exact tH_ci | (refine tF_lt ?_; omega)) only [own_20, am_go dc_20_0, J_aload_0, K_al, ld_0, am_go dc_20_1, J_getfield, gf_r, fk_1_21_1, am_go dc_20_4, J_bipush, i8_m4, am_go dc_20_6, cs_1_54 own_20, JR_v, JR_0, JR_ite, am_go dc_20_9, am_go dc_20_10, fk_1_34_1, am_go dc_20_13, am_go dc_20_15, am_go dc_20_18, am_go dc_20_19, J_iconst, c32_1, am_go dc_20_20, J_putfield_i, J_putfield_l, J_putfield_r, ini_20, pk_1_28_1, am_go dc_20_23, c32_0, am_go dc_20_24, J_istore_1, st1_0, st1_1, st1_s, kl_i, kl_l, kl_r, kl_n, J_iload_1, K_il, ld_1, am_go dc_20_26, am_go dc_20_27, fk_1_44_1, am_go dc_20_30, J_icmp_ge, am_go dc_20_33, am_go dc_20_34, fk_1_11_1, am_go dc_20_37, am_go dc_20_38, J_aaload, am_go dc_20_39, J_astore_3, am_go dc_20_40, J_aload_3, ld_3, am_go dc_20_41, am_go dc_20_44, J_if_eq, am_go dc_20_47, am_go dc_20_48, am_go dc_20_51, J_astore_2, am_go dc_20_52, am_go dc_20_53, am_go dc_20_56, J_aload_2, ld_2, am_go dc_20_57, am_go dc_20_60, am_go dc_20_61, J_iastore, am_go dc_20_62, am_go dc_20_63, am_go dc_20_66, am_go dc_20_67, am_go dc_20_68, am_go dc_20_71, am_go dc_20_72, am_go dc_20_75, c32_4, am_go dc_20_76, J_imul, am_go dc_20_77, am_go dc_20_78, am_go dc_20_81, J_alen, am_go dc_20_82, ca_1_68 own_20, am_go dc_20_85, am_go dc_20_86, J_istore_2, J_iload_2, am_go dc_20_88, am_go dc_20_89, am_go dc_20_92, am_go dc_20_93, am_go dc_20_94, ci1_r, am_go dc_20_97, am_go dc_20_100, am_go dc_20_101, am_go dc_20_102, am_go dc_20_105, am_go dc_20_106, am_go dc_20_107, am_go dc_20_110, am_go dc_20_111, J_iaload, am_go dc_20_112, cv_1_79_1 own_20, am_go dc_20_115, J_iinc, pinc_go, am_go dc_20_118, J_goto, am_go dc_20_124, am_go dc_20_128, am_go dc_20_130, am_go dc_20_131, am_go dc_20_134, am_go dc_20_137, am_go dc_20_138, am_go dc_20_140, am_go dc_20_141, am_go dc_20_144, am_go dc_20_145, am_go dc_20_146, am_go dc_20_149, am_go dc_20_152, am_go dc_20_153, fk_1_31_1, am_go dc_20_156, am_go dc_20_157, am_go dc_20_158, am_go dc_20_159, am_go dc_20_160, J_iadd, am_go dc_20_161, am_go dc_20_162, am_go dc_20_163, am_go dc_20_166, am_go dc_20_167, am_go dc_20_168, am_go dc_20_171, am_go dc_20_172, am_go dc_20_173, cv_1_83_1 own_20, am_go dc_20_176, am_go dc_20_177, am_go dc_20_180, am_go dc_20_184, am_go dc_20_185, am_go dc_20_186, cv_1_87_1 own_20, am_go dc_20_190, am_go dc_20_193, am_go dc_20_194, am_go dc_20_195, J_if_lt, am_go dc_20_198, am_go dc_20_199, am_go dc_20_200, am_go dc_20_201, am_go dc_20_207, am_go dc_20_210, J_ret_v ret_20, tg_3, tg_7, tp_5, pf_i pk_1_28_1 rfl, tg_1, tg_0, tg_6, tH_0, tH_1, tH_2, tH_3, tH_4, tH_5, tH_6, tH_7, tw_1, tw_2, tw_3, tw_4, tw_5, tw_6, tw_7, zI_add, zI_mul, zI_lt, zI_le, zI_eq, zI_neg, zI_pos, zI_ne0, zI_gt0, zB_0, lg_cmp_ge, lg_cmp_le, lg_cmp_gt, lg_cmp_lt, lg_cmp_eq, ail_r, abl_r, all_r, ais_r, abs_r, als_r, aal_r, aal_q, aln_r, vrf_s, vrf_n, z32, ha, vx_1_74 own_20 (hB T), List.length_cons, List.length_nil, Nat.reduceAdd, Nat.reduceLT, Nat.reduceLeDiff, Nat.reduceEqDiff, ↓reduceIte, bind_s, if_true, if_false, not_true_eq_false, not_false_eq_true, Nat.zero_add]
    rw [if_pos (Nat.le_refl _)]
  | succ k ih =>
    intro i T hi ha hR
    have hn := (hB T).n
    have hi3 : i < wN (f 3) := by omega
    have hlt : ¬ wN (f 3) ≤ i := by omega
    have hww := fun x => (hB T).w (x := x) (i := i) hi3
    have hrk := c_rank (X := X) (d := d) (x := f (6 + i)) (z := z) (tH_is (h := h) (t := t) (D := T)) hR h21
    have ih' := ih (i + 1) (mS T.1 6 (upd (T.1.1 6) (4 * b + i) (zI (rkO (T.1.1 4) (f (6 + i)) R 0))), T.2) (by omega) ha hR
    have key : updr (upd (T.1.1 6) (4 * b + i) (zI (rkO (T.1.1 4) (f (6 + i)) R 0))) (4 * b + (i + 1)) k (fun y => zI (rkO (T.1.1 4) (f (6 + (i + 1 + y))) R 0)) = updr (T.1.1 6) (4 * b + i) (k + 1) (fun y => zI (rkO (T.1.1 4) (f (6 + (i + y))) R 0)) := by
      funext j
      unfold updr
      by_cases e1 : 4 * b + (i + 1) ≤ j ∧ j < 4 * b + (i + 1) + k
      · rw [if_pos e1, if_pos (by omega)]
        simp only
        rw [show i + 1 + (j - (4 * b + (i + 1))) = i + (j - (4 * b + i)) by omega]
      · rw [if_neg e1]
        by_cases e2 : j = 4 * b + i
        · subst e2
          rw [upd_s, if_pos (by omega), Nat.sub_self]
          rfl
        · rw [upd_o e2, if_neg (by omega)]
    simp only [mS_s, mS_S, mS_o (show 4 ≠ 6 by decide), key] at ih'
    refine Eq.trans ?_ ih'
    conv => lhs; rw [am_go dc_20_139]
    simp (disch := first | omega | exact Nat.le_of_ble_eq_true rfl | exact tH_ci | (refine tF_lt ?_; omega)) only [own_20, am_go dc_20_0, J_aload_0, K_al, ld_0, am_go dc_20_1, J_getfield, gf_r, fk_1_21_1, am_go dc_20_4, J_bipush, i8_m4, am_go dc_20_6, cs_1_54 own_20, JR_v, JR_0, JR_ite, am_go dc_20_9, am_go dc_20_10, fk_1_34_1, am_go dc_20_13, am_go dc_20_15, am_go dc_20_18, am_go dc_20_19, J_iconst, c32_1, am_go dc_20_20, J_putfield_i, J_putfield_l, J_putfield_r, ini_20, pk_1_28_1, am_go dc_20_23, c32_0, am_go dc_20_24, J_istore_1, st1_0, st1_1, st1_s, kl_i, kl_l, kl_r, kl_n, J_iload_1, K_il, ld_1, am_go dc_20_26, am_go dc_20_27, fk_1_44_1, am_go dc_20_30, J_icmp_ge, am_go dc_20_33, am_go dc_20_34, fk_1_11_1, am_go dc_20_37, am_go dc_20_38, J_aaload, am_go dc_20_39, J_astore_3, am_go dc_20_40, J_aload_3, ld_3, am_go dc_20_41, am_go dc_20_44, J_if_eq, am_go dc_20_47, am_go dc_20_48, am_go dc_20_51, J_astore_2, am_go dc_20_52, am_go dc_20_53, am_go dc_20_56, J_aload_2, ld_2, am_go dc_20_57, am_go dc_20_60, am_go dc_20_61, J_iastore, am_go dc_20_62, am_go dc_20_63, am_go dc_20_66, am_go dc_20_67, am_go dc_20_68, am_go dc_20_71, am_go dc_20_72, am_go dc_20_75, c32_4, am_go dc_20_76, J_imul, am_go dc_20_77, am_go dc_20_78, am_go dc_20_81, J_alen, am_go dc_20_82, ca_1_68 own_20, am_go dc_20_85, am_go dc_20_86, J_istore_2, J_iload_2, am_go dc_20_88, am_go dc_20_89, am_go dc_20_92, am_go dc_20_93, am_go dc_20_94, ci1_r, am_go dc_20_97, am_go dc_20_100, am_go dc_20_101, am_go dc_20_102, am_go dc_20_105, am_go dc_20_106, am_go dc_20_107, am_go dc_20_110, am_go dc_20_111, J_iaload, am_go dc_20_112, cv_1_79_1 own_20, am_go dc_20_115, J_iinc, pinc_go, am_go dc_20_118, J_goto, am_go dc_20_124, am_go dc_20_128, am_go dc_20_130, am_go dc_20_131, am_go dc_20_134, am_go dc_20_137, am_go dc_20_138, am_go dc_20_140, am_go dc_20_141, am_go dc_20_144, am_go dc_20_145, am_go dc_20_146, am_go dc_20_149, am_go dc_20_152, am_go dc_20_153, fk_1_31_1, am_go dc_20_156, am_go dc_20_157, am_go dc_20_158, am_go dc_20_159, am_go dc_20_160, J_iadd, am_go dc_20_161, am_go dc_20_162, am_go dc_20_163, am_go dc_20_166, am_go dc_20_167, am_go dc_20_168, am_go dc_20_171, am_go dc_20_172, am_go dc_20_173, cv_1_83_1 own_20, am_go dc_20_176, am_go dc_20_177, am_go dc_20_180, am_go dc_20_184, am_go dc_20_185, am_go dc_20_186, cv_1_87_1 own_20, am_go dc_20_190, am_go dc_20_193, am_go dc_20_194, am_go dc_20_195, J_if_lt, am_go dc_20_198, am_go dc_20_199, am_go dc_20_200, am_go dc_20_201, am_go dc_20_207, am_go dc_20_210, J_ret_v ret_20, tg_3, tg_7, tp_5, pf_i pk_1_28_1 rfl, tg_1, tg_0, tg_6, tH_0, tH_1, tH_2, tH_3, tH_4, tH_5, tH_6, tH_7, tw_1, tw_2, tw_3, tw_4, tw_5, tw_6, tw_7, zI_add, zI_mul, zI_lt, zI_le, zI_eq, zI_neg, zI_pos, zI_ne0, zI_gt0, zB_0, lg_cmp_ge, lg_cmp_le, lg_cmp_gt, lg_cmp_lt, lg_cmp_eq, ail_r, abl_r, all_r, ais_r, abs_r, als_r, aal_r, aal_q, aln_r, vrf_s, vrf_n, z32, ha, vx_1_74 own_20 (hB T), bf_1_78 (hB T), hww, hrk, hlt, Nat.mul_comm b 4, mS_s, mS_o, mS_2, mI_1, mI_2, mI_s, mI_o, mI_I, mS_S, List.length_cons, List.length_nil, Nat.reduceAdd, Nat.reduceLT, Nat.reduceLeDiff, Nat.reduceEqDiff, ↓reduceIte, bind_s, if_true, if_false, not_true_eq_false, not_false_eq_true, Nat.zero_add]
end SF
