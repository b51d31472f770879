/-! Plan: runFrom -/
section PU2
variable {X : am_X} {C : Nat → Prop} {h : am_H} {l t m a N d r Q : Nat} {T : mU × (Nat → Option Nat)} {S R : Nat → Int32} {z : Nat × Nat} {u : mU}
theorem rem10 {k x : Nat} (hx : x < 10) (hk : k < 1000) : zI (10 * k + x) - zI (10 * k + x) / zI 10 * zI 10 = zI x := by
  rw [zI_rem (by omega) (by omega) (by omega)]
  congr 1
  omega
theorem l_run_l {br : Bool} {x2 : Int32} (hG : qG R) (hr : rOk T R Q) (hN : tNm T R) (hS : ∀ u, tS C (lH h l (u, (t, m, a, N))) t T R) (hO : lOkk l (t, m, a, N)) (hN2 : N < 1000000) (hk : br = false → plKn R T Q u N) : ∀ (n : Nat) (S : Nat → Int32) (y : Int32) (pd : Int64) (tn : Nat) (v9 v10 v11 : Option Value), qRw R S → qPl S → qRv S → meas S < n → tn + meas S ≤ 10 → am_I X (am_f X (d + 5)) 187 22 [some (.ref l), some (.int (zB br)), some (.int x2), some (.int y), some (.int (zI (pk (qDg S)))), some (.int (zI (rkN T S))), some (.long pd), none, some (.int (zI tn)), v9, v10, v11] [] (lH h l (u, (t, m, a, N)), z) = some (.inl (some (.long (qRn br n S y pd))), (lH h l (u, (t, m, a, N)), z)) := by
  have t0 := fun u => (hS u).iT.c0
  have t1 := fun u => (hS u).iT.c1
  have t3 := fun u => (hS u).iT.c3
  have t4 := fun u => (hS u).iT.c4
  have t6 := fun u => (hS u).iT.c6
  have t7 := fun u => (hS u).iT.c7
  have hm5 := hG.m.2
  have hQ := hr.2.2.1
  intro n
  induction n with
  | zero => intro S y pd tn v9 v10 v11 _ _ _ h; omega
  | succ n ih =>
    intro S y pd tn v9 v10 v11 hR hL hv hme htn
    obtain ⟨-, r1, e3, -⟩ := lk_rk hr hG hR hL
    have hnn : qNn S := (qG_R hG hR).nn
    have hhw : qHw S := fun c hc => (hL c hc).1
    have htn' : ¬ 10 < tn := by omega
    have hinv := qAct_inv (br := br) hhw hnn
    have ha40 : qAct br S < 1000 := by
      rcases hinv with e | ⟨x, hx, q⟩
      · omega
      · rw [hR.m] at hx
        rcases q with ⟨e, -⟩ | ⟨e, -⟩ | ⟨e, -⟩ <;> omega
    -- up to the act
    have g0 : am_I X (am_f X (d + 5)) 187 22 [some (.ref l), some (.int (zB br)), some (.int x2), some (.int y), some (.int (zI (pk (qDg S)))), some (.int (zI (rkN T S))), some (.long pd), none, some (.int (zI tn)), v9, v10, v11] [] (lH h l (u, (t, m, a, N)), z) = am_I X (am_f X (d + 5)) 187 60 [some (.ref l), some (.int (zB br)), some (.int x2), some (.int y), some (.int (zI (pk (qDg S)))), some (.int (zI (rkN T S))), some (.long pd), none, some (.int (zI tn)), v9, v10, v11] [.int (zI (qAct br S))] (lH h l (u, (t, m, a, N)), z) := by
      cases br with
      | true =>
        have kra := l_ruleAct (X := X) (d := d) (z := z) (u := u) hG hr hN hS hR hL
        have he : qAct true S = qArl S := rfl
        rw [he, am_go dc_187_22]
        simp (disch := first | omega | exact Nat.le_of_ble_eq_true rfl | exact lH_ci | (refine lF_lt ?_; omega) | exact (hS _).iT.ci) only [own_187, am_go dc_187_0, J_iload_1, K_il, ld_1, am_go dc_187_1, J_if_ne, am_go dc_187_4, J_aload_0, K_al, ld_0, am_go dc_187_5, cv_4_173_4 own_187, JR_v, JR_0, JR_ite, ci1_r, am_go dc_187_8, J_iload_2, ld_2, am_go dc_187_9, J_istore_3, st1_0, st1_1, st1_s, kl_i, kl_l, kl_r, kl_n, am_go dc_187_10, J_iconst, c32_0, am_go dc_187_11, J_istore, am_go dc_187_13, am_go dc_187_14, am_go dc_187_16, J_lconst, i64_0, am_go dc_187_17, J_lstore, st2_0, st2_1, st2_s, am_go dc_187_19, am_go dc_187_20, J_iload, ld_8, am_go dc_187_24, J_bipush, c8_10, am_go dc_187_26, J_icmp_gt, am_go dc_187_29, am_go dc_187_30, J_if_eq, am_go dc_187_33, am_go dc_187_34, ld_4, am_go dc_187_36, ld_5, am_go dc_187_38, cv_4_245_4 own_187, am_go dc_187_41, J_goto, am_go dc_187_44, am_go dc_187_45, J_getfield, gf_r, fk_4_19_4, am_go dc_187_48, am_go dc_187_49, fk_4_38_4, am_go dc_187_52, am_go dc_187_54, am_go dc_187_56, cv_4_150_1 own_187, am_go dc_187_59, J_iaload, am_go dc_187_62, ld_9, am_go dc_187_64, am_go dc_187_67, am_go dc_187_68, am_go dc_187_71, fk_4_157_1, am_go dc_187_74, am_go dc_187_76, am_go dc_187_77, J_i2l, am_go dc_187_78, J_lload, K_ll, ld_6, am_go dc_187_80, J_lsub, am_go dc_187_81, J_ret_l ret_187, am_go dc_187_82, J_iload_3, ld_3, am_go dc_187_83, J_ldc, am_go dc_187_85, J_imul, am_go dc_187_86, J_sipush, c16_12345, am_go dc_187_89, J_iadd, am_go dc_187_90, am_go dc_187_91, am_go dc_187_93, am_go dc_187_95, J_irem, am_go dc_187_96, am_go dc_187_98, am_go dc_187_99, am_go dc_187_101, ld_10, am_go dc_187_103, am_go dc_187_104, cv_4_249_4 own_187, am_go dc_187_107, am_go dc_187_109, am_go dc_187_111, c8_30, am_go dc_187_113, J_icmp_lt, am_go dc_187_116, am_go dc_187_117, am_go dc_187_120, fk_4_56_1, am_go dc_187_123, am_go dc_187_125, J_aaload, am_go dc_187_126, am_go dc_187_129, ld_11, am_go dc_187_131, am_go dc_187_132, am_go dc_187_133, am_go dc_187_135, am_go dc_187_136, am_go dc_187_137, am_go dc_187_139, c8_20, am_go dc_187_141, am_go dc_187_144, am_go dc_187_146, am_go dc_187_147, am_go dc_187_150, am_go dc_187_153, am_go dc_187_155, am_go dc_187_156, am_go dc_187_159, am_go dc_187_160, J_ladd, am_go dc_187_161, am_go dc_187_163, am_go dc_187_164, am_go dc_187_167, am_go dc_187_169, am_go dc_187_171, am_go dc_187_173, am_go dc_187_176, c32_1, am_go dc_187_177, am_go dc_187_180, am_go dc_187_181, cv_4_166_1 own_187, am_go dc_187_184, am_go dc_187_186, am_go dc_187_189, am_go dc_187_191, am_go dc_187_192, am_go dc_187_195, am_go dc_187_198, am_go dc_187_200, am_go dc_187_201, am_go dc_187_204, am_go dc_187_205, am_go dc_187_206, am_go dc_187_208, am_go dc_187_210, am_go dc_187_211, am_go dc_187_214, am_go dc_187_216, am_go dc_187_218, cv_4_195_1 own_187, am_go dc_187_221, cm_4_198 own_187, mth_0, am_go dc_187_224, am_go dc_187_226, am_go dc_187_227, am_go dc_187_230, am_go dc_187_232, am_go dc_187_234, am_go dc_187_236, cv_4_124_1 own_187, am_go dc_187_239, am_go dc_187_241, J_iinc, pinc_go, am_go dc_187_244, am_go dc_187_247, am_go dc_187_248, am_go dc_187_251, am_go dc_187_254, am_go dc_187_256, am_go dc_187_257, am_go dc_187_258, am_go dc_187_260, am_go dc_187_261, lg_4, lg_0, tg_4, tg_0, lH_0, lH_1, lH_4, lH_5, lH_6, lH_7, lH_8, lw_1, lw_4, lw_5, lw_6, lw_7, lw_8, zI_add, zI_mul, zI_lt, zI_le, zI_eq, zI_neg, zI_pos, zI_ne0, zI_gt0, zB_0, lg_cmp_ge, lg_cmp_le, lg_cmp_gt, lg_cmp_lt, lg_cmp_eq, ail_r, abl_r, all_r, ais_r, abs_r, als_r, aal_r, aal_q, aln_r, vrf_s, vrf_n, z32, t0, t1, t3, t4, t6, t7, htn', kra, zB_t, List.length_cons, List.length_nil, Nat.reduceAdd, Nat.reduceLT, Nat.reduceLeDiff, Nat.reduceEqDiff, ↓reduceIte, bind_s, if_true, if_false, not_true_eq_false, not_false_eq_true, Nat.zero_add]
      | false =>
        obtain ⟨a1, a2, a3⟩ := kn_at hr hG (hk rfl) hR hL
        have hix : am_f X (d + 5) 122 [.ref t, .int (zI (pk (qDg S))), .int (zI (rkN T S))] (lH h l (u, (t, m, a, N)), z) = some (.inl (some (.int (zI (ix R (qDg S) (rkN T S))))), (lH h l (u, (t, m, a, N)), z)) := c_index (X := X) (d := d + 4) (z := z) (dg := qDg S) (hS u) (by omega)
        have hA := lA (h := h) (u := u) hO
        have he : u.1 4 (ix R (qDg S) (rkN T S)) = zI (qAct false S) := by
          rw [a2]
          show _ = zI (wN (qB S).2)
          rcases qB_act hhw hnn with e | ⟨x, hx, ⟨e, -⟩ | ⟨e, -⟩ | ⟨e, -⟩⟩
          · rw [e]; rfl
          · rw [hR.m] at hx; rw [e, wN_zI (by omega)]
          · rw [hR.m] at hx; rw [e, wN_zI (by omega)]
          · rw [hR.m] at hx; rw [e, wN_zI (by omega)]
        rw [am_go dc_187_22]
        simp (disch := first | omega | exact Nat.le_of_ble_eq_true rfl | exact lH_ci | (refine lF_lt ?_; omega) | exact (hS _).iT.ci) only [own_187, am_go dc_187_0, J_iload_1, K_il, ld_1, am_go dc_187_1, J_if_ne, am_go dc_187_4, J_aload_0, K_al, ld_0, am_go dc_187_5, cv_4_173_4 own_187, JR_v, JR_0, JR_ite, ci1_r, am_go dc_187_8, J_iload_2, ld_2, am_go dc_187_9, J_istore_3, st1_0, st1_1, st1_s, kl_i, kl_l, kl_r, kl_n, am_go dc_187_10, J_iconst, c32_0, am_go dc_187_11, J_istore, am_go dc_187_13, am_go dc_187_14, am_go dc_187_16, J_lconst, i64_0, am_go dc_187_17, J_lstore, st2_0, st2_1, st2_s, am_go dc_187_19, am_go dc_187_20, J_iload, ld_8, am_go dc_187_24, J_bipush, c8_10, am_go dc_187_26, J_icmp_gt, am_go dc_187_29, am_go dc_187_30, J_if_eq, am_go dc_187_33, am_go dc_187_34, ld_4, am_go dc_187_36, ld_5, am_go dc_187_38, cv_4_245_4 own_187, am_go dc_187_41, J_goto, am_go dc_187_44, am_go dc_187_45, J_getfield, gf_r, fk_4_19_4, am_go dc_187_48, am_go dc_187_49, fk_4_38_4, am_go dc_187_52, am_go dc_187_54, am_go dc_187_56, cv_4_150_1 own_187, am_go dc_187_59, J_iaload, am_go dc_187_62, ld_9, am_go dc_187_64, am_go dc_187_67, am_go dc_187_68, am_go dc_187_71, fk_4_157_1, am_go dc_187_74, am_go dc_187_76, am_go dc_187_77, J_i2l, am_go dc_187_78, J_lload, K_ll, ld_6, am_go dc_187_80, J_lsub, am_go dc_187_81, J_ret_l ret_187, am_go dc_187_82, J_iload_3, ld_3, am_go dc_187_83, J_ldc, am_go dc_187_85, J_imul, am_go dc_187_86, J_sipush, c16_12345, am_go dc_187_89, J_iadd, am_go dc_187_90, am_go dc_187_91, am_go dc_187_93, am_go dc_187_95, J_irem, am_go dc_187_96, am_go dc_187_98, am_go dc_187_99, am_go dc_187_101, ld_10, am_go dc_187_103, am_go dc_187_104, cv_4_249_4 own_187, am_go dc_187_107, am_go dc_187_109, am_go dc_187_111, c8_30, am_go dc_187_113, J_icmp_lt, am_go dc_187_116, am_go dc_187_117, am_go dc_187_120, fk_4_56_1, am_go dc_187_123, am_go dc_187_125, J_aaload, am_go dc_187_126, am_go dc_187_129, ld_11, am_go dc_187_131, am_go dc_187_132, am_go dc_187_133, am_go dc_187_135, am_go dc_187_136, am_go dc_187_137, am_go dc_187_139, c8_20, am_go dc_187_141, am_go dc_187_144, am_go dc_187_146, am_go dc_187_147, am_go dc_187_150, am_go dc_187_153, am_go dc_187_155, am_go dc_187_156, am_go dc_187_159, am_go dc_187_160, J_ladd, am_go dc_187_161, am_go dc_187_163, am_go dc_187_164, am_go dc_187_167, am_go dc_187_169, am_go dc_187_171, am_go dc_187_173, am_go dc_187_176, c32_1, am_go dc_187_177, am_go dc_187_180, am_go dc_187_181, cv_4_166_1 own_187, am_go dc_187_184, am_go dc_187_186, am_go dc_187_189, am_go dc_187_191, am_go dc_187_192, am_go dc_187_195, am_go dc_187_198, am_go dc_187_200, am_go dc_187_201, am_go dc_187_204, am_go dc_187_205, am_go dc_187_206, am_go dc_187_208, am_go dc_187_210, am_go dc_187_211, am_go dc_187_214, am_go dc_187_216, am_go dc_187_218, cv_4_195_1 own_187, am_go dc_187_221, cm_4_198 own_187, mth_0, am_go dc_187_224, am_go dc_187_226, am_go dc_187_227, am_go dc_187_230, am_go dc_187_232, am_go dc_187_234, am_go dc_187_236, cv_4_124_1 own_187, am_go dc_187_239, am_go dc_187_241, J_iinc, pinc_go, am_go dc_187_244, am_go dc_187_247, am_go dc_187_248, am_go dc_187_251, am_go dc_187_254, am_go dc_187_256, am_go dc_187_257, am_go dc_187_258, am_go dc_187_260, am_go dc_187_261, lg_4, lg_0, tg_4, tg_0, lH_0, lH_1, lH_4, lH_5, lH_6, lH_7, lH_8, lw_1, lw_4, lw_5, lw_6, lw_7, lw_8, zI_add, zI_mul, zI_lt, zI_le, zI_eq, zI_neg, zI_pos, zI_ne0, zI_gt0, zB_0, lg_cmp_ge, lg_cmp_le, lg_cmp_gt, lg_cmp_lt, lg_cmp_eq, ail_r, abl_r, all_r, ais_r, abs_r, als_r, aal_r, aal_q, aln_r, vrf_s, vrf_n, z32, t0, t1, t3, t4, t6, t7, htn', hix, hA, he, zB_f, List.length_cons, List.length_nil, Nat.reduceAdd, Nat.reduceLT, Nat.reduceLeDiff, Nat.reduceEqDiff, ↓reduceIte, bind_s, if_true, if_false, not_true_eq_false, not_false_eq_true, Nat.zero_add]
    refine Eq.trans g0 ?_
    have hq : qRn br (n + 1) S y pd = if qAct br S = 0 then (qHas S).toInt64 - pd else if 30 ≤ qAct br S then (S (18 * (qAct br S % 10) + (6 + qDi S (qAct br S % 10) (qSeed y)))).toInt64 - pd else if qAct br S < 20 then qRn br n (upd S (90 + qAct br S % 10) (zI (3 + qDi S (qAct br S % 10) (qSeed y)))) (qSeed y) (pd + (S (18 * (qAct br S % 10) + 1)).toInt64) else qRn br n (upd S (90 + qAct br S % 10) (if qLot (qSeed y) 100 < wN (qChance S (qAct br S % 10) 0) then zI 1 else zI 2)) (qSeed y) (pd + (S (18 * (qAct br S % 10) + 4)).toInt64) := rfl
    rw [hq]
    rcases hinv with e | ⟨x, hx, q⟩
    · rw [if_pos e, e, ← e3, am_go dc_187_60]
      simp (disch := first | omega | exact Nat.le_of_ble_eq_true rfl | exact lH_ci | (refine lF_lt ?_; omega) | exact (hS _).iT.ci) only [own_187, am_go dc_187_0, J_iload_1, K_il, ld_1, am_go dc_187_1, J_if_ne, am_go dc_187_4, J_aload_0, K_al, ld_0, am_go dc_187_5, cv_4_173_4 own_187, JR_v, JR_0, JR_ite, ci1_r, am_go dc_187_8, J_iload_2, ld_2, am_go dc_187_9, J_istore_3, st1_0, st1_1, st1_s, kl_i, kl_l, kl_r, kl_n, am_go dc_187_10, J_iconst, c32_0, am_go dc_187_11, J_istore, am_go dc_187_13, am_go dc_187_14, am_go dc_187_16, J_lconst, i64_0, am_go dc_187_17, J_lstore, st2_0, st2_1, st2_s, am_go dc_187_19, am_go dc_187_20, J_iload, ld_8, am_go dc_187_24, J_bipush, c8_10, am_go dc_187_26, J_icmp_gt, am_go dc_187_29, am_go dc_187_30, J_if_eq, am_go dc_187_33, am_go dc_187_34, ld_4, am_go dc_187_36, ld_5, am_go dc_187_38, cv_4_245_4 own_187, am_go dc_187_41, J_goto, am_go dc_187_44, am_go dc_187_45, J_getfield, gf_r, fk_4_19_4, am_go dc_187_48, am_go dc_187_49, fk_4_38_4, am_go dc_187_52, am_go dc_187_54, am_go dc_187_56, cv_4_150_1 own_187, am_go dc_187_59, J_iaload, am_go dc_187_62, ld_9, am_go dc_187_64, am_go dc_187_67, am_go dc_187_68, am_go dc_187_71, fk_4_157_1, am_go dc_187_74, am_go dc_187_76, am_go dc_187_77, J_i2l, am_go dc_187_78, J_lload, K_ll, ld_6, am_go dc_187_80, J_lsub, am_go dc_187_81, J_ret_l ret_187, am_go dc_187_82, J_iload_3, ld_3, am_go dc_187_83, J_ldc, am_go dc_187_85, J_imul, am_go dc_187_86, J_sipush, c16_12345, am_go dc_187_89, J_iadd, am_go dc_187_90, am_go dc_187_91, am_go dc_187_93, am_go dc_187_95, J_irem, am_go dc_187_96, am_go dc_187_98, am_go dc_187_99, am_go dc_187_101, ld_10, am_go dc_187_103, am_go dc_187_104, cv_4_249_4 own_187, am_go dc_187_107, am_go dc_187_109, am_go dc_187_111, c8_30, am_go dc_187_113, J_icmp_lt, am_go dc_187_116, am_go dc_187_117, am_go dc_187_120, fk_4_56_1, am_go dc_187_123, am_go dc_187_125, J_aaload, am_go dc_187_126, am_go dc_187_129, ld_11, am_go dc_187_131, am_go dc_187_132, am_go dc_187_133, am_go dc_187_135, am_go dc_187_136, am_go dc_187_137, am_go dc_187_139, c8_20, am_go dc_187_141, am_go dc_187_144, am_go dc_187_146, am_go dc_187_147, am_go dc_187_150, am_go dc_187_153, am_go dc_187_155, am_go dc_187_156, am_go dc_187_159, am_go dc_187_160, J_ladd, am_go dc_187_161, am_go dc_187_163, am_go dc_187_164, am_go dc_187_167, am_go dc_187_169, am_go dc_187_171, am_go dc_187_173, am_go dc_187_176, c32_1, am_go dc_187_177, am_go dc_187_180, am_go dc_187_181, cv_4_166_1 own_187, am_go dc_187_184, am_go dc_187_186, am_go dc_187_189, am_go dc_187_191, am_go dc_187_192, am_go dc_187_195, am_go dc_187_198, am_go dc_187_200, am_go dc_187_201, am_go dc_187_204, am_go dc_187_205, am_go dc_187_206, am_go dc_187_208, am_go dc_187_210, am_go dc_187_211, am_go dc_187_214, am_go dc_187_216, am_go dc_187_218, cv_4_195_1 own_187, am_go dc_187_221, cm_4_198 own_187, mth_0, am_go dc_187_224, am_go dc_187_226, am_go dc_187_227, am_go dc_187_230, am_go dc_187_232, am_go dc_187_234, am_go dc_187_236, cv_4_124_1 own_187, am_go dc_187_239, am_go dc_187_241, J_iinc, pinc_go, am_go dc_187_244, am_go dc_187_247, am_go dc_187_248, am_go dc_187_251, am_go dc_187_254, am_go dc_187_256, am_go dc_187_257, am_go dc_187_258, am_go dc_187_260, am_go dc_187_261, lg_4, lg_0, tg_4, tg_0, lH_0, lH_1, lH_4, lH_5, lH_6, lH_7, lH_8, lw_1, lw_4, lw_5, lw_6, lw_7, lw_8, zI_add, zI_mul, zI_lt, zI_le, zI_eq, zI_neg, zI_pos, zI_ne0, zI_gt0, zB_0, lg_cmp_ge, lg_cmp_le, lg_cmp_gt, lg_cmp_lt, lg_cmp_eq, ail_r, abl_r, all_r, ais_r, abs_r, als_r, aal_r, aal_q, aln_r, vrf_s, vrf_n, z32, t0, t1, t3, t4, t6, t7, List.length_cons, List.length_nil, Nat.reduceAdd, Nat.reduceLT, Nat.reduceLeDiff, Nat.reduceEqDiff, ↓reduceIte, bind_s, if_true, if_false, not_true_eq_false, not_false_eq_true, Nat.zero_add]
    · rw [hR.m] at hx
      have hx5 : x < 5 := by omega
      have hn4 := (hG.n hx).2.2
      have hsp := qSa_pos (qG_R hG hR) (show x < wN (S 116) by rw [hR.m]; exact hx) hv
      have ho : hw S x ≤ 2 := by
        rcases q with ⟨-, q⟩ | ⟨-, q⟩ | ⟨-, q⟩
        · have e0 : (S (90 + x) = 0) = (hw S x = 0) := hw_eq hL hx5 (k := 0) (by omega)
          rw [e0] at q
          omega
        · exact qMay_le hL hx5 q
        · unfold qPeep at q
          simp only [Bool.and_eq_true, decide_eq_true_eq] at q
          have e0 : (S (90 + x) = 0) = (hw S x = 0) := hw_eq hL hx5 (k := 0) (by omega)
          rw [e0] at q
          omega
      have kdr := l_drawn (X := X) (d := d + 1) (z := z) (u := u) (y := qSeed y) hG hS hR hL hx ho hsp
      have hdi : qDi S x (qSeed y) = qDw (qSn S x) (wN (R (18 * x + 3))) 0 (qLot (qSeed y) (qSa S x)) := by
        unfold qDi
        rw [hR.r hx5 (by omega)]
      rw [← hdi] at kdr
      have hdl : qDi S x (qSeed y) < wN (R (18 * x + 3)) := by
        rw [hdi]
        have := qDw_lt (s := qSn S x) (wN (R (18 * x + 3))) 0 (qLot (qSeed y) (qSa S x)) (by
          have e : fsum (qSn S x) 0 (wN (R (18 * x + 3))) = qSa S x := by
            unfold qSa
            rw [hR.r hx5 (by omega)]
          rw [e]
          exact Nat.mod_lt _ hsp.1)
        omega
      have hsd : y * 1103515245 + zI 12345 = qSeed y := rfl
      obtain ⟨a', bb, ha, hB⟩ := (hS u).box hx
      have hw6 := fun w => hB.w (x := w) (i := qDi S x (qSeed y)) hdl
      have hr6 : qRow R x (6 + qDi S x (qSeed y)) = S (18 * x + (6 + qDi S x (qSeed y))) := (hR.r hx5 (by omega)).symm
      have hr1 : qRow R x 1 = S (18 * x + 1) := (hR.r hx5 (by omega)).symm
      have hr4 : qRow R x 4 = S (18 * x + 4) := (hR.r hx5 (by omega)).symm
      rcases q with ⟨e, -⟩ | ⟨e, q⟩ | ⟨e, q⟩
      · have hm10 : (30 + x) % 10 = x := by omega
        have hrm := rem10 (k := 3) (x := x) (by omega) (by omega)
        have h30 : ¬ 30 + x = 0 := by omega
        have h30' : ¬ 30 + x < 30 := by omega
        rw [e, hm10, if_neg (by omega), if_pos (by omega), am_go dc_187_60]
        simp (disch := first | omega | exact Nat.le_of_ble_eq_true rfl | exact lH_ci | (refine lF_lt ?_; omega) | exact (hS _).iT.ci) only [own_187, am_go dc_187_0, J_iload_1, K_il, ld_1, am_go dc_187_1, J_if_ne, am_go dc_187_4, J_aload_0, K_al, ld_0, am_go dc_187_5, cv_4_173_4 own_187, JR_v, JR_0, JR_ite, ci1_r, am_go dc_187_8, J_iload_2, ld_2, am_go dc_187_9, J_istore_3, st1_0, st1_1, st1_s, kl_i, kl_l, kl_r, kl_n, am_go dc_187_10, J_iconst, c32_0, am_go dc_187_11, J_istore, am_go dc_187_13, am_go dc_187_14, am_go dc_187_16, J_lconst, i64_0, am_go dc_187_17, J_lstore, st2_0, st2_1, st2_s, am_go dc_187_19, am_go dc_187_20, J_iload, ld_8, am_go dc_187_24, J_bipush, c8_10, am_go dc_187_26, J_icmp_gt, am_go dc_187_29, am_go dc_187_30, J_if_eq, am_go dc_187_33, am_go dc_187_34, ld_4, am_go dc_187_36, ld_5, am_go dc_187_38, cv_4_245_4 own_187, am_go dc_187_41, J_goto, am_go dc_187_44, am_go dc_187_45, J_getfield, gf_r, fk_4_19_4, am_go dc_187_48, am_go dc_187_49, fk_4_38_4, am_go dc_187_52, am_go dc_187_54, am_go dc_187_56, cv_4_150_1 own_187, am_go dc_187_59, J_iaload, am_go dc_187_62, ld_9, am_go dc_187_64, am_go dc_187_67, am_go dc_187_68, am_go dc_187_71, fk_4_157_1, am_go dc_187_74, am_go dc_187_76, am_go dc_187_77, J_i2l, am_go dc_187_78, J_lload, K_ll, ld_6, am_go dc_187_80, J_lsub, am_go dc_187_81, J_ret_l ret_187, am_go dc_187_82, J_iload_3, ld_3, am_go dc_187_83, J_ldc, am_go dc_187_85, J_imul, am_go dc_187_86, J_sipush, c16_12345, am_go dc_187_89, J_iadd, am_go dc_187_90, am_go dc_187_91, am_go dc_187_93, am_go dc_187_95, J_irem, am_go dc_187_96, am_go dc_187_98, am_go dc_187_99, am_go dc_187_101, ld_10, am_go dc_187_103, am_go dc_187_104, cv_4_249_4 own_187, am_go dc_187_107, am_go dc_187_109, am_go dc_187_111, c8_30, am_go dc_187_113, J_icmp_lt, am_go dc_187_116, am_go dc_187_117, am_go dc_187_120, fk_4_56_1, am_go dc_187_123, am_go dc_187_125, J_aaload, am_go dc_187_126, am_go dc_187_129, ld_11, am_go dc_187_131, am_go dc_187_132, am_go dc_187_133, am_go dc_187_135, am_go dc_187_136, am_go dc_187_137, am_go dc_187_139, c8_20, am_go dc_187_141, am_go dc_187_144, am_go dc_187_146, am_go dc_187_147, am_go dc_187_150, am_go dc_187_153, am_go dc_187_155, am_go dc_187_156, am_go dc_187_159, am_go dc_187_160, J_ladd, am_go dc_187_161, am_go dc_187_163, am_go dc_187_164, am_go dc_187_167, am_go dc_187_169, am_go dc_187_171, am_go dc_187_173, am_go dc_187_176, c32_1, am_go dc_187_177, am_go dc_187_180, am_go dc_187_181, cv_4_166_1 own_187, am_go dc_187_184, am_go dc_187_186, am_go dc_187_189, am_go dc_187_191, am_go dc_187_192, am_go dc_187_195, am_go dc_187_198, am_go dc_187_200, am_go dc_187_201, am_go dc_187_204, am_go dc_187_205, am_go dc_187_206, am_go dc_187_208, am_go dc_187_210, am_go dc_187_211, am_go dc_187_214, am_go dc_187_216, am_go dc_187_218, cv_4_195_1 own_187, am_go dc_187_221, cm_4_198 own_187, mth_0, am_go dc_187_224, am_go dc_187_226, am_go dc_187_227, am_go dc_187_230, am_go dc_187_232, am_go dc_187_234, am_go dc_187_236, cv_4_124_1 own_187, am_go dc_187_239, am_go dc_187_241, J_iinc, pinc_go, am_go dc_187_244, am_go dc_187_247, am_go dc_187_248, am_go dc_187_251, am_go dc_187_254, am_go dc_187_256, am_go dc_187_257, am_go dc_187_258, am_go dc_187_260, am_go dc_187_261, lg_4, lg_0, tg_4, tg_0, lH_0, lH_1, lH_4, lH_5, lH_6, lH_7, lH_8, lw_1, lw_4, lw_5, lw_6, lw_7, lw_8, zI_add, zI_mul, zI_lt, zI_le, zI_eq, zI_neg, zI_pos, zI_ne0, zI_gt0, zB_0, lg_cmp_ge, lg_cmp_le, lg_cmp_gt, lg_cmp_lt, lg_cmp_eq, ail_r, abl_r, all_r, ais_r, abs_r, als_r, aal_r, aal_q, aln_r, vrf_s, vrf_n, z32, t0, t1, t3, t4, t6, t7, h30, h30', ck_4_248, i16_12345, hsd, hrm, kdr, ha, bf_4_160 hB, hw6, hr6, List.length_cons, List.length_nil, Nat.reduceAdd, Nat.reduceLT, Nat.reduceLeDiff, Nat.reduceEqDiff, ↓reduceIte, bind_s, if_true, if_false, not_true_eq_false, not_false_eq_true, Nat.zero_add]
      · have hm10 : (10 + x) % 10 = x := by omega
        have hrm := rem10 (k := 1) (x := x) (by omega) (by omega)
        have h10 : ¬ 10 + x = 0 := by omega
        have h10' : 10 + x < 30 := by omega
        have h10'' : 10 + x < 20 := by omega
        rw [e, hm10, if_neg (by omega), if_neg (by omega), if_pos (by omega)]
        have hmu := meas_up (S := S) (b := x) (x := 3 + qDi S x (qSeed y)) hx5 (by omega) (qMay_lev hhw hx5 q)
        have hL' := hL.op hR hG hx hdl
        have hv' := hv.up (qG_R hG hR) hx5 (show 3 + qDi S x (qSeed y) ≤ 6 by omega) (fun w => by omega) (fun w => by omega)
        have hmx := lk_mx hr hG hR hL hL' hx hdl ho
        have kao : am_f X (d + 5) 73 [.ref t, .int (zI (pk (qDg S))), .int (zI x), .int (zI (qDi S x (qSeed y)))] (lH h l (u, (t, m, a, N)), z) = _ := c_afterOpening (X := X) (d := d + 4) (z := z) (hS u) qDg_ok hx (by omega)
        rw [lk_ao hR hL hx hm5 (by omega) ho] at kao
        have ksr : am_f X (d + 5) 91 [.ref t, .int (zI x), .int (zI (qDi S x (qSeed y)))] (lH h l (u, (t, m, a, N)), z) = _ := c_stepRank (X := X) (d := d + 4) (z := z) (hS u).iT hx5 (show qDi S x (qSeed y) < 4 by omega)
        obtain ⟨s1, s2, -⟩ := hr.sr hx hdl
        rw [s1] at ksr
        have hcond : (if rkN T S < wN (T.1.1 6 (4 * x + qDi S x (qSeed y))) then zI (wN (T.1.1 6 (4 * x + qDi S x (qSeed y)))) else zI (rkN T S)) = zI (rMx T (rkN T S) (4 * x + qDi S x (qSeed y))) := by
          unfold rMx
          split <;> rfl
        have ih' := ih (upd S (90 + x) (zI (3 + qDi S x (qSeed y)))) (qSeed y) (pd + (S (18 * x + 1)).toInt64) (tn + 1) (some (.int (zI (10 + x)))) (some (.int (zI x))) (some (.int (zI (qDi S x (qSeed y))))) (hR.up hx5) hL' hv' (by omega) (by omega)
        rw [hmx] at ih'
        refine Eq.trans ?_ ih'
        generalize rMx T (rkN T S) (4 * x + qDi S x (qSeed y)) = q1 at *
        generalize wN (T.1.1 6 (4 * x + qDi S x (qSeed y))) = q2 at *
        generalize qDi S x (qSeed y) = di at *
        rw [am_go dc_187_60]
        simp (disch := first | omega | exact Nat.le_of_ble_eq_true rfl | exact lH_ci | (refine lF_lt ?_; omega) | exact (hS _).iT.ci) only [own_187, am_go dc_187_0, J_iload_1, K_il, ld_1, am_go dc_187_1, J_if_ne, am_go dc_187_4, J_aload_0, K_al, ld_0, am_go dc_187_5, cv_4_173_4 own_187, JR_v, JR_0, JR_ite, ci1_r, am_go dc_187_8, J_iload_2, ld_2, am_go dc_187_9, J_istore_3, st1_0, st1_1, st1_s, kl_i, kl_l, kl_r, kl_n, am_go dc_187_10, J_iconst, c32_0, am_go dc_187_11, J_istore, am_go dc_187_13, am_go dc_187_14, am_go dc_187_16, J_lconst, i64_0, am_go dc_187_17, J_lstore, st2_0, st2_1, st2_s, am_go dc_187_19, am_go dc_187_20, J_iload, ld_8, am_go dc_187_24, J_bipush, c8_10, am_go dc_187_26, J_icmp_gt, am_go dc_187_29, am_go dc_187_30, J_if_eq, am_go dc_187_33, am_go dc_187_34, ld_4, am_go dc_187_36, ld_5, am_go dc_187_38, cv_4_245_4 own_187, am_go dc_187_41, J_goto, am_go dc_187_44, am_go dc_187_45, J_getfield, gf_r, fk_4_19_4, am_go dc_187_48, am_go dc_187_49, fk_4_38_4, am_go dc_187_52, am_go dc_187_54, am_go dc_187_56, cv_4_150_1 own_187, am_go dc_187_59, J_iaload, am_go dc_187_62, ld_9, am_go dc_187_64, am_go dc_187_67, am_go dc_187_68, am_go dc_187_71, fk_4_157_1, am_go dc_187_74, am_go dc_187_76, am_go dc_187_77, J_i2l, am_go dc_187_78, J_lload, K_ll, ld_6, am_go dc_187_80, J_lsub, am_go dc_187_81, J_ret_l ret_187, am_go dc_187_82, J_iload_3, ld_3, am_go dc_187_83, J_ldc, am_go dc_187_85, J_imul, am_go dc_187_86, J_sipush, c16_12345, am_go dc_187_89, J_iadd, am_go dc_187_90, am_go dc_187_91, am_go dc_187_93, am_go dc_187_95, J_irem, am_go dc_187_96, am_go dc_187_98, am_go dc_187_99, am_go dc_187_101, ld_10, am_go dc_187_103, am_go dc_187_104, cv_4_249_4 own_187, am_go dc_187_107, am_go dc_187_109, am_go dc_187_111, c8_30, am_go dc_187_113, J_icmp_lt, am_go dc_187_116, am_go dc_187_117, am_go dc_187_120, fk_4_56_1, am_go dc_187_123, am_go dc_187_125, J_aaload, am_go dc_187_126, am_go dc_187_129, ld_11, am_go dc_187_131, am_go dc_187_132, am_go dc_187_133, am_go dc_187_135, am_go dc_187_136, am_go dc_187_137, am_go dc_187_139, c8_20, am_go dc_187_141, am_go dc_187_144, am_go dc_187_146, am_go dc_187_147, am_go dc_187_150, am_go dc_187_153, am_go dc_187_155, am_go dc_187_156, am_go dc_187_159, am_go dc_187_160, J_ladd, am_go dc_187_161, am_go dc_187_163, am_go dc_187_164, am_go dc_187_167, am_go dc_187_169, am_go dc_187_171, am_go dc_187_173, am_go dc_187_176, c32_1, am_go dc_187_177, am_go dc_187_180, am_go dc_187_181, cv_4_166_1 own_187, am_go dc_187_184, am_go dc_187_186, am_go dc_187_189, am_go dc_187_191, am_go dc_187_192, am_go dc_187_195, am_go dc_187_198, am_go dc_187_200, am_go dc_187_201, am_go dc_187_204, am_go dc_187_205, am_go dc_187_206, am_go dc_187_208, am_go dc_187_210, am_go dc_187_211, am_go dc_187_214, am_go dc_187_216, am_go dc_187_218, cv_4_195_1 own_187, am_go dc_187_221, cm_4_198 own_187, mth_0, am_go dc_187_224, am_go dc_187_226, am_go dc_187_227, am_go dc_187_230, am_go dc_187_232, am_go dc_187_234, am_go dc_187_236, cv_4_124_1 own_187, am_go dc_187_239, am_go dc_187_241, J_iinc, pinc_go, am_go dc_187_244, am_go dc_187_247, am_go dc_187_248, am_go dc_187_251, am_go dc_187_254, am_go dc_187_256, am_go dc_187_257, am_go dc_187_258, am_go dc_187_260, am_go dc_187_261, lg_4, lg_0, tg_4, tg_0, lH_0, lH_1, lH_4, lH_5, lH_6, lH_7, lH_8, lw_1, lw_4, lw_5, lw_6, lw_7, lw_8, zI_add, zI_mul, zI_lt, zI_le, zI_eq, zI_neg, zI_pos, zI_ne0, zI_gt0, zB_0, lg_cmp_ge, lg_cmp_le, lg_cmp_gt, lg_cmp_lt, lg_cmp_eq, ail_r, abl_r, all_r, ais_r, abs_r, als_r, aal_r, aal_q, aln_r, vrf_s, vrf_n, z32, t0, t1, t3, t4, t6, t7, h10, h10', h10'', ck_4_248, i16_12345, hsd, hrm, kdr, ha, bf_4_60 hB, hr1, kao, ksr, hcond, List.length_cons, List.length_nil, Nat.reduceAdd, Nat.reduceLT, Nat.reduceLeDiff, Nat.reduceEqDiff, ↓reduceIte, bind_s, if_true, if_false, not_true_eq_false, not_false_eq_true, Nat.zero_add]
      · have hm10 : (20 + x) % 10 = x := by omega
        have hrm := rem10 (k := 2) (x := x) (by omega) (by omega)
        have h20 : ¬ 20 + x = 0 := by omega
        have h20' : 20 + x < 30 := by omega
        have h20'' : ¬ 20 + x < 20 := by omega
        rw [e, hm10, if_neg (by omega), if_neg (by omega), if_neg (by omega)]
        have hpx : hw S x = 0 ∧ R (18 * x) = zI 1 := by
          have q3 := q
          unfold qPeep at q3
          simp only [Bool.and_eq_true, decide_eq_true_eq] at q3
          have e0 : (S (90 + x) = 0) = (hw S x = 0) := hw_eq hL hx5 (k := 0) (by omega)
          rw [e0, hR.r0 hx5] at q3
          exact ⟨q3.2.1, q3.1⟩
        have hsa : qSa S x = 100 := by
          have := lk_tg hG hR hL hx ho
          unfold cTg at this
          rw [lk_op hR hL hx hm5, decide_eq_false (by omega), if_neg (by simp), dg_v hR hx hm5, if_pos ho, hpx.1, if_neg (by omega), if_neg (by omega), zI_eq (by omega) (by omega)] at this
          exact this.symm
        have hs0 : qSn S x 0 = wN (qChance S x 0) := by
          unfold qSn qShows
          simp only [hw_eq hL hx5 (show 1 < 100 by omega), hw_eq hL hx5 (show 2 < 100 by omega)]
          rw [if_neg (by omega)]
        have hd0 : (qDi S x (qSeed y) = 0) = (qLot (qSeed y) 100 < wN (qChance S x 0)) := by
          rw [hdi, hsa]
          obtain ⟨k, hk'⟩ : ∃ k, wN (R (18 * x + 3)) = k + 1 := ⟨wN (R (18 * x + 3)) - 1, by omega⟩
          rw [hk', ← hs0]
          unfold qDw
          by_cases c : qLot (qSeed y) 100 < qSn S x 0
          · rw [if_pos c]
            simp [c]
          · rw [if_neg c]
            refine propext ⟨fun w => ?_, fun w => absurd w c⟩
            have hfs : fsum (qSn S x) 0 (k + 1) = 100 := by
              rw [← hk', ← hsa]
              unfold qSa
              rw [hR.r hx5 (by omega)]
            rw [fsum_s] at hfs
            have hl : qLot (qSeed y) 100 < 100 := Nat.mod_lt _ (by omega)
            have := qDw_lt (s := qSn S x) k (0 + 1) (qLot (qSeed y) 100 - qSn S x 0) (by omega)
            omega
        have hL1 := hL.pe hR hG hx (Or.inl rfl) hpx.2
        have hL2 := hL.pe hR hG hx (Or.inr rfl) hpx.2
        have m1 := meas_up (S := S) (b := x) (x := 1) hx5 (by omega) (qPeep_lev (by omega) q)
        have m2 := meas_up (S := S) (b := x) (x := 2) hx5 (by omega) (qPeep_lev (by omega) q)
        have hS18 : S (18 * x) = zI 1 := by rw [hR.r0 hx5]; exact hpx.2
        have pp : ∀ g, am_f X (d + 5) 74 [.ref t, .int (zI (pk (qDg S))), .int (zI x), .int (zB g)] (lH h l (u, (t, m, a, N)), z) = some (.inl (some (.int (zI (pk (qDg (upd S (90 + x) (zI (if g = true then 1 else 2)))))))), (lH h l (u, (t, m, a, N)), z)) := fun g => by
          have := c_afterPeeping (X := X) (d := d + 4) (z := z) (t := t) (H := lH h l (u, (t, m, a, N))) (g := g) (dg := qDg S) qDg_ok hx5
          rw [lk_ap hR hx hm5 hpx.1] at this
          exact this
        have p1 := pp true
        have p2 := pp false
        simp only [zB_t, zB_f, if_true, Bool.false_eq_true, if_false] at p1 p2
        by_cases c : qLot (qSeed y) 100 < wN (qChance S x 0)
        · rw [if_pos c]
          have c0 : (qDi S x (qSeed y) = 0) = True := by rw [hd0]; exact eq_true c
          have ih' := ih (upd S (90 + x) (zI 1)) (qSeed y) (pd + (S (18 * x + 4)).toInt64) (tn + 1) (some (.int (zI (20 + x)))) (some (.int (zI x))) (some (.int (zI (qDi S x (qSeed y))))) (hR.up hx5) hL1 (hv.up (qG_R hG hR) hx5 (by omega) (fun _ => hS18) (fun w => by omega)) (by omega) (by omega)
          rw [lk_pk hr hG hR hL hL1 hx (by omega) (by omega)] at ih'
          refine Eq.trans ?_ ih'
          generalize qDi S x (qSeed y) = di at *
          rw [am_go dc_187_60]
          simp (disch := first | omega | exact Nat.le_of_ble_eq_true rfl | exact lH_ci | (refine lF_lt ?_; omega) | exact (hS _).iT.ci) only [own_187, am_go dc_187_0, J_iload_1, K_il, ld_1, am_go dc_187_1, J_if_ne, am_go dc_187_4, J_aload_0, K_al, ld_0, am_go dc_187_5, cv_4_173_4 own_187, JR_v, JR_0, JR_ite, ci1_r, am_go dc_187_8, J_iload_2, ld_2, am_go dc_187_9, J_istore_3, st1_0, st1_1, st1_s, kl_i, kl_l, kl_r, kl_n, am_go dc_187_10, J_iconst, c32_0, am_go dc_187_11, J_istore, am_go dc_187_13, am_go dc_187_14, am_go dc_187_16, J_lconst, i64_0, am_go dc_187_17, J_lstore, st2_0, st2_1, st2_s, am_go dc_187_19, am_go dc_187_20, J_iload, ld_8, am_go dc_187_24, J_bipush, c8_10, am_go dc_187_26, J_icmp_gt, am_go dc_187_29, am_go dc_187_30, J_if_eq, am_go dc_187_33, am_go dc_187_34, ld_4, am_go dc_187_36, ld_5, am_go dc_187_38, cv_4_245_4 own_187, am_go dc_187_41, J_goto, am_go dc_187_44, am_go dc_187_45, J_getfield, gf_r, fk_4_19_4, am_go dc_187_48, am_go dc_187_49, fk_4_38_4, am_go dc_187_52, am_go dc_187_54, am_go dc_187_56, cv_4_150_1 own_187, am_go dc_187_59, J_iaload, am_go dc_187_62, ld_9, am_go dc_187_64, am_go dc_187_67, am_go dc_187_68, am_go dc_187_71, fk_4_157_1, am_go dc_187_74, am_go dc_187_76, am_go dc_187_77, J_i2l, am_go dc_187_78, J_lload, K_ll, ld_6, am_go dc_187_80, J_lsub, am_go dc_187_81, J_ret_l ret_187, am_go dc_187_82, J_iload_3, ld_3, am_go dc_187_83, J_ldc, am_go dc_187_85, J_imul, am_go dc_187_86, J_sipush, c16_12345, am_go dc_187_89, J_iadd, am_go dc_187_90, am_go dc_187_91, am_go dc_187_93, am_go dc_187_95, J_irem, am_go dc_187_96, am_go dc_187_98, am_go dc_187_99, am_go dc_187_101, ld_10, am_go dc_187_103, am_go dc_187_104, cv_4_249_4 own_187, am_go dc_187_107, am_go dc_187_109, am_go dc_187_111, c8_30, am_go dc_187_113, J_icmp_lt, am_go dc_187_116, am_go dc_187_117, am_go dc_187_120, fk_4_56_1, am_go dc_187_123, am_go dc_187_125, J_aaload, am_go dc_187_126, am_go dc_187_129, ld_11, am_go dc_187_131, am_go dc_187_132, am_go dc_187_133, am_go dc_187_135, am_go dc_187_136, am_go dc_187_137, am_go dc_187_139, c8_20, am_go dc_187_141, am_go dc_187_144, am_go dc_187_146, am_go dc_187_147, am_go dc_187_150, am_go dc_187_153, am_go dc_187_155, am_go dc_187_156, am_go dc_187_159, am_go dc_187_160, J_ladd, am_go dc_187_161, am_go dc_187_163, am_go dc_187_164, am_go dc_187_167, am_go dc_187_169, am_go dc_187_171, am_go dc_187_173, am_go dc_187_176, c32_1, am_go dc_187_177, am_go dc_187_180, am_go dc_187_181, cv_4_166_1 own_187, am_go dc_187_184, am_go dc_187_186, am_go dc_187_189, am_go dc_187_191, am_go dc_187_192, am_go dc_187_195, am_go dc_187_198, am_go dc_187_200, am_go dc_187_201, am_go dc_187_204, am_go dc_187_205, am_go dc_187_206, am_go dc_187_208, am_go dc_187_210, am_go dc_187_211, am_go dc_187_214, am_go dc_187_216, am_go dc_187_218, cv_4_195_1 own_187, am_go dc_187_221, cm_4_198 own_187, mth_0, am_go dc_187_224, am_go dc_187_226, am_go dc_187_227, am_go dc_187_230, am_go dc_187_232, am_go dc_187_234, am_go dc_187_236, cv_4_124_1 own_187, am_go dc_187_239, am_go dc_187_241, J_iinc, pinc_go, am_go dc_187_244, am_go dc_187_247, am_go dc_187_248, am_go dc_187_251, am_go dc_187_254, am_go dc_187_256, am_go dc_187_257, am_go dc_187_258, am_go dc_187_260, am_go dc_187_261, lg_4, lg_0, tg_4, tg_0, lH_0, lH_1, lH_4, lH_5, lH_6, lH_7, lH_8, lw_1, lw_4, lw_5, lw_6, lw_7, lw_8, zI_add, zI_mul, zI_lt, zI_le, zI_eq, zI_neg, zI_pos, zI_ne0, zI_gt0, zB_0, lg_cmp_ge, lg_cmp_le, lg_cmp_gt, lg_cmp_lt, lg_cmp_eq, ail_r, abl_r, all_r, ais_r, abs_r, als_r, aal_r, aal_q, aln_r, vrf_s, vrf_n, z32, t0, t1, t3, t4, t6, t7, h20, h20', h20'', ck_4_248, i16_12345, hsd, hrm, kdr, ha, vx_4_170 own_187 hB, hr4, p1, p2, c0, List.length_cons, List.length_nil, Nat.reduceAdd, Nat.reduceLT, Nat.reduceLeDiff, Nat.reduceEqDiff, ↓reduceIte, bind_s, if_true, if_false, not_true_eq_false, not_false_eq_true, Nat.zero_add]
        · rw [if_neg c]
          have c0 : (qDi S x (qSeed y) = 0) = False := by rw [hd0]; exact eq_false c
          have h100 : S (18 * x + 10) ≠ zI 100 := fun w => c (by
            have hl : qLot (qSeed y) 100 < 100 := Nat.mod_lt _ (by omega)
            have : qChance S x 0 = zI 100 := by
              rw [qCh_peep (qG_R hG hR) (show x < wN (S 116) by rw [hR.m]; exact hx) hS18]
              exact w
            rw [this, wN_zI (by omega)]
            exact hl)
          have ih' := ih (upd S (90 + x) (zI 2)) (qSeed y) (pd + (S (18 * x + 4)).toInt64) (tn + 1) (some (.int (zI (20 + x)))) (some (.int (zI x))) (some (.int (zI (qDi S x (qSeed y))))) (hR.up hx5) hL2 (hv.up (qG_R hG hR) hx5 (by omega) (fun _ => hS18) (fun _ => h100)) (by omega) (by omega)
          rw [lk_pk hr hG hR hL hL2 hx (by omega) (by omega)] at ih'
          refine Eq.trans ?_ ih'
          generalize qDi S x (qSeed y) = di at *
          rw [am_go dc_187_60]
          simp (disch := first | omega | exact Nat.le_of_ble_eq_true rfl | exact lH_ci | (refine lF_lt ?_; omega) | exact (hS _).iT.ci) only [own_187, am_go dc_187_0, J_iload_1, K_il, ld_1, am_go dc_187_1, J_if_ne, am_go dc_187_4, J_aload_0, K_al, ld_0, am_go dc_187_5, cv_4_173_4 own_187, JR_v, JR_0, JR_ite, ci1_r, am_go dc_187_8, J_iload_2, ld_2, am_go dc_187_9, J_istore_3, st1_0, st1_1, st1_s, kl_i, kl_l, kl_r, kl_n, am_go dc_187_10, J_iconst, c32_0, am_go dc_187_11, J_istore, am_go dc_187_13, am_go dc_187_14, am_go dc_187_16, J_lconst, i64_0, am_go dc_187_17, J_lstore, st2_0, st2_1, st2_s, am_go dc_187_19, am_go dc_187_20, J_iload, ld_8, am_go dc_187_24, J_bipush, c8_10, am_go dc_187_26, J_icmp_gt, am_go dc_187_29, am_go dc_187_30, J_if_eq, am_go dc_187_33, am_go dc_187_34, ld_4, am_go dc_187_36, ld_5, am_go dc_187_38, cv_4_245_4 own_187, am_go dc_187_41, J_goto, am_go dc_187_44, am_go dc_187_45, J_getfield, gf_r, fk_4_19_4, am_go dc_187_48, am_go dc_187_49, fk_4_38_4, am_go dc_187_52, am_go dc_187_54, am_go dc_187_56, cv_4_150_1 own_187, am_go dc_187_59, J_iaload, am_go dc_187_62, ld_9, am_go dc_187_64, am_go dc_187_67, am_go dc_187_68, am_go dc_187_71, fk_4_157_1, am_go dc_187_74, am_go dc_187_76, am_go dc_187_77, J_i2l, am_go dc_187_78, J_lload, K_ll, ld_6, am_go dc_187_80, J_lsub, am_go dc_187_81, J_ret_l ret_187, am_go dc_187_82, J_iload_3, ld_3, am_go dc_187_83, J_ldc, am_go dc_187_85, J_imul, am_go dc_187_86, J_sipush, c16_12345, am_go dc_187_89, J_iadd, am_go dc_187_90, am_go dc_187_91, am_go dc_187_93, am_go dc_187_95, J_irem, am_go dc_187_96, am_go dc_187_98, am_go dc_187_99, am_go dc_187_101, ld_10, am_go dc_187_103, am_go dc_187_104, cv_4_249_4 own_187, am_go dc_187_107, am_go dc_187_109, am_go dc_187_111, c8_30, am_go dc_187_113, J_icmp_lt, am_go dc_187_116, am_go dc_187_117, am_go dc_187_120, fk_4_56_1, am_go dc_187_123, am_go dc_187_125, J_aaload, am_go dc_187_126, am_go dc_187_129, ld_11, am_go dc_187_131, am_go dc_187_132, am_go dc_187_133, am_go dc_187_135, am_go dc_187_136, am_go dc_187_137, am_go dc_187_139, c8_20, am_go dc_187_141, am_go dc_187_144, am_go dc_187_146, am_go dc_187_147, am_go dc_187_150, am_go dc_187_153, am_go dc_187_155, am_go dc_187_156, am_go dc_187_159, am_go dc_187_160, J_ladd, am_go dc_187_161, am_go dc_187_163, am_go dc_187_164, am_go dc_187_167, am_go dc_187_169, am_go dc_187_171, am_go dc_187_173, am_go dc_187_176, c32_1, am_go dc_187_177, am_go dc_187_180, am_go dc_187_181, cv_4_166_1 own_187, am_go dc_187_184, am_go dc_187_186, am_go dc_187_189, am_go dc_187_191, am_go dc_187_192, am_go dc_187_195, am_go dc_187_198, am_go dc_187_200, am_go dc_187_201, am_go dc_187_204, am_go dc_187_205, am_go dc_187_206, am_go dc_187_208, am_go dc_187_210, am_go dc_187_211, am_go dc_187_214, am_go dc_187_216, am_go dc_187_218, cv_4_195_1 own_187, am_go dc_187_221, cm_4_198 own_187, mth_0, am_go dc_187_224, am_go dc_187_226, am_go dc_187_227, am_go dc_187_230, am_go dc_187_232, am_go dc_187_234, am_go dc_187_236, cv_4_124_1 own_187, am_go dc_187_239, am_go dc_187_241, J_iinc, pinc_go, am_go dc_187_244, am_go dc_187_247, am_go dc_187_248, am_go dc_187_251, am_go dc_187_254, am_go dc_187_256, am_go dc_187_257, am_go dc_187_258, am_go dc_187_260, am_go dc_187_261, lg_4, lg_0, tg_4, tg_0, lH_0, lH_1, lH_4, lH_5, lH_6, lH_7, lH_8, lw_1, lw_4, lw_5, lw_6, lw_7, lw_8, zI_add, zI_mul, zI_lt, zI_le, zI_eq, zI_neg, zI_pos, zI_ne0, zI_gt0, zB_0, lg_cmp_ge, lg_cmp_le, lg_cmp_gt, lg_cmp_lt, lg_cmp_eq, ail_r, abl_r, all_r, ais_r, abs_r, als_r, aal_r, aal_q, aln_r, vrf_s, vrf_n, z32, t0, t1, t3, t4, t6, t7, h20, h20', h20'', ck_4_248, i16_12345, hsd, hrm, kdr, ha, vx_4_170 own_187 hB, hr4, p1, p2, c0, List.length_cons, List.length_nil, Nat.reduceAdd, Nat.reduceLT, Nat.reduceLeDiff, Nat.reduceEqDiff, ↓reduceIte, bind_s, if_true, if_false, not_true_eq_false, not_false_eq_true, Nat.zero_add]
end PU2
