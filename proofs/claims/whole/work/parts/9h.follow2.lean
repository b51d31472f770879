/-! Plan: follow -/
section PQ
variable {X : am_X} {C : Nat → Prop} {h : am_H} {l t m a N d r Q : Nat} {T : mU × (Nat → Option Nat)} {S R S0 : Nat → Int32} {z : Nat × Nat} {u : mU}
theorem lGr_1 {n x : Nat} {v : Int64} {w : Bool → Nat → Int64} (hx : x < n) (h0 : ∀ b, b < n → w false b = 0) (h1 : ∀ b, b < n → w true b = if b = x then v else 0) : lGr u (mL u 13 (vp_updL (u.2.1 13) x (u.2.1 13 x + v))) n w := fun b hb => by
  rw [h0 b hb, h1 b hb, mL_o (show 12 ≠ 13 by decide), mL_s, Int64.add_zero]
  refine ⟨rfl, ?_⟩
  by_cases e : b = x
  · rw [if_pos e, e, upL_s]
  · rw [if_neg e, upL_o e, Int64.add_zero]
theorem lFo_t {x : Nat} {v : Int64} : lFo u (mL u 13 (vp_updL (u.2.1 13) x v)) := ⟨rfl, fun j _ h2 => mL_o h2, rfl⟩
theorem lFo_o {x : Nat} {v : Int64} : lFo u (mL u 12 (vp_updL (u.2.1 12) x v)) := ⟨rfl, fun j h1 _ => mL_o h1, rfl⟩
theorem l_fo (hG : qG R) (hr : rOk T R Q) (hS : ∀ u, tS C (lH h l (u, (t, m, a, N))) t T S0) (hC0 : qC S0 R) (hO : lOkk l (t, m, a, N)) (hN2 : N < 1000000) : ∀ (n : Nat) (S : Nat → Int32) (sh k0 : Nat) (u : mU), qRw R S → qPl S → meas S < n → k0 + meas S ≤ 10 → sh * mP R S (wN (R 116)) ≤ 10000000000 → plKn R T Q u N → ∃ u', am_f X (d + n + 5) 135 [.ref l, .int (zI (pk (qDg S))), .int (zI (rkN T S)), .int (hdV T S (wN (R 116))), .long (jI ((sh : Nat) : Int)), .int (zI (k0))] (lH h l (u, (t, m, a, N)), z) = some (.inl none, (lH h l (u', (t, m, a, N)), z)) ∧ lFo u u' ∧ lGr u u' (wN (R 116)) (fun tk b => jI ((sh : Nat) : Int) * qLf b tk S) := by
  have t0 := fun u => (hS u).iT.c0
  have t1 := fun u => (hS u).iT.c1
  have t3 := fun u => (hS u).iT.c3
  have t4 := fun u => (hS u).iT.c4
  have t6 := fun u => (hS u).iT.c6
  have t7 := fun u => (hS u).iT.c7
  have hm5 := hG.m.2
  have hQ := hr.2.2.1
  intro n
  induction n with
  | zero => intro S sh k0 u _ _ h; omega
  | succ n ih =>
    intro S sh k0 u hR hL hme hkm hsh hk
    obtain ⟨-, r1, -, -⟩ := lk_rk hr hG hR hL
    obtain ⟨a1, a2, a3⟩ := kn_at hr hG hk hR hL
    have hix : am_f X (d + n + 1 + 4) 122 [.ref t, .int (zI (pk (qDg S))), .int (zI (rkN T S))] (lH h l (u, (t, m, a, N)), z) = some (.inl (some (.int (zI (ix R (qDg S) (rkN T S))))), (lH h l (u, (t, m, a, N)), z)) := by
      rw [cg_ix hC0]
      exact c_index (X := X) (d := d + n + 4) (z := z) (dg := qDg S) (hS u) (by omega)
    have hA := lA (h := h) (u := u) hO
    have kms : am_f X (d + n + 1 + 4) 98 [.ref t, .int (zI (pk (qDg S)))] (lH h l (u, (t, m, a, N)), z) = _ := c_mass (X := X) (d := d + n + 2) (z := z) (hS u) qDg_ok
    rw [← cg_ms hC0 (hS u).m5, lk_ms hG hR hL] at kms
    obtain ⟨q1, q2⟩ := ms_m hG hR hL
    have hnn : qNn S := (qG_R hG hR).nn
    have hhw : qHw S := fun c hc => (hL c hc).1
    have hk10 : k0 ≤ 10 := by omega
    show ∃ u', am_f X (d + n + 1 + 4 + 1) 135 [.ref l, .int (zI (pk (qDg S))), .int (zI (rkN T S)), .int (hdV T S (wN (R 116))), .long (jI ((sh : Nat) : Int)), .int (zI (k0))] (lH h l (u, (t, m, a, N)), z) = _ ∧ _
    by_cases p0 : jI ((sh : Nat) : Int) * qMass S = 0
    · have z0 : ∀ b tk, jI ((sh : Nat) : Int) * qLf b tk S = 0 := fun b tk => by
        have p1 := p0
        rw [q1, jI_mul, ← Int.natCast_mul, show (0 : Int64) = jI 0 from rfl, jI_eq (by omega) (by omega) (by omega) (by omega)] at p1
        rcases Nat.mul_eq_zero.mp (show sh * mP R S (wN (R 116)) = 0 by omega) with w | w
        · rw [w]
          exact Int64.zero_mul
        · rw [Z0_L hG hR hL ((Z0_ms hG hR hL).mp (by rw [q1, w]; rfl)), Int64.mul_zero]
      refine ⟨u, ?_, lFo.rf, fun b hb => ?_⟩
      · rw [fU_135]
        simp (disch := first | omega | exact Nat.le_of_ble_eq_true rfl | exact lH_ci | (refine lF_lt ?_; omega) | exact (hS _).iT.ci) only [own_135, am_go dc_135_0, J_aload_0, K_al, ld_0, am_go dc_135_1, J_getfield, gf_r, fk_4_19_4, am_go dc_135_4, am_go dc_135_5, fk_4_38_4, am_go dc_135_8, J_iload_1, K_il, ld_1, am_go dc_135_9, J_iload_2, ld_2, am_go dc_135_10, cv_4_150_1 own_135, JR_v, JR_0, JR_ite, ci1_r, am_go dc_135_13, J_iaload, am_go dc_135_14, J_istore, st1_0, st1_1, st1_s, kl_i, kl_l, kl_r, kl_n, am_go dc_135_16, J_lload, K_ll, ld_4, am_go dc_135_18, am_go dc_135_19, am_go dc_135_22, am_go dc_135_23, cv_4_93_1 own_135, am_go dc_135_26, J_lmul, am_go dc_135_27, J_lstore, st2_0, st2_1, st2_s, am_go dc_135_29, ld_8, am_go dc_135_31, J_lconst, i64_0, am_go dc_135_32, J_lcmp, am_go dc_135_33, J_if_eq, am_go dc_135_36, J_iload, ld_6, am_go dc_135_38, J_bipush, c8_10, am_go dc_135_40, J_icmp_le, am_go dc_135_43, J_ret_v ret_135, am_go dc_135_44, ld_7, am_go dc_135_46, J_if_ne, am_go dc_135_49, J_iload_3, ld_3, am_go dc_135_50, J_if_lt, am_go dc_135_53, am_go dc_135_54, fk_4_35_4, am_go dc_135_57, am_go dc_135_58, J_dup2_l, J_dup2_ir, am_go dc_135_59, J_laload, am_go dc_135_60, am_go dc_135_62, J_ladd, am_go dc_135_63, J_lastore, am_go dc_135_64, J_goto, am_go dc_135_67, am_go dc_135_69, c8_30, am_go dc_135_71, J_icmp_lt, am_go dc_135_74, am_go dc_135_75, am_go dc_135_78, am_go dc_135_80, am_go dc_135_82, J_isub, am_go dc_135_83, am_go dc_135_84, am_go dc_135_85, am_go dc_135_87, am_go dc_135_88, am_go dc_135_89, am_go dc_135_92, am_go dc_135_94, c8_20, am_go dc_135_96, am_go dc_135_99, am_go dc_135_101, am_go dc_135_103, am_go dc_135_104, am_go dc_135_106, am_go dc_135_107, am_go dc_135_108, am_go dc_135_111, am_go dc_135_112, ld_10, am_go dc_135_114, J_iconst, c32_1, am_go dc_135_115, cv_4_166_1 own_135, am_go dc_135_118, am_go dc_135_119, am_go dc_135_120, am_go dc_135_122, am_go dc_135_124, am_go dc_135_125, J_iadd, am_go dc_135_126, cv_4_221_4 own_135, am_go dc_135_129, am_go dc_135_130, am_go dc_135_131, am_go dc_135_134, am_go dc_135_135, am_go dc_135_137, c32_0, am_go dc_135_138, am_go dc_135_141, am_go dc_135_142, am_go dc_135_143, am_go dc_135_145, am_go dc_135_147, am_go dc_135_148, am_go dc_135_149, am_go dc_135_152, am_go dc_135_155, am_go dc_135_157, am_go dc_135_159, am_go dc_135_160, am_go dc_135_162, am_go dc_135_163, fk_4_32_4, am_go dc_135_166, am_go dc_135_168, am_go dc_135_169, am_go dc_135_170, am_go dc_135_172, am_go dc_135_173, am_go dc_135_174, am_go dc_135_175, ld_11, am_go dc_135_179, am_go dc_135_180, am_go dc_135_183, fk_4_56_1, am_go dc_135_186, am_go dc_135_188, J_aaload, am_go dc_135_189, am_go dc_135_192, J_icmp_ge, am_go dc_135_195, am_go dc_135_196, am_go dc_135_199, am_go dc_135_201, am_go dc_135_203, cv_4_195_1 own_135, am_go dc_135_206, am_go dc_135_208, am_go dc_135_209, am_go dc_135_210, am_go dc_135_213, am_go dc_135_214, am_go dc_135_216, am_go dc_135_218, cv_4_124_1 own_135, am_go dc_135_221, am_go dc_135_222, ld_12, am_go dc_135_224, cm_4_198 own_135, mth_0, am_go dc_135_227, am_go dc_135_228, am_go dc_135_229, am_go dc_135_231, am_go dc_135_233, cs_4_225 own_135, am_go dc_135_236, am_go dc_135_238, am_go dc_135_239, am_go dc_135_242, am_go dc_135_243, am_go dc_135_245, am_go dc_135_247, cv_4_120_1 own_135, am_go dc_135_250, J_i2l, am_go dc_135_251, am_go dc_135_252, am_go dc_135_254, am_go dc_135_255, am_go dc_135_256, am_go dc_135_259, J_iinc, pinc_go, am_go dc_135_262, am_go dc_135_265, lg_4, lg_0, lg_13, lg_12, tg_0, lH_0, lH_1, lH_4, lH_5, lH_6, lH_7, lH_8, lw_1, lw_4, lw_5, lw_6, lw_7, lw_8, zI_add, zI_mul, zI_lt, zI_le, zI_eq, zI_neg, zI_pos, zI_ne0, zI_gt0, zB_0, lg_cmp_ge, lg_cmp_le, lg_cmp_gt, lg_cmp_lt, lg_cmp_eq, ail_r, abl_r, all_r, ais_r, abs_r, als_r, aal_r, aal_q, aln_r, vrf_s, vrf_n, z32, t0, t1, t3, t4, t6, t7, hix, hA, a2, kms, hk10, p0, List.length_cons, List.length_nil, Nat.reduceAdd, Nat.reduceLT, Nat.reduceLeDiff, Nat.reduceEqDiff, ↓reduceIte, bind_s, if_true, if_false, not_true_eq_false, not_false_eq_true, Nat.zero_add]
      · refine ⟨?_, ?_⟩ <;> simp only [z0, Int64.add_zero]
    · have hstep := fun b tk => qLf_step (b := b) (tk := tk) hhw hnn
      rcases qB_act hhw hnn with e | ⟨x, hx, ⟨e, -⟩ | ⟨e, e2⟩ | ⟨e, e2⟩⟩
      · -- stops
        rw [e] at a2
        have hq : ∀ b tk, qLf b tk S = if tk = true ∧ qTk S b = true then qMass S else 0 := fun b tk => by
          rw [hstep, e]
          rfl
        by_cases c3 : lsN (shB T S) 0 (wN (R 116)) < wN (R 116)
        · have hd : hdV T S (wN (R 116)) = zI (lsN (shB T S) 0 (wN (R 116))) := if_pos c3
          generalize lsN (shB T S) 0 (wN (R 116)) = hN at *
          have hneg : ¬ zI hN < 0 := by rw [zI_neg (by omega)]; exact id
          refine ⟨mL u 13 (vp_updL (u.2.1 13) hN (u.2.1 13 hN + jI ((sh : Nat) : Int) * qMass S)), ?_, lFo_t, lGr_1 c3 (fun b hb => ?_) (fun b hb => ?_)⟩
          · rw [hd, fU_135]
            simp (disch := first | omega | exact Nat.le_of_ble_eq_true rfl | exact lH_ci | (refine lF_lt ?_; omega) | exact (hS _).iT.ci) only [own_135, am_go dc_135_0, J_aload_0, K_al, ld_0, am_go dc_135_1, J_getfield, gf_r, fk_4_19_4, am_go dc_135_4, am_go dc_135_5, fk_4_38_4, am_go dc_135_8, J_iload_1, K_il, ld_1, am_go dc_135_9, J_iload_2, ld_2, am_go dc_135_10, cv_4_150_1 own_135, JR_v, JR_0, JR_ite, ci1_r, am_go dc_135_13, J_iaload, am_go dc_135_14, J_istore, st1_0, st1_1, st1_s, kl_i, kl_l, kl_r, kl_n, am_go dc_135_16, J_lload, K_ll, ld_4, am_go dc_135_18, am_go dc_135_19, am_go dc_135_22, am_go dc_135_23, cv_4_93_1 own_135, am_go dc_135_26, J_lmul, am_go dc_135_27, J_lstore, st2_0, st2_1, st2_s, am_go dc_135_29, ld_8, am_go dc_135_31, J_lconst, i64_0, am_go dc_135_32, J_lcmp, am_go dc_135_33, J_if_eq, am_go dc_135_36, J_iload, ld_6, am_go dc_135_38, J_bipush, c8_10, am_go dc_135_40, J_icmp_le, am_go dc_135_43, J_ret_v ret_135, am_go dc_135_44, ld_7, am_go dc_135_46, J_if_ne, am_go dc_135_49, J_iload_3, ld_3, am_go dc_135_50, J_if_lt, am_go dc_135_53, am_go dc_135_54, fk_4_35_4, am_go dc_135_57, am_go dc_135_58, J_dup2_l, J_dup2_ir, am_go dc_135_59, J_laload, am_go dc_135_60, am_go dc_135_62, J_ladd, am_go dc_135_63, J_lastore, am_go dc_135_64, J_goto, am_go dc_135_67, am_go dc_135_69, c8_30, am_go dc_135_71, J_icmp_lt, am_go dc_135_74, am_go dc_135_75, am_go dc_135_78, am_go dc_135_80, am_go dc_135_82, J_isub, am_go dc_135_83, am_go dc_135_84, am_go dc_135_85, am_go dc_135_87, am_go dc_135_88, am_go dc_135_89, am_go dc_135_92, am_go dc_135_94, c8_20, am_go dc_135_96, am_go dc_135_99, am_go dc_135_101, am_go dc_135_103, am_go dc_135_104, am_go dc_135_106, am_go dc_135_107, am_go dc_135_108, am_go dc_135_111, am_go dc_135_112, ld_10, am_go dc_135_114, J_iconst, c32_1, am_go dc_135_115, cv_4_166_1 own_135, am_go dc_135_118, am_go dc_135_119, am_go dc_135_120, am_go dc_135_122, am_go dc_135_124, am_go dc_135_125, J_iadd, am_go dc_135_126, cv_4_221_4 own_135, am_go dc_135_129, am_go dc_135_130, am_go dc_135_131, am_go dc_135_134, am_go dc_135_135, am_go dc_135_137, c32_0, am_go dc_135_138, am_go dc_135_141, am_go dc_135_142, am_go dc_135_143, am_go dc_135_145, am_go dc_135_147, am_go dc_135_148, am_go dc_135_149, am_go dc_135_152, am_go dc_135_155, am_go dc_135_157, am_go dc_135_159, am_go dc_135_160, am_go dc_135_162, am_go dc_135_163, fk_4_32_4, am_go dc_135_166, am_go dc_135_168, am_go dc_135_169, am_go dc_135_170, am_go dc_135_172, am_go dc_135_173, am_go dc_135_174, am_go dc_135_175, ld_11, am_go dc_135_179, am_go dc_135_180, am_go dc_135_183, fk_4_56_1, am_go dc_135_186, am_go dc_135_188, J_aaload, am_go dc_135_189, am_go dc_135_192, J_icmp_ge, am_go dc_135_195, am_go dc_135_196, am_go dc_135_199, am_go dc_135_201, am_go dc_135_203, cv_4_195_1 own_135, am_go dc_135_206, am_go dc_135_208, am_go dc_135_209, am_go dc_135_210, am_go dc_135_213, am_go dc_135_214, am_go dc_135_216, am_go dc_135_218, cv_4_124_1 own_135, am_go dc_135_221, am_go dc_135_222, ld_12, am_go dc_135_224, cm_4_198 own_135, mth_0, am_go dc_135_227, am_go dc_135_228, am_go dc_135_229, am_go dc_135_231, am_go dc_135_233, cs_4_225 own_135, am_go dc_135_236, am_go dc_135_238, am_go dc_135_239, am_go dc_135_242, am_go dc_135_243, am_go dc_135_245, am_go dc_135_247, cv_4_120_1 own_135, am_go dc_135_250, J_i2l, am_go dc_135_251, am_go dc_135_252, am_go dc_135_254, am_go dc_135_255, am_go dc_135_256, am_go dc_135_259, J_iinc, pinc_go, am_go dc_135_262, am_go dc_135_265, lg_4, lg_0, lg_13, lg_12, tg_0, lH_0, lH_1, lH_4, lH_5, lH_6, lH_7, lH_8, lw_1, lw_4, lw_5, lw_6, lw_7, lw_8, zI_add, zI_mul, zI_lt, zI_le, zI_eq, zI_neg, zI_pos, zI_ne0, zI_gt0, zB_0, lg_cmp_ge, lg_cmp_le, lg_cmp_gt, lg_cmp_lt, lg_cmp_eq, ail_r, abl_r, all_r, ais_r, abs_r, als_r, aal_r, aal_q, aln_r, vrf_s, vrf_n, z32, t0, t1, t3, t4, t6, t7, hix, hA, a2, kms, hk10, p0, hneg, List.length_cons, List.length_nil, Nat.reduceAdd, Nat.reduceLT, Nat.reduceLeDiff, Nat.reduceEqDiff, ↓reduceIte, bind_s, if_true, if_false, not_true_eq_false, not_false_eq_true, Nat.zero_add]
          · simp only [hq]
            simp [Int64.mul_zero]
          · simp only [hq, lk_tk hr hG hR hL hb, hd]
            by_cases eb : b = hN
            · rw [if_pos ⟨trivial, by rw [eb]; exact decide_eq_true rfl⟩, if_pos eb]
            · rw [if_neg (fun q => eb ?_), if_neg eb, Int64.mul_zero]
              have := q.2
              simp only [decide_eq_true_eq] at this
              rw [zI_eq (by omega) (by omega)] at this
              exact this.symm
        · have hd : hdV T S (wN (R 116)) = -4 := if_neg c3
          refine ⟨u, ?_, lFo.rf, fun b hb => ?_⟩
          · rw [hd, fU_135]
            simp (disch := first | omega | exact Nat.le_of_ble_eq_true rfl | exact lH_ci | (refine lF_lt ?_; omega) | exact (hS _).iT.ci) only [own_135, am_go dc_135_0, J_aload_0, K_al, ld_0, am_go dc_135_1, J_getfield, gf_r, fk_4_19_4, am_go dc_135_4, am_go dc_135_5, fk_4_38_4, am_go dc_135_8, J_iload_1, K_il, ld_1, am_go dc_135_9, J_iload_2, ld_2, am_go dc_135_10, cv_4_150_1 own_135, JR_v, JR_0, JR_ite, ci1_r, am_go dc_135_13, J_iaload, am_go dc_135_14, J_istore, st1_0, st1_1, st1_s, kl_i, kl_l, kl_r, kl_n, am_go dc_135_16, J_lload, K_ll, ld_4, am_go dc_135_18, am_go dc_135_19, am_go dc_135_22, am_go dc_135_23, cv_4_93_1 own_135, am_go dc_135_26, J_lmul, am_go dc_135_27, J_lstore, st2_0, st2_1, st2_s, am_go dc_135_29, ld_8, am_go dc_135_31, J_lconst, i64_0, am_go dc_135_32, J_lcmp, am_go dc_135_33, J_if_eq, am_go dc_135_36, J_iload, ld_6, am_go dc_135_38, J_bipush, c8_10, am_go dc_135_40, J_icmp_le, am_go dc_135_43, J_ret_v ret_135, am_go dc_135_44, ld_7, am_go dc_135_46, J_if_ne, am_go dc_135_49, J_iload_3, ld_3, am_go dc_135_50, J_if_lt, am_go dc_135_53, am_go dc_135_54, fk_4_35_4, am_go dc_135_57, am_go dc_135_58, J_dup2_l, J_dup2_ir, am_go dc_135_59, J_laload, am_go dc_135_60, am_go dc_135_62, J_ladd, am_go dc_135_63, J_lastore, am_go dc_135_64, J_goto, am_go dc_135_67, am_go dc_135_69, c8_30, am_go dc_135_71, J_icmp_lt, am_go dc_135_74, am_go dc_135_75, am_go dc_135_78, am_go dc_135_80, am_go dc_135_82, J_isub, am_go dc_135_83, am_go dc_135_84, am_go dc_135_85, am_go dc_135_87, am_go dc_135_88, am_go dc_135_89, am_go dc_135_92, am_go dc_135_94, c8_20, am_go dc_135_96, am_go dc_135_99, am_go dc_135_101, am_go dc_135_103, am_go dc_135_104, am_go dc_135_106, am_go dc_135_107, am_go dc_135_108, am_go dc_135_111, am_go dc_135_112, ld_10, am_go dc_135_114, J_iconst, c32_1, am_go dc_135_115, cv_4_166_1 own_135, am_go dc_135_118, am_go dc_135_119, am_go dc_135_120, am_go dc_135_122, am_go dc_135_124, am_go dc_135_125, J_iadd, am_go dc_135_126, cv_4_221_4 own_135, am_go dc_135_129, am_go dc_135_130, am_go dc_135_131, am_go dc_135_134, am_go dc_135_135, am_go dc_135_137, c32_0, am_go dc_135_138, am_go dc_135_141, am_go dc_135_142, am_go dc_135_143, am_go dc_135_145, am_go dc_135_147, am_go dc_135_148, am_go dc_135_149, am_go dc_135_152, am_go dc_135_155, am_go dc_135_157, am_go dc_135_159, am_go dc_135_160, am_go dc_135_162, am_go dc_135_163, fk_4_32_4, am_go dc_135_166, am_go dc_135_168, am_go dc_135_169, am_go dc_135_170, am_go dc_135_172, am_go dc_135_173, am_go dc_135_174, am_go dc_135_175, ld_11, am_go dc_135_179, am_go dc_135_180, am_go dc_135_183, fk_4_56_1, am_go dc_135_186, am_go dc_135_188, J_aaload, am_go dc_135_189, am_go dc_135_192, J_icmp_ge, am_go dc_135_195, am_go dc_135_196, am_go dc_135_199, am_go dc_135_201, am_go dc_135_203, cv_4_195_1 own_135, am_go dc_135_206, am_go dc_135_208, am_go dc_135_209, am_go dc_135_210, am_go dc_135_213, am_go dc_135_214, am_go dc_135_216, am_go dc_135_218, cv_4_124_1 own_135, am_go dc_135_221, am_go dc_135_222, ld_12, am_go dc_135_224, cm_4_198 own_135, mth_0, am_go dc_135_227, am_go dc_135_228, am_go dc_135_229, am_go dc_135_231, am_go dc_135_233, cs_4_225 own_135, am_go dc_135_236, am_go dc_135_238, am_go dc_135_239, am_go dc_135_242, am_go dc_135_243, am_go dc_135_245, am_go dc_135_247, cv_4_120_1 own_135, am_go dc_135_250, J_i2l, am_go dc_135_251, am_go dc_135_252, am_go dc_135_254, am_go dc_135_255, am_go dc_135_256, am_go dc_135_259, J_iinc, pinc_go, am_go dc_135_262, am_go dc_135_265, lg_4, lg_0, lg_13, lg_12, tg_0, lH_0, lH_1, lH_4, lH_5, lH_6, lH_7, lH_8, lw_1, lw_4, lw_5, lw_6, lw_7, lw_8, zI_add, zI_mul, zI_lt, zI_le, zI_eq, zI_neg, zI_pos, zI_ne0, zI_gt0, zB_0, lg_cmp_ge, lg_cmp_le, lg_cmp_gt, lg_cmp_lt, lg_cmp_eq, ail_r, abl_r, all_r, ais_r, abs_r, als_r, aal_r, aal_q, aln_r, vrf_s, vrf_n, z32, t0, t1, t3, t4, t6, t7, hix, hA, a2, kms, hk10, p0, m4_lt, List.length_cons, List.length_nil, Nat.reduceAdd, Nat.reduceLT, Nat.reduceLeDiff, Nat.reduceEqDiff, ↓reduceIte, bind_s, if_true, if_false, not_true_eq_false, not_false_eq_true, Nat.zero_add]
          · have : qTk S b = false := by
              rw [lk_tk hr hG hR hL hb, hd]
              refine decide_eq_false (fun q => ?_)
              have := m4_neg
              rw [q, zI_neg (by omega)] at this
              exact this
            simp [hq, this, Int64.mul_zero, Int64.add_zero]
      · -- takes
        rw [hR.m] at hx
        rw [e] at a2
        have hq : ∀ b tk, qLf b tk S = if tk = true ∧ x = b then qMass S else 0 := fun b tk => by
          rw [hstep, e, wN_zI (by omega)]
          unfold qLa
          rw [if_neg (by omega), if_pos (by omega), show (30 + x) % 10 = x by omega]
        have hsub : zI (30 + x) - zI 30 = zI x := by
          rw [zI_sub (by omega)]
          congr 1
          omega
        have h30 : ¬ 30 + x = 0 := by omega
        have h30' : ¬ 30 + x < 30 := by omega
        refine ⟨mL u 13 (vp_updL (u.2.1 13) x (u.2.1 13 x + jI ((sh : Nat) : Int) * qMass S)), ?_, lFo_t, lGr_1 hx (fun b hb => ?_) (fun b hb => ?_)⟩
        · generalize hdV T S (wN (R 116)) = hd at *
          rw [fU_135]
          simp (disch := first | omega | exact Nat.le_of_ble_eq_true rfl | exact lH_ci | (refine lF_lt ?_; omega) | exact (hS _).iT.ci) only [own_135, am_go dc_135_0, J_aload_0, K_al, ld_0, am_go dc_135_1, J_getfield, gf_r, fk_4_19_4, am_go dc_135_4, am_go dc_135_5, fk_4_38_4, am_go dc_135_8, J_iload_1, K_il, ld_1, am_go dc_135_9, J_iload_2, ld_2, am_go dc_135_10, cv_4_150_1 own_135, JR_v, JR_0, JR_ite, ci1_r, am_go dc_135_13, J_iaload, am_go dc_135_14, J_istore, st1_0, st1_1, st1_s, kl_i, kl_l, kl_r, kl_n, am_go dc_135_16, J_lload, K_ll, ld_4, am_go dc_135_18, am_go dc_135_19, am_go dc_135_22, am_go dc_135_23, cv_4_93_1 own_135, am_go dc_135_26, J_lmul, am_go dc_135_27, J_lstore, st2_0, st2_1, st2_s, am_go dc_135_29, ld_8, am_go dc_135_31, J_lconst, i64_0, am_go dc_135_32, J_lcmp, am_go dc_135_33, J_if_eq, am_go dc_135_36, J_iload, ld_6, am_go dc_135_38, J_bipush, c8_10, am_go dc_135_40, J_icmp_le, am_go dc_135_43, J_ret_v ret_135, am_go dc_135_44, ld_7, am_go dc_135_46, J_if_ne, am_go dc_135_49, J_iload_3, ld_3, am_go dc_135_50, J_if_lt, am_go dc_135_53, am_go dc_135_54, fk_4_35_4, am_go dc_135_57, am_go dc_135_58, J_dup2_l, J_dup2_ir, am_go dc_135_59, J_laload, am_go dc_135_60, am_go dc_135_62, J_ladd, am_go dc_135_63, J_lastore, am_go dc_135_64, J_goto, am_go dc_135_67, am_go dc_135_69, c8_30, am_go dc_135_71, J_icmp_lt, am_go dc_135_74, am_go dc_135_75, am_go dc_135_78, am_go dc_135_80, am_go dc_135_82, J_isub, am_go dc_135_83, am_go dc_135_84, am_go dc_135_85, am_go dc_135_87, am_go dc_135_88, am_go dc_135_89, am_go dc_135_92, am_go dc_135_94, c8_20, am_go dc_135_96, am_go dc_135_99, am_go dc_135_101, am_go dc_135_103, am_go dc_135_104, am_go dc_135_106, am_go dc_135_107, am_go dc_135_108, am_go dc_135_111, am_go dc_135_112, ld_10, am_go dc_135_114, J_iconst, c32_1, am_go dc_135_115, cv_4_166_1 own_135, am_go dc_135_118, am_go dc_135_119, am_go dc_135_120, am_go dc_135_122, am_go dc_135_124, am_go dc_135_125, J_iadd, am_go dc_135_126, cv_4_221_4 own_135, am_go dc_135_129, am_go dc_135_130, am_go dc_135_131, am_go dc_135_134, am_go dc_135_135, am_go dc_135_137, c32_0, am_go dc_135_138, am_go dc_135_141, am_go dc_135_142, am_go dc_135_143, am_go dc_135_145, am_go dc_135_147, am_go dc_135_148, am_go dc_135_149, am_go dc_135_152, am_go dc_135_155, am_go dc_135_157, am_go dc_135_159, am_go dc_135_160, am_go dc_135_162, am_go dc_135_163, fk_4_32_4, am_go dc_135_166, am_go dc_135_168, am_go dc_135_169, am_go dc_135_170, am_go dc_135_172, am_go dc_135_173, am_go dc_135_174, am_go dc_135_175, ld_11, am_go dc_135_179, am_go dc_135_180, am_go dc_135_183, fk_4_56_1, am_go dc_135_186, am_go dc_135_188, J_aaload, am_go dc_135_189, am_go dc_135_192, J_icmp_ge, am_go dc_135_195, am_go dc_135_196, am_go dc_135_199, am_go dc_135_201, am_go dc_135_203, cv_4_195_1 own_135, am_go dc_135_206, am_go dc_135_208, am_go dc_135_209, am_go dc_135_210, am_go dc_135_213, am_go dc_135_214, am_go dc_135_216, am_go dc_135_218, cv_4_124_1 own_135, am_go dc_135_221, am_go dc_135_222, ld_12, am_go dc_135_224, cm_4_198 own_135, mth_0, am_go dc_135_227, am_go dc_135_228, am_go dc_135_229, am_go dc_135_231, am_go dc_135_233, cs_4_225 own_135, am_go dc_135_236, am_go dc_135_238, am_go dc_135_239, am_go dc_135_242, am_go dc_135_243, am_go dc_135_245, am_go dc_135_247, cv_4_120_1 own_135, am_go dc_135_250, J_i2l, am_go dc_135_251, am_go dc_135_252, am_go dc_135_254, am_go dc_135_255, am_go dc_135_256, am_go dc_135_259, J_iinc, pinc_go, am_go dc_135_262, am_go dc_135_265, lg_4, lg_0, lg_13, lg_12, tg_0, lH_0, lH_1, lH_4, lH_5, lH_6, lH_7, lH_8, lw_1, lw_4, lw_5, lw_6, lw_7, lw_8, zI_add, zI_mul, zI_lt, zI_le, zI_eq, zI_neg, zI_pos, zI_ne0, zI_gt0, zB_0, lg_cmp_ge, lg_cmp_le, lg_cmp_gt, lg_cmp_lt, lg_cmp_eq, ail_r, abl_r, all_r, ais_r, abs_r, als_r, aal_r, aal_q, aln_r, vrf_s, vrf_n, z32, t0, t1, t3, t4, t6, t7, hix, hA, a2, kms, hk10, p0, hsub, h30, h30', List.length_cons, List.length_nil, Nat.reduceAdd, Nat.reduceLT, Nat.reduceLeDiff, Nat.reduceEqDiff, ↓reduceIte, bind_s, if_true, if_false, not_true_eq_false, not_false_eq_true, Nat.zero_add]
        · simp only [hq]
          simp [Int64.mul_zero]
        · simp only [hq]
          by_cases eb : b = x
          · rw [if_pos ⟨trivial, eb.symm⟩, if_pos eb]
          · rw [if_neg (fun q => eb q.2.symm), if_neg eb, Int64.mul_zero]
      · -- opens
        rw [hR.m] at hx
        have ho := qMay_le hL (by omega) e2
        rw [e] at a2
        have hq : ∀ b tk, qLf b tk S = if tk = false ∧ x = b then qMass S else fo (q_lo S (qLf b tk) x) 0 (wN (R (18 * x + 3))) 0 := fun b tk => by
          rw [hstep, e, wN_zI (by omega)]
          unfold qLa
          rw [if_neg (by omega), if_neg (by omega), if_pos (by omega), show (10 + x) % 10 = x by omega, hR.r (by omega) (by omega)]
        have hsub : zI (10 + x) - zI 10 = zI x := by
          rw [zI_sub (by omega)]
          congr 1
          omega
        have h10 : ¬ 10 + x = 0 := by omega
        have h10' : 10 + x < 30 := by omega
        have h10'' : 10 + x < 20 := by omega
        have hn4 := (hG.n hx).2.2
        obtain ⟨u', w1, w2, w3⟩ := l_fo_l (X := X) (d := d + n + 1) (z := z) (x := x) (sh := sh) (k0 := k0) (x7 := zI (10 + x)) (x8 := jI ((sh : Nat) : Int) * qMass S) hG hr hS hC0 hR hL hx ho (by omega) (fun i c u2 hi hc hcm hk2 => by
          have hmu := meas_up (S := S) (b := x) (x := 3 + i) (by omega) (by omega) (qMay_lev hhw (by omega) e2)
          refine ih (upd S (90 + x) (zI (3 + i))) (sh * c) (k0 + 1) u2 (hR.up (by omega)) (hL.op hR hG hx hi) (by omega) (by omega) ?_ hk2
          have hop := ms_op (S := S) (i := i) hG hx (by omega)
          have : c * mP R (upd S (90 + x) (zI (3 + i))) (wN (R 116)) ≤ mP R S (wN (R 116)) := by
            rw [← hop]
            exact Nat.mul_le_mul_right _ hcm
          have := Nat.mul_le_mul_left sh this
          rw [Nat.mul_assoc]
          omega) (wN (R (18 * x + 3))) 0 (mL u 12 (vp_updL (u.2.1 12) x (u.2.1 12 x + jI ((sh : Nat) : Int) * qMass S))) none (Nat.zero_add _) (lFo_o.kn hk)
        refine ⟨u', ?_, lFo_o.tr w2, fun b hb => ?_⟩
        · refine Eq.trans ?_ w1
          generalize hdV T S (wN (R 116)) = hd at *
          rw [fU_135]
          simp (disch := first | omega | exact Nat.le_of_ble_eq_true rfl | exact lH_ci | (refine lF_lt ?_; omega) | exact (hS _).iT.ci) only [own_135, am_go dc_135_0, J_aload_0, K_al, ld_0, am_go dc_135_1, J_getfield, gf_r, fk_4_19_4, am_go dc_135_4, am_go dc_135_5, fk_4_38_4, am_go dc_135_8, J_iload_1, K_il, ld_1, am_go dc_135_9, J_iload_2, ld_2, am_go dc_135_10, cv_4_150_1 own_135, JR_v, JR_0, JR_ite, ci1_r, am_go dc_135_13, J_iaload, am_go dc_135_14, J_istore, st1_0, st1_1, st1_s, kl_i, kl_l, kl_r, kl_n, am_go dc_135_16, J_lload, K_ll, ld_4, am_go dc_135_18, am_go dc_135_19, am_go dc_135_22, am_go dc_135_23, cv_4_93_1 own_135, am_go dc_135_26, J_lmul, am_go dc_135_27, J_lstore, st2_0, st2_1, st2_s, am_go dc_135_29, ld_8, am_go dc_135_31, J_lconst, i64_0, am_go dc_135_32, J_lcmp, am_go dc_135_33, J_if_eq, am_go dc_135_36, J_iload, ld_6, am_go dc_135_38, J_bipush, c8_10, am_go dc_135_40, J_icmp_le, am_go dc_135_43, J_ret_v ret_135, am_go dc_135_44, ld_7, am_go dc_135_46, J_if_ne, am_go dc_135_49, J_iload_3, ld_3, am_go dc_135_50, J_if_lt, am_go dc_135_53, am_go dc_135_54, fk_4_35_4, am_go dc_135_57, am_go dc_135_58, J_dup2_l, J_dup2_ir, am_go dc_135_59, J_laload, am_go dc_135_60, am_go dc_135_62, J_ladd, am_go dc_135_63, J_lastore, am_go dc_135_64, J_goto, am_go dc_135_67, am_go dc_135_69, c8_30, am_go dc_135_71, J_icmp_lt, am_go dc_135_74, am_go dc_135_75, am_go dc_135_78, am_go dc_135_80, am_go dc_135_82, J_isub, am_go dc_135_83, am_go dc_135_84, am_go dc_135_85, am_go dc_135_87, am_go dc_135_88, am_go dc_135_89, am_go dc_135_92, am_go dc_135_94, c8_20, am_go dc_135_96, am_go dc_135_99, am_go dc_135_101, am_go dc_135_103, am_go dc_135_104, am_go dc_135_106, am_go dc_135_107, am_go dc_135_108, am_go dc_135_111, am_go dc_135_112, ld_10, am_go dc_135_114, J_iconst, c32_1, am_go dc_135_115, cv_4_166_1 own_135, am_go dc_135_118, am_go dc_135_119, am_go dc_135_120, am_go dc_135_122, am_go dc_135_124, am_go dc_135_125, J_iadd, am_go dc_135_126, cv_4_221_4 own_135, am_go dc_135_129, am_go dc_135_130, am_go dc_135_131, am_go dc_135_134, am_go dc_135_135, am_go dc_135_137, c32_0, am_go dc_135_138, am_go dc_135_141, am_go dc_135_142, am_go dc_135_143, am_go dc_135_145, am_go dc_135_147, am_go dc_135_148, am_go dc_135_149, am_go dc_135_152, am_go dc_135_155, am_go dc_135_157, am_go dc_135_159, am_go dc_135_160, am_go dc_135_162, am_go dc_135_163, fk_4_32_4, am_go dc_135_166, am_go dc_135_168, am_go dc_135_169, am_go dc_135_170, am_go dc_135_172, am_go dc_135_173, am_go dc_135_174, am_go dc_135_175, ld_11, am_go dc_135_179, am_go dc_135_180, am_go dc_135_183, fk_4_56_1, am_go dc_135_186, am_go dc_135_188, J_aaload, am_go dc_135_189, am_go dc_135_192, J_icmp_ge, am_go dc_135_195, am_go dc_135_196, am_go dc_135_199, am_go dc_135_201, am_go dc_135_203, cv_4_195_1 own_135, am_go dc_135_206, am_go dc_135_208, am_go dc_135_209, am_go dc_135_210, am_go dc_135_213, am_go dc_135_214, am_go dc_135_216, am_go dc_135_218, cv_4_124_1 own_135, am_go dc_135_221, am_go dc_135_222, ld_12, am_go dc_135_224, cm_4_198 own_135, mth_0, am_go dc_135_227, am_go dc_135_228, am_go dc_135_229, am_go dc_135_231, am_go dc_135_233, cs_4_225 own_135, am_go dc_135_236, am_go dc_135_238, am_go dc_135_239, am_go dc_135_242, am_go dc_135_243, am_go dc_135_245, am_go dc_135_247, cv_4_120_1 own_135, am_go dc_135_250, J_i2l, am_go dc_135_251, am_go dc_135_252, am_go dc_135_254, am_go dc_135_255, am_go dc_135_256, am_go dc_135_259, J_iinc, pinc_go, am_go dc_135_262, am_go dc_135_265, lg_4, lg_0, lg_13, lg_12, tg_0, lH_0, lH_1, lH_4, lH_5, lH_6, lH_7, lH_8, lw_1, lw_4, lw_5, lw_6, lw_7, lw_8, zI_add, zI_mul, zI_lt, zI_le, zI_eq, zI_neg, zI_pos, zI_ne0, zI_gt0, zB_0, lg_cmp_ge, lg_cmp_le, lg_cmp_gt, lg_cmp_lt, lg_cmp_eq, ail_r, abl_r, all_r, ais_r, abs_r, als_r, aal_r, aal_q, aln_r, vrf_s, vrf_n, z32, t0, t1, t3, t4, t6, t7, hix, hA, a2, kms, hk10, p0, hsub, h10, h10', h10'', List.length_cons, List.length_nil, Nat.reduceAdd, Nat.reduceLT, Nat.reduceLeDiff, Nat.reduceEqDiff, ↓reduceIte, bind_s, if_true, if_false, not_true_eq_false, not_false_eq_true, Nat.zero_add]
        · obtain ⟨g1, g2⟩ := w3 b hb
          rw [mL_s] at g1
          rw [mL_o (show 13 ≠ 12 by decide)] at g2
          dsimp only at g1 g2 ⊢
          have l1 : ∀ tk, fo (q_lo S (qLf b tk) x) 0 (wN (R (18 * x + 3))) 0 = lsm S x b tk (wN (R (18 * x + 3))) 0 := fun tk => by
            rw [lsm_lo hG hR hL hx _ 0 0 (by omega)]
            exact Int64.zero_add _
          have t2 : qLf b true S = lsm S x b true (wN (R (18 * x + 3))) 0 := by
            rw [hq, if_neg (fun q => by cases q.1), l1]
          refine ⟨?_, by rw [g2, t2]⟩
          rw [g1]
          by_cases eb : x = b
          · subst eb
            rw [upL_s, lsm_op hG hR hL hx _ 0 (by omega), Int64.mul_zero, Int64.add_zero, hq, if_pos ⟨rfl, rfl⟩]
          · rw [upL_o (fun q => eb q.symm), hq, if_neg (fun q => eb q.2), l1]
      · -- peeps
        rw [hR.m] at hx
        have hpx : hw S x = 0 ∧ R (18 * x) = zI 1 := by
          have e3 := e2
          unfold qPeep at e3
          simp only [Bool.and_eq_true, decide_eq_true_eq] at e3
          have e0 : (S (90 + x) = 0) = (hw S x = 0) := hw_eq hL (show x < 5 by omega) (k := 0) (by omega)
          rw [e0, hR.r0 (by omega)] at e3
          exact ⟨e3.2.1, e3.1⟩
        rw [e] at a2
        have hL1 := hL.pe hR hG hx (Or.inl rfl) hpx.2
        have hL2 := hL.pe hR hG hx (Or.inr rfl) hpx.2
        have vz : ∀ k, k = 1 ∨ k = 2 → ∀ b tk, (if qMass (upd S (90 + x) (zI k)) = 0 then 0 else (zI 1).toInt64 * qLf b tk (upd S (90 + x) (zI k))) = qLf b tk (upd S (90 + x) (zI k)) := fun k hk' b tk => by
          have hL' := hL.pe hR hG hx hk' hpx.2
          by_cases q : qMass (upd S (90 + x) (zI k)) = 0
          · rw [if_pos q, Z0_L hG (hR.up (by omega)) hL' ((Z0_ms hG (hR.up (by omega)) hL').mp q)]
          · rw [if_neg q, show (zI 1).toInt64 = 1 from rfl, Int64.one_mul]
        have hq : ∀ b tk, qLf b tk S = qLf b tk (upd S (90 + x) (zI 1)) + qLf b tk (upd S (90 + x) (zI 2)) := fun b tk => by
          rw [hstep, e, wN_zI (by omega)]
          unfold qLa
          rw [if_neg (by omega), if_neg (by omega), if_neg (by omega), show (20 + x) % 10 = x by omega]
          show q_lp S (qLf b tk) x 1 (q_lp S (qLf b tk) x 0 0) = _
          unfold q_lp
          rw [show 1 + 0 = 1 from rfl, show 1 + 1 = 2 from rfl, vz 1 (Or.inl rfl), vz 2 (Or.inr rfl), Int64.zero_add]
        have hsub : zI (20 + x) - zI 20 = zI x := by
          rw [zI_sub (by omega)]
          congr 1
          omega
        have h20 : ¬ 20 + x = 0 := by omega
        have h20' : 20 + x < 30 := by omega
        have h20'' : ¬ 20 + x < 20 := by omega
        have pp : ∀ u g, am_f X (d + n + 1 + 4) 74 [.ref t, .int (zI (pk (qDg S))), .int (zI x), .int (zB g)] (lH h l (u, (t, m, a, N)), z) = some (.inl (some (.int (zI (pk (qDg (upd S (90 + x) (zI (if g = true then 1 else 2)))))))), (lH h l (u, (t, m, a, N)), z)) := fun u g => by
          have := c_afterPeeping (X := X) (d := d + n + 4) (z := z) (t := t) (H := lH h l (u, (t, m, a, N))) (g := g) (dg := qDg S) qDg_ok (show x < 5 by omega)
          rw [lk_ap hR hx hm5 hpx.1] at this
          exact this
        have p1 := fun u => pp u true
        have p2 := fun u => pp u false
        simp only [zB_t, zB_f, if_true, Bool.false_eq_true, if_false] at p1 p2
        have m1 := meas_up (S := S) (b := x) (x := 1) (by omega) (by omega) (qPeep_lev (by omega) e2)
        have m2 := meas_up (S := S) (b := x) (x := 2) (by omega) (by omega) (qPeep_lev (by omega) e2)
        have s1 := Nat.mul_le_mul_left sh (ms_pe (S := S) hG hx (Or.inl rfl) hpx.1)
        have s2 := Nat.mul_le_mul_left sh (ms_pe (S := S) hG hx (Or.inr rfl) hpx.1)
        obtain ⟨u1, w1, w2, w3⟩ := ih (upd S (90 + x) (zI 1)) sh (k0 + 1) u (hR.up (by omega)) hL1 (by omega) (by omega) (by omega) hk
        obtain ⟨u2, y1, y2, y3⟩ := ih (upd S (90 + x) (zI 2)) sh (k0 + 1) u1 (hR.up (by omega)) hL2 (by omega) (by omega) (by omega) (w2.kn hk)
        rw [lk_pk hr hG hR hL hL1 hx (by omega) (by omega), lk_hp hr hG hR hL hL1 hx (by omega) (by omega)] at w1
        rw [lk_pk hr hG hR hL hL2 hx (by omega) (by omega), lk_hp hr hG hR hL hL2 hx (by omega) (by omega)] at y1
        refine ⟨u2, ?_, w2.tr y2, fun b hb => ?_⟩
        · generalize hdV T S (wN (R 116)) = hd at *
          rw [fU_135]
          simp (disch := first | omega | exact Nat.le_of_ble_eq_true rfl | exact lH_ci | (refine lF_lt ?_; omega) | exact (hS _).iT.ci) only [own_135, am_go dc_135_0, J_aload_0, K_al, ld_0, am_go dc_135_1, J_getfield, gf_r, fk_4_19_4, am_go dc_135_4, am_go dc_135_5, fk_4_38_4, am_go dc_135_8, J_iload_1, K_il, ld_1, am_go dc_135_9, J_iload_2, ld_2, am_go dc_135_10, cv_4_150_1 own_135, JR_v, JR_0, JR_ite, ci1_r, am_go dc_135_13, J_iaload, am_go dc_135_14, J_istore, st1_0, st1_1, st1_s, kl_i, kl_l, kl_r, kl_n, am_go dc_135_16, J_lload, K_ll, ld_4, am_go dc_135_18, am_go dc_135_19, am_go dc_135_22, am_go dc_135_23, cv_4_93_1 own_135, am_go dc_135_26, J_lmul, am_go dc_135_27, J_lstore, st2_0, st2_1, st2_s, am_go dc_135_29, ld_8, am_go dc_135_31, J_lconst, i64_0, am_go dc_135_32, J_lcmp, am_go dc_135_33, J_if_eq, am_go dc_135_36, J_iload, ld_6, am_go dc_135_38, J_bipush, c8_10, am_go dc_135_40, J_icmp_le, am_go dc_135_43, J_ret_v ret_135, am_go dc_135_44, ld_7, am_go dc_135_46, J_if_ne, am_go dc_135_49, J_iload_3, ld_3, am_go dc_135_50, J_if_lt, am_go dc_135_53, am_go dc_135_54, fk_4_35_4, am_go dc_135_57, am_go dc_135_58, J_dup2_l, J_dup2_ir, am_go dc_135_59, J_laload, am_go dc_135_60, am_go dc_135_62, J_ladd, am_go dc_135_63, J_lastore, am_go dc_135_64, J_goto, am_go dc_135_67, am_go dc_135_69, c8_30, am_go dc_135_71, J_icmp_lt, am_go dc_135_74, am_go dc_135_75, am_go dc_135_78, am_go dc_135_80, am_go dc_135_82, J_isub, am_go dc_135_83, am_go dc_135_84, am_go dc_135_85, am_go dc_135_87, am_go dc_135_88, am_go dc_135_89, am_go dc_135_92, am_go dc_135_94, c8_20, am_go dc_135_96, am_go dc_135_99, am_go dc_135_101, am_go dc_135_103, am_go dc_135_104, am_go dc_135_106, am_go dc_135_107, am_go dc_135_108, am_go dc_135_111, am_go dc_135_112, ld_10, am_go dc_135_114, J_iconst, c32_1, am_go dc_135_115, cv_4_166_1 own_135, am_go dc_135_118, am_go dc_135_119, am_go dc_135_120, am_go dc_135_122, am_go dc_135_124, am_go dc_135_125, J_iadd, am_go dc_135_126, cv_4_221_4 own_135, am_go dc_135_129, am_go dc_135_130, am_go dc_135_131, am_go dc_135_134, am_go dc_135_135, am_go dc_135_137, c32_0, am_go dc_135_138, am_go dc_135_141, am_go dc_135_142, am_go dc_135_143, am_go dc_135_145, am_go dc_135_147, am_go dc_135_148, am_go dc_135_149, am_go dc_135_152, am_go dc_135_155, am_go dc_135_157, am_go dc_135_159, am_go dc_135_160, am_go dc_135_162, am_go dc_135_163, fk_4_32_4, am_go dc_135_166, am_go dc_135_168, am_go dc_135_169, am_go dc_135_170, am_go dc_135_172, am_go dc_135_173, am_go dc_135_174, am_go dc_135_175, ld_11, am_go dc_135_179, am_go dc_135_180, am_go dc_135_183, fk_4_56_1, am_go dc_135_186, am_go dc_135_188, J_aaload, am_go dc_135_189, am_go dc_135_192, J_icmp_ge, am_go dc_135_195, am_go dc_135_196, am_go dc_135_199, am_go dc_135_201, am_go dc_135_203, cv_4_195_1 own_135, am_go dc_135_206, am_go dc_135_208, am_go dc_135_209, am_go dc_135_210, am_go dc_135_213, am_go dc_135_214, am_go dc_135_216, am_go dc_135_218, cv_4_124_1 own_135, am_go dc_135_221, am_go dc_135_222, ld_12, am_go dc_135_224, cm_4_198 own_135, mth_0, am_go dc_135_227, am_go dc_135_228, am_go dc_135_229, am_go dc_135_231, am_go dc_135_233, cs_4_225 own_135, am_go dc_135_236, am_go dc_135_238, am_go dc_135_239, am_go dc_135_242, am_go dc_135_243, am_go dc_135_245, am_go dc_135_247, cv_4_120_1 own_135, am_go dc_135_250, J_i2l, am_go dc_135_251, am_go dc_135_252, am_go dc_135_254, am_go dc_135_255, am_go dc_135_256, am_go dc_135_259, J_iinc, pinc_go, am_go dc_135_262, am_go dc_135_265, lg_4, lg_0, lg_13, lg_12, tg_0, lH_0, lH_1, lH_4, lH_5, lH_6, lH_7, lH_8, lw_1, lw_4, lw_5, lw_6, lw_7, lw_8, zI_add, zI_mul, zI_lt, zI_le, zI_eq, zI_neg, zI_pos, zI_ne0, zI_gt0, zB_0, lg_cmp_ge, lg_cmp_le, lg_cmp_gt, lg_cmp_lt, lg_cmp_eq, ail_r, abl_r, all_r, ais_r, abs_r, als_r, aal_r, aal_q, aln_r, vrf_s, vrf_n, z32, t0, t1, t3, t4, t6, t7, hix, hA, a2, kms, hk10, p0, hsub, h20, h20', h20'', p1, p2, w1, y1, List.length_cons, List.length_nil, Nat.reduceAdd, Nat.reduceLT, Nat.reduceLeDiff, Nat.reduceEqDiff, ↓reduceIte, bind_s, if_true, if_false, not_true_eq_false, not_false_eq_true, Nat.zero_add]
        · obtain ⟨g1, g2⟩ := w3 b hb
          obtain ⟨g3, g4⟩ := y3 b hb
          rw [g3, g4, g1, g2, Int64.add_assoc, Int64.add_assoc, ← Int64.mul_add, ← Int64.mul_add, ← hq, ← hq]
          exact ⟨rfl, rfl⟩
/-- followed anew -/
theorem l_followA (hG : qG R) (hr : rOk T R Q) (hS : ∀ u, tS C (lH h l (u, (t, m, a, N))) t T S0) (hC0 : qC S0 R) (hO : lOkk l (t, m, a, N)) (hN2 : N < 1000000) (hR : qRw R S) (hL : qPl S) (hk : plKn R T Q u N) : ∃ u', am_f X (d + 17) 133 [.ref l, .int (zI (pk (qDg S))), .int (zI (rkN T S)), .int (hdV T S (wN (R 116)))] (lH h l (u, (t, m, a, N)), z) = some (.inl none, (lH h l (u', (t, m, a, N)), z)) ∧ lFo u u' ∧ ∀ b, b < wN (R 116) → u'.2.1 12 b = qLf b false S ∧ u'.2.1 13 b = qLf b true S := by
  have hm5 := hG.m.2
  have f1 : am_f X (d + 16) 134 [.ref (l + 7), .long 0] (lH h l (u, (t, m, a, N)), z) = some (.inl none, (lH h l (mL u 12 (updrL (u.2.1 12) 0 5 (fun _ => 0)), (t, m, a, N)), z)) := by
    have := a_fillL (X := X) (d := d + 15) (z := z) (x := 0) (lH_7 (h := h) (l := l) (D := (u, (t, m, a, N)))) (by omega)
    rw [lw_7] at this
    exact this
  have f2 : am_f X (d + 16) 134 [.ref (l + 8), .long 0] (lH h l (mL u 12 (updrL (u.2.1 12) 0 5 (fun _ => 0)), (t, m, a, N)), z) = some (.inl none, (lH h l (mL (mL u 12 (updrL (u.2.1 12) 0 5 (fun _ => 0))) 13 (updrL (u.2.1 13) 0 5 (fun _ => 0)), (t, m, a, N)), z)) := by
    have := a_fillL (X := X) (d := d + 15) (z := z) (x := 0) (lH_8 (h := h) (l := l) (D := (mL u 12 (updrL (u.2.1 12) 0 5 (fun _ => 0)), (t, m, a, N)))) (by omega)
    rw [lw_8] at this
    simp only [mL_o (show 13 ≠ 12 by decide)] at this
    exact this
  have hF : lFo u (mL (mL u 12 (updrL (u.2.1 12) 0 5 (fun _ => 0))) 13 (updrL (u.2.1 13) 0 5 (fun _ => 0))) := ⟨rfl, fun j h1 h2 => by rw [mL_o h2, mL_o h1], rfl⟩
  obtain ⟨u', w1, w2, w3⟩ := l_fo (X := X) (d := d) (z := z) hG hr hS hC0 hO hN2 11 S 1 0 _ hR hL (by have := meas_le S; omega) (by have := meas_le S; omega) (by have := (ms_m hG hR hL).2; omega) (hF.kn hk)
  refine ⟨u', ?_, hF.tr w2, fun b hb => ?_⟩
  · have h1 : jI ((1 : Nat) : Int) = 1 := rfl
    rw [h1] at w1
    generalize hdV T S (wN (R 116)) = hd at *
    rw [fU_133]
    simp (disch := first | omega | exact Nat.le_of_ble_eq_true rfl | exact lH_ci) only [own_133, am_go dc_133_0, J_aload_0, K_al, ld_0, am_go dc_133_1, J_getfield, gf_r, fk_4_32_4, am_go dc_133_4, J_lconst, i64_0, am_go dc_133_5, cs_4_216 own_133, JR_v, JR_0, JR_ite, am_go dc_133_8, am_go dc_133_9, fk_4_35_4, am_go dc_133_12, am_go dc_133_13, am_go dc_133_16, am_go dc_133_17, J_iload_1, K_il, ld_1, am_go dc_133_18, J_iload_2, ld_2, am_go dc_133_19, J_iload_3, ld_3, am_go dc_133_20, i64_1, am_go dc_133_21, J_iconst, c32_0, am_go dc_133_22, cv_4_221_4 own_133, ci1_r, am_go dc_133_25, J_ret_v ret_133, lg_12, lg_13, lH_0, lH_1, lH_4, lH_5, lH_6, lH_7, lH_8, lw_1, lw_4, lw_5, lw_6, lw_7, lw_8, zI_add, zI_mul, zI_lt, zI_le, zI_eq, zI_neg, zI_pos, zI_ne0, zI_gt0, zB_0, lg_cmp_ge, lg_cmp_le, lg_cmp_gt, lg_cmp_lt, lg_cmp_eq, ail_r, abl_r, all_r, ais_r, abs_r, als_r, aal_r, aal_q, aln_r, vrf_s, vrf_n, z32, f1, f2, w1, List.length_cons, List.length_nil, Nat.reduceAdd, Nat.reduceLT, Nat.reduceLeDiff, Nat.reduceEqDiff, ↓reduceIte, bind_s, if_true, if_false, not_true_eq_false, not_false_eq_true, Nat.zero_add]
  · obtain ⟨g1, g2⟩ := w3 b hb
    have h1 : ∀ x : Int64, jI ((1 : Nat) : Int) * x = x := fun x => Int64.one_mul x
    rw [mL_o (show 12 ≠ 13 by decide), mL_s] at g1
    rw [mL_s] at g2
    unfold updrL at g1 g2
    rw [if_pos (by omega)] at g1 g2
    rw [g1, g2]
    simp only [h1, Int64.zero_add]
    exact ⟨trivial, trivial⟩
end PQ
