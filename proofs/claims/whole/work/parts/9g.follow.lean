/-! Plan: followOn -/
def lsm (S : Nat → Int32) (x b : Nat) (tk : Bool) : Nat → Nat → Int64
  | 0, _ => 0
  | k + 1, i => (qShows S x i).toInt64 * qLf b tk (upd S (90 + x) (zI (3 + i))) + lsm S x b tk k (i + 1)
section PO
variable {X : am_X} {C : Nat → Prop} {h : am_H} {l t m a N d r Q : Nat} {T : mU × (Nat → Option Nat)} {S R S0 : Nat → Int32} {z : Nat × Nat} {u : mU}
theorem lsm_lo {x b : Nat} {tk : Bool} (hG : qG R) (hR : qRw R S) (hL : qPl S) (hx : x < wN (R 116)) : ∀ (k i : Nat) (v : Int64), i + k ≤ wN (R (18 * x + 3)) → fo (q_lo S (qLf b tk) x) i k v = v + lsm S x b tk k i := by
  have h5 := hG.m.2
  have hn4 := (hG.n hx).2.2
  intro k
  induction k with
  | zero => exact fun i v _ => (Int64.add_zero v).symm
  | succ k ih =>
    intro i v hk
    show fo (q_lo S (qLf b tk) x) (i + 1) k (q_lo S (qLf b tk) x i v) = v + ((qShows S x i).toInt64 * qLf b tk (upd S (90 + x) (zI (3 + i))) + lsm S x b tk k (i + 1))
    rw [ih (i + 1) _ (by omega), ← Int64.add_assoc]
    congr 1
    unfold q_lo
    by_cases c : qShows S x i = 0
    · rw [if_pos c, c, show (0 : Int32).toInt64 = 0 from rfl, Int64.zero_mul, Int64.add_zero]
    · rw [if_neg c]
      by_cases c2 : qMass (upd S (90 + x) (zI (3 + i))) = 0
      · have hL' := hL.op hR hG hx (show i < wN (R (18 * x + 3)) by omega)
        rw [if_pos c2, Z0_L hG (hR.up (by omega)) hL' ((Z0_ms hG (hR.up (by omega)) hL').mp c2), Int64.mul_zero]
      · rw [if_neg c2]
theorem lsm_op {x : Nat} (hG : qG R) (hR : qRw R S) (hL : qPl S) (hx : x < wN (R 116)) : ∀ (k i : Nat), i + k ≤ wN (R (18 * x + 3)) → lsm S x x false k i = 0 := by
  have h5 := hG.m.2
  have hn4 := (hG.n hx).2.2
  intro k
  induction k with
  | zero => exact fun i _ => rfl
  | succ k ih =>
    intro i hk
    show (qShows S x i).toInt64 * qLf x false (upd S (90 + x) (zI (3 + i))) + lsm S x x false k (i + 1) = 0
    have : qLf x false (upd S (90 + x) (zI (3 + i))) = 0 := op_L hG 11 _ (hR.up (by omega)) (hL.op hR hG hx (by omega)) (by rw [hw_up (by omega)]; omega) (by omega)
    rw [ih (i + 1) (by omega), this, Int64.mul_zero]
    rfl
theorem l_fo_l {x sh k0 : Nat} {x7 : Int32} {x8 : Int64} (hG : qG R) (hr : rOk T R Q) (hS : ∀ u, tS C (lH h l (u, (t, m, a, N))) t T S0) (hC0 : qC S0 R) (hR : qRw R S) (hL : qPl S) (hx : x < wN (R 116)) (ho : hw S x ≤ 2) (hk0 : k0 < 1000) (ih : ∀ i c u, i < wN (R (18 * x + 3)) → qShows S x i = zI c → c ≤ mf R S x → plKn R T Q u N → ∃ u', am_f X (d + 4) 135 [.ref l, .int (zI (pk (qDg (upd S (90 + x) (zI (3 + i)))))), .int (zI (rkN T (upd S (90 + x) (zI (3 + i))))), .int (hdV T (upd S (90 + x) (zI (3 + i))) (wN (R 116))), .long (jI ((sh * c : Nat) : Int)), .int (zI (k0 + 1))] (lH h l (u, (t, m, a, N)), z) = some (.inl none, (lH h l (u', (t, m, a, N)), z)) ∧ lFo u u' ∧ lGr u u' (wN (R 116)) (fun tk b => jI ((sh * c : Nat) : Int) * qLf b tk (upd S (90 + x) (zI (3 + i))))) : ∀ (k i : Nat) (u : mU) (v12 : Option Value), i + k = wN (R (18 * x + 3)) → plKn R T Q u N → ∃ u', am_I X (am_f X (d + 4)) 135 177 [some (.ref l), some (.int (zI (pk (qDg S)))), some (.int (zI (rkN T S))), some (.int (hdV T S (wN (R 116)))), some (.long (jI ((sh : Nat) : Int))), none, some (.int (zI k0)), some (.int x7), some (.long x8), none, some (.int (zI x)), some (.int (zI i)), v12] [] (lH h l (u, (t, m, a, N)), z) = some (.inl none, (lH h l (u', (t, m, a, N)), z)) ∧ lFo u u' ∧ lGr u u' (wN (R 116)) (fun tk b => jI ((sh : Nat) : Int) * lsm S x b tk k i) := by
  have t0 := fun u => (hS u).iT.c0
  have t1 := fun u => (hS u).iT.c1
  have t3 := fun u => (hS u).iT.c3
  have t4 := fun u => (hS u).iT.c4
  have t6 := fun u => (hS u).iT.c6
  have t7 := fun u => (hS u).iT.c7
  have hm5 := hG.m.2
  have hn4 := (hG.n hx).2.2
  have hx0 : x < wN (S0 116) := by rw [← hC0.m]; exact hx
  have h33 : R (18 * x + 3) = S0 (18 * x + 3) := hC0.rr (by omega) (by omega) (by omega)
  have hn3 : wN (qRow S0 x 3) = wN (R (18 * x + 3)) := congrArg wN h33.symm
  have hQ := hr.2.2.1
  obtain ⟨-, r1, -, -⟩ := lk_rk hr hG hR hL
  intro k
  induction k with
  | zero =>
    intro i u v12 hi hk
    obtain ⟨a', bb, ha, hB⟩ := (hS u).box hx0
    have hi' : wN (R (18 * x + 3)) ≤ i := by omega
    refine ⟨u, ?_, lFo.rf, fun b hb => ?_⟩
    · rw [am_go dc_135_177]
      simp (disch := first | omega | exact Nat.le_of_ble_eq_true rfl | exact lH_ci | (refine lF_lt ?_; omega) | exact (hS _).iT.ci) only [own_135, am_go dc_135_0, J_aload_0, K_al, ld_0, am_go dc_135_1, J_getfield, gf_r, fk_4_19_4, am_go dc_135_4, am_go dc_135_5, fk_4_38_4, am_go dc_135_8, J_iload_1, K_il, ld_1, am_go dc_135_9, J_iload_2, ld_2, am_go dc_135_10, cv_4_150_1 own_135, JR_v, JR_0, JR_ite, ci1_r, am_go dc_135_13, J_iaload, am_go dc_135_14, J_istore, st1_0, st1_1, st1_s, kl_i, kl_l, kl_r, kl_n, am_go dc_135_16, J_lload, K_ll, ld_4, am_go dc_135_18, am_go dc_135_19, am_go dc_135_22, am_go dc_135_23, cv_4_93_1 own_135, am_go dc_135_26, J_lmul, am_go dc_135_27, J_lstore, st2_0, st2_1, st2_s, am_go dc_135_29, ld_8, am_go dc_135_31, J_lconst, i64_0, am_go dc_135_32, J_lcmp, am_go dc_135_33, J_if_eq, am_go dc_135_36, J_iload, ld_6, am_go dc_135_38, J_bipush, c8_10, am_go dc_135_40, J_icmp_le, am_go dc_135_43, J_ret_v ret_135, am_go dc_135_44, ld_7, am_go dc_135_46, J_if_ne, am_go dc_135_49, J_iload_3, ld_3, am_go dc_135_50, J_if_lt, am_go dc_135_53, am_go dc_135_54, fk_4_35_4, am_go dc_135_57, am_go dc_135_58, J_dup2_l, J_dup2_ir, am_go dc_135_59, J_laload, am_go dc_135_60, am_go dc_135_62, J_ladd, am_go dc_135_63, J_lastore, am_go dc_135_64, J_goto, am_go dc_135_67, am_go dc_135_69, c8_30, am_go dc_135_71, J_icmp_lt, am_go dc_135_74, am_go dc_135_75, am_go dc_135_78, am_go dc_135_80, am_go dc_135_82, J_isub, am_go dc_135_83, am_go dc_135_84, am_go dc_135_85, am_go dc_135_87, am_go dc_135_88, am_go dc_135_89, am_go dc_135_92, am_go dc_135_94, c8_20, am_go dc_135_96, am_go dc_135_99, am_go dc_135_101, am_go dc_135_103, am_go dc_135_104, am_go dc_135_106, am_go dc_135_107, am_go dc_135_108, am_go dc_135_111, am_go dc_135_112, ld_10, am_go dc_135_114, J_iconst, c32_1, am_go dc_135_115, cv_4_166_1 own_135, am_go dc_135_118, am_go dc_135_119, am_go dc_135_120, am_go dc_135_122, am_go dc_135_124, am_go dc_135_125, J_iadd, am_go dc_135_126, cv_4_221_4 own_135, am_go dc_135_129, am_go dc_135_130, am_go dc_135_131, am_go dc_135_134, am_go dc_135_135, am_go dc_135_137, c32_0, am_go dc_135_138, am_go dc_135_141, am_go dc_135_142, am_go dc_135_143, am_go dc_135_145, am_go dc_135_147, am_go dc_135_148, am_go dc_135_149, am_go dc_135_152, am_go dc_135_155, am_go dc_135_157, am_go dc_135_159, am_go dc_135_160, am_go dc_135_162, am_go dc_135_163, fk_4_32_4, am_go dc_135_166, am_go dc_135_168, am_go dc_135_169, am_go dc_135_170, am_go dc_135_172, am_go dc_135_173, am_go dc_135_174, am_go dc_135_175, ld_11, am_go dc_135_179, am_go dc_135_180, am_go dc_135_183, fk_4_56_1, am_go dc_135_186, am_go dc_135_188, J_aaload, am_go dc_135_189, am_go dc_135_192, J_icmp_ge, am_go dc_135_195, am_go dc_135_196, am_go dc_135_199, am_go dc_135_201, am_go dc_135_203, cv_4_195_1 own_135, am_go dc_135_206, am_go dc_135_208, am_go dc_135_209, am_go dc_135_210, am_go dc_135_213, am_go dc_135_214, am_go dc_135_216, am_go dc_135_218, cv_4_124_1 own_135, am_go dc_135_221, am_go dc_135_222, ld_12, am_go dc_135_224, cm_4_198 own_135, mth_0, am_go dc_135_227, am_go dc_135_228, am_go dc_135_229, am_go dc_135_231, am_go dc_135_233, cs_4_225 own_135, am_go dc_135_236, am_go dc_135_238, am_go dc_135_239, am_go dc_135_242, am_go dc_135_243, am_go dc_135_245, am_go dc_135_247, cv_4_120_1 own_135, am_go dc_135_250, J_i2l, am_go dc_135_251, am_go dc_135_252, am_go dc_135_254, am_go dc_135_255, am_go dc_135_256, am_go dc_135_259, J_iinc, pinc_go, am_go dc_135_262, am_go dc_135_265, lg_4, lg_0, lg_13, lg_12, tg_0, lH_0, lH_1, lH_4, lH_5, lH_6, lH_7, lH_8, lw_1, lw_4, lw_5, lw_6, lw_7, lw_8, zI_add, zI_mul, zI_lt, zI_le, zI_eq, zI_neg, zI_pos, zI_ne0, zI_gt0, zB_0, lg_cmp_ge, lg_cmp_le, lg_cmp_gt, lg_cmp_lt, lg_cmp_eq, ail_r, abl_r, all_r, ais_r, abs_r, als_r, aal_r, aal_q, aln_r, vrf_s, vrf_n, z32, t0, t1, t3, t4, t6, t7, ha, vx_4_117 own_135 hB, hn3, hi', List.length_cons, List.length_nil, Nat.reduceAdd, Nat.reduceLT, Nat.reduceLeDiff, Nat.reduceEqDiff, ↓reduceIte, bind_s, if_true, if_false, not_true_eq_false, not_false_eq_true, Nat.zero_add]
    · show _ = _ + jI ((sh : Nat) : Int) * 0 ∧ _ = _ + jI ((sh : Nat) : Int) * 0
      rw [Int64.mul_zero, Int64.add_zero, Int64.add_zero]
      exact ⟨rfl, rfl⟩
  | succ k ihk =>
    intro i u v12 hi hk
    obtain ⟨a', bb, ha, hB⟩ := (hS u).box hx0
    have hii : i < wN (R (18 * x + 3)) := by omega
    have hlt : ¬ wN (R (18 * x + 3)) ≤ i := by omega
    have kch : am_f X (d + 4) 85 [.ref t, .int (zI (pk (qDg S))), .int (zI x), .int (zI i)] (lH h l (u, (t, m, a, N)), z) = _ := c_chanceAt (X := X) (d := d + 2) (z := z) (hS u) qDg_ok hx0 (by rw [← h33]; exact hii)
    rw [← cg_ch hC0 (by omega) (by omega), lk_ch hG hR hL hx (by omega) ho] at kch
    obtain ⟨c, c1, c2, c3⟩ := sh_mf hG hR hL hx hii ho
    have kao : am_f X (d + 4) 73 [.ref t, .int (zI (pk (qDg S))), .int (zI x), .int (zI i)] (lH h l (u, (t, m, a, N)), z) = _ := c_afterOpening (X := X) (d := d + 3) (z := z) (hS u) qDg_ok hx0 (by omega)
    rw [← cg_ao hC0 (by omega), lk_ao hR hL hx hm5 (by omega) ho] at kao
    have ksr : am_f X (d + 4) 91 [.ref t, .int (zI x), .int (zI i)] (lH h l (u, (t, m, a, N)), z) = _ := c_stepRank (X := X) (d := d + 3) (z := z) (hS u).iT (show x < 5 by omega) (show i < 4 by omega)
    obtain ⟨s1, s2, -⟩ := hr.sr hx hii
    rw [s1] at ksr
    have hmx := lk_mx hr hG hR hL (hL.op hR hG hx hii) hx hii ho
    have hha := lk_ha hr hG hR hL (hL.op hR hG hx hii) hx hii ho
    obtain ⟨u1, kr, kf, kg⟩ := ih i c u hii c1 c3 hk
    rw [hmx] at kr
    have hcond : (if zI (rkN T S) < zI (wN (T.1.1 6 (4 * x + i))) then zI (wN (T.1.1 6 (4 * x + i))) else zI (rkN T S)) = zI (rMx T (rkN T S) (4 * x + i)) := by
      unfold rMx
      simp only [zI_lt (show rkN T S < 2147483648 by omega) (show wN (T.1.1 6 (4 * x + i)) < 2147483648 by omega)]
      split <;> rfl
    have khd : am_f X (d + 4) 136 [.int (hdV T S (wN (R 116))), .int (zI (rkN T S)), .int (zI x), .int (zI (wN (T.1.1 6 (4 * x + i))))] (lH h l (u, (t, m, a, N)), z) = some (.inl (some (.int (hdV T (upd S (90 + x) (zI (3 + i))) (wN (R 116))))), (lH h l (u, (t, m, a, N)), z)) := by
      have e : hdV T (upd S (90 + x) (zI (3 + i))) (wN (R 116)) = hAf (hdV T S (wN (R 116))) (rkN T S) x (wN (T.1.1 6 (4 * x + i))) := by
        rw [hha]
        unfold hAf
        rw [mn_c]
      rw [e]
      exact l_holder (X := X) (d := d + 3) (by omega) (by omega)
    have hsc : jI ((sh : Nat) : Int) * (zI c).toInt64 = jI ((sh * c : Nat) : Int) := by
      rw [jI_z (by omega), jI_mul, Int.natCast_mul]
    rw [c1] at kch
    obtain ⟨u', w1, w2, w3⟩ := ihk (i + 1) u1 (some (.int (zI (wN (T.1.1 6 (4 * x + i)))))) (by omega) (kf.kn hk)
    refine ⟨u', Eq.trans ?_ w1, kf.tr w2, fun b hb => ?_⟩
    · generalize rMx T (rkN T S) (4 * x + i) = q1 at *
      generalize wN (T.1.1 6 (4 * x + i)) = q2 at *
      generalize hdV T (upd S (90 + x) (zI (3 + i))) (wN (R 116)) = q4 at *
      rw [am_go dc_135_177]
      simp (disch := first | omega | exact Nat.le_of_ble_eq_true rfl | exact lH_ci | (refine lF_lt ?_; omega) | exact (hS _).iT.ci) only [own_135, am_go dc_135_0, J_aload_0, K_al, ld_0, am_go dc_135_1, J_getfield, gf_r, fk_4_19_4, am_go dc_135_4, am_go dc_135_5, fk_4_38_4, am_go dc_135_8, J_iload_1, K_il, ld_1, am_go dc_135_9, J_iload_2, ld_2, am_go dc_135_10, cv_4_150_1 own_135, JR_v, JR_0, JR_ite, ci1_r, am_go dc_135_13, J_iaload, am_go dc_135_14, J_istore, st1_0, st1_1, st1_s, kl_i, kl_l, kl_r, kl_n, am_go dc_135_16, J_lload, K_ll, ld_4, am_go dc_135_18, am_go dc_135_19, am_go dc_135_22, am_go dc_135_23, cv_4_93_1 own_135, am_go dc_135_26, J_lmul, am_go dc_135_27, J_lstore, st2_0, st2_1, st2_s, am_go dc_135_29, ld_8, am_go dc_135_31, J_lconst, i64_0, am_go dc_135_32, J_lcmp, am_go dc_135_33, J_if_eq, am_go dc_135_36, J_iload, ld_6, am_go dc_135_38, J_bipush, c8_10, am_go dc_135_40, J_icmp_le, am_go dc_135_43, J_ret_v ret_135, am_go dc_135_44, ld_7, am_go dc_135_46, J_if_ne, am_go dc_135_49, J_iload_3, ld_3, am_go dc_135_50, J_if_lt, am_go dc_135_53, am_go dc_135_54, fk_4_35_4, am_go dc_135_57, am_go dc_135_58, J_dup2_l, J_dup2_ir, am_go dc_135_59, J_laload, am_go dc_135_60, am_go dc_135_62, J_ladd, am_go dc_135_63, J_lastore, am_go dc_135_64, J_goto, am_go dc_135_67, am_go dc_135_69, c8_30, am_go dc_135_71, J_icmp_lt, am_go dc_135_74, am_go dc_135_75, am_go dc_135_78, am_go dc_135_80, am_go dc_135_82, J_isub, am_go dc_135_83, am_go dc_135_84, am_go dc_135_85, am_go dc_135_87, am_go dc_135_88, am_go dc_135_89, am_go dc_135_92, am_go dc_135_94, c8_20, am_go dc_135_96, am_go dc_135_99, am_go dc_135_101, am_go dc_135_103, am_go dc_135_104, am_go dc_135_106, am_go dc_135_107, am_go dc_135_108, am_go dc_135_111, am_go dc_135_112, ld_10, am_go dc_135_114, J_iconst, c32_1, am_go dc_135_115, cv_4_166_1 own_135, am_go dc_135_118, am_go dc_135_119, am_go dc_135_120, am_go dc_135_122, am_go dc_135_124, am_go dc_135_125, J_iadd, am_go dc_135_126, cv_4_221_4 own_135, am_go dc_135_129, am_go dc_135_130, am_go dc_135_131, am_go dc_135_134, am_go dc_135_135, am_go dc_135_137, c32_0, am_go dc_135_138, am_go dc_135_141, am_go dc_135_142, am_go dc_135_143, am_go dc_135_145, am_go dc_135_147, am_go dc_135_148, am_go dc_135_149, am_go dc_135_152, am_go dc_135_155, am_go dc_135_157, am_go dc_135_159, am_go dc_135_160, am_go dc_135_162, am_go dc_135_163, fk_4_32_4, am_go dc_135_166, am_go dc_135_168, am_go dc_135_169, am_go dc_135_170, am_go dc_135_172, am_go dc_135_173, am_go dc_135_174, am_go dc_135_175, ld_11, am_go dc_135_179, am_go dc_135_180, am_go dc_135_183, fk_4_56_1, am_go dc_135_186, am_go dc_135_188, J_aaload, am_go dc_135_189, am_go dc_135_192, J_icmp_ge, am_go dc_135_195, am_go dc_135_196, am_go dc_135_199, am_go dc_135_201, am_go dc_135_203, cv_4_195_1 own_135, am_go dc_135_206, am_go dc_135_208, am_go dc_135_209, am_go dc_135_210, am_go dc_135_213, am_go dc_135_214, am_go dc_135_216, am_go dc_135_218, cv_4_124_1 own_135, am_go dc_135_221, am_go dc_135_222, ld_12, am_go dc_135_224, cm_4_198 own_135, mth_0, am_go dc_135_227, am_go dc_135_228, am_go dc_135_229, am_go dc_135_231, am_go dc_135_233, cs_4_225 own_135, am_go dc_135_236, am_go dc_135_238, am_go dc_135_239, am_go dc_135_242, am_go dc_135_243, am_go dc_135_245, am_go dc_135_247, cv_4_120_1 own_135, am_go dc_135_250, J_i2l, am_go dc_135_251, am_go dc_135_252, am_go dc_135_254, am_go dc_135_255, am_go dc_135_256, am_go dc_135_259, J_iinc, pinc_go, am_go dc_135_262, am_go dc_135_265, lg_4, lg_0, lg_13, lg_12, tg_0, lH_0, lH_1, lH_4, lH_5, lH_6, lH_7, lH_8, lw_1, lw_4, lw_5, lw_6, lw_7, lw_8, zI_add, zI_mul, zI_le, zI_eq, zI_neg, zI_pos, zI_ne0, zI_gt0, zB_0, lg_cmp_ge, lg_cmp_le, lg_cmp_gt, lg_cmp_lt, lg_cmp_eq, ail_r, abl_r, all_r, ais_r, abs_r, als_r, aal_r, aal_q, aln_r, vrf_s, vrf_n, z32, t0, t1, t3, t4, t6, t7, ha, vx_4_117 own_135 hB, hn3, hlt, kch, kao, ksr, khd, hsc, kr, hcond, List.length_cons, List.length_nil, Nat.reduceAdd, Nat.reduceLT, Nat.reduceLeDiff, Nat.reduceEqDiff, ↓reduceIte, bind_s, if_true, if_false, not_true_eq_false, not_false_eq_true, Nat.zero_add]
    · obtain ⟨g1, g2⟩ := kg b hb
      obtain ⟨g3, g4⟩ := w3 b hb
      have key : ∀ tk, jI ((sh * c : Nat) : Int) * qLf b tk (upd S (90 + x) (zI (3 + i))) + jI ((sh : Nat) : Int) * lsm S x b tk k (i + 1) = jI ((sh : Nat) : Int) * lsm S x b tk (k + 1) i := fun tk => by
        show _ = jI ((sh : Nat) : Int) * ((qShows S x i).toInt64 * qLf b tk (upd S (90 + x) (zI (3 + i))) + lsm S x b tk k (i + 1))
        rw [c1, Int64.mul_add, ← Int64.mul_assoc, hsc]
      rw [g3, g4, g1, g2, Int64.add_assoc, Int64.add_assoc, key false, key true]
      exact ⟨rfl, rfl⟩
end PO
