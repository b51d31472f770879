/-! Plan: the rule's mean -/
def lv2 (w : Nat) : Nat := if w ≤ 2 then 1 else 0
/-- how many are not open -/
def uo (S : Nat → Int32) : Nat := lv2 (hw S 0) + lv2 (hw S 1) + lv2 (hw S 2) + lv2 (hw S 3) + lv2 (hw S 4)
theorem uo_le (S : Nat → Int32) : uo S ≤ 5 := by
  have : ∀ w, lv2 w ≤ 1 := fun w => by
    unfold lv2
    split <;> omega
  have h0 := this (hw S 0)
  have h1 := this (hw S 1)
  have h2 := this (hw S 2)
  have h3 := this (hw S 3)
  have h4 := this (hw S 4)
  unfold uo
  omega
theorem uo_up {S : Nat → Int32} {b i : Nat} (hb : b < 5) (hi : i < 4) (ho : hw S b ≤ 2) : uo (upd S (90 + b) (zI (3 + i))) + 1 = uo S := by
  have e1 : lv2 (hw S b) = 1 := if_pos ho
  have e2 : lv2 (hw (upd S (90 + b) (zI (3 + i))) b) = 0 := by rw [hw_up (by omega)]; exact if_neg (by omega)
  have e3 : ∀ c, c ≠ b → hw (upd S (90 + b) (zI (3 + i))) c = hw S c := fun c hc => hw_uo hc
  unfold uo
  rcases (by omega : b = 0 ∨ b = 1 ∨ b = 2 ∨ b = 3 ∨ b = 4) with rfl | rfl | rfl | rfl | rfl
  · rw [e3 1 (by omega), e3 2 (by omega), e3 3 (by omega), e3 4 (by omega), e1, e2]; all_goals omega
  · rw [e3 0 (by omega), e3 2 (by omega), e3 3 (by omega), e3 4 (by omega), e1, e2]; all_goals omega
  · rw [e3 0 (by omega), e3 1 (by omega), e3 3 (by omega), e3 4 (by omega), e1, e2]; all_goals omega
  · rw [e3 0 (by omega), e3 1 (by omega), e3 2 (by omega), e3 4 (by omega), e1, e2]; all_goals omega
  · rw [e3 0 (by omega), e3 1 (by omega), e3 2 (by omega), e3 3 (by omega), e1, e2]; all_goals omega
theorem uo_pos {S : Nat → Int32} {b : Nat} (hb : b < 5) (ho : hw S b ≤ 2) : 1 ≤ uo S := by
  have e1 : lv2 (hw S b) = 1 := if_pos ho
  unfold uo
  rcases (by omega : b = 0 ∨ b = 1 ∨ b = 2 ∨ b = 3 ∨ b = 4) with rfl | rfl | rfl | rfl | rfl <;> omega
section PMn
variable {X : am_X} {C : Nat → Prop} {h : am_H} {l t m a N d r Q : Nat} {T : mU × (Nat → Option Nat)} {S R : Nat → Int32} {z : Nat × Nat} {u : mU}
theorem sh_v {b i : Nat} (hG : qG R) (hR : qRw R S) (hb : b < wN (R 116)) (hi : i < wN (R (18 * b + 3))) : ∃ c, qShows S b i = zI c ∧ c ≤ 100 := by
  have h5 := hG.m.2
  have := qSh_ok (qG_R hG hR) (show b < wN (S 116) by rw [hR.m]; exact hb) (show i < wN (S (18 * b + 3)) by rw [hR.r (by omega) (by omega)]; exact hi)
  exact ⟨_, this.1, this.2⟩
theorem l_rm_l {b k0 : Nat} {x4 : Int64} (hG : qG R) (hr : rOk T R Q) (hS : ∀ u, tS C (lH h l (u, (t, m, a, N))) t T R) (hR : qRw R S) (hL : qPl S) (hb : b < wN (R 116)) (ho : hw S b ≤ 2) (hk0 : k0 < 5) (ih : ∀ i, i < wN (R (18 * b + 3)) → am_f X (d + 4) 106 [.ref l, .int (zI (pk (qDg (upd S (90 + b) (zI (3 + i)))))), .int (zI (rkN T (upd S (90 + b) (zI (3 + i))))), .int (zI (k0 + 1))] (lH h l (u, (t, m, a, N)), z) = some (.inl (some (.long (qRm (upd S (90 + b) (zI (3 + i)))))), (lH h l (u, (t, m, a, N)), z))) : ∀ (k i : Nat) (v : Int64) (v10 v11 : Option Value), i + k = wN (R (18 * b + 3)) → am_I X (am_f X (d + 4)) 106 65 [some (.ref l), some (.int (zI (pk (qDg S)))), some (.int (zI (rkN T S))), some (.int (zI k0)), some (.int (zI b)), some (.long x4), none, some (.long v), none, some (.int (zI i)), v10, v11] [] (lH h l (u, (t, m, a, N)), z) = some (.inl (some (.long (fo (q_opn S qRm b) i k v))), (lH h l (u, (t, m, a, N)), z)) := by
  have t0 := (hS u).iT.c0
  have t1 := (hS u).iT.c1
  have t3 := (hS u).iT.c3
  have t4 := (hS u).iT.c4
  have t6 := (hS u).iT.c6
  have t7 := (hS u).iT.c7
  have hsz := (hS u).sz
  have hm5 := (hS u).m5
  have hn4 := (hG.n hb).2.2
  obtain ⟨a', bb, ha, hB⟩ := (hS u).box hb
  have hn3 : wN (qRow R b 3) = wN (R (18 * b + 3)) := rfl
  have hQ := hr.2.2.1
  obtain ⟨-, r1, -, -⟩ := lk_rk hr hG hR hL
  intro k
  induction k with
  | zero =>
    intro i v v10 v11 hi
    have hi' : wN (R (18 * b + 3)) ≤ i := by omega
    rw [am_go dc_106_65]
    simp (disch := first | omega | exact Nat.le_of_ble_eq_true rfl | exact lH_ci | (refine lF_lt ?_; omega) | exact (hS _).iT.ci) only [own_106, am_go dc_106_0, J_aload_0, K_al, ld_0, am_go dc_106_1, J_iload_1, K_il, ld_1, am_go dc_106_2, J_iload_2, ld_2, am_go dc_106_3, cv_4_192_4 own_106, JR_v, JR_0, JR_ite, ci1_r, am_go dc_106_6, J_istore, st1_0, st1_1, st1_s, kl_i, kl_l, kl_r, kl_n, am_go dc_106_8, am_go dc_106_9, J_getfield, gf_r, fk_4_38_4, am_go dc_106_12, am_go dc_106_13, cv_4_93_1 own_106, am_go dc_106_16, J_lstore, st2_0, st2_1, st2_s, am_go dc_106_18, J_iload, ld_4, am_go dc_106_20, J_if_lt, am_go dc_106_23, J_iload_3, ld_3, am_go dc_106_24, J_iconst, c32_5, am_go dc_106_25, J_icmp_lt, am_go dc_106_28, am_go dc_106_29, am_go dc_106_32, fk_4_157_1, am_go dc_106_35, am_go dc_106_36, J_iaload, am_go dc_106_37, J_i2l, am_go dc_106_38, J_lload, K_ll, ld_5, am_go dc_106_40, J_lmul, am_go dc_106_41, J_ret_l ret_106, am_go dc_106_42, am_go dc_106_43, am_go dc_106_46, fk_4_56_1, am_go dc_106_49, am_go dc_106_51, J_aaload, am_go dc_106_52, am_go dc_106_55, J_ineg, am_go dc_106_56, am_go dc_106_57, am_go dc_106_59, am_go dc_106_60, am_go dc_106_62, c32_0, am_go dc_106_63, ld_9, am_go dc_106_67, am_go dc_106_68, am_go dc_106_71, am_go dc_106_74, am_go dc_106_76, am_go dc_106_77, am_go dc_106_80, J_icmp_ge, am_go dc_106_83, am_go dc_106_84, am_go dc_106_87, am_go dc_106_88, am_go dc_106_90, am_go dc_106_92, cv_4_120_1 own_106, am_go dc_106_95, am_go dc_106_97, ld_10, am_go dc_106_99, J_if_le, am_go dc_106_102, am_go dc_106_103, am_go dc_106_104, am_go dc_106_107, am_go dc_106_109, am_go dc_106_111, cv_4_195_1 own_106, am_go dc_106_114, cm_4_198 own_106, mth_0, am_go dc_106_117, am_go dc_106_119, ld_7, am_go dc_106_121, am_go dc_106_123, am_go dc_106_124, am_go dc_106_125, am_go dc_106_126, am_go dc_106_129, am_go dc_106_130, am_go dc_106_132, am_go dc_106_134, cv_4_124_1 own_106, am_go dc_106_137, ld_11, am_go dc_106_139, am_go dc_106_140, c32_1, am_go dc_106_141, J_iadd, am_go dc_106_142, cv_4_188_4 own_106, am_go dc_106_145, am_go dc_106_146, J_ladd, am_go dc_106_147, am_go dc_106_149, J_iinc, pinc_go, am_go dc_106_152, J_goto, am_go dc_106_155, am_go dc_106_157, lg_0, tg_4, tg_0, lH_0, lH_1, lH_4, lH_5, lH_6, lH_7, lH_8, lw_1, lw_4, lw_5, lw_6, lw_7, lw_8, zI_add, zI_mul, zI_lt, zI_le, zI_eq, zI_neg, zI_pos, zI_ne0, zI_gt0, zB_0, lg_cmp_ge, lg_cmp_le, lg_cmp_gt, lg_cmp_lt, lg_cmp_eq, ail_r, abl_r, all_r, ais_r, abs_r, als_r, aal_r, aal_q, aln_r, vrf_s, vrf_n, z32, t0, t1, t3, t4, t6, t7, hsz, ha, vx_4_117 own_106 hB, hn3, hi', List.length_cons, List.length_nil, Nat.reduceAdd, Nat.reduceLT, Nat.reduceLeDiff, Nat.reduceEqDiff, ↓reduceIte, bind_s, if_true, if_false, not_true_eq_false, not_false_eq_true, Nat.zero_add]
    all_goals rfl
  | succ k ihk =>
    intro i v v10 v11 hi
    have hii : i < wN (R (18 * b + 3)) := by omega
    have hlt : ¬ wN (R (18 * b + 3)) ≤ i := by omega
    have kch : am_f X (d + 4) 85 [.ref t, .int (zI (pk (qDg S))), .int (zI b), .int (zI i)] (lH h l (u, (t, m, a, N)), z) = _ := c_chanceAt (X := X) (d := d + 2) (z := z) (hS u) qDg_ok hb hii
    rw [lk_ch hG hR hL hb (by omega) ho] at kch
    obtain ⟨c, c1, c2⟩ := sh_v hG hR hb hii
    have hfo : fo (q_opn S qRm b) i (k + 1) v = fo (q_opn S qRm b) (i + 1) k (q_opn S qRm b i v) := rfl
    rw [hfo]
    have hq : q_opn S qRm b i v = if qShows S b i = 0 then v else v + (qShows S b i).toInt64 * qRm (upd S (90 + b) (zI (3 + i))) := rfl
    rw [hq]
    rw [c1] at kch ⊢
    have ez : (zI c = 0) = (c = 0) := zI_ne0 (by omega)
    simp only [ez]
    by_cases c0 : c = 0
    · rw [if_pos c0]
      have cle : c ≤ 0 := by omega
      refine Eq.trans ?_ (ihk (i + 1) v (some (.int (zI c))) v11 (by omega))
      rw [am_go dc_106_65]
      simp (disch := first | omega | exact Nat.le_of_ble_eq_true rfl | exact lH_ci | (refine lF_lt ?_; omega) | exact (hS _).iT.ci) only [own_106, am_go dc_106_0, J_aload_0, K_al, ld_0, am_go dc_106_1, J_iload_1, K_il, ld_1, am_go dc_106_2, J_iload_2, ld_2, am_go dc_106_3, cv_4_192_4 own_106, JR_v, JR_0, JR_ite, ci1_r, am_go dc_106_6, J_istore, st1_0, st1_1, st1_s, kl_i, kl_l, kl_r, kl_n, am_go dc_106_8, am_go dc_106_9, J_getfield, gf_r, fk_4_38_4, am_go dc_106_12, am_go dc_106_13, cv_4_93_1 own_106, am_go dc_106_16, J_lstore, st2_0, st2_1, st2_s, am_go dc_106_18, J_iload, ld_4, am_go dc_106_20, J_if_lt, am_go dc_106_23, J_iload_3, ld_3, am_go dc_106_24, J_iconst, c32_5, am_go dc_106_25, J_icmp_lt, am_go dc_106_28, am_go dc_106_29, am_go dc_106_32, fk_4_157_1, am_go dc_106_35, am_go dc_106_36, J_iaload, am_go dc_106_37, J_i2l, am_go dc_106_38, J_lload, K_ll, ld_5, am_go dc_106_40, J_lmul, am_go dc_106_41, J_ret_l ret_106, am_go dc_106_42, am_go dc_106_43, am_go dc_106_46, fk_4_56_1, am_go dc_106_49, am_go dc_106_51, J_aaload, am_go dc_106_52, am_go dc_106_55, J_ineg, am_go dc_106_56, am_go dc_106_57, am_go dc_106_59, am_go dc_106_60, am_go dc_106_62, c32_0, am_go dc_106_63, ld_9, am_go dc_106_67, am_go dc_106_68, am_go dc_106_71, am_go dc_106_74, am_go dc_106_76, am_go dc_106_77, am_go dc_106_80, J_icmp_ge, am_go dc_106_83, am_go dc_106_84, am_go dc_106_87, am_go dc_106_88, am_go dc_106_90, am_go dc_106_92, cv_4_120_1 own_106, am_go dc_106_95, am_go dc_106_97, ld_10, am_go dc_106_99, J_if_le, am_go dc_106_102, am_go dc_106_103, am_go dc_106_104, am_go dc_106_107, am_go dc_106_109, am_go dc_106_111, cv_4_195_1 own_106, am_go dc_106_114, cm_4_198 own_106, mth_0, am_go dc_106_117, am_go dc_106_119, ld_7, am_go dc_106_121, am_go dc_106_123, am_go dc_106_124, am_go dc_106_125, am_go dc_106_126, am_go dc_106_129, am_go dc_106_130, am_go dc_106_132, am_go dc_106_134, cv_4_124_1 own_106, am_go dc_106_137, ld_11, am_go dc_106_139, am_go dc_106_140, c32_1, am_go dc_106_141, J_iadd, am_go dc_106_142, cv_4_188_4 own_106, am_go dc_106_145, am_go dc_106_146, J_ladd, am_go dc_106_147, am_go dc_106_149, J_iinc, pinc_go, am_go dc_106_152, J_goto, am_go dc_106_155, am_go dc_106_157, lg_0, tg_4, tg_0, lH_0, lH_1, lH_4, lH_5, lH_6, lH_7, lH_8, lw_1, lw_4, lw_5, lw_6, lw_7, lw_8, zI_add, zI_mul, zI_lt, zI_le, zI_eq, zI_neg, zI_pos, zI_ne0, zI_gt0, zB_0, lg_cmp_ge, lg_cmp_le, lg_cmp_gt, lg_cmp_lt, lg_cmp_eq, ail_r, abl_r, all_r, ais_r, abs_r, als_r, aal_r, aal_q, aln_r, vrf_s, vrf_n, z32, t0, t1, t3, t4, t6, t7, hsz, ha, vx_4_117 own_106 hB, hn3, hlt, kch, zI_le0, cle, List.length_cons, List.length_nil, Nat.reduceAdd, Nat.reduceLT, Nat.reduceLeDiff, Nat.reduceEqDiff, ↓reduceIte, bind_s, if_true, if_false, not_true_eq_false, not_false_eq_true, Nat.zero_add]
    · rw [if_neg c0]
      have cle : ¬ c ≤ 0 := by omega
      have kao : am_f X (d + 4) 73 [.ref t, .int (zI (pk (qDg S))), .int (zI b), .int (zI i)] (lH h l (u, (t, m, a, N)), z) = _ := c_afterOpening (X := X) (d := d + 3) (z := z) (hS u) qDg_ok hb (by omega)
      rw [lk_ao hR hL hb hm5 (by omega) ho] at kao
      have ksr : am_f X (d + 4) 91 [.ref t, .int (zI b), .int (zI i)] (lH h l (u, (t, m, a, N)), z) = _ := c_stepRank (X := X) (d := d + 3) (z := z) (hS u).iT (show b < 5 by omega) (show i < 4 by omega)
      obtain ⟨s1, s2, -⟩ := hr.sr hb hii
      rw [s1] at ksr
      have hmx := lk_mx hr hG hR hL (hL.op hR hG hb hii) hb hii ho
      have kr := ih i hii
      rw [hmx] at kr
      refine Eq.trans ?_ (ihk (i + 1) (v + (zI c).toInt64 * qRm (upd S (90 + b) (zI (3 + i)))) (some (.int (zI c))) (some (.int (zI (rMx T (rkN T S) (4 * b + i))))) (by omega))
      have hcond : (if zI (rkN T S) < zI (wN (T.1.1 6 (4 * b + i))) then zI (wN (T.1.1 6 (4 * b + i))) else zI (rkN T S)) = zI (rMx T (rkN T S) (4 * b + i)) := by
        unfold rMx
        simp only [zI_lt (show rkN T S < 2147483648 by omega) (show wN (T.1.1 6 (4 * b + i)) < 2147483648 by omega)]
        split <;> rfl
      generalize hq1 : rMx T (rkN T S) (4 * b + i) = q1 at *
      generalize wN (T.1.1 6 (4 * b + i)) = q2 at *
      generalize rkN T S = q3 at *
      rw [am_go dc_106_65]
      simp (disch := first | omega | exact Nat.le_of_ble_eq_true rfl | exact lH_ci | (refine lF_lt ?_; omega) | exact (hS _).iT.ci) only [own_106, am_go dc_106_0, J_aload_0, K_al, ld_0, am_go dc_106_1, J_iload_1, K_il, ld_1, am_go dc_106_2, J_iload_2, ld_2, am_go dc_106_3, cv_4_192_4 own_106, JR_v, JR_0, JR_ite, ci1_r, am_go dc_106_6, J_istore, st1_0, st1_1, st1_s, kl_i, kl_l, kl_r, kl_n, am_go dc_106_8, am_go dc_106_9, J_getfield, gf_r, fk_4_38_4, am_go dc_106_12, am_go dc_106_13, cv_4_93_1 own_106, am_go dc_106_16, J_lstore, st2_0, st2_1, st2_s, am_go dc_106_18, J_iload, ld_4, am_go dc_106_20, J_if_lt, am_go dc_106_23, J_iload_3, ld_3, am_go dc_106_24, J_iconst, c32_5, am_go dc_106_25, J_icmp_lt, am_go dc_106_28, am_go dc_106_29, am_go dc_106_32, fk_4_157_1, am_go dc_106_35, am_go dc_106_36, J_iaload, am_go dc_106_37, J_i2l, am_go dc_106_38, J_lload, K_ll, ld_5, am_go dc_106_40, J_lmul, am_go dc_106_41, J_ret_l ret_106, am_go dc_106_42, am_go dc_106_43, am_go dc_106_46, fk_4_56_1, am_go dc_106_49, am_go dc_106_51, J_aaload, am_go dc_106_52, am_go dc_106_55, J_ineg, am_go dc_106_56, am_go dc_106_57, am_go dc_106_59, am_go dc_106_60, am_go dc_106_62, c32_0, am_go dc_106_63, ld_9, am_go dc_106_67, am_go dc_106_68, am_go dc_106_71, am_go dc_106_74, am_go dc_106_76, am_go dc_106_77, am_go dc_106_80, J_icmp_ge, am_go dc_106_83, am_go dc_106_84, am_go dc_106_87, am_go dc_106_88, am_go dc_106_90, am_go dc_106_92, cv_4_120_1 own_106, am_go dc_106_95, am_go dc_106_97, ld_10, am_go dc_106_99, J_if_le, am_go dc_106_102, am_go dc_106_103, am_go dc_106_104, am_go dc_106_107, am_go dc_106_109, am_go dc_106_111, cv_4_195_1 own_106, am_go dc_106_114, cm_4_198 own_106, mth_0, am_go dc_106_117, am_go dc_106_119, ld_7, am_go dc_106_121, am_go dc_106_123, am_go dc_106_124, am_go dc_106_125, am_go dc_106_126, am_go dc_106_129, am_go dc_106_130, am_go dc_106_132, am_go dc_106_134, cv_4_124_1 own_106, am_go dc_106_137, ld_11, am_go dc_106_139, am_go dc_106_140, c32_1, am_go dc_106_141, J_iadd, am_go dc_106_142, cv_4_188_4 own_106, am_go dc_106_145, am_go dc_106_146, J_ladd, am_go dc_106_147, am_go dc_106_149, J_iinc, pinc_go, am_go dc_106_152, J_goto, am_go dc_106_155, am_go dc_106_157, lg_0, tg_4, tg_0, lH_0, lH_1, lH_4, lH_5, lH_6, lH_7, lH_8, lw_1, lw_4, lw_5, lw_6, lw_7, lw_8, zI_add, zI_mul, zI_le, zI_eq, zI_neg, zI_pos, zI_ne0, zI_gt0, zB_0, lg_cmp_ge, lg_cmp_le, lg_cmp_gt, lg_cmp_lt, lg_cmp_eq, ail_r, abl_r, all_r, ais_r, abs_r, als_r, aal_r, aal_q, aln_r, vrf_s, vrf_n, z32, t0, t1, t3, t4, t6, t7, hsz, ha, vx_4_117 own_106 hB, hn3, hlt, kch, zI_le0, cle, kao, ksr, kr, hcond, List.length_cons, List.length_nil, Nat.reduceAdd, Nat.reduceLT, Nat.reduceLeDiff, Nat.reduceEqDiff, ↓reduceIte, bind_s, if_true, if_false, not_true_eq_false, not_false_eq_true, Nat.zero_add]
theorem l_rm (hG : qG R) (hr : rOk T R Q) (hN : tNm T R) (hS : ∀ u, tS C (lH h l (u, (t, m, a, N))) t T R) : ∀ (n : Nat) (S : Nat → Int32) (k0 : Nat), qRw R S → qPl S → uo S ≤ n → k0 + uo S ≤ 5 → am_f X (d + n + 5) 106 [.ref l, .int (zI (pk (qDg S))), .int (zI (rkN T S)), .int (zI k0)] (lH h l (u, (t, m, a, N)), z) = some (.inl (some (.long (qRm S))), (lH h l (u, (t, m, a, N)), z)) := by
  have t0 := (hS u).iT.c0
  have t1 := (hS u).iT.c1
  have t3 := (hS u).iT.c3
  have t4 := (hS u).iT.c4
  have t6 := (hS u).iT.c6
  have t7 := (hS u).iT.c7
  have hsz := (hS u).sz
  have hm5 := (hS u).m5
  have hQ := hr.2.2.1
  intro n
  induction n with
  | zero =>
    intro S k0 hR hL hu hk
    obtain ⟨-, r1, e3, -⟩ := lk_rk hr hG hR hL
    have krl : am_f X (d + 4) 103 [.ref l, .int (zI (pk (qDg S))), .int (zI (rkN T S))] (lH h l (u, (t, m, a, N)), z) = _ := l_ruleAt (X := X) (d := d) (z := z) (u := u) hS qDg_ok (show rkN T S < 21 by omega)
    rw [lk_rl hr hG hR hL hN] at krl
    have kms : am_f X (d + 4) 98 [.ref t, .int (zI (pk (qDg S)))] (lH h l (u, (t, m, a, N)), z) = _ := c_mass (X := X) (d := d + 1) (z := z) (hS u) qDg_ok
    rw [lk_ms hG hR hL] at kms
    have hnn : qNn S := (qG_R hG hR).nn
    rw [qRm_step (fun c hc => (hL c hc).1) hnn]
    unfold qRs
    rcases qRl_inv hnn with q | ⟨b, b1, b2, b3, b4⟩
    · rw [q] at krl ⊢
      rw [if_pos m4_neg, ← e3]
      show am_f X (d + 4 + 1) 106 _ _ = _
      rw [fU_106]
      simp (disch := first | omega | exact Nat.le_of_ble_eq_true rfl | exact lH_ci | (refine lF_lt ?_; omega) | exact (hS _).iT.ci) only [own_106, am_go dc_106_0, J_aload_0, K_al, ld_0, am_go dc_106_1, J_iload_1, K_il, ld_1, am_go dc_106_2, J_iload_2, ld_2, am_go dc_106_3, cv_4_192_4 own_106, JR_v, JR_0, JR_ite, ci1_r, am_go dc_106_6, J_istore, st1_0, st1_1, st1_s, kl_i, kl_l, kl_r, kl_n, am_go dc_106_8, am_go dc_106_9, J_getfield, gf_r, fk_4_38_4, am_go dc_106_12, am_go dc_106_13, cv_4_93_1 own_106, am_go dc_106_16, J_lstore, st2_0, st2_1, st2_s, am_go dc_106_18, J_iload, ld_4, am_go dc_106_20, J_if_lt, am_go dc_106_23, J_iload_3, ld_3, am_go dc_106_24, J_iconst, c32_5, am_go dc_106_25, J_icmp_lt, am_go dc_106_28, am_go dc_106_29, am_go dc_106_32, fk_4_157_1, am_go dc_106_35, am_go dc_106_36, J_iaload, am_go dc_106_37, J_i2l, am_go dc_106_38, J_lload, K_ll, ld_5, am_go dc_106_40, J_lmul, am_go dc_106_41, J_ret_l ret_106, am_go dc_106_42, am_go dc_106_43, am_go dc_106_46, fk_4_56_1, am_go dc_106_49, am_go dc_106_51, J_aaload, am_go dc_106_52, am_go dc_106_55, J_ineg, am_go dc_106_56, am_go dc_106_57, am_go dc_106_59, am_go dc_106_60, am_go dc_106_62, c32_0, am_go dc_106_63, ld_9, am_go dc_106_67, am_go dc_106_68, am_go dc_106_71, am_go dc_106_74, am_go dc_106_76, am_go dc_106_77, am_go dc_106_80, J_icmp_ge, am_go dc_106_83, am_go dc_106_84, am_go dc_106_87, am_go dc_106_88, am_go dc_106_90, am_go dc_106_92, cv_4_120_1 own_106, am_go dc_106_95, am_go dc_106_97, ld_10, am_go dc_106_99, J_if_le, am_go dc_106_102, am_go dc_106_103, am_go dc_106_104, am_go dc_106_107, am_go dc_106_109, am_go dc_106_111, cv_4_195_1 own_106, am_go dc_106_114, cm_4_198 own_106, mth_0, am_go dc_106_117, am_go dc_106_119, ld_7, am_go dc_106_121, am_go dc_106_123, am_go dc_106_124, am_go dc_106_125, am_go dc_106_126, am_go dc_106_129, am_go dc_106_130, am_go dc_106_132, am_go dc_106_134, cv_4_124_1 own_106, am_go dc_106_137, ld_11, am_go dc_106_139, am_go dc_106_140, c32_1, am_go dc_106_141, J_iadd, am_go dc_106_142, cv_4_188_4 own_106, am_go dc_106_145, am_go dc_106_146, J_ladd, am_go dc_106_147, am_go dc_106_149, J_iinc, pinc_go, am_go dc_106_152, J_goto, am_go dc_106_155, am_go dc_106_157, lg_0, tg_4, tg_0, lH_0, lH_1, lH_4, lH_5, lH_6, lH_7, lH_8, lw_1, lw_4, lw_5, lw_6, lw_7, lw_8, zI_add, zI_mul, zI_lt, zI_le, zI_eq, zI_neg, zI_pos, zI_ne0, zI_gt0, zB_0, lg_cmp_ge, lg_cmp_le, lg_cmp_gt, lg_cmp_lt, lg_cmp_eq, ail_r, abl_r, all_r, ais_r, abs_r, als_r, aal_r, aal_q, aln_r, vrf_s, vrf_n, z32, t0, t1, t3, t4, t6, t7, hsz, krl, kms, m4_lt, List.length_cons, List.length_nil, Nat.reduceAdd, Nat.reduceLT, Nat.reduceLeDiff, Nat.reduceEqDiff, ↓reduceIte, bind_s, if_true, if_false, not_true_eq_false, not_false_eq_true, Nat.zero_add]
    · have := uo_pos (b := b) (show b < 5 by have := hG.m.2; rw [hR.m] at b1; omega) (qMay_le hL (by have := hG.m.2; rw [hR.m] at b1; omega) b3)
      omega
  | succ n ih =>
    intro S k0 hR hL hu hk
    obtain ⟨-, r1, e3, -⟩ := lk_rk hr hG hR hL
    have krl : am_f X (d + n + 1 + 4) 103 [.ref l, .int (zI (pk (qDg S))), .int (zI (rkN T S))] (lH h l (u, (t, m, a, N)), z) = _ := l_ruleAt (X := X) (d := d + n + 1) (z := z) (u := u) hS qDg_ok (show rkN T S < 21 by omega)
    rw [lk_rl hr hG hR hL hN] at krl
    have kms : am_f X (d + n + 1 + 4) 98 [.ref t, .int (zI (pk (qDg S)))] (lH h l (u, (t, m, a, N)), z) = _ := c_mass (X := X) (d := d + n + 2) (z := z) (hS u) qDg_ok
    rw [lk_ms hG hR hL] at kms
    have hnn : qNn S := (qG_R hG hR).nn
    rw [qRm_step (fun c hc => (hL c hc).1) hnn]
    unfold qRs
    show am_f X (d + n + 1 + 4 + 1) 106 _ _ = _
    rcases qRl_inv hnn with q | ⟨b, b1, b2, b3, b4⟩
    · rw [q] at krl ⊢
      rw [if_pos m4_neg, ← e3, fU_106]
      simp (disch := first | omega | exact Nat.le_of_ble_eq_true rfl | exact lH_ci | (refine lF_lt ?_; omega) | exact (hS _).iT.ci) only [own_106, am_go dc_106_0, J_aload_0, K_al, ld_0, am_go dc_106_1, J_iload_1, K_il, ld_1, am_go dc_106_2, J_iload_2, ld_2, am_go dc_106_3, cv_4_192_4 own_106, JR_v, JR_0, JR_ite, ci1_r, am_go dc_106_6, J_istore, st1_0, st1_1, st1_s, kl_i, kl_l, kl_r, kl_n, am_go dc_106_8, am_go dc_106_9, J_getfield, gf_r, fk_4_38_4, am_go dc_106_12, am_go dc_106_13, cv_4_93_1 own_106, am_go dc_106_16, J_lstore, st2_0, st2_1, st2_s, am_go dc_106_18, J_iload, ld_4, am_go dc_106_20, J_if_lt, am_go dc_106_23, J_iload_3, ld_3, am_go dc_106_24, J_iconst, c32_5, am_go dc_106_25, J_icmp_lt, am_go dc_106_28, am_go dc_106_29, am_go dc_106_32, fk_4_157_1, am_go dc_106_35, am_go dc_106_36, J_iaload, am_go dc_106_37, J_i2l, am_go dc_106_38, J_lload, K_ll, ld_5, am_go dc_106_40, J_lmul, am_go dc_106_41, J_ret_l ret_106, am_go dc_106_42, am_go dc_106_43, am_go dc_106_46, fk_4_56_1, am_go dc_106_49, am_go dc_106_51, J_aaload, am_go dc_106_52, am_go dc_106_55, J_ineg, am_go dc_106_56, am_go dc_106_57, am_go dc_106_59, am_go dc_106_60, am_go dc_106_62, c32_0, am_go dc_106_63, ld_9, am_go dc_106_67, am_go dc_106_68, am_go dc_106_71, am_go dc_106_74, am_go dc_106_76, am_go dc_106_77, am_go dc_106_80, J_icmp_ge, am_go dc_106_83, am_go dc_106_84, am_go dc_106_87, am_go dc_106_88, am_go dc_106_90, am_go dc_106_92, cv_4_120_1 own_106, am_go dc_106_95, am_go dc_106_97, ld_10, am_go dc_106_99, J_if_le, am_go dc_106_102, am_go dc_106_103, am_go dc_106_104, am_go dc_106_107, am_go dc_106_109, am_go dc_106_111, cv_4_195_1 own_106, am_go dc_106_114, cm_4_198 own_106, mth_0, am_go dc_106_117, am_go dc_106_119, ld_7, am_go dc_106_121, am_go dc_106_123, am_go dc_106_124, am_go dc_106_125, am_go dc_106_126, am_go dc_106_129, am_go dc_106_130, am_go dc_106_132, am_go dc_106_134, cv_4_124_1 own_106, am_go dc_106_137, ld_11, am_go dc_106_139, am_go dc_106_140, c32_1, am_go dc_106_141, J_iadd, am_go dc_106_142, cv_4_188_4 own_106, am_go dc_106_145, am_go dc_106_146, J_ladd, am_go dc_106_147, am_go dc_106_149, J_iinc, pinc_go, am_go dc_106_152, J_goto, am_go dc_106_155, am_go dc_106_157, lg_0, tg_4, tg_0, lH_0, lH_1, lH_4, lH_5, lH_6, lH_7, lH_8, lw_1, lw_4, lw_5, lw_6, lw_7, lw_8, zI_add, zI_mul, zI_lt, zI_le, zI_eq, zI_neg, zI_pos, zI_ne0, zI_gt0, zB_0, lg_cmp_ge, lg_cmp_le, lg_cmp_gt, lg_cmp_lt, lg_cmp_eq, ail_r, abl_r, all_r, ais_r, abs_r, als_r, aal_r, aal_q, aln_r, vrf_s, vrf_n, z32, t0, t1, t3, t4, t6, t7, hsz, krl, kms, m4_lt, List.length_cons, List.length_nil, Nat.reduceAdd, Nat.reduceLT, Nat.reduceLeDiff, Nat.reduceEqDiff, ↓reduceIte, bind_s, if_true, if_false, not_true_eq_false, not_false_eq_true, Nat.zero_add]
    · rw [hR.m] at b1
      have hb5 : b < 5 := by omega
      have ho := qMay_le hL hb5 b3
      have hup := uo_pos hb5 ho
      rw [b2] at krl
      have hneg : ¬ zI b < 0 := by rw [zI_neg (by omega)]; exact id
      rw [b2, if_neg hneg, wN_zI (by omega)]
      obtain ⟨a', bb, ha, hB⟩ := (hS u).box b1
      have hp1 : qRow R b 1 = R (18 * b + 1) := rfl
      have hk5 : k0 < 5 := by omega
      have hn4 := (hG.n b1).2.2
      have hloop := l_rm_l (X := X) (d := d + n + 1) (z := z) (u := u) (x4 := qMass S) hG hr hS hR hL b1 ho hk5 (fun i hi => by
        have e := uo_up hb5 (show i < 4 by omega) ho
        exact ih (upd S (90 + b) (zI (3 + i))) (k0 + 1) (hR.up hb5) (hL.op hR hG b1 hi) (by omega) (by omega)) (wN (R (18 * b + 3))) 0 ((-R (18 * b + 1)).toInt64 * qMass S) none none (Nat.zero_add _)
      have hopn : qOpn S qRm b = fo (q_opn S qRm b) 0 (wN (R (18 * b + 3))) ((-R (18 * b + 1)).toInt64 * qMass S) := by
        unfold qOpn
        rw [hR.r hb5 (by omega), hR.r hb5 (by omega)]
      rw [hopn]
      refine Eq.trans ?_ hloop
      rw [fU_106]
      simp (disch := first | omega | exact Nat.le_of_ble_eq_true rfl | exact lH_ci | (refine lF_lt ?_; omega) | exact (hS _).iT.ci) only [own_106, am_go dc_106_0, J_aload_0, K_al, ld_0, am_go dc_106_1, J_iload_1, K_il, ld_1, am_go dc_106_2, J_iload_2, ld_2, am_go dc_106_3, cv_4_192_4 own_106, JR_v, JR_0, JR_ite, ci1_r, am_go dc_106_6, J_istore, st1_0, st1_1, st1_s, kl_i, kl_l, kl_r, kl_n, am_go dc_106_8, am_go dc_106_9, J_getfield, gf_r, fk_4_38_4, am_go dc_106_12, am_go dc_106_13, cv_4_93_1 own_106, am_go dc_106_16, J_lstore, st2_0, st2_1, st2_s, am_go dc_106_18, J_iload, ld_4, am_go dc_106_20, J_if_lt, am_go dc_106_23, J_iload_3, ld_3, am_go dc_106_24, J_iconst, c32_5, am_go dc_106_25, J_icmp_lt, am_go dc_106_28, am_go dc_106_29, am_go dc_106_32, fk_4_157_1, am_go dc_106_35, am_go dc_106_36, J_iaload, am_go dc_106_37, J_i2l, am_go dc_106_38, J_lload, K_ll, ld_5, am_go dc_106_40, J_lmul, am_go dc_106_41, J_ret_l ret_106, am_go dc_106_42, am_go dc_106_43, am_go dc_106_46, fk_4_56_1, am_go dc_106_49, am_go dc_106_51, J_aaload, am_go dc_106_52, am_go dc_106_55, J_ineg, am_go dc_106_56, am_go dc_106_57, am_go dc_106_59, am_go dc_106_60, am_go dc_106_62, c32_0, am_go dc_106_63, ld_9, am_go dc_106_67, am_go dc_106_68, am_go dc_106_71, am_go dc_106_74, am_go dc_106_76, am_go dc_106_77, am_go dc_106_80, J_icmp_ge, am_go dc_106_83, am_go dc_106_84, am_go dc_106_87, am_go dc_106_88, am_go dc_106_90, am_go dc_106_92, cv_4_120_1 own_106, am_go dc_106_95, am_go dc_106_97, ld_10, am_go dc_106_99, J_if_le, am_go dc_106_102, am_go dc_106_103, am_go dc_106_104, am_go dc_106_107, am_go dc_106_109, am_go dc_106_111, cv_4_195_1 own_106, am_go dc_106_114, cm_4_198 own_106, mth_0, am_go dc_106_117, am_go dc_106_119, ld_7, am_go dc_106_121, am_go dc_106_123, am_go dc_106_124, am_go dc_106_125, am_go dc_106_126, am_go dc_106_129, am_go dc_106_130, am_go dc_106_132, am_go dc_106_134, cv_4_124_1 own_106, am_go dc_106_137, ld_11, am_go dc_106_139, am_go dc_106_140, c32_1, am_go dc_106_141, J_iadd, am_go dc_106_142, cv_4_188_4 own_106, am_go dc_106_145, am_go dc_106_146, J_ladd, am_go dc_106_147, am_go dc_106_149, J_iinc, pinc_go, am_go dc_106_152, J_goto, am_go dc_106_155, am_go dc_106_157, lg_0, tg_4, tg_0, lH_0, lH_1, lH_4, lH_5, lH_6, lH_7, lH_8, lw_1, lw_4, lw_5, lw_6, lw_7, lw_8, zI_add, zI_mul, zI_lt, zI_le, zI_eq, zI_neg, zI_pos, zI_ne0, zI_gt0, zB_0, lg_cmp_ge, lg_cmp_le, lg_cmp_gt, lg_cmp_lt, lg_cmp_eq, ail_r, abl_r, all_r, ais_r, abs_r, als_r, aal_r, aal_q, aln_r, vrf_s, vrf_n, z32, t0, t1, t3, t4, t6, t7, hsz, krl, kms, hneg, hk5, ha, bf_4_60 hB, hp1, List.length_cons, List.length_nil, Nat.reduceAdd, Nat.reduceLT, Nat.reduceLeDiff, Nat.reduceEqDiff, ↓reduceIte, bind_s, if_true, if_false, not_true_eq_false, not_false_eq_true, Nat.zero_add]
theorem l_ruleMean (hG : qG S) (hr : rOk T S Q) (hN : tNm T S) (hL : qPl S) (hS : ∀ u, tS C (lH h l (u, (t, m, a, N))) t T S) : am_f X (d + 11) 105 [.ref l, .int (zI (pk (qDg S))), .int (zI (rkN T S))] (lH h l (u, (t, m, a, N)), z) = some (.inl (some (.long (qRm S))), (lH h l (u, (t, m, a, N)), z)) := by
  have k := l_rm (X := X) (d := d) (z := z) (u := u) hG hr hN hS 5 S 0 qRw.rf hL (uo_le S) (by have := uo_le S; omega)
  rw [fU_105]
  simp (disch := first | omega | exact Nat.le_of_ble_eq_true rfl | exact lH_ci) only [own_105, am_go dc_105_0, J_aload_0, K_al, ld_0, am_go dc_105_1, J_iload_1, K_il, ld_1, am_go dc_105_2, J_iload_2, ld_2, am_go dc_105_3, J_iconst, c32_0, am_go dc_105_4, cv_4_188_4 own_105, JR_v, JR_0, JR_ite, ci1_r, am_go dc_105_7, J_ret_l ret_105, lH_0, lH_1, lH_4, lH_5, lH_6, lH_7, lH_8, lw_1, lw_4, lw_5, lw_6, lw_7, lw_8, zI_add, zI_mul, zI_lt, zI_le, zI_eq, zI_neg, zI_pos, zI_ne0, zI_gt0, zB_0, lg_cmp_ge, lg_cmp_le, lg_cmp_gt, lg_cmp_lt, lg_cmp_eq, ail_r, abl_r, all_r, ais_r, abs_r, als_r, aal_r, aal_q, aln_r, vrf_s, vrf_n, z32, k, List.length_cons, List.length_nil, Nat.reduceAdd, Nat.reduceLT, Nat.reduceLeDiff, Nat.reduceEqDiff, ↓reduceIte, bind_s, if_true, if_false, not_true_eq_false, not_false_eq_true, Nat.zero_add]
end PMn
