/-! the class's search -/
theorem c8_11 : (Int8.ofInt (11)).toInt32 = zI 11 := rfl
/-- known, at a price of box b that is tried -/
def lTr (S : Nat → Int32) (T : mU × (Nat → Option Nat)) (Q b : Nat) (u : mU) (N : Nat) : Prop := u.2.2.1 2 = zI 1 ∧ tabOk S T Q u ∧ (∀ j, j < wN (S 116) → j ≠ b → u.1 1 j = S (18 * j + 1)) ∧ 21 * 4 ^ wN (S 116) ≤ N
section PF
variable {X : am_X} {C : Nat → Prop} {h : am_H} {l t m a N d Q b p : Nat} {T : mU × (Nat → Option Nat)} {S : Nat → Int32} {z : Nat × Nat} {u : mU}
theorem plKn.tr (hk : plKn S T Q u N) : lTr S T Q b u N := ⟨hk.1, hk.2.1, fun j hj _ => hk.2.2.1 j hj, hk.2.2.2⟩
theorem l_try2 (hG : qG S) (hr : rOk T S Q) (hS : ∀ u, tS C (lH h l (u, (t, m, a, N))) t T S) (hO : lOkk l (t, m, a, N)) (hN2 : N < 1000000) (hb : b < wN (S 116)) (hk : lTr S T Q b u N) : ∃ u', am_f X (d + 6) 140 [.ref l, .int (zI b), .int (zI p)] (lH h l (u, (t, m, a, N)), z) = some (.inl none, (lH h l (u', (t, m, a, N)), z)) ∧ lTr S T Q b u' N ∧ plKn (qPr S b p) T Q u' N := by
  have hm5 := hG.m.2
  obtain ⟨u', e1, e2, e3, e4, e5⟩ := l_try (X := X) (d := d) (z := z) (u := u) (b := b) (x := zI p) hS hO hk.2.2.2 hN2 hr.1 hr.2.2.1 hb hk.2.1
  refine ⟨u', e1, ⟨e5.trans hk.1, e2, fun j hj hne => by rw [e3, upd_o hne]; exact hk.2.2.1 j hj hne, hk.2.2.2⟩, e5.trans hk.1, cg_tab (qC.pr (by omega)) hG e2, fun j hj => ?_, ?_⟩
  · rw [pr_m (by omega)] at hj
    rw [e3]
    by_cases e : j = b
    · subst e
      rw [upd_s]
      exact upd_s.symm
    · rw [upd_o e, hk.2.2.1 j hj e]
      exact (upd_o (by omega)).symm
  · rw [pr_m (by omega)]
    exact hk.2.2.2
theorem dg_pr (hb : b < 5) : qDg (qPr S b p) = qDg S := by
  funext c
  unfold qDg
  rw [pr_m hb, show qPr S b p (90 + c) = S (90 + c) from upd_o (by omega)]
  by_cases e : c < 5
  · rw [show qPr S b p (18 * c) = S (18 * c) from upd_o (by omega)]
  · rw [show qPr S b p (18 * c) = S (18 * c) from upd_o (by omega)]
theorem rk_pr (hr : rOk T S Q) (hG : qG S) (hL : qPl S) (hb : b < wN (S 116)) (hp : p ≤ 999) : rkN T (qPr S b p) = rkN T S := by
  have hm5 := hG.m.2
  obtain ⟨-, -, -, e1⟩ := lk_rk (cg_rOk (qC.pr (b := b) (n := p) (by omega)) hG hr) (hG.pr hb hp) qRw.rf (hL.pr (x := p) (by omega))
  obtain ⟨-, -, -, e2⟩ := lk_rk hr hG qRw.rf hL
  rw [e1, e2, pr_m (by omega)]
  have : rkB T (qPr S b p) = rkB T S := by
    funext c
    unfold rkB
    rw [hw_pr (by omega)]
  rw [this]
/-- at a price tried, the table has the best of that price -/
theorem kn_pr (hr : rOk T S Q) (hG : qG S) (hL : qPl S) (hb : b < wN (S 116)) (hp : p ≤ 999) (hk : plKn (qPr S b p) T Q u N) : u.1 4 (ix S (qDg S) (rkN T S)) = (qB (qPr S b p)).2 ∧ ix S (qDg S) (rkN T S) < N := by
  have hm5 := hG.m.2
  obtain ⟨-, q2, q3⟩ := kn_at (cg_rOk (qC.pr (b := b) (n := p) (by omega)) hG hr) (hG.pr hb hp) hk qRw.rf (hL.pr (x := p) (by omega))
  rw [dg_pr (by omega), rk_pr hr hG hL hb hp, cg_ix (qC.pr (by omega))] at q2 q3
  exact ⟨q2, q3⟩
theorem idp (hG : qG S) (hb : b < wN (S 116)) : qPr S b (wN (S (18 * b + 1))) = S := by
  unfold qPr
  rw [← (hG.p1 hb).1, upd_id]
theorem l_edge_l (hG : qG S) (hr : rOk T S Q) (hS : ∀ u, tS C (lH h l (u, (t, m, a, N))) t T S) (hO : lOkk l (t, m, a, N)) (hN2 : N < 1000000) (hL : qPl S) (hb : b < wN (S 116)) : ∀ (k n lo hi : Nat) (u : mU) (v7 : Option Value), n + k = 11 → hi - lo < 2 ^ k → lo ≤ hi → hi ≤ 1000 → lTr S T Q b u N → ∃ u', am_I X (am_f X (d + 6)) 138 35 [some (.ref l), some (.int (zI (pk (qDg S)))), some (.int (zI (rkN T S))), some (.int (zI b)), some (.int (zI lo)), some (.int (zI hi)), some (.int (zI n)), v7] [] (lH h l (u, (t, m, a, N)), z) = some (.inl (some (.int (zI (esr (qBg S b) k lo hi)))), (lH h l (u', (t, m, a, N)), z)) ∧ plKn S T Q u' N := by
  have t0 := fun u => (hS u).iT.c0
  have t1 := fun u => (hS u).iT.c1
  have t3 := fun u => (hS u).iT.c3
  have t4 := fun u => (hS u).iT.c4
  have hm5 := hG.m.2
  have hb5 : b < 5 := by omega
  have hQ := hr.2.2.1
  obtain ⟨-, r1, -, -⟩ := lk_rk hr hG qRw.rf hL
  have fin : ∀ (n lo hi : Nat) (u : mU) (v7 : Option Value), n ≤ 11 → hi ≤ lo → lo ≤ 1000 → lTr S T Q b u N → ∃ u', am_I X (am_f X (d + 6)) 138 35 [some (.ref l), some (.int (zI (pk (qDg S)))), some (.int (zI (rkN T S))), some (.int (zI b)), some (.int (zI lo)), some (.int (zI hi)), some (.int (zI n)), v7] [] (lH h l (u, (t, m, a, N)), z) = some (.inl (some (.int (zI lo))), (lH h l (u', (t, m, a, N)), z)) ∧ plKn S T Q u' N := by
    intro n lo hi u v7 hn h1 h2 hk
    obtain ⟨a', bb, ha, hB⟩ := (hS u).box hb
    have hq1 : qRow S b 1 = zI (wN (S (18 * b + 1))) := (hG.p1 hb).1
    obtain ⟨u', e1, e2, e3⟩ := l_try2 (X := X) (d := d) (z := z) (p := wN (S (18 * b + 1))) hG hr hS hO hN2 hb hk
    rw [idp hG hb] at e3
    refine ⟨u', ?_, e3⟩
    rw [am_go dc_138_35]
    by_cases hn1 : 11 ≤ n
    · simp (disch := first | omega | exact Nat.le_of_ble_eq_true rfl | exact lH_ci | (refine lF_lt ?_; omega) | exact (hS _).iT.ci) only [own_138, am_go dc_138_0, J_aload_0, K_al, ld_0, am_go dc_138_1, cv_4_173_4 own_138, JR_v, JR_0, JR_ite, ci1_r, am_go dc_138_4, J_iconst, c32_0, am_go dc_138_5, J_istore, st1_0, st1_1, st1_s, kl_i, kl_l, kl_r, kl_n, am_go dc_138_7, am_go dc_138_8, J_getfield, gf_r, fk_4_38_4, am_go dc_138_11, J_iload_1, K_il, ld_1, am_go dc_138_12, J_iload_3, ld_3, am_go dc_138_13, cv_4_185_1 own_138, am_go dc_138_16, J_if_eq, am_go dc_138_19, am_go dc_138_20, am_go dc_138_21, J_iload_2, ld_2, am_go dc_138_22, am_go dc_138_23, cv_4_231_4 own_138, am_go dc_138_26, J_goto, am_go dc_138_29, am_go dc_138_30, am_go dc_138_32, am_go dc_138_33, J_iload, ld_6, am_go dc_138_37, J_bipush, c8_11, am_go dc_138_39, J_icmp_ge, am_go dc_138_42, ld_4, am_go dc_138_44, ld_5, am_go dc_138_46, am_go dc_138_49, am_go dc_138_51, am_go dc_138_53, J_iadd, am_go dc_138_54, c32_2, am_go dc_138_55, J_idiv, am_go dc_138_56, am_go dc_138_58, am_go dc_138_59, am_go dc_138_60, ld_7, am_go dc_138_62, cv_4_234_4 own_138, am_go dc_138_65, am_go dc_138_66, fk_4_19_4, am_go dc_138_69, am_go dc_138_70, am_go dc_138_73, am_go dc_138_74, am_go dc_138_75, cv_4_150_1 own_138, am_go dc_138_78, J_iaload, am_go dc_138_79, c8_10, am_go dc_138_81, am_go dc_138_82, am_go dc_138_83, J_icmp_ne, am_go dc_138_86, am_go dc_138_88, c32_1, am_go dc_138_89, am_go dc_138_90, am_go dc_138_92, am_go dc_138_95, am_go dc_138_97, am_go dc_138_99, J_iinc, pinc_go, am_go dc_138_102, am_go dc_138_105, am_go dc_138_106, am_go dc_138_107, am_go dc_138_108, am_go dc_138_111, fk_4_56_1, am_go dc_138_114, am_go dc_138_115, J_aaload, am_go dc_138_116, am_go dc_138_119, am_go dc_138_122, am_go dc_138_124, J_ret_i ret_138, lg_0, lg_4, tg_0, lH_0, lH_1, lH_4, lH_5, lH_6, lH_7, lH_8, lw_1, lw_4, lw_5, lw_6, lw_7, lw_8, zI_add, zI_mul, zI_lt, zI_le, zI_eq, zI_neg, zI_pos, zI_ne0, zI_gt0, zB_0, lg_cmp_ge, lg_cmp_le, lg_cmp_gt, lg_cmp_lt, lg_cmp_eq, ail_r, abl_r, all_r, ais_r, abs_r, als_r, aal_r, aal_q, aln_r, vrf_s, vrf_n, z32, t0, t1, t3, t4, e1, ha, bf_4_60 hB, hq1, h1, hn1, List.length_cons, List.length_nil, Nat.reduceAdd, Nat.reduceLT, Nat.reduceLeDiff, Nat.reduceEqDiff, ↓reduceIte, bind_s, if_true, if_false, not_true_eq_false, not_false_eq_true, Nat.zero_add]
    · simp (disch := first | omega | exact Nat.le_of_ble_eq_true rfl | exact lH_ci | (refine lF_lt ?_; omega) | exact (hS _).iT.ci) only [own_138, am_go dc_138_0, J_aload_0, K_al, ld_0, am_go dc_138_1, cv_4_173_4 own_138, JR_v, JR_0, JR_ite, ci1_r, am_go dc_138_4, J_iconst, c32_0, am_go dc_138_5, J_istore, st1_0, st1_1, st1_s, kl_i, kl_l, kl_r, kl_n, am_go dc_138_7, am_go dc_138_8, J_getfield, gf_r, fk_4_38_4, am_go dc_138_11, J_iload_1, K_il, ld_1, am_go dc_138_12, J_iload_3, ld_3, am_go dc_138_13, cv_4_185_1 own_138, am_go dc_138_16, J_if_eq, am_go dc_138_19, am_go dc_138_20, am_go dc_138_21, J_iload_2, ld_2, am_go dc_138_22, am_go dc_138_23, cv_4_231_4 own_138, am_go dc_138_26, J_goto, am_go dc_138_29, am_go dc_138_30, am_go dc_138_32, am_go dc_138_33, J_iload, ld_6, am_go dc_138_37, J_bipush, c8_11, am_go dc_138_39, J_icmp_ge, am_go dc_138_42, ld_4, am_go dc_138_44, ld_5, am_go dc_138_46, am_go dc_138_49, am_go dc_138_51, am_go dc_138_53, J_iadd, am_go dc_138_54, c32_2, am_go dc_138_55, J_idiv, am_go dc_138_56, am_go dc_138_58, am_go dc_138_59, am_go dc_138_60, ld_7, am_go dc_138_62, cv_4_234_4 own_138, am_go dc_138_65, am_go dc_138_66, fk_4_19_4, am_go dc_138_69, am_go dc_138_70, am_go dc_138_73, am_go dc_138_74, am_go dc_138_75, cv_4_150_1 own_138, am_go dc_138_78, J_iaload, am_go dc_138_79, c8_10, am_go dc_138_81, am_go dc_138_82, am_go dc_138_83, J_icmp_ne, am_go dc_138_86, am_go dc_138_88, c32_1, am_go dc_138_89, am_go dc_138_90, am_go dc_138_92, am_go dc_138_95, am_go dc_138_97, am_go dc_138_99, J_iinc, pinc_go, am_go dc_138_102, am_go dc_138_105, am_go dc_138_106, am_go dc_138_107, am_go dc_138_108, am_go dc_138_111, fk_4_56_1, am_go dc_138_114, am_go dc_138_115, J_aaload, am_go dc_138_116, am_go dc_138_119, am_go dc_138_122, am_go dc_138_124, J_ret_i ret_138, lg_0, lg_4, tg_0, lH_0, lH_1, lH_4, lH_5, lH_6, lH_7, lH_8, lw_1, lw_4, lw_5, lw_6, lw_7, lw_8, zI_add, zI_mul, zI_lt, zI_le, zI_eq, zI_neg, zI_pos, zI_ne0, zI_gt0, zB_0, lg_cmp_ge, lg_cmp_le, lg_cmp_gt, lg_cmp_lt, lg_cmp_eq, ail_r, abl_r, all_r, ais_r, abs_r, als_r, aal_r, aal_q, aln_r, vrf_s, vrf_n, z32, t0, t1, t3, t4, e1, ha, bf_4_60 hB, hq1, h1, hn1, List.length_cons, List.length_nil, Nat.reduceAdd, Nat.reduceLT, Nat.reduceLeDiff, Nat.reduceEqDiff, ↓reduceIte, bind_s, if_true, if_false, not_true_eq_false, not_false_eq_true, Nat.zero_add]
  intro k
  induction k with
  | zero =>
    intro n lo hi u v7 hn h1 h2 h3 hk
    have h1 : hi - lo < 1 := h1
    exact fin n lo hi u v7 (by omega) (by omega) (by omega) hk
  | succ k ih =>
    intro n lo hi u v7 hn h1 h2 h3 hk
    have hn1 : ¬ 11 ≤ n := by omega
    rw [Nat.pow_succ] at h1
    unfold esr
    by_cases c : hi ≤ lo
    · rw [if_pos c]
      exact fin n lo hi u v7 (by omega) c (by omega) hk
    · rw [if_neg c]
      have hd : zI (lo + hi) / zI 2 = zI ((lo + hi) / 2) := zI_div (by omega) (by omega) (by omega)
      obtain ⟨u1, e1, e2, e3⟩ := l_try2 (X := X) (d := d) (z := z) (p := (lo + hi) / 2) hG hr hS hO hN2 hb hk
      obtain ⟨q1, q2⟩ := kn_pr hr hG hL hb (by omega) e3
      have hi' : am_f X (d + 6) 122 [.ref t, .int (zI (pk (qDg S))), .int (zI (rkN T S))] (lH h l (u1, (t, m, a, N)), z) = some (.inl (some (.int (zI (ix S (qDg S) (rkN T S))))), (lH h l (u1, (t, m, a, N)), z)) := c_index (X := X) (d := d + 5) (z := z) (dg := qDg S) (hS u1) (by omega)
      have hA := lA (h := h) (u := u1) hO
      by_cases c2 : qBg S b ((lo + hi) / 2) = true
      · rw [if_pos c2]
        obtain ⟨u', w1, w2⟩ := ih (n + 1) ((lo + hi) / 2 + 1) hi u1 (some (.int (zI ((lo + hi) / 2)))) (by omega) (by omega) (by omega) h3 e2
        refine ⟨u', Eq.trans ?_ w1, w2⟩
        unfold qBg at c2
        rw [decide_eq_true_eq, ← q1] at c2
        rw [am_go dc_138_35]
        simp (disch := first | omega | exact Nat.le_of_ble_eq_true rfl | exact lH_ci | (refine lF_lt ?_; omega) | exact (hS _).iT.ci) only [own_138, am_go dc_138_0, J_aload_0, K_al, ld_0, am_go dc_138_1, cv_4_173_4 own_138, JR_v, JR_0, JR_ite, ci1_r, am_go dc_138_4, J_iconst, c32_0, am_go dc_138_5, J_istore, st1_0, st1_1, st1_s, kl_i, kl_l, kl_r, kl_n, am_go dc_138_7, am_go dc_138_8, J_getfield, gf_r, fk_4_38_4, am_go dc_138_11, J_iload_1, K_il, ld_1, am_go dc_138_12, J_iload_3, ld_3, am_go dc_138_13, cv_4_185_1 own_138, am_go dc_138_16, J_if_eq, am_go dc_138_19, am_go dc_138_20, am_go dc_138_21, J_iload_2, ld_2, am_go dc_138_22, am_go dc_138_23, cv_4_231_4 own_138, am_go dc_138_26, J_goto, am_go dc_138_29, am_go dc_138_30, am_go dc_138_32, am_go dc_138_33, J_iload, ld_6, am_go dc_138_37, J_bipush, c8_11, am_go dc_138_39, J_icmp_ge, am_go dc_138_42, ld_4, am_go dc_138_44, ld_5, am_go dc_138_46, am_go dc_138_49, am_go dc_138_51, am_go dc_138_53, J_iadd, am_go dc_138_54, c32_2, am_go dc_138_55, J_idiv, am_go dc_138_56, am_go dc_138_58, am_go dc_138_59, am_go dc_138_60, ld_7, am_go dc_138_62, cv_4_234_4 own_138, am_go dc_138_65, am_go dc_138_66, fk_4_19_4, am_go dc_138_69, am_go dc_138_70, am_go dc_138_73, am_go dc_138_74, am_go dc_138_75, cv_4_150_1 own_138, am_go dc_138_78, J_iaload, am_go dc_138_79, c8_10, am_go dc_138_81, am_go dc_138_82, am_go dc_138_83, J_icmp_ne, am_go dc_138_86, am_go dc_138_88, c32_1, am_go dc_138_89, am_go dc_138_90, am_go dc_138_92, am_go dc_138_95, am_go dc_138_97, am_go dc_138_99, J_iinc, pinc_go, am_go dc_138_102, am_go dc_138_105, am_go dc_138_106, am_go dc_138_107, am_go dc_138_108, am_go dc_138_111, fk_4_56_1, am_go dc_138_114, am_go dc_138_115, J_aaload, am_go dc_138_116, am_go dc_138_119, am_go dc_138_122, am_go dc_138_124, J_ret_i ret_138, lg_0, lg_4, tg_0, lH_0, lH_1, lH_4, lH_5, lH_6, lH_7, lH_8, lw_1, lw_4, lw_5, lw_6, lw_7, lw_8, zI_add, zI_mul, zI_lt, zI_le, zI_eq, zI_neg, zI_pos, zI_ne0, zI_gt0, zB_0, lg_cmp_ge, lg_cmp_le, lg_cmp_gt, lg_cmp_lt, lg_cmp_eq, ail_r, abl_r, all_r, ais_r, abs_r, als_r, aal_r, aal_q, aln_r, vrf_s, vrf_n, z32, t0, t1, t3, t4, e1, hA, hi', hd, c, c2, hn1, List.length_cons, List.length_nil, Nat.reduceAdd, Nat.reduceLT, Nat.reduceLeDiff, Nat.reduceEqDiff, ↓reduceIte, bind_s, if_true, if_false, not_true_eq_false, not_false_eq_true, Nat.zero_add]
      · rw [if_neg c2]
        obtain ⟨u', w1, w2⟩ := ih (n + 1) lo ((lo + hi) / 2) u1 (some (.int (zI ((lo + hi) / 2)))) (by omega) (by omega) (by omega) (by omega) e2
        refine ⟨u', Eq.trans ?_ w1, w2⟩
        unfold qBg at c2
        rw [decide_eq_true_eq, ← q1] at c2
        rw [am_go dc_138_35]
        simp (disch := first | omega | exact Nat.le_of_ble_eq_true rfl | exact lH_ci | (refine lF_lt ?_; omega) | exact (hS _).iT.ci) only [own_138, am_go dc_138_0, J_aload_0, K_al, ld_0, am_go dc_138_1, cv_4_173_4 own_138, JR_v, JR_0, JR_ite, ci1_r, am_go dc_138_4, J_iconst, c32_0, am_go dc_138_5, J_istore, st1_0, st1_1, st1_s, kl_i, kl_l, kl_r, kl_n, am_go dc_138_7, am_go dc_138_8, J_getfield, gf_r, fk_4_38_4, am_go dc_138_11, J_iload_1, K_il, ld_1, am_go dc_138_12, J_iload_3, ld_3, am_go dc_138_13, cv_4_185_1 own_138, am_go dc_138_16, J_if_eq, am_go dc_138_19, am_go dc_138_20, am_go dc_138_21, J_iload_2, ld_2, am_go dc_138_22, am_go dc_138_23, cv_4_231_4 own_138, am_go dc_138_26, J_goto, am_go dc_138_29, am_go dc_138_30, am_go dc_138_32, am_go dc_138_33, J_iload, ld_6, am_go dc_138_37, J_bipush, c8_11, am_go dc_138_39, J_icmp_ge, am_go dc_138_42, ld_4, am_go dc_138_44, ld_5, am_go dc_138_46, am_go dc_138_49, am_go dc_138_51, am_go dc_138_53, J_iadd, am_go dc_138_54, c32_2, am_go dc_138_55, J_idiv, am_go dc_138_56, am_go dc_138_58, am_go dc_138_59, am_go dc_138_60, ld_7, am_go dc_138_62, cv_4_234_4 own_138, am_go dc_138_65, am_go dc_138_66, fk_4_19_4, am_go dc_138_69, am_go dc_138_70, am_go dc_138_73, am_go dc_138_74, am_go dc_138_75, cv_4_150_1 own_138, am_go dc_138_78, J_iaload, am_go dc_138_79, c8_10, am_go dc_138_81, am_go dc_138_82, am_go dc_138_83, J_icmp_ne, am_go dc_138_86, am_go dc_138_88, c32_1, am_go dc_138_89, am_go dc_138_90, am_go dc_138_92, am_go dc_138_95, am_go dc_138_97, am_go dc_138_99, J_iinc, pinc_go, am_go dc_138_102, am_go dc_138_105, am_go dc_138_106, am_go dc_138_107, am_go dc_138_108, am_go dc_138_111, fk_4_56_1, am_go dc_138_114, am_go dc_138_115, J_aaload, am_go dc_138_116, am_go dc_138_119, am_go dc_138_122, am_go dc_138_124, J_ret_i ret_138, lg_0, lg_4, tg_0, lH_0, lH_1, lH_4, lH_5, lH_6, lH_7, lH_8, lw_1, lw_4, lw_5, lw_6, lw_7, lw_8, zI_add, zI_mul, zI_lt, zI_le, zI_eq, zI_neg, zI_pos, zI_ne0, zI_gt0, zB_0, lg_cmp_ge, lg_cmp_le, lg_cmp_gt, lg_cmp_lt, lg_cmp_eq, ail_r, abl_r, all_r, ais_r, abs_r, als_r, aal_r, aal_q, aln_r, vrf_s, vrf_n, z32, t0, t1, t3, t4, e1, hA, hi', hd, c, c2, hn1, List.length_cons, List.length_nil, Nat.reduceAdd, Nat.reduceLT, Nat.reduceLeDiff, Nat.reduceEqDiff, ↓reduceIte, bind_s, if_true, if_false, not_true_eq_false, not_false_eq_true, Nat.zero_add]
theorem l_edgeAt (hP : plOk C h l t m a N T S u z) (hr : rOk T S Q) (hk : u.2.2.1 2 = zI 0 ∨ plKn S T Q u N) (hL : qPl S) (hb : b < wN (S 116)) : ∃ h' u' m' a' N' z' Lr, am_f X (d + 8) 138 [.ref l, .int (zI (pk (qDg S))), .int (zI (rkN T S)), .int (zI b)] (lH h l (u, (t, m, a, N)), z) = some (.inl (some (.int (zI Lr))), (lH h' l (u', (t, m', a', N')), z')) ∧ plOk C h' l t m' a' N' T S u' z' ∧ plKn S T Q u' N' ∧ (∀ x, x < z.1 → lK l x → x ≠ m → x ≠ a → lH h' l (u', (t, m', a', N')) x = lH h l (u, (t, m, a, N)) x) ∧ plGr S N N' m m' a a' z z' ∧ Lr ≤ 1000 ∧ qEg S b = if 999 < Lr then -4 else zI Lr := by
  obtain ⟨h', u1, m', a', N', z', e1, e2, e3, e4, e5, e6⟩ := l_knows (X := X) (d := d) hP hr hk
  have hG := e2.1.2.1
  have hm5 := hG.m.2
  have hS := e2.st
  have t0 := fun u => (hS u).iT.c0
  have t1 := fun u => (hS u).iT.c1
  have t3 := fun u => (hS u).iT.c3
  have t4 := fun u => (hS u).iT.c4
  have hO := e2.2.2.1
  have hN2 := e2.2.2.2.1
  have hmay : am_f X (d + 7) 75 [.ref t, .int (zI (pk (qDg S))), .int (zI b)] (lH h' l (u1, (t, m', a', N')), z') = some (.inl (some (.int (zB (cMay S (qDg S) b)))), (lH h' l (u1, (t, m', a', N')), z')) := c_mayOpen (X := X) (d := d + 4) (hS u1) qDg_ok hb
  rw [lk_may hG qRw.rf hL hb] at hmay
  have fr : ∀ u', lFr u1 u' → ∀ x, x < z.1 → lK l x → x ≠ m → x ≠ a → lH h' l (u', (t, m', a', N')) x = lH h l (u, (t, m, a, N)) x := fun u' _ x h1 h2 h3 h4 => by
    rw [← e5 x h1 h2 h3 h4]
    have : x ≠ m' ∧ x ≠ a' := by
      rcases e6 with q | q
      · exact ⟨by rw [q.2.2.1]; exact h3, by rw [q.2.2.2]; exact h4⟩
      · have := q.2.2.2
        omega
    rw [lX h2 this.1 this.2, lX h2 this.1 this.2]
  have fr2 : ∀ u', ∀ x, x < z.1 → lK l x → x ≠ m → x ≠ a → lH h' l (u', (t, m', a', N')) x = lH h l (u, (t, m, a, N)) x := fun u' x h1 h2 h3 h4 => by
    rw [← e5 x h1 h2 h3 h4]
    have : x ≠ m' ∧ x ≠ a' := by
      rcases e6 with q | q
      · exact ⟨by rw [q.2.2.1]; exact h3, by rw [q.2.2.2]; exact h4⟩
      · have := q.2.2.2
        omega
    rw [lX h2 this.1 this.2, lX h2 this.1 this.2]
  have mono : ∀ p q, p ≤ q → q ≤ 999 → qBg S b q = true → qBg S b p = true := fun p q h1 h2 => qBg_mono hr hG hb h1 h2 qRw.rf hL
  by_cases c : qMay S b = true
  · rw [c] at hmay
    obtain ⟨u2, K, k1, k2, k3⟩ := l_pst (X := X) (d := d + 2) (z := z') hG hr hS hO hN2 hL e3 hb c
    have hk2 := k2.kn e3
    obtain ⟨u3, w1, w2⟩ := l_edge_l (X := X) (d := d + 1) (z := z') hG hr hS hO hN2 hL hb 11 0 0 (eHi (oI S S b + (wN (S (18 * b + 1)) : Int) * MM S S - K) (MM S S)) u2 none (by omega) (by have := eHi_le (ab := oI S S b + (wN (S (18 * b + 1)) : Int) * MM S S - K) (M := MM S S); omega) (by omega) eHi_le hk2.tr
    obtain ⟨s1, s2, s3⟩ := esr_sp mono 11 0 (eHi (oI S S b + (wN (S (18 * b + 1)) : Int) * MM S S - K) (MM S S)) (by have := eHi_le (ab := oI S S b + (wN (S (18 * b + 1)) : Int) * MM S S - K) (M := MM S S); omega) (by omega) eHi_le (fun p hp => by omega) (fun p h1 h2 => edge_hi hr hG hb hL k3 (fun _ => h1) h2)
    have s4 := eHi_le (ab := oI S S b + (wN (S (18 * b + 1)) : Int) * MM S S - K) (M := MM S S)
    refine ⟨h', u3, m', a', N', z', _, ?_, e2.uu, w2, fr2 u3, e6, by omega, edge_eq (by omega) s2 s3⟩
    rw [fU_138]
    refine Eq.trans ?_ w1
    simp (disch := first | omega | exact Nat.le_of_ble_eq_true rfl | exact lH_ci | (refine lF_lt ?_; omega) | exact (hS _).iT.ci) only [own_138, am_go dc_138_0, J_aload_0, K_al, ld_0, am_go dc_138_1, cv_4_173_4 own_138, JR_v, JR_0, JR_ite, ci1_r, am_go dc_138_4, J_iconst, c32_0, am_go dc_138_5, J_istore, st1_0, st1_1, st1_s, kl_i, kl_l, kl_r, kl_n, am_go dc_138_7, am_go dc_138_8, J_getfield, gf_r, fk_4_38_4, am_go dc_138_11, J_iload_1, K_il, ld_1, am_go dc_138_12, J_iload_3, ld_3, am_go dc_138_13, cv_4_185_1 own_138, am_go dc_138_16, J_if_eq, am_go dc_138_19, am_go dc_138_20, am_go dc_138_21, J_iload_2, ld_2, am_go dc_138_22, am_go dc_138_23, cv_4_231_4 own_138, am_go dc_138_26, J_goto, am_go dc_138_29, am_go dc_138_30, am_go dc_138_32, am_go dc_138_33, J_iload, ld_6, am_go dc_138_37, J_bipush, c8_11, am_go dc_138_39, J_icmp_ge, am_go dc_138_42, ld_4, am_go dc_138_44, ld_5, am_go dc_138_46, am_go dc_138_49, am_go dc_138_51, am_go dc_138_53, J_iadd, am_go dc_138_54, c32_2, am_go dc_138_55, J_idiv, am_go dc_138_56, am_go dc_138_58, am_go dc_138_59, am_go dc_138_60, ld_7, am_go dc_138_62, cv_4_234_4 own_138, am_go dc_138_65, am_go dc_138_66, fk_4_19_4, am_go dc_138_69, am_go dc_138_70, am_go dc_138_73, am_go dc_138_74, am_go dc_138_75, cv_4_150_1 own_138, am_go dc_138_78, J_iaload, am_go dc_138_79, c8_10, am_go dc_138_81, am_go dc_138_82, am_go dc_138_83, J_icmp_ne, am_go dc_138_86, am_go dc_138_88, c32_1, am_go dc_138_89, am_go dc_138_90, am_go dc_138_92, am_go dc_138_95, am_go dc_138_97, am_go dc_138_99, J_iinc, pinc_go, am_go dc_138_102, am_go dc_138_105, am_go dc_138_106, am_go dc_138_107, am_go dc_138_108, am_go dc_138_111, fk_4_56_1, am_go dc_138_114, am_go dc_138_115, J_aaload, am_go dc_138_116, am_go dc_138_119, am_go dc_138_122, am_go dc_138_124, J_ret_i ret_138, lg_0, lg_4, tg_0, lH_0, lH_1, lH_4, lH_5, lH_6, lH_7, lH_8, lw_1, lw_4, lw_5, lw_6, lw_7, lw_8, zI_add, zI_mul, zI_lt, zI_le, zI_eq, zI_neg, zI_pos, zI_ne0, zI_gt0, zB_0, lg_cmp_ge, lg_cmp_le, lg_cmp_gt, lg_cmp_lt, lg_cmp_eq, ail_r, abl_r, all_r, ais_r, abs_r, als_r, aal_r, aal_q, aln_r, vrf_s, vrf_n, z32, t0, t1, t3, t4, e1, hmay, k1, Bool.true_eq_false, Bool.false_eq_true, List.length_cons, List.length_nil, Nat.reduceAdd, Nat.reduceLT, Nat.reduceLeDiff, Nat.reduceEqDiff, ↓reduceIte, bind_s, if_true, if_false, not_true_eq_false, not_false_eq_true, Nat.zero_add]
  · have c' : qMay S b = false := by simpa using c
    rw [c'] at hmay
    obtain ⟨u3, w1, w2⟩ := l_edge_l (X := X) (d := d + 1) (z := z') hG hr hS hO hN2 hL hb 11 0 0 0 u1 none (by omega) (by omega) (by omega) (by omega) e3.tr
    obtain ⟨s1, s2, s3⟩ := esr_sp mono 11 0 0 (by omega) (by omega) (by omega) (fun p hp => by omega) (fun p h1 h2 => edge_hi hr hG hb hL rfl (fun q => absurd q c) h2)
    refine ⟨h', u3, m', a', N', z', _, ?_, e2.uu, w2, fr2 u3, e6, by omega, edge_eq (by omega) s2 s3⟩
    rw [fU_138]
    refine Eq.trans ?_ w1
    simp (disch := first | omega | exact Nat.le_of_ble_eq_true rfl | exact lH_ci | (refine lF_lt ?_; omega) | exact (hS _).iT.ci) only [own_138, am_go dc_138_0, J_aload_0, K_al, ld_0, am_go dc_138_1, cv_4_173_4 own_138, JR_v, JR_0, JR_ite, ci1_r, am_go dc_138_4, J_iconst, c32_0, am_go dc_138_5, J_istore, st1_0, st1_1, st1_s, kl_i, kl_l, kl_r, kl_n, am_go dc_138_7, am_go dc_138_8, J_getfield, gf_r, fk_4_38_4, am_go dc_138_11, J_iload_1, K_il, ld_1, am_go dc_138_12, J_iload_3, ld_3, am_go dc_138_13, cv_4_185_1 own_138, am_go dc_138_16, J_if_eq, am_go dc_138_19, am_go dc_138_20, am_go dc_138_21, J_iload_2, ld_2, am_go dc_138_22, am_go dc_138_23, cv_4_231_4 own_138, am_go dc_138_26, J_goto, am_go dc_138_29, am_go dc_138_30, am_go dc_138_32, am_go dc_138_33, J_iload, ld_6, am_go dc_138_37, J_bipush, c8_11, am_go dc_138_39, J_icmp_ge, am_go dc_138_42, ld_4, am_go dc_138_44, ld_5, am_go dc_138_46, am_go dc_138_49, am_go dc_138_51, am_go dc_138_53, J_iadd, am_go dc_138_54, c32_2, am_go dc_138_55, J_idiv, am_go dc_138_56, am_go dc_138_58, am_go dc_138_59, am_go dc_138_60, ld_7, am_go dc_138_62, cv_4_234_4 own_138, am_go dc_138_65, am_go dc_138_66, fk_4_19_4, am_go dc_138_69, am_go dc_138_70, am_go dc_138_73, am_go dc_138_74, am_go dc_138_75, cv_4_150_1 own_138, am_go dc_138_78, J_iaload, am_go dc_138_79, c8_10, am_go dc_138_81, am_go dc_138_82, am_go dc_138_83, J_icmp_ne, am_go dc_138_86, am_go dc_138_88, c32_1, am_go dc_138_89, am_go dc_138_90, am_go dc_138_92, am_go dc_138_95, am_go dc_138_97, am_go dc_138_99, J_iinc, pinc_go, am_go dc_138_102, am_go dc_138_105, am_go dc_138_106, am_go dc_138_107, am_go dc_138_108, am_go dc_138_111, fk_4_56_1, am_go dc_138_114, am_go dc_138_115, J_aaload, am_go dc_138_116, am_go dc_138_119, am_go dc_138_122, am_go dc_138_124, J_ret_i ret_138, lg_0, lg_4, tg_0, lH_0, lH_1, lH_4, lH_5, lH_6, lH_7, lH_8, lw_1, lw_4, lw_5, lw_6, lw_7, lw_8, zI_add, zI_mul, zI_lt, zI_le, zI_eq, zI_neg, zI_pos, zI_ne0, zI_gt0, zB_0, lg_cmp_ge, lg_cmp_le, lg_cmp_gt, lg_cmp_lt, lg_cmp_eq, ail_r, abl_r, all_r, ais_r, abs_r, als_r, aal_r, aal_q, aln_r, vrf_s, vrf_n, z32, t0, t1, t3, t4, e1, hmay, Bool.true_eq_false, Bool.false_eq_true, List.length_cons, List.length_nil, Nat.reduceAdd, Nat.reduceLT, Nat.reduceLeDiff, Nat.reduceEqDiff, ↓reduceIte, bind_s, if_true, if_false, not_true_eq_false, not_false_eq_true, Nat.zero_add]
end PF
