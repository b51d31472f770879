/-! numbers as numbers -/
theorem eu_le : ∀ (n : Nat) (a b : Int), 0 ≤ a → a < 4611686018427387904 → 0 < b → b < n → b < 4611686018427387904 → ∃ g : Int, eu n (jI a) (jI b) = jI g ∧ 0 < g ∧ g ≤ b
  | 0, a, b, _, _, h3, h4, _ => by omega
  | n + 1, a, b, h1, h2, h3, h4, h5 => by
    unfold eu
    rw [if_neg, jI_rem h1 (by omega) h3 (by omega)]
    · have h7 := Int.emod_nonneg a (show b ≠ 0 by omega)
      have h8 := Int.emod_lt_of_pos a h3
      by_cases e : a % b = 0
      · rw [e]
        obtain ⟨k, rfl⟩ : ∃ k, n = k + 1 := ⟨n - 1, by omega⟩
        unfold eu
        rw [if_pos (show jI 0 = 0 from rfl)]
        exact ⟨b, rfl, h3, Int.le_refl _⟩
      · obtain ⟨g, g1, g2, g3⟩ := eu_le n b (a % b) (by omega) h5 (by omega) (by omega) (by omega)
        exact ⟨g, g1, g2, by omega⟩
    · rw [jI_0, jI_eq (by omega) (by omega) (by omega) (by omega)]
      omega
theorem nb_v {S : Nat → Int32} {b : Nat} (hG : qG S) (hb : b < wN (S 116)) : ∃ t f : Int, qNT S b = jI t ∧ qNF S b = jI f ∧ (-399600 ≤ t ∧ t ≤ 399600) ∧ 0 < f ∧ f ≤ 100 := by
  obtain ⟨A, B, U, V, hR, hU, hV, -⟩ := qNb_ok hG hb
  obtain ⟨a', ha, h0, h1⟩ : ∃ a' : Int, (if 0 ≤ jI U then jI U else -jI U) = jI a' ∧ 0 ≤ a' ∧ a' < 4611686018427387904 := by
    have r2 : (0 ≤ jI U) = (0 ≤ U) := jI_le (a := 0) (by omega) (by omega) (by omega) (by omega)
    simp only [r2, jI_neg]
    by_cases e : 0 ≤ U
    · exact ⟨U, by rw [if_pos e], by omega, by omega⟩
    · exact ⟨-U, by rw [if_neg e], by omega, by omega⟩
  obtain ⟨g, g1, g2, g3⟩ := eu_le 128 a' V h0 h1 hV.1 (by omega) (by omega)
  have hC : nbC (S (18 * b + 1)) (wN (S (18 * b + 3))) (qChance S b) (qWt S b) = jI g := by
    unfold nbC
    rw [hR]
    simp only
    rw [ha, g1]
  have hf : 1 ≤ V / g := Int.le_ediv_of_mul_le g2 (by omega)
  have hf2 : V / g ≤ V := Int.ediv_le_self _ (by omega)
  refine ⟨(jI U / jI g).toInt, V / g, ?_, ?_, ?_, by omega, by omega⟩
  · unfold qNT nbT
    rw [hC, hR]
    exact jI_of _
  · unfold qNF nbF
    rw [hC, hR]
    exact jI_div (by omega) (by omega) g2 (by omega)
  · have hne : jI U ≠ Int64.minValue := fun e => by
      have := congrArg Int64.toInt e
      rw [jI_t (by omega) (by omega)] at this
      have h2 : Int64.minValue.toInt = -9223372036854775808 := by decide
      omega
    rw [Int64.toInt_div_of_ne_left _ _ hne, jI_t (by omega) (by omega), jI_t (by omega) (by omega)]
    have := Int.natAbs_tdiv_le_natAbs U g
    omega
/-! Plan: the rule -/
def nbW (S : Nat → Int32) (dg : Nat → Nat) (b : Nat) : Nat := if cTo S dg b = true then 2 * b + 1 else 2 * b
def c_rl (S : Nat → Int32) (T : mU × (Nat → Option Nat)) (dg : Nat → Nat) (b : Nat) (s : Int32 × Int64 × Int64) : Int32 × Int64 × Int64 := if s.2.1 * T.1.2.1 9 (nbW S dg b) < T.1.2.1 8 (nbW S dg b) * s.2.2 then (if cMay S dg b = true then (zI b, T.1.2.1 8 (nbW S dg b), T.1.2.1 9 (nbW S dg b)) else s) else s
section PR
variable {X : am_X} {C : Nat → Prop} {h : am_H} {l t m a N d r Q : Nat} {T : mU × (Nat → Option Nat)} {S R : Nat → Int32} {z : Nat × Nat} {u : mU} {dg : Nat → Nat}
theorem l_rule_l (hS : ∀ u, tS C (lH h l (u, (t, m, a, N))) t T S) (hd : dOk dg) : ∀ (k i : Nat) (s : Int32 × Int64 × Int64) (v9 v10 : Option Value), i + k = wN (S 116) → am_I X (am_f X (d + 3)) 103 21 [some (.ref l), some (.int (zI (pk dg))), some (.int (zI r)), some (.int s.1), some (.long s.2.1), none, some (.long s.2.2), none, some (.int (zI i)), v9, v10] [] (lH h l (u, (t, m, a, N)), z) = some (.inl (some (.int (fo (c_rl S T dg) i k s).1)), (lH h l (u, (t, m, a, N)), z)) := by
  have t0 := (hS u).iT.c0
  have t1 := (hS u).iT.c1
  have t3 := (hS u).iT.c3
  have t4 := (hS u).iT.c4
  have t6 := (hS u).iT.c6
  have t7 := (hS u).iT.c7
  have hsz := (hS u).sz
  have hm5 := (hS u).m5
  intro k
  induction k with
  | zero =>
    intro i s v9 v10 hi
    have hi' : wN (S 116) ≤ i := by omega
    rw [am_go dc_103_21]
    simp (disch := first | omega | exact Nat.le_of_ble_eq_true rfl | exact lH_ci | (refine lF_lt ?_; omega) | exact (hS _).iT.ci) only [own_103, am_go dc_103_0, J_bipush, i8_m4, am_go dc_103_2, J_istore_3, st1_0, st1_1, st1_s, kl_i, kl_l, kl_r, kl_n, am_go dc_103_3, J_aload_0, K_al, ld_0, am_go dc_103_4, J_getfield, gf_r, fk_4_38_4, am_go dc_103_7, fk_4_157_1, am_go dc_103_10, J_iload_2, K_il, ld_2, am_go dc_103_11, J_iaload, am_go dc_103_12, J_i2l, am_go dc_103_13, J_lstore, st2_0, st2_1, st2_s, am_go dc_103_15, J_lconst, i64_1, am_go dc_103_16, am_go dc_103_18, J_iconst, c32_0, am_go dc_103_19, J_istore, J_iload, ld_8, am_go dc_103_23, am_go dc_103_24, am_go dc_103_27, fk_4_52_1, am_go dc_103_30, J_icmp_ge, am_go dc_103_33, am_go dc_103_34, am_go dc_103_37, J_iload_1, ld_1, am_go dc_103_38, am_go dc_103_40, cv_4_176_1 own_103, JR_v, JR_0, JR_ite, ci1_r, am_go dc_103_43, am_go dc_103_45, am_go dc_103_46, am_go dc_103_49, fk_4_179_1, am_go dc_103_52, ld_9, am_go dc_103_54, J_laload, am_go dc_103_55, J_lload, K_ll, ld_6, am_go dc_103_57, J_lmul, am_go dc_103_58, ld_4, am_go dc_103_60, am_go dc_103_61, am_go dc_103_64, fk_4_182_1, am_go dc_103_67, am_go dc_103_69, am_go dc_103_70, am_go dc_103_71, J_lcmp, am_go dc_103_72, J_if_le, am_go dc_103_75, c32_1, am_go dc_103_76, J_goto, am_go dc_103_79, am_go dc_103_80, am_go dc_103_82, ld_10, am_go dc_103_84, J_if_eq, am_go dc_103_87, am_go dc_103_88, am_go dc_103_91, am_go dc_103_92, am_go dc_103_94, cv_4_185_1 own_103, am_go dc_103_97, am_go dc_103_100, am_go dc_103_102, am_go dc_103_103, am_go dc_103_104, am_go dc_103_107, am_go dc_103_110, am_go dc_103_112, am_go dc_103_113, am_go dc_103_115, am_go dc_103_116, am_go dc_103_119, am_go dc_103_122, am_go dc_103_124, am_go dc_103_125, am_go dc_103_127, J_iinc, pinc_go, am_go dc_103_130, am_go dc_103_133, J_iload_3, ld_3, am_go dc_103_134, J_ret_i ret_103, lg_0, tg_4, tg_1, tg_8, tg_9, lH_0, lH_1, lH_4, lH_5, lH_6, lH_7, lH_8, lw_1, lw_4, lw_5, lw_6, lw_7, lw_8, zI_add, zI_mul, zI_lt, zI_le, zI_eq, zI_neg, zI_pos, zI_ne0, zI_gt0, zB_0, lg_cmp_ge, lg_cmp_le, lg_cmp_gt, lg_cmp_lt, lg_cmp_eq, ail_r, abl_r, all_r, ais_r, abs_r, als_r, aal_r, aal_q, aln_r, vrf_s, vrf_n, z32, t0, t1, t3, t4, t6, t7, hsz, hi', List.length_cons, List.length_nil, Nat.reduceAdd, Nat.reduceLT, Nat.reduceLeDiff, Nat.reduceEqDiff, ↓reduceIte, bind_s, if_true, if_false, not_true_eq_false, not_false_eq_true, Nat.zero_add]
    all_goals rfl
  | succ k ih =>
    intro i s v9 v10 hi
    have him : i < wN (S 116) := by omega
    have hlt : ¬ wN (S 116) ≤ i := by omega
    have kn : am_f X (d + 3) 101 [.ref t, .int (zI (pk dg)), .int (zI i)] (lH h l (u, (t, m, a, N)), z) = some (.inl (some (.int (zI (nbW S dg i)))), (lH h l (u, (t, m, a, N)), z)) := c_numberAt (X := X) (d := d + 1) (z := z) (hS u) hd him
    have km := c_mayOpen (X := X) (d := d) (z := z) (hS u) hd him
    have hw : nbW S dg i < 10 := by
      unfold nbW
      split <;> omega
    have hfo : fo (c_rl S T dg) i (k + 1) s = fo (c_rl S T dg) (i + 1) k (c_rl S T dg i s) := rfl
    rw [hfo]
    have hc : c_rl S T dg i s = if s.2.1 * T.1.2.1 9 (nbW S dg i) < T.1.2.1 8 (nbW S dg i) * s.2.2 then (if cMay S dg i = true then (zI i, T.1.2.1 8 (nbW S dg i), T.1.2.1 9 (nbW S dg i)) else s) else s := rfl
    rw [hc]
    by_cases c : s.2.1 * T.1.2.1 9 (nbW S dg i) < T.1.2.1 8 (nbW S dg i) * s.2.2
    · have c' : ¬ T.1.2.1 8 (nbW S dg i) * s.2.2 ≤ s.2.1 * T.1.2.1 9 (nbW S dg i) := Int64.not_le.mpr c
      rw [if_pos c]
      cases c2 : cMay S dg i with
      | true =>
        rw [c2] at km
        rw [if_pos rfl]
        refine Eq.trans ?_ (ih (i + 1) (zI i, T.1.2.1 8 (nbW S dg i), T.1.2.1 9 (nbW S dg i)) (some (.int (zI (nbW S dg i)))) (some (.int (zI 1))) (by omega))
        generalize nbW S dg i = w at *
        rw [am_go dc_103_21]
        simp (disch := first | omega | exact Nat.le_of_ble_eq_true rfl | exact lH_ci | (refine lF_lt ?_; omega) | exact (hS _).iT.ci) only [own_103, am_go dc_103_0, J_bipush, i8_m4, am_go dc_103_2, J_istore_3, st1_0, st1_1, st1_s, kl_i, kl_l, kl_r, kl_n, am_go dc_103_3, J_aload_0, K_al, ld_0, am_go dc_103_4, J_getfield, gf_r, fk_4_38_4, am_go dc_103_7, fk_4_157_1, am_go dc_103_10, J_iload_2, K_il, ld_2, am_go dc_103_11, J_iaload, am_go dc_103_12, J_i2l, am_go dc_103_13, J_lstore, st2_0, st2_1, st2_s, am_go dc_103_15, J_lconst, i64_1, am_go dc_103_16, am_go dc_103_18, J_iconst, c32_0, am_go dc_103_19, J_istore, J_iload, ld_8, am_go dc_103_23, am_go dc_103_24, am_go dc_103_27, fk_4_52_1, am_go dc_103_30, J_icmp_ge, am_go dc_103_33, am_go dc_103_34, am_go dc_103_37, J_iload_1, ld_1, am_go dc_103_38, am_go dc_103_40, cv_4_176_1 own_103, JR_v, JR_0, JR_ite, ci1_r, am_go dc_103_43, am_go dc_103_45, am_go dc_103_46, am_go dc_103_49, fk_4_179_1, am_go dc_103_52, ld_9, am_go dc_103_54, J_laload, am_go dc_103_55, J_lload, K_ll, ld_6, am_go dc_103_57, J_lmul, am_go dc_103_58, ld_4, am_go dc_103_60, am_go dc_103_61, am_go dc_103_64, fk_4_182_1, am_go dc_103_67, am_go dc_103_69, am_go dc_103_70, am_go dc_103_71, J_lcmp, am_go dc_103_72, J_if_le, am_go dc_103_75, c32_1, am_go dc_103_76, J_goto, am_go dc_103_79, am_go dc_103_80, am_go dc_103_82, ld_10, am_go dc_103_84, J_if_eq, am_go dc_103_87, am_go dc_103_88, am_go dc_103_91, am_go dc_103_92, am_go dc_103_94, cv_4_185_1 own_103, am_go dc_103_97, am_go dc_103_100, am_go dc_103_102, am_go dc_103_103, am_go dc_103_104, am_go dc_103_107, am_go dc_103_110, am_go dc_103_112, am_go dc_103_113, am_go dc_103_115, am_go dc_103_116, am_go dc_103_119, am_go dc_103_122, am_go dc_103_124, am_go dc_103_125, am_go dc_103_127, J_iinc, pinc_go, am_go dc_103_130, am_go dc_103_133, J_iload_3, ld_3, am_go dc_103_134, J_ret_i ret_103, lg_0, tg_4, tg_1, tg_8, tg_9, lH_0, lH_1, lH_4, lH_5, lH_6, lH_7, lH_8, lw_1, lw_4, lw_5, lw_6, lw_7, lw_8, zI_add, zI_mul, zI_lt, zI_le, zI_eq, zI_neg, zI_pos, zI_ne0, zI_gt0, zB_0, lg_cmp_ge, lg_cmp_le, lg_cmp_gt, lg_cmp_lt, lg_cmp_eq, ail_r, abl_r, all_r, ais_r, abs_r, als_r, aal_r, aal_q, aln_r, vrf_s, vrf_n, z32, t0, t1, t3, t4, t6, t7, hsz, hlt, kn, km, c', zB_t, zB_f, List.length_cons, List.length_nil, Nat.reduceAdd, Nat.reduceLT, Nat.reduceLeDiff, Nat.reduceEqDiff, ↓reduceIte, bind_s, if_true, if_false, not_true_eq_false, not_false_eq_true, Nat.zero_add]
      | false =>
        rw [c2] at km
        rw [if_neg (by simp)]
        refine Eq.trans ?_ (ih (i + 1) s (some (.int (zI (nbW S dg i)))) (some (.int (zI 1))) (by omega))
        generalize nbW S dg i = w at *
        rw [am_go dc_103_21]
        simp (disch := first | omega | exact Nat.le_of_ble_eq_true rfl | exact lH_ci | (refine lF_lt ?_; omega) | exact (hS _).iT.ci) only [own_103, am_go dc_103_0, J_bipush, i8_m4, am_go dc_103_2, J_istore_3, st1_0, st1_1, st1_s, kl_i, kl_l, kl_r, kl_n, am_go dc_103_3, J_aload_0, K_al, ld_0, am_go dc_103_4, J_getfield, gf_r, fk_4_38_4, am_go dc_103_7, fk_4_157_1, am_go dc_103_10, J_iload_2, K_il, ld_2, am_go dc_103_11, J_iaload, am_go dc_103_12, J_i2l, am_go dc_103_13, J_lstore, st2_0, st2_1, st2_s, am_go dc_103_15, J_lconst, i64_1, am_go dc_103_16, am_go dc_103_18, J_iconst, c32_0, am_go dc_103_19, J_istore, J_iload, ld_8, am_go dc_103_23, am_go dc_103_24, am_go dc_103_27, fk_4_52_1, am_go dc_103_30, J_icmp_ge, am_go dc_103_33, am_go dc_103_34, am_go dc_103_37, J_iload_1, ld_1, am_go dc_103_38, am_go dc_103_40, cv_4_176_1 own_103, JR_v, JR_0, JR_ite, ci1_r, am_go dc_103_43, am_go dc_103_45, am_go dc_103_46, am_go dc_103_49, fk_4_179_1, am_go dc_103_52, ld_9, am_go dc_103_54, J_laload, am_go dc_103_55, J_lload, K_ll, ld_6, am_go dc_103_57, J_lmul, am_go dc_103_58, ld_4, am_go dc_103_60, am_go dc_103_61, am_go dc_103_64, fk_4_182_1, am_go dc_103_67, am_go dc_103_69, am_go dc_103_70, am_go dc_103_71, J_lcmp, am_go dc_103_72, J_if_le, am_go dc_103_75, c32_1, am_go dc_103_76, J_goto, am_go dc_103_79, am_go dc_103_80, am_go dc_103_82, ld_10, am_go dc_103_84, J_if_eq, am_go dc_103_87, am_go dc_103_88, am_go dc_103_91, am_go dc_103_92, am_go dc_103_94, cv_4_185_1 own_103, am_go dc_103_97, am_go dc_103_100, am_go dc_103_102, am_go dc_103_103, am_go dc_103_104, am_go dc_103_107, am_go dc_103_110, am_go dc_103_112, am_go dc_103_113, am_go dc_103_115, am_go dc_103_116, am_go dc_103_119, am_go dc_103_122, am_go dc_103_124, am_go dc_103_125, am_go dc_103_127, J_iinc, pinc_go, am_go dc_103_130, am_go dc_103_133, J_iload_3, ld_3, am_go dc_103_134, J_ret_i ret_103, lg_0, tg_4, tg_1, tg_8, tg_9, lH_0, lH_1, lH_4, lH_5, lH_6, lH_7, lH_8, lw_1, lw_4, lw_5, lw_6, lw_7, lw_8, zI_add, zI_mul, zI_lt, zI_le, zI_eq, zI_neg, zI_pos, zI_ne0, zI_gt0, zB_0, lg_cmp_ge, lg_cmp_le, lg_cmp_gt, lg_cmp_lt, lg_cmp_eq, ail_r, abl_r, all_r, ais_r, abs_r, als_r, aal_r, aal_q, aln_r, vrf_s, vrf_n, z32, t0, t1, t3, t4, t6, t7, hsz, hlt, kn, km, c', zB_t, zB_f, List.length_cons, List.length_nil, Nat.reduceAdd, Nat.reduceLT, Nat.reduceLeDiff, Nat.reduceEqDiff, ↓reduceIte, bind_s, if_true, if_false, not_true_eq_false, not_false_eq_true, Nat.zero_add]
    · have c' : T.1.2.1 8 (nbW S dg i) * s.2.2 ≤ s.2.1 * T.1.2.1 9 (nbW S dg i) := Int64.not_lt.mp c
      rw [if_neg c]
      refine Eq.trans ?_ (ih (i + 1) s (some (.int (zI (nbW S dg i)))) (some (.int (zI 0))) (by omega))
      generalize nbW S dg i = w at *
      rw [am_go dc_103_21]
      simp (disch := first | omega | exact Nat.le_of_ble_eq_true rfl | exact lH_ci | (refine lF_lt ?_; omega) | exact (hS _).iT.ci) only [own_103, am_go dc_103_0, J_bipush, i8_m4, am_go dc_103_2, J_istore_3, st1_0, st1_1, st1_s, kl_i, kl_l, kl_r, kl_n, am_go dc_103_3, J_aload_0, K_al, ld_0, am_go dc_103_4, J_getfield, gf_r, fk_4_38_4, am_go dc_103_7, fk_4_157_1, am_go dc_103_10, J_iload_2, K_il, ld_2, am_go dc_103_11, J_iaload, am_go dc_103_12, J_i2l, am_go dc_103_13, J_lstore, st2_0, st2_1, st2_s, am_go dc_103_15, J_lconst, i64_1, am_go dc_103_16, am_go dc_103_18, J_iconst, c32_0, am_go dc_103_19, J_istore, J_iload, ld_8, am_go dc_103_23, am_go dc_103_24, am_go dc_103_27, fk_4_52_1, am_go dc_103_30, J_icmp_ge, am_go dc_103_33, am_go dc_103_34, am_go dc_103_37, J_iload_1, ld_1, am_go dc_103_38, am_go dc_103_40, cv_4_176_1 own_103, JR_v, JR_0, JR_ite, ci1_r, am_go dc_103_43, am_go dc_103_45, am_go dc_103_46, am_go dc_103_49, fk_4_179_1, am_go dc_103_52, ld_9, am_go dc_103_54, J_laload, am_go dc_103_55, J_lload, K_ll, ld_6, am_go dc_103_57, J_lmul, am_go dc_103_58, ld_4, am_go dc_103_60, am_go dc_103_61, am_go dc_103_64, fk_4_182_1, am_go dc_103_67, am_go dc_103_69, am_go dc_103_70, am_go dc_103_71, J_lcmp, am_go dc_103_72, J_if_le, am_go dc_103_75, c32_1, am_go dc_103_76, J_goto, am_go dc_103_79, am_go dc_103_80, am_go dc_103_82, ld_10, am_go dc_103_84, J_if_eq, am_go dc_103_87, am_go dc_103_88, am_go dc_103_91, am_go dc_103_92, am_go dc_103_94, cv_4_185_1 own_103, am_go dc_103_97, am_go dc_103_100, am_go dc_103_102, am_go dc_103_103, am_go dc_103_104, am_go dc_103_107, am_go dc_103_110, am_go dc_103_112, am_go dc_103_113, am_go dc_103_115, am_go dc_103_116, am_go dc_103_119, am_go dc_103_122, am_go dc_103_124, am_go dc_103_125, am_go dc_103_127, J_iinc, pinc_go, am_go dc_103_130, am_go dc_103_133, J_iload_3, ld_3, am_go dc_103_134, J_ret_i ret_103, lg_0, tg_4, tg_1, tg_8, tg_9, lH_0, lH_1, lH_4, lH_5, lH_6, lH_7, lH_8, lw_1, lw_4, lw_5, lw_6, lw_7, lw_8, zI_add, zI_mul, zI_lt, zI_le, zI_eq, zI_neg, zI_pos, zI_ne0, zI_gt0, zB_0, lg_cmp_ge, lg_cmp_le, lg_cmp_gt, lg_cmp_lt, lg_cmp_eq, ail_r, abl_r, all_r, ais_r, abs_r, als_r, aal_r, aal_q, aln_r, vrf_s, vrf_n, z32, t0, t1, t3, t4, t6, t7, hsz, hlt, kn, km, c', zB_t, zB_f, List.length_cons, List.length_nil, Nat.reduceAdd, Nat.reduceLT, Nat.reduceLeDiff, Nat.reduceEqDiff, ↓reduceIte, bind_s, if_true, if_false, not_true_eq_false, not_false_eq_true, Nat.zero_add]
theorem l_ruleAt (hS : ∀ u, tS C (lH h l (u, (t, m, a, N))) t T S) (hd : dOk dg) (hr : r < 21) : am_f X (d + 4) 103 [.ref l, .int (zI (pk dg)), .int (zI r)] (lH h l (u, (t, m, a, N)), z) = some (.inl (some (.int (fo (c_rl S T dg) 0 (wN (S 116)) (-4, (T.1.1 4 r).toInt64, 1)).1)), (lH h l (u, (t, m, a, N)), z)) := by
  have t0 := (hS u).iT.c0
  have t1 := (hS u).iT.c1
  have t3 := (hS u).iT.c3
  have t4 := (hS u).iT.c4
  have t6 := (hS u).iT.c6
  have t7 := (hS u).iT.c7
  have hsz := (hS u).sz
  have hm5 := (hS u).m5
  rw [fU_103]
  refine Eq.trans ?_ (l_rule_l (X := X) (d := d) (r := r) hS hd (wN (S 116)) 0 (-4, (T.1.1 4 r).toInt64, 1) none none (Nat.zero_add _))
  simp (disch := first | omega | exact Nat.le_of_ble_eq_true rfl | exact lH_ci | (refine lF_lt ?_; omega) | exact (hS _).iT.ci) only [own_103, am_go dc_103_0, J_bipush, i8_m4, am_go dc_103_2, J_istore_3, st1_0, st1_1, st1_s, kl_i, kl_l, kl_r, kl_n, am_go dc_103_3, J_aload_0, K_al, ld_0, am_go dc_103_4, J_getfield, gf_r, fk_4_38_4, am_go dc_103_7, fk_4_157_1, am_go dc_103_10, J_iload_2, K_il, ld_2, am_go dc_103_11, J_iaload, am_go dc_103_12, J_i2l, am_go dc_103_13, J_lstore, st2_0, st2_1, st2_s, am_go dc_103_15, J_lconst, i64_1, am_go dc_103_16, am_go dc_103_18, J_iconst, c32_0, am_go dc_103_19, J_istore, J_iload, ld_8, am_go dc_103_23, am_go dc_103_24, am_go dc_103_27, fk_4_52_1, am_go dc_103_30, J_icmp_ge, am_go dc_103_33, am_go dc_103_34, am_go dc_103_37, J_iload_1, ld_1, am_go dc_103_38, am_go dc_103_40, cv_4_176_1 own_103, JR_v, JR_0, JR_ite, ci1_r, am_go dc_103_43, am_go dc_103_45, am_go dc_103_46, am_go dc_103_49, fk_4_179_1, am_go dc_103_52, ld_9, am_go dc_103_54, J_laload, am_go dc_103_55, J_lload, K_ll, ld_6, am_go dc_103_57, J_lmul, am_go dc_103_58, ld_4, am_go dc_103_60, am_go dc_103_61, am_go dc_103_64, fk_4_182_1, am_go dc_103_67, am_go dc_103_69, am_go dc_103_70, am_go dc_103_71, J_lcmp, am_go dc_103_72, J_if_le, am_go dc_103_75, c32_1, am_go dc_103_76, J_goto, am_go dc_103_79, am_go dc_103_80, am_go dc_103_82, ld_10, am_go dc_103_84, J_if_eq, am_go dc_103_87, am_go dc_103_88, am_go dc_103_91, am_go dc_103_92, am_go dc_103_94, cv_4_185_1 own_103, am_go dc_103_97, am_go dc_103_100, am_go dc_103_102, am_go dc_103_103, am_go dc_103_104, am_go dc_103_107, am_go dc_103_110, am_go dc_103_112, am_go dc_103_113, am_go dc_103_115, am_go dc_103_116, am_go dc_103_119, am_go dc_103_122, am_go dc_103_124, am_go dc_103_125, am_go dc_103_127, J_iinc, pinc_go, am_go dc_103_130, am_go dc_103_133, J_iload_3, ld_3, am_go dc_103_134, J_ret_i ret_103, lg_0, tg_4, tg_1, tg_8, tg_9, lH_0, lH_1, lH_4, lH_5, lH_6, lH_7, lH_8, lw_1, lw_4, lw_5, lw_6, lw_7, lw_8, zI_add, zI_mul, zI_lt, zI_le, zI_eq, zI_neg, zI_pos, zI_ne0, zI_gt0, zB_0, lg_cmp_ge, lg_cmp_le, lg_cmp_gt, lg_cmp_lt, lg_cmp_eq, ail_r, abl_r, all_r, ais_r, abs_r, als_r, aal_r, aal_q, aln_r, vrf_s, vrf_n, z32, t0, t1, t3, t4, t6, t7, hsz, List.length_cons, List.length_nil, Nat.reduceAdd, Nat.reduceLT, Nat.reduceLeDiff, Nat.reduceEqDiff, ↓reduceIte, bind_s, if_true, if_false, not_true_eq_false, not_false_eq_true, Nat.zero_add]
theorem fr1 {tc fc tb fb hh : Int} (h1 : tc ≤ hh * fc) (h2 : hh * fb < tb) (h3 : 0 < fb) (h4 : 0 < fc) : tc * fb < tb * fc := by
  have a1 : tc * fb ≤ hh * fc * fb := Int.mul_le_mul_of_nonneg_right h1 (by omega)
  have a2 : hh * fb * fc < tb * fc := Int.mul_lt_mul_of_pos_right h2 h4
  have a3 : hh * fc * fb = hh * fb * fc := by rw [Int.mul_assoc, Int.mul_comm fc fb, ← Int.mul_assoc]
  omega
theorem fr2 {tc fc tb fb hh : Int} (h1 : hh * fc < tc) (h2 : tc * fb < tb * fc) (h3 : 0 < fb) (h4 : 0 < fc) : hh * fb < tb := by
  rcases (by omega : hh * fb < tb ∨ tb ≤ hh * fb) with q | q
  · exact q
  · have a1 : tb * fc ≤ hh * fb * fc := Int.mul_le_mul_of_nonneg_right q (by omega)
    have a2 : hh * fc * fb < tc * fb := Int.mul_lt_mul_of_pos_right h1 h3
    have a3 : hh * fc * fb = hh * fb * fc := by rw [Int.mul_assoc, Int.mul_comm fc fb, ← Int.mul_assoc]
    omega
theorem pr_bd {x y : Int} (h1 : -399600 ≤ x ∧ x ≤ 399600) (h2 : 0 < y ∧ y ≤ 100) : -9223372036854775808 ≤ x * y ∧ x * y < 9223372036854775808 := by
  have h3 : x * y ≤ 399600 * 100 := by
    rcases (by omega : x < 0 ∨ 0 ≤ x) with q | q
    · have := Int.mul_nonneg (show (0 : Int) ≤ -x by omega) (show (0 : Int) ≤ y by omega)
      rw [Int.neg_mul] at this
      omega
    · exact Int.mul_le_mul h1.2 h2.2 (by omega) (by omega)
  have h4 : -(x * y) ≤ 399600 * 100 := by
    rcases (by omega : x < 0 ∨ 0 ≤ x) with q | q
    · rw [← Int.neg_mul]
      exact Int.mul_le_mul (by omega) h2.2 (by omega) (by omega)
    · have := Int.mul_nonneg q (show (0 : Int) ≤ y by omega)
      omega
  omega
/-- the numbers told are the reference's -/
theorem lk_nb {b : Nat} (hG : qG R) (hR : qRw R S) (hL : qPl S) (hN : tNm T R) (hb : b < wN (R 116)) : T.1.2.1 8 (nbW R (qDg S) b) = qNT S b ∧ T.1.2.1 9 (nbW R (qDg S) b) = qNF S b := by
  have h5 := hG.m.2
  have hn4 := (hG.n hb).2.2
  obtain ⟨n1, n2, n3⟩ := hN b hb
  unfold nbW qNT qNF
  rw [hR.r (by omega) (by omega), hR.r (by omega) (by omega)]
  have w : ∀ i, i < wN (R (18 * b + 3)) → qWt R b i = qWt S b i := fun i hi => (hR.r (by omega) (by omega)).symm
  cases c : cTo R (qDg S) b with
  | true =>
    have c5 : ¬ R (18 * b + 5) < 0 := by
      unfold cTo at c
      simp only [Bool.and_eq_true, Bool.not_eq_true', decide_eq_false_iff_not] at c
      exact c.1
    obtain ⟨q1, q2⟩ := n3 c5
    rw [if_pos rfl, q1, q2]
    exact nb_x (fun i hi => by rw [lk_chance hG hR hL hb (by omega), c, if_pos rfl]) w
  | false =>
    rw [if_neg (by simp), n1, n2]
    exact nb_x (fun i hi => by rw [lk_chance hG hR hL hb (by omega), c, if_neg (by simp)]) w
theorem qG_R (hG : qG R) (hR : qRw R S) : qG S := qG_x (S := R) (S' := S) hR hG
theorem lk_rl (hr : rOk T R Q) (hG : qG R) (hR : qRw R S) (hL : qPl S) (hN : tNm T R) : (fo (c_rl R T (qDg S)) 0 (wN (R 116)) (-4, (T.1.1 4 (rkN T S)).toInt64, 1)).1 = qRl S := by
  have h5 := hG.m.2
  obtain ⟨-, -, e3, -⟩ := lk_rk hr hG hR hL
  rw [e3]
  obtain ⟨n, n1, n2⟩ := has_v hr hG hR hL
  rw [n1, jI_z (by omega)]
  have key : ∀ k, k ≤ wN (R 116) → ((fo (q_rl S) 0 k (-4, 0, 1)).1 < 0 ∧ fo (c_rl R T (qDg S)) 0 k (-4, jI n, 1) = (-4, jI n, 1)) ∨ (∃ (c : Nat) (t f : Int), c < 5 ∧ fo (q_rl S) 0 k (-4, 0, 1) = (zI c, jI t, jI f) ∧ (-399600 ≤ t ∧ t ≤ 399600) ∧ (0 < f ∧ f ≤ 100) ∧ ((t ≤ n * f ∧ fo (c_rl R T (qDg S)) 0 k (-4, jI n, 1) = (-4, jI n, 1)) ∨ (n * f < t ∧ fo (c_rl R T (qDg S)) 0 k (-4, jI n, 1) = (zI c, jI t, jI f)))) := by
    intro k
    induction k with
    | zero => exact fun _ => Or.inl ⟨m4_neg, rfl⟩
    | succ k ih =>
      intro hk
      have hk' : k < wN (R 116) := by omega
      obtain ⟨q1, q2⟩ := lk_nb hG hR hL hN hk'
      obtain ⟨tb, fb, b1, b2, b3, b4, b5⟩ := nb_v (qG_R hG hR) (show k < wN (S 116) by rw [hR.m]; exact hk')
      rw [b1] at q1
      rw [b2] at q2
      have hnb : (0 : Int) ≤ n * fb ∧ (n : Int) * fb ≤ 999 * 100 := ⟨Int.mul_nonneg (by omega) (by omega), Int.mul_le_mul (by omega) b5 (by omega) (by omega)⟩
      have i := ih (by omega)
      simp only [fo_succ, Nat.zero_add]
      generalize fo (q_rl S) 0 k (-4, 0, 1) = B at *
      generalize fo (c_rl R T (qDg S)) 0 k (-4, jI n, 1) = Aa at *
      unfold q_rl c_rl
      rw [q1, q2, b1, b2, lk_may hG hR hL hk']
      have lt1 : (jI n * jI fb < jI tb * 1) = (n * fb < tb) := by
        rw [show (1 : Int64) = jI 1 from rfl, jI_mul, jI_mul, jI_lt (by omega) (by omega) (by omega) (by omega), Int.mul_one]
      cases cm : qMay S k with
      | false =>
        simp only [Bool.false_eq_true, if_false, ite_self]
        exact i
      | true =>
        simp only [if_true]
        rcases i with ⟨i1, i2⟩ | ⟨c, t, f, c5, c1, c2, c3, c4⟩
        · rw [if_pos i1, i2]
          simp only [lt1]
          refine Or.inr ⟨k, tb, fb, by omega, rfl, b3, ⟨b4, b5⟩, ?_⟩
          by_cases q : n * fb < tb
          · rw [if_pos q]
            exact Or.inr ⟨q, rfl⟩
          · rw [if_neg q]
            exact Or.inl ⟨by omega, rfl⟩
        · have hneg : ¬ zI c < 0 := by rw [zI_neg (by omega)]; exact id
          rw [c1]
          have p1 := pr_bd c2 ⟨b4, b5⟩
          have p2 := pr_bd b3 c3
          have lt2 : (jI t * jI fb < jI tb * jI f) = (t * fb < tb * f) := by
            rw [jI_mul, jI_mul, jI_lt p1.1 p1.2 p2.1 p2.2]
          simp only [hneg, if_false, lt2]
          rcases c4 with ⟨d1, d2⟩ | ⟨d1, d2⟩
          · rw [d2]
            simp only [lt1]
            by_cases q : n * fb < tb
            · have := fr1 d1 q b4 c3.1
              rw [if_pos q, if_pos this]
              exact Or.inr ⟨k, tb, fb, by omega, rfl, b3, ⟨b4, b5⟩, Or.inr ⟨q, rfl⟩⟩
            · rw [if_neg q]
              by_cases q2 : t * fb < tb * f
              · rw [if_pos q2]
                exact Or.inr ⟨k, tb, fb, by omega, rfl, b3, ⟨b4, b5⟩, Or.inl ⟨by omega, rfl⟩⟩
              · rw [if_neg q2]
                exact Or.inr ⟨c, t, f, c5, rfl, c2, c3, Or.inl ⟨d1, rfl⟩⟩
          · rw [d2]
            simp only [lt2]
            by_cases q2 : t * fb < tb * f
            · rw [if_pos q2]
              exact Or.inr ⟨k, tb, fb, by omega, rfl, b3, ⟨b4, b5⟩, Or.inr ⟨fr2 d1 q2 b4 c3.1, rfl⟩⟩
            · rw [if_neg q2]
              exact Or.inr ⟨c, t, f, c5, rfl, c2, c3, Or.inr ⟨d1, rfl⟩⟩
  unfold qRl qRl0
  rw [hR.m, n1, jI_z (by omega)]
  rcases key _ (Nat.le_refl _) with ⟨i1, i2⟩ | ⟨c, t, f, c5, c1, c2, c3, c4⟩
  · rw [if_pos i1, i2]
  · rw [c1]
    have hneg : ¬ zI c < 0 := by rw [zI_neg (by omega)]; exact id
    have hnb : (0 : Int) ≤ n * f ∧ (n : Int) * f ≤ 999 * 100 := ⟨Int.mul_nonneg (by omega) (by omega), Int.mul_le_mul (by omega) c3.2 (by omega) (by omega)⟩
    have le1 : (jI t ≤ jI n * jI f) = (t ≤ n * f) := by
      rw [jI_mul, jI_le (by omega) (by omega) (by omega) (by omega)]
    simp only [hneg, if_false, le1]
    rcases c4 with ⟨d1, d2⟩ | ⟨d1, d2⟩
    · rw [if_pos d1, d2]
    · rw [if_neg (by omega), d2]
end PR
