/-! the reference's small methods -/
section M1
variable {X : am_X} {h : am_H} {o d : Nat} {u : mU} {z : Nat × Nat}
theorem ci_m : am_ci1 ((mH h o u, z).1 o) = some 12 := by
  show am_ci1 (mH h o u o) = some 12
  rw [mH_o]
  rfl
theorem r_of {b k : Nat} (hb : 18 * b + k < 118) : am_f X (d + 1) 208 [.ref o, .int (zI b), .int (zI k)] (mH h o u, z) = some (.inl (some (.int (u.1 1 (18 * b + k)))), (mH h o u, z)) := by
  rw [fU_208]
  simp (disch := first | omega | exact ci_m | exact Nat.le_of_ble_eq_true rfl | (refine mF_lt ?_; omega)) only [own_208, am_go dc_208_0, J_aload_0, K_al, ld_0, am_go dc_208_1, J_getfield, gf_r, fk_12_9_12, am_go dc_208_4, J_bipush, c8_18, am_go dc_208_6, J_iload_1, K_il, ld_1, am_go dc_208_7, J_imul, am_go dc_208_8, J_iload_2, ld_2, am_go dc_208_9, J_iadd, am_go dc_208_10, J_iaload, am_go dc_208_11, J_ret_i ret_208, mH_o, mg_0, mH_1, zI_add, zI_mul, zI_lt, zI_le, zI_eq, zI_neg, zI_pos, zI_ne0, zI_gt0, zB_0, lg_cmp_ge, lg_cmp_le, lg_cmp_gt, lg_cmp_lt, lg_cmp_eq, ail_r, abl_r, all_r, List.length_cons, List.length_nil, Nat.reduceAdd, Nat.reduceLT, Nat.reduceLeDiff, Nat.reduceEqDiff, ↓reduceIte, bind_s, if_true, if_false, not_true_eq_false, not_false_eq_true, Nat.zero_add]
theorem r_how {b : Nat} (hb : b < 5) : am_f X (d + 1) 217 [.ref o, .int (zI b)] (mH h o u, z) = some (.inl (some (.int (u.1 1 (90 + b)))), (mH h o u, z)) := by
  rw [fU_217]
  simp (disch := first | omega | exact ci_m | exact Nat.le_of_ble_eq_true rfl | (refine mF_lt ?_; omega)) only [own_217, am_go dc_217_0, J_aload_0, K_al, ld_0, am_go dc_217_1, J_getfield, gf_r, fk_12_9_12, am_go dc_217_4, J_bipush, c8_90, am_go dc_217_6, J_iload_1, K_il, ld_1, am_go dc_217_7, J_iadd, am_go dc_217_8, J_iaload, am_go dc_217_9, J_ret_i ret_217, mH_o, mg_0, mH_1, zI_add, zI_mul, zI_lt, zI_le, zI_eq, zI_neg, zI_pos, zI_ne0, zI_gt0, zB_0, lg_cmp_ge, lg_cmp_le, lg_cmp_gt, lg_cmp_lt, lg_cmp_eq, ail_r, abl_r, all_r, List.length_cons, List.length_nil, Nat.reduceAdd, Nat.reduceLT, Nat.reduceLeDiff, Nat.reduceEqDiff, ↓reduceIte, bind_s, if_true, if_false, not_true_eq_false, not_false_eq_true, Nat.zero_add]
theorem r_kind {b : Nat} (hb : b < 5) : am_f X (d + 2) 207 [.ref o, .int (zI b)] (mH h o u, z) = some (.inl (some (.int (u.1 1 (18 * b)))), (mH h o u, z)) := by
  rw [fU_207]
  simp (disch := first | omega | exact ci_m | exact Nat.le_of_ble_eq_true rfl | (refine mF_lt ?_; omega)) only [own_207, am_go dc_207_0, J_aload_0, K_al, ld_0, am_go dc_207_1, J_iload_1, K_il, ld_1, am_go dc_207_2, J_iconst, c32_0, am_go dc_207_3, cv_12_79_12 own_207, JR_v, JR_0, JR_ite, ci1_r, am_go dc_207_6, J_ret_i ret_207, mH_o, zI_add, zI_mul, zI_lt, zI_le, zI_eq, zI_neg, zI_pos, zI_ne0, zI_gt0, zB_0, lg_cmp_ge, lg_cmp_le, lg_cmp_gt, lg_cmp_lt, lg_cmp_eq, ail_r, abl_r, all_r, r_of, Nat.add_zero, List.length_cons, List.length_nil, Nat.reduceAdd, Nat.reduceLT, Nat.reduceLeDiff, Nat.reduceEqDiff, ↓reduceIte, bind_s, if_true, if_false, not_true_eq_false, not_false_eq_true, Nat.zero_add]
theorem r_steps {b : Nat} (hb : b < 5) : am_f X (d + 2) 209 [.ref o, .int (zI b)] (mH h o u, z) = some (.inl (some (.int (u.1 1 (18 * b + 3)))), (mH h o u, z)) := by
  rw [fU_209]
  simp (disch := first | omega | exact ci_m | exact Nat.le_of_ble_eq_true rfl | (refine mF_lt ?_; omega)) only [own_209, am_go dc_209_0, J_aload_0, K_al, ld_0, am_go dc_209_1, J_iload_1, K_il, ld_1, am_go dc_209_2, J_iconst, c32_3, am_go dc_209_3, cv_12_79_12 own_209, JR_v, JR_0, JR_ite, ci1_r, am_go dc_209_6, J_ret_i ret_209, mH_o, zI_add, zI_mul, zI_lt, zI_le, zI_eq, zI_neg, zI_pos, zI_ne0, zI_gt0, zB_0, lg_cmp_ge, lg_cmp_le, lg_cmp_gt, lg_cmp_lt, lg_cmp_eq, ail_r, abl_r, all_r, r_of, List.length_cons, List.length_nil, Nat.reduceAdd, Nat.reduceLT, Nat.reduceLeDiff, Nat.reduceEqDiff, ↓reduceIte, bind_s, if_true, if_false, not_true_eq_false, not_false_eq_true, Nat.zero_add]
theorem r_worth {b i : Nat} (hb : b < 5) (hi : i < 4) : am_f X (d + 2) 226 [.ref o, .int (zI b), .int (zI i)] (mH h o u, z) = some (.inl (some (.int (u.1 1 (18 * b + (6 + i))))), (mH h o u, z)) := by
  rw [fU_226]
  simp (disch := first | omega | exact ci_m | exact Nat.le_of_ble_eq_true rfl | (refine mF_lt ?_; omega)) only [own_226, am_go dc_226_0, J_aload_0, K_al, ld_0, am_go dc_226_1, J_iload_1, K_il, ld_1, am_go dc_226_2, J_bipush, c8_6, am_go dc_226_4, J_iload_2, ld_2, am_go dc_226_5, J_iadd, am_go dc_226_6, cv_12_79_12 own_226, JR_v, JR_0, JR_ite, ci1_r, am_go dc_226_9, J_ret_i ret_226, mH_o, zI_add, zI_mul, zI_lt, zI_le, zI_eq, zI_neg, zI_pos, zI_ne0, zI_gt0, zB_0, lg_cmp_ge, lg_cmp_le, lg_cmp_gt, lg_cmp_lt, lg_cmp_eq, ail_r, abl_r, all_r, r_of, List.length_cons, List.length_nil, Nat.reduceAdd, Nat.reduceLT, Nat.reduceLeDiff, Nat.reduceEqDiff, ↓reduceIte, bind_s, if_true, if_false, not_true_eq_false, not_false_eq_true, Nat.zero_add]
theorem r_isIn {v a b : Int64} : am_f X (d + 1) 197 [.long v, .long a, .long b] (mH h o u, z) = some (.inl (some (.int (zB (decide (a ≤ v) && decide (v ≤ b))))), (mH h o u, z)) := by
  rw [fU_197]
  simp (disch := first | omega | exact ci_m | exact Nat.le_of_ble_eq_true rfl | (refine mF_lt ?_; omega)) only [own_197, am_go dc_197_0, J_lload_0, K_ll, ld_0, am_go dc_197_1, J_lload_2, ld_2, am_go dc_197_2, J_lcmp, am_go dc_197_3, J_if_lt, am_go dc_197_6, am_go dc_197_7, J_lload, ld_4, am_go dc_197_9, am_go dc_197_10, J_if_gt, am_go dc_197_13, J_iconst, c32_1, am_go dc_197_14, J_goto, am_go dc_197_17, c32_0, am_go dc_197_18, J_ret_z0 ret_197, J_ret_z1 ret_197, J_ret_zB ret_197, mH_o, zI_add, zI_mul, zI_lt, zI_le, zI_eq, zI_neg, zI_pos, zI_ne0, zI_gt0, zB_0, lg_cmp_ge, lg_cmp_le, lg_cmp_gt, lg_cmp_lt, lg_cmp_eq, ail_r, abl_r, all_r, List.length_cons, List.length_nil, Nat.reduceAdd, Nat.reduceLT, Nat.reduceLeDiff, Nat.reduceEqDiff, ↓reduceIte, bind_s, if_true, if_false, not_true_eq_false, not_false_eq_true, Nat.zero_add]
  by_cases h1 : v < a
  · have h2 : ¬ a ≤ v := Int64.not_le.mpr h1
    simp only [h1, h2, decide_false, Bool.false_and, zB_f, if_true]
  · have h2 : a ≤ v := Int64.not_lt.mp h1
    by_cases h3 : b < v
    · have h4 : ¬ v ≤ b := Int64.not_le.mpr h3
      simp only [h1, h2, h3, h4, decide_false, decide_true, Bool.and_false, zB_f, if_true, if_false]
    · have h4 : v ≤ b := Int64.not_lt.mp h3
      simp only [h1, h2, h3, h4, decide_true, Bool.and_self, zB_t, if_false]
/-- a place in the reference's array that holds a small number -/
def qN (S : Nat → Int32) (i n : Nat) : Prop := ∃ k, S i = zI k ∧ k ≤ n
/-- the numbers that are used as places -/
def qW (S : Nat → Int32) : Prop := (∀ b, b < 5 → qN S (90 + b) 6) ∧ (∀ b, b < wN (S 116) → (S (18 * b + 5) < 0 ∨ qN S (18 * b + 5) 4) ∧ (S (18 * b) = zI 3 → qN S (18 * b + 4) 4)) ∧ qN S 116 5
theorem qW.m {S : Nat → Int32} (hq : qW S) : S 116 = zI (wN (S 116)) ∧ wN (S 116) ≤ 5 := by
  obtain ⟨k, hk, h5⟩ := hq.2.2
  rw [hk, wN_zI (by omega)]
  exact ⟨rfl, h5⟩
def q_spent (S : Nat → Int32) (i : Nat) (v : Int32) : Int32 := v + if S (90 + i) ≤ zI 2 then zI 0 else S (18 * i + 2)
theorem r_spent_l {m : Nat} (hm : u.1 1 116 = zI m) (h5 : m ≤ 5) : ∀ (k i : Nat) (v : Int32), i + k = m → am_I X (am_f X (d + 1)) 220 4 [some (.ref o), some (.int v), some (.int (zI i))] [] (mH h o u, z) = some (.inl (some (.int (fo (q_spent (u.1 1)) i k v))), (mH h o u, z)) := by
  intro k
  induction k with
  | zero =>
    intro i v hi
    rw [am_go dc_220_4]
    simp (disch := first | omega | exact ci_m | exact Nat.le_of_ble_eq_true rfl | (refine mF_lt ?_; omega)) only [own_220, am_go dc_220_0, J_iconst, c32_0, am_go dc_220_1, J_istore_1, st1_0, st1_1, st1_s, kl_i, kl_l, kl_r, kl_n, am_go dc_220_2, am_go dc_220_3, J_istore_2, J_iload_2, K_il, ld_2, am_go dc_220_5, J_aload_0, K_al, ld_0, am_go dc_220_6, J_getfield, gf_r, fk_12_9_12, am_go dc_220_9, J_bipush, c8_116, am_go dc_220_11, J_iaload, am_go dc_220_12, J_icmp_ge, am_go dc_220_15, J_iload_1, ld_1, am_go dc_220_16, am_go dc_220_17, am_go dc_220_18, cv_12_183_12 own_220, JR_v, JR_0, JR_ite, ci1_r, am_go dc_220_21, c32_2, am_go dc_220_22, J_icmp_le, am_go dc_220_25, am_go dc_220_26, am_go dc_220_27, am_go dc_220_28, cv_12_79_12 own_220, am_go dc_220_31, J_goto, am_go dc_220_34, am_go dc_220_35, J_iadd, am_go dc_220_36, am_go dc_220_37, J_iinc, pinc_go, c32_1, am_go dc_220_40, am_go dc_220_43, am_go dc_220_44, J_ret_i ret_220, mH_o, mg_0, mH_1, zI_add, zI_mul, zI_lt, zI_le, zI_eq, zI_neg, zI_pos, zI_ne0, zI_gt0, zB_0, lg_cmp_ge, lg_cmp_le, lg_cmp_gt, lg_cmp_lt, lg_cmp_eq, ail_r, abl_r, all_r, hm, List.length_cons, List.length_nil, Nat.reduceAdd, Nat.reduceLT, Nat.reduceLeDiff, Nat.reduceEqDiff, ↓reduceIte, bind_s, if_true, if_false, not_true_eq_false, not_false_eq_true, Nat.zero_add]
    rw [if_pos (by omega)]
    rfl
  | succ k ih =>
    intro i v hi
    have ih' := fun v => ih (i + 1) v (by omega)
    rw [am_go dc_220_4]
    simp (disch := first | omega | exact ci_m | exact Nat.le_of_ble_eq_true rfl | (refine mF_lt ?_; omega)) only [own_220, am_go dc_220_0, J_iconst, c32_0, am_go dc_220_1, J_istore_1, st1_0, st1_1, st1_s, kl_i, kl_l, kl_r, kl_n, am_go dc_220_2, am_go dc_220_3, J_istore_2, J_iload_2, K_il, ld_2, am_go dc_220_5, J_aload_0, K_al, ld_0, am_go dc_220_6, J_getfield, gf_r, fk_12_9_12, am_go dc_220_9, J_bipush, c8_116, am_go dc_220_11, J_iaload, am_go dc_220_12, J_icmp_ge, am_go dc_220_15, J_iload_1, ld_1, am_go dc_220_16, am_go dc_220_17, am_go dc_220_18, cv_12_183_12 own_220, JR_v, JR_0, JR_ite, ci1_r, am_go dc_220_21, c32_2, am_go dc_220_22, J_icmp_le, am_go dc_220_25, am_go dc_220_26, am_go dc_220_27, am_go dc_220_28, cv_12_79_12 own_220, am_go dc_220_31, J_goto, am_go dc_220_34, am_go dc_220_35, J_iadd, am_go dc_220_36, am_go dc_220_37, J_iinc, pinc_go, c32_1, am_go dc_220_40, am_go dc_220_43, am_go dc_220_44, J_ret_i ret_220, mH_o, mg_0, mH_1, zI_add, zI_mul, zI_lt, zI_le, zI_eq, zI_neg, zI_pos, zI_ne0, zI_gt0, zB_0, lg_cmp_ge, lg_cmp_le, lg_cmp_gt, lg_cmp_lt, lg_cmp_eq, ail_r, abl_r, all_r, hm, r_how, r_of, List.length_cons, List.length_nil, Nat.reduceAdd, Nat.reduceLT, Nat.reduceLeDiff, Nat.reduceEqDiff, ↓reduceIte, bind_s, if_true, if_false, not_true_eq_false, not_false_eq_true, Nat.zero_add]
    rw [if_neg (by omega)]
    simp only [ih', fo, q_spent]
    split <;> rfl
def qSpent (S : Nat → Int32) : Int32 := fo (q_spent S) 0 (wN (S 116)) (zI 0)
theorem r_spent (hq : qW (u.1 1)) : am_f X (d + 2) 220 [.ref o] (mH h o u, z) = some (.inl (some (.int (qSpent (u.1 1)))), (mH h o u, z)) := by
  rw [fU_220]
  simp (disch := first | omega | exact ci_m | exact Nat.le_of_ble_eq_true rfl | (refine mF_lt ?_; omega)) only [own_220, am_go dc_220_0, J_iconst, c32_0, am_go dc_220_1, J_istore_1, st1_0, st1_1, st1_s, kl_i, kl_l, kl_r, kl_n, am_go dc_220_2, am_go dc_220_3, J_istore_2, J_iload_2, K_il, ld_2, am_go dc_220_5, J_aload_0, K_al, ld_0, am_go dc_220_6, J_getfield, gf_r, fk_12_9_12, am_go dc_220_9, J_bipush, c8_116, am_go dc_220_11, J_iaload, am_go dc_220_12, J_icmp_ge, am_go dc_220_15, J_iload_1, ld_1, am_go dc_220_16, am_go dc_220_17, am_go dc_220_18, cv_12_183_12 own_220, JR_v, JR_0, JR_ite, ci1_r, am_go dc_220_21, c32_2, am_go dc_220_22, J_icmp_le, am_go dc_220_25, am_go dc_220_26, am_go dc_220_27, am_go dc_220_28, cv_12_79_12 own_220, am_go dc_220_31, J_goto, am_go dc_220_34, am_go dc_220_35, J_iadd, am_go dc_220_36, am_go dc_220_37, J_iinc, pinc_go, c32_1, am_go dc_220_40, am_go dc_220_43, am_go dc_220_44, J_ret_i ret_220, mH_o, mg_0, mH_1, zI_add, zI_mul, zI_lt, zI_le, zI_eq, zI_neg, zI_pos, zI_ne0, zI_gt0, zB_0, lg_cmp_ge, lg_cmp_le, lg_cmp_gt, lg_cmp_lt, lg_cmp_eq, ail_r, abl_r, all_r, List.length_cons, List.length_nil, Nat.reduceAdd, Nat.reduceLT, Nat.reduceLeDiff, Nat.reduceEqDiff, ↓reduceIte, bind_s, if_true, if_false, not_true_eq_false, not_false_eq_true, Nat.zero_add]
  exact r_spent_l hq.m.1 hq.m.2 _ 0 _ (Nat.zero_add _)
def qChance (S : Nat → Int32) (b i : Nat) : Int32 := if S (18 * b + 5) < 0 then S (18 * b + (10 + i)) else if S (90 + wN (S (18 * b + 5))) = zI 3 then S (18 * b + (14 + i)) else S (18 * b + (10 + i))
theorem r_chance {b i : Nat} (hq : qW (u.1 1)) (hb : b < wN (u.1 1 116)) (hi : i < 4) : am_f X (d + 2) 223 [.ref o, .int (zI b), .int (zI i)] (mH h o u, z) = some (.inl (some (.int (qChance (u.1 1) b i))), (mH h o u, z)) := by
  have h5 := hq.m.2
  have hb5 : b < 5 := by omega
  rw [fU_223]
  unfold qChance
  rcases (hq.2.1 b hb).1 with hk | ⟨k, hk, hk4⟩
  · simp (disch := first | omega | exact ci_m | exact Nat.le_of_ble_eq_true rfl | (refine mF_lt ?_; omega)) only [own_223, am_go dc_223_0, J_aload_0, K_al, ld_0, am_go dc_223_1, J_iload_1, K_il, ld_1, am_go dc_223_2, J_iconst, c32_5, am_go dc_223_3, cv_12_79_12 own_223, JR_v, JR_0, JR_ite, ci1_r, am_go dc_223_6, J_istore_3, st1_0, st1_1, st1_s, kl_i, kl_l, kl_r, kl_n, am_go dc_223_7, J_iload_3, ld_3, am_go dc_223_8, J_if_lt, am_go dc_223_11, am_go dc_223_12, am_go dc_223_13, cv_12_183_12 own_223, am_go dc_223_16, c32_3, am_go dc_223_17, J_icmp_ne, am_go dc_223_20, am_go dc_223_21, am_go dc_223_22, J_bipush, c8_14, am_go dc_223_24, J_iload_2, ld_2, am_go dc_223_25, J_iadd, am_go dc_223_26, am_go dc_223_29, J_goto, am_go dc_223_32, am_go dc_223_33, am_go dc_223_34, c8_10, am_go dc_223_36, am_go dc_223_37, am_go dc_223_38, am_go dc_223_41, J_ret_i ret_223, mH_o, zI_add, zI_mul, zI_lt, zI_le, zI_eq, zI_neg, zI_pos, zI_ne0, zI_gt0, zB_0, lg_cmp_ge, lg_cmp_le, lg_cmp_gt, lg_cmp_lt, lg_cmp_eq, ail_r, abl_r, all_r, r_how, r_of, hk, List.length_cons, List.length_nil, Nat.reduceAdd, Nat.reduceLT, Nat.reduceLeDiff, Nat.reduceEqDiff, ↓reduceIte, bind_s, if_true, if_false, not_true_eq_false, not_false_eq_true, Nat.zero_add]
  · have hkw : wN (zI k) = k := wN_zI (by omega)
    simp (disch := first | omega | exact ci_m | exact Nat.le_of_ble_eq_true rfl | (refine mF_lt ?_; omega)) only [own_223, am_go dc_223_0, J_aload_0, K_al, ld_0, am_go dc_223_1, J_iload_1, K_il, ld_1, am_go dc_223_2, J_iconst, c32_5, am_go dc_223_3, cv_12_79_12 own_223, JR_v, JR_0, JR_ite, ci1_r, am_go dc_223_6, J_istore_3, st1_0, st1_1, st1_s, kl_i, kl_l, kl_r, kl_n, am_go dc_223_7, J_iload_3, ld_3, am_go dc_223_8, J_if_lt, am_go dc_223_11, am_go dc_223_12, am_go dc_223_13, cv_12_183_12 own_223, am_go dc_223_16, c32_3, am_go dc_223_17, J_icmp_ne, am_go dc_223_20, am_go dc_223_21, am_go dc_223_22, J_bipush, c8_14, am_go dc_223_24, J_iload_2, ld_2, am_go dc_223_25, J_iadd, am_go dc_223_26, am_go dc_223_29, J_goto, am_go dc_223_32, am_go dc_223_33, am_go dc_223_34, c8_10, am_go dc_223_36, am_go dc_223_37, am_go dc_223_38, am_go dc_223_41, J_ret_i ret_223, mH_o, zI_add, zI_mul, zI_lt, zI_le, zI_eq, zI_neg, zI_pos, zI_ne0, zI_gt0, zB_0, lg_cmp_ge, lg_cmp_le, lg_cmp_gt, lg_cmp_lt, lg_cmp_eq, ail_r, abl_r, all_r, r_how, r_of, hk, List.length_cons, List.length_nil, Nat.reduceAdd, Nat.reduceLT, Nat.reduceLeDiff, Nat.reduceEqDiff, ↓reduceIte, bind_s, if_true, if_false, not_true_eq_false, not_false_eq_true, Nat.zero_add]
    simp only [hkw]
    by_cases h3 : u.1 1 (90 + k) = zI 3
    · simp only [h3, not_true_eq_false, if_false, if_true]
    · simp only [h3, not_false_eq_true, if_false, if_true]
def qShows (S : Nat → Int32) (b i : Nat) : Int32 := if S (90 + b) = zI 1 ∧ 0 < i ∨ S (90 + b) = zI 2 ∧ i = 0 then zI 0 else qChance S b i
theorem r_shows {b i : Nat} (hq : qW (u.1 1)) (hb : b < wN (u.1 1 116)) (hi : i < 4) : am_f X (d + 3) 222 [.ref o, .int (zI b), .int (zI i)] (mH h o u, z) = some (.inl (some (.int (qShows (u.1 1) b i))), (mH h o u, z)) := by
  have h5 := hq.m.2
  have hb5 : b < 5 := by omega
  obtain ⟨w, hw, hw6⟩ := hq.1 b hb5
  have hch := fun d => r_chance (X := X) (h := h) (o := o) (d := d) (z := z) hq hb hi
  rw [fU_222]
  unfold qShows
  simp (disch := first | omega | exact ci_m | exact Nat.le_of_ble_eq_true rfl | (refine mF_lt ?_; omega)) only [own_222, am_go dc_222_0, J_aload_0, K_al, ld_0, am_go dc_222_1, J_iload_1, K_il, ld_1, am_go dc_222_2, cv_12_183_12 own_222, JR_v, JR_0, JR_ite, ci1_r, am_go dc_222_5, J_iconst, c32_1, am_go dc_222_6, J_icmp_ne, am_go dc_222_9, J_iload_2, ld_2, am_go dc_222_10, J_if_gt, am_go dc_222_13, am_go dc_222_14, am_go dc_222_15, am_go dc_222_18, c32_2, am_go dc_222_19, am_go dc_222_22, am_go dc_222_23, J_if_ne, am_go dc_222_26, c32_0, am_go dc_222_27, J_goto, am_go dc_222_30, am_go dc_222_31, am_go dc_222_32, am_go dc_222_33, cv_12_195_12 own_222, am_go dc_222_36, J_ret_i ret_222, mH_o, zI_add, zI_mul, zI_lt, zI_le, zI_eq, zI_neg, zI_pos, zI_ne0, zI_gt0, zB_0, lg_cmp_ge, lg_cmp_le, lg_cmp_gt, lg_cmp_lt, lg_cmp_eq, ail_r, abl_r, all_r, r_how, hch, hw, List.length_cons, List.length_nil, Nat.reduceAdd, Nat.reduceLT, Nat.reduceLeDiff, Nat.reduceEqDiff, ↓reduceIte, bind_s, if_true, if_false, not_true_eq_false, not_false_eq_true, Nat.zero_add]
  grind
end M1
