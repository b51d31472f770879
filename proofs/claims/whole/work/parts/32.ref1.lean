/-! the reference's small methods -/
section M1
variable {X : am_X} {h : am_H} {o d : Nat} {u : mU} {z : Nat × Nat}
theorem ci_m : am_ci1 ((mH h o u, z).1 o) = some 12 := by
  show am_ci1 (mH h o u o) = some 12
  rw [mH_o]
  rfl
theorem r_of {b k : Nat} (hb : 18 * b + k < 118) : am_f X (d + 1) 208 [.ref o, .int (nI b), .int (nI k)] (mH h o u, z) = some (.inl (some (.int (u.1 1 (18 * b + k)))), (mH h o u, z)) := by
  rw [fU_208]
  simp (disch := first | omega | exact ci_m | exact Nat.le_of_ble_eq_true rfl) only [own_208, am_go dc_208_0, J_aload_0, K_al, ld_0, am_go dc_208_1, J_getfield, gf_r, fk_12_9_12, am_go dc_208_4, J_bipush, c8_18, am_go dc_208_6, J_iload_1, K_il, ld_1, am_go dc_208_7, J_imul, am_go dc_208_8, J_iload_2, ld_2, am_go dc_208_9, J_iadd, am_go dc_208_10, J_iaload, am_go dc_208_11, J_ret_i ret_208, mH_o, mg_0, mH_1, nI_add, nI_mul, nI_lt, nI_le, nI_eq, nI_neg, nI_pos, ail_r, abl_r, all_r, List.length_cons, List.length_nil, Nat.reduceAdd, Nat.reduceLT, Nat.reduceLTLE, Nat.reduceLeDiff, Nat.reduceEqDiff, ↓reduceIte, bind_s, if_true, if_false, Nat.zero_add]
theorem r_how {b : Nat} (hb : b < 5) : am_f X (d + 1) 217 [.ref o, .int (nI b)] (mH h o u, z) = some (.inl (some (.int (u.1 1 (90 + b)))), (mH h o u, z)) := by
  rw [fU_217]
  simp (disch := first | omega | exact ci_m | exact Nat.le_of_ble_eq_true rfl) only [own_217, am_go dc_217_0, J_aload_0, K_al, ld_0, am_go dc_217_1, J_getfield, gf_r, fk_12_9_12, am_go dc_217_4, J_bipush, c8_90, am_go dc_217_6, J_iload_1, K_il, ld_1, am_go dc_217_7, J_iadd, am_go dc_217_8, J_iaload, am_go dc_217_9, J_ret_i ret_217, mH_o, mg_0, mH_1, nI_add, nI_mul, nI_lt, nI_le, nI_eq, nI_neg, nI_pos, ail_r, abl_r, all_r, List.length_cons, List.length_nil, Nat.reduceAdd, Nat.reduceLT, Nat.reduceLTLE, Nat.reduceLeDiff, Nat.reduceEqDiff, ↓reduceIte, bind_s, if_true, if_false, Nat.zero_add]
theorem r_kind {b : Nat} (hb : b < 5) : am_f X (d + 2) 207 [.ref o, .int (nI b)] (mH h o u, z) = some (.inl (some (.int (u.1 1 (18 * b)))), (mH h o u, z)) := by
  rw [fU_207]
  simp (disch := first | omega | exact ci_m | exact Nat.le_of_ble_eq_true rfl) only [own_207, am_go dc_207_0, J_aload_0, K_al, ld_0, am_go dc_207_1, J_iload_1, K_il, ld_1, am_go dc_207_2, J_iconst, c32_0, am_go dc_207_3, cv_12_79_12 own_207, JR_v, JR_0, JR_ite, ci1_r, am_go dc_207_6, J_ret_i ret_207, mH_o, nI_add, nI_mul, nI_lt, nI_le, nI_eq, nI_neg, nI_pos, ail_r, abl_r, all_r, r_of, Nat.add_zero, List.length_cons, List.length_nil, Nat.reduceAdd, Nat.reduceLT, Nat.reduceLTLE, Nat.reduceLeDiff, Nat.reduceEqDiff, ↓reduceIte, bind_s, if_true, if_false, Nat.zero_add]
theorem r_steps {b : Nat} (hb : b < 5) : am_f X (d + 2) 209 [.ref o, .int (nI b)] (mH h o u, z) = some (.inl (some (.int (u.1 1 (18 * b + 3)))), (mH h o u, z)) := by
  rw [fU_209]
  simp (disch := first | omega | exact ci_m | exact Nat.le_of_ble_eq_true rfl) only [own_209, am_go dc_209_0, J_aload_0, K_al, ld_0, am_go dc_209_1, J_iload_1, K_il, ld_1, am_go dc_209_2, J_iconst, c32_3, am_go dc_209_3, cv_12_79_12 own_209, JR_v, JR_0, JR_ite, ci1_r, am_go dc_209_6, J_ret_i ret_209, mH_o, nI_add, nI_mul, nI_lt, nI_le, nI_eq, nI_neg, nI_pos, ail_r, abl_r, all_r, r_of, List.length_cons, List.length_nil, Nat.reduceAdd, Nat.reduceLT, Nat.reduceLTLE, Nat.reduceLeDiff, Nat.reduceEqDiff, ↓reduceIte, bind_s, if_true, if_false, Nat.zero_add]
theorem r_worth {b i : Nat} (hb : b < 5) (hi : i < 4) : am_f X (d + 2) 226 [.ref o, .int (nI b), .int (nI i)] (mH h o u, z) = some (.inl (some (.int (u.1 1 (18 * b + (6 + i))))), (mH h o u, z)) := by
  rw [fU_226]
  simp (disch := first | omega | exact ci_m | exact Nat.le_of_ble_eq_true rfl) only [own_226, am_go dc_226_0, J_aload_0, K_al, ld_0, am_go dc_226_1, J_iload_1, K_il, ld_1, am_go dc_226_2, J_bipush, c8_6, am_go dc_226_4, J_iload_2, ld_2, am_go dc_226_5, J_iadd, am_go dc_226_6, cv_12_79_12 own_226, JR_v, JR_0, JR_ite, ci1_r, am_go dc_226_9, J_ret_i ret_226, mH_o, nI_add, nI_mul, nI_lt, nI_le, nI_eq, nI_neg, nI_pos, ail_r, abl_r, all_r, r_of, List.length_cons, List.length_nil, Nat.reduceAdd, Nat.reduceLT, Nat.reduceLTLE, Nat.reduceLeDiff, Nat.reduceEqDiff, ↓reduceIte, bind_s, if_true, if_false, Nat.zero_add]
def q_spent (S : Nat → Int32) (i : Nat) (v : Int32) : Int32 := v + if S (90 + i) ≤ nI 2 then nI 0 else S (18 * i + 2)
theorem r_spent_l {m : Nat} (hm : u.1 1 116 = nI m) (h5 : m ≤ 5) : ∀ (k i : Nat) (v : Int32), i + k = m → am_I X (am_f X (d + 1)) 220 4 [some (.ref o), some (.int v), some (.int (nI i))] [] (mH h o u, z) = some (.inl (some (.int (fo (q_spent (u.1 1)) i k v))), (mH h o u, z)) := by
  intro k
  induction k with
  | zero =>
    intro i v hi
    rw [am_go dc_220_4]
    simp (disch := first | omega | exact ci_m | exact Nat.le_of_ble_eq_true rfl) only [own_220, am_go dc_220_0, J_iconst, c32_0, am_go dc_220_1, J_istore_1, st1_0, st1_1, st1_s, kl_i, kl_l, kl_r, kl_n, am_go dc_220_2, am_go dc_220_3, J_istore_2, J_iload_2, K_il, ld_2, am_go dc_220_5, J_aload_0, K_al, ld_0, am_go dc_220_6, J_getfield, gf_r, fk_12_9_12, am_go dc_220_9, J_bipush, c8_116, am_go dc_220_11, J_iaload, am_go dc_220_12, J_icmp_ge, am_go dc_220_15, J_iload_1, ld_1, am_go dc_220_16, am_go dc_220_17, am_go dc_220_18, cv_12_183_12 own_220, JR_v, JR_0, JR_ite, ci1_r, am_go dc_220_21, c32_2, am_go dc_220_22, J_icmp_le, am_go dc_220_25, am_go dc_220_26, am_go dc_220_27, am_go dc_220_28, cv_12_79_12 own_220, am_go dc_220_31, J_goto, am_go dc_220_34, am_go dc_220_35, J_iadd, am_go dc_220_36, am_go dc_220_37, J_iinc, pinc_go, c32_1, am_go dc_220_40, am_go dc_220_43, am_go dc_220_44, J_ret_i ret_220, mH_o, mg_0, mH_1, nI_add, nI_mul, nI_lt, nI_le, nI_eq, nI_neg, nI_pos, ail_r, abl_r, all_r, hm, List.length_cons, List.length_nil, Nat.reduceAdd, Nat.reduceLT, Nat.reduceLTLE, Nat.reduceLeDiff, Nat.reduceEqDiff, ↓reduceIte, bind_s, if_true, if_false, Nat.zero_add]
    rw [if_pos (by omega)]
    rfl
  | succ k ih =>
    intro i v hi
    rw [am_go dc_220_4]
    simp (disch := first | omega | exact ci_m | exact Nat.le_of_ble_eq_true rfl) only [own_220, am_go dc_220_0, J_iconst, c32_0, am_go dc_220_1, J_istore_1, st1_0, st1_1, st1_s, kl_i, kl_l, kl_r, kl_n, am_go dc_220_2, am_go dc_220_3, J_istore_2, J_iload_2, K_il, ld_2, am_go dc_220_5, J_aload_0, K_al, ld_0, am_go dc_220_6, J_getfield, gf_r, fk_12_9_12, am_go dc_220_9, J_bipush, c8_116, am_go dc_220_11, J_iaload, am_go dc_220_12, J_icmp_ge, am_go dc_220_15, J_iload_1, ld_1, am_go dc_220_16, am_go dc_220_17, am_go dc_220_18, cv_12_183_12 own_220, JR_v, JR_0, JR_ite, ci1_r, am_go dc_220_21, c32_2, am_go dc_220_22, J_icmp_le, am_go dc_220_25, am_go dc_220_26, am_go dc_220_27, am_go dc_220_28, cv_12_79_12 own_220, am_go dc_220_31, J_goto, am_go dc_220_34, am_go dc_220_35, J_iadd, am_go dc_220_36, am_go dc_220_37, J_iinc, pinc_go, c32_1, am_go dc_220_40, am_go dc_220_43, am_go dc_220_44, J_ret_i ret_220, mH_o, mg_0, mH_1, nI_add, nI_mul, nI_lt, nI_le, nI_eq, nI_neg, nI_pos, ail_r, abl_r, all_r, hm, r_how, r_of, List.length_cons, List.length_nil, Nat.reduceAdd, Nat.reduceLT, Nat.reduceLTLE, Nat.reduceLeDiff, Nat.reduceEqDiff, ↓reduceIte, bind_s, if_true, if_false, Nat.zero_add]
    rw [if_neg (by omega)]
    trace_state
    sorry
end M1
