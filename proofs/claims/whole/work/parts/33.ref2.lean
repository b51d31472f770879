/-! the reference: what holds at a place -/
section M2
variable {X : am_X} {h : am_H} {o d : Nat} {u : mU} {z : Nat × Nat}
theorem zI_lit_pred {m : Nat} {x : Int32} : (decide (0 ≤ x.toInt64) && decide (x.toInt64 ≤ (zI m - zI 1).toInt64)) = (decide (0 ≤ x) && decide (x ≤ zI m - zI 1)) := by
  congr 1
  · rw [decide_eq_decide, Int64.le_iff_toInt_le, Int32.le_iff_toInt_le, Int32.toInt_toInt64]
    rfl
  · rw [decide_eq_decide, Int64.le_iff_toInt_le, Int32.le_iff_toInt_le, Int32.toInt_toInt64, Int32.toInt_toInt64]
/-- is it one of n things from 0 on -/
def qIs (x : Int32) (n : Nat) : Bool := decide (0 ≤ x) && decide (wN x < n)
theorem qIs_pred {m : Nat} {x : Int32} (hm : m < 1000000) : (decide (0 ≤ x) && decide (x ≤ zI m - zI 1)) = qIs x m := by
  unfold qIs
  by_cases h0 : 0 ≤ x
  · have hx := zI_ofNN h0
    have hlt : wN x < 2147483648 := by
      have := x.toInt_lt
      show x.toInt.toNat < 2147483648
      omega
    simp only [h0, decide_true, Bool.true_and]
    rw [decide_eq_decide]
    by_cases hm0 : m = 0
    · subst hm0
      have : ¬ x ≤ zI 0 - zI 1 := by
        rw [Int32.le_iff_toInt_le]
        have h1 : (zI 0 - zI 1).toInt = -1 := rfl
        have h2 : (0 : Int) ≤ x.toInt := by simpa using Int32.le_iff_toInt_le.mp h0
        omega
      simp [this]
    · rw [zI_sub (by omega)]
      rw [hx, zI_le (by omega) (by omega), wN_zI hlt]
      omega
  · simp [h0]
theorem qIs_get {x : Int32} {n : Nat} (h : qIs x n = true) : x = zI (wN x) ∧ wN x < n := by
  unfold qIs at h
  simp only [Bool.and_eq_true, decide_eq_true_eq] at h
  exact ⟨zI_ofNN h.1, h.2⟩
theorem r_isBox {x : Int32} (hq : qW (u.1 1)) : am_f X (d + 2) 205 [.ref o, .int x] (mH h o u, z) = some (.inl (some (.int (zB (qIs x (wN (u.1 1 116)))))), (mH h o u, z)) := by
  obtain ⟨hm, h5⟩ := hq.m
  have h5 : wN (u.1 1 116) < 1000000 := by omega
  generalize wN (u.1 1 116) = m at hm h5 ⊢
  rw [fU_205]
  simp (disch := first | omega | exact ci_m | exact Nat.le_of_ble_eq_true rfl | (refine mF_lt ?_; omega)) only [own_205, am_go dc_205_0, J_iload_1, K_il, ld_1, am_go dc_205_1, J_i2l, am_go dc_205_2, J_lconst, i64_0, am_go dc_205_3, J_aload_0, K_al, ld_0, am_go dc_205_4, J_getfield, gf_r, fk_12_9_12, am_go dc_205_7, J_bipush, c8_116, am_go dc_205_9, J_iaload, am_go dc_205_10, J_iconst, c32_1, am_go dc_205_11, J_isub, am_go dc_205_12, am_go dc_205_13, cs_12_73 own_205, JR_v, JR_0, JR_ite, am_go dc_205_16, J_ret_z0 ret_205, J_ret_z1 ret_205, J_ret_zB ret_205, mH_o, mg_0, mH_1, mw_1, zI_add, zI_mul, zI_lt, zI_le, zI_eq, zI_neg, zI_pos, zI_ne0, zI_gt0, zB_0, lg_cmp_ge, lg_cmp_le, lg_cmp_gt, lg_cmp_lt, lg_cmp_eq, ail_r, abl_r, all_r, ais_r, abs_r, als_r, mF_len, hm, r_isIn, zI_lit_pred, qIs_pred h5, List.length_cons, List.length_nil, Nat.reduceAdd, Nat.reduceLT, Nat.reduceLeDiff, Nat.reduceEqDiff, ↓reduceIte, bind_s, if_true, if_false, not_true_eq_false, not_false_eq_true, Nat.zero_add]
theorem zI_lit7 {x : Int32} : (decide (0 ≤ x.toInt64) && decide (x.toInt64 ≤ 7)) = qIs x 8 := by
  rw [← qIs_pred (m := 8) (by omega), ← zI_lit_pred]
  rfl
theorem r_isShelf {x : Int32} : am_f X (d + 2) 196 [.int x] (mH h o u, z) = some (.inl (some (.int (zB (qIs x 8)))), (mH h o u, z)) := by
  rw [fU_196]
  simp (disch := first | omega | exact ci_m | exact Nat.le_of_ble_eq_true rfl | (refine mF_lt ?_; omega)) only [own_196, am_go dc_196_0, J_iload_0, K_il, ld_0, am_go dc_196_1, J_i2l, am_go dc_196_2, J_lconst, i64_0, am_go dc_196_3, J_ldc2, cj_12_77, am_go dc_196_6, cs_12_73 own_196, JR_v, JR_0, JR_ite, am_go dc_196_9, J_ret_z0 ret_196, J_ret_z1 ret_196, J_ret_zB ret_196, mH_o, zI_add, zI_mul, zI_lt, zI_le, zI_eq, zI_neg, zI_pos, zI_ne0, zI_gt0, zB_0, lg_cmp_ge, lg_cmp_le, lg_cmp_gt, lg_cmp_lt, lg_cmp_eq, ail_r, abl_r, all_r, ais_r, abs_r, als_r, mF_len, r_isIn, zI_lit7, List.length_cons, List.length_nil, Nat.reduceAdd, Nat.reduceLT, Nat.reduceLeDiff, Nat.reduceEqDiff, ↓reduceIte, bind_s, if_true, if_false, not_true_eq_false, not_false_eq_true, Nat.zero_add]
def qMay (S : Nat → Int32) (b : Nat) : Bool := if zI 2 < S (90 + b) then false else if S 117 < qSpent S + S (18 * b + 2) then false else if S (18 * b) = zI 3 then decide (zI 2 < S (90 + wN (S (18 * b + 4)))) else if S (18 * b) = zI 5 then decide (qSpent S < S (18 * b + 4)) else true
theorem i32_nle {x y : Int32} : (x ≤ y) = ¬ y < x := propext Int32.not_lt.symm
theorem r_may {b : Nat} (hq : qW (u.1 1)) (hb : b < wN (u.1 1 116)) : am_f X (d + 3) 219 [.ref o, .int (zI b)] (mH h o u, z) = some (.inl (some (.int (zB (qMay (u.1 1) b)))), (mH h o u, z)) := by
  have h5 := hq.m.2
  have hb5 : b < 5 := by omega
  rw [fU_219]
  unfold qMay zB
  by_cases h3 : u.1 1 (18 * b) = zI 3
  · obtain ⟨j, hj, hj4⟩ := (hq.2.1 b hb).2 h3
    have hjw : wN (zI j) = j := wN_zI (by omega)
    simp (disch := first | omega | exact ci_m | exact Nat.le_of_ble_eq_true rfl | (refine mF_lt ?_; omega)) only [own_219, am_go dc_219_0, J_aload_0, K_al, ld_0, am_go dc_219_1, J_iload_1, K_il, ld_1, am_go dc_219_2, cv_12_183_12 own_219, JR_v, JR_0, JR_ite, ci1_r, am_go dc_219_5, J_iconst, c32_2, am_go dc_219_6, J_icmp_gt, am_go dc_219_9, am_go dc_219_10, cv_12_189_12 own_219, am_go dc_219_13, am_go dc_219_14, am_go dc_219_15, am_go dc_219_16, cv_12_79_12 own_219, am_go dc_219_19, J_iadd, am_go dc_219_20, am_go dc_219_21, J_getfield, gf_r, fk_12_9_12, am_go dc_219_24, J_bipush, c8_117, am_go dc_219_26, J_iaload, am_go dc_219_27, J_icmp_le, am_go dc_219_30, c32_0, am_go dc_219_31, J_ret_z0 ret_219, J_ret_z1 ret_219, J_ret_zB ret_219, am_go dc_219_32, am_go dc_219_33, am_go dc_219_34, cv_12_139_12 own_219, am_go dc_219_37, c32_3, am_go dc_219_38, J_icmp_ne, am_go dc_219_41, am_go dc_219_42, am_go dc_219_43, am_go dc_219_44, c32_4, am_go dc_219_45, am_go dc_219_48, am_go dc_219_51, am_go dc_219_52, am_go dc_219_55, c32_1, am_go dc_219_56, J_goto, am_go dc_219_59, am_go dc_219_60, am_go dc_219_61, am_go dc_219_62, am_go dc_219_63, am_go dc_219_66, c32_5, am_go dc_219_67, am_go dc_219_70, am_go dc_219_71, am_go dc_219_74, am_go dc_219_75, am_go dc_219_76, am_go dc_219_77, am_go dc_219_80, J_icmp_ge, am_go dc_219_83, am_go dc_219_84, am_go dc_219_87, am_go dc_219_88, mH_o, mg_0, mH_1, mw_1, zI_add, zI_mul, zI_lt, zI_le, zI_eq, zI_neg, zI_pos, zI_ne0, zI_gt0, zB_0, lg_cmp_ge, lg_cmp_le, lg_cmp_gt, lg_cmp_lt, lg_cmp_eq, ail_r, abl_r, all_r, ais_r, abs_r, als_r, mF_len, r_how, r_of, r_kind, r_spent hq, h3, not_true_eq_false, not_false_eq_true, hj, List.length_cons, List.length_nil, Nat.reduceAdd, Nat.reduceLT, Nat.reduceLeDiff, Nat.reduceEqDiff, ↓reduceIte, bind_s, if_true, if_false, Nat.zero_add]
    simp only [hjw, i32_nle]
    grind
  · simp (disch := first | omega | exact ci_m | exact Nat.le_of_ble_eq_true rfl | (refine mF_lt ?_; omega)) only [own_219, am_go dc_219_0, J_aload_0, K_al, ld_0, am_go dc_219_1, J_iload_1, K_il, ld_1, am_go dc_219_2, cv_12_183_12 own_219, JR_v, JR_0, JR_ite, ci1_r, am_go dc_219_5, J_iconst, c32_2, am_go dc_219_6, J_icmp_gt, am_go dc_219_9, am_go dc_219_10, cv_12_189_12 own_219, am_go dc_219_13, am_go dc_219_14, am_go dc_219_15, am_go dc_219_16, cv_12_79_12 own_219, am_go dc_219_19, J_iadd, am_go dc_219_20, am_go dc_219_21, J_getfield, gf_r, fk_12_9_12, am_go dc_219_24, J_bipush, c8_117, am_go dc_219_26, J_iaload, am_go dc_219_27, J_icmp_le, am_go dc_219_30, c32_0, am_go dc_219_31, J_ret_z0 ret_219, J_ret_z1 ret_219, J_ret_zB ret_219, am_go dc_219_32, am_go dc_219_33, am_go dc_219_34, cv_12_139_12 own_219, am_go dc_219_37, c32_3, am_go dc_219_38, J_icmp_ne, am_go dc_219_41, am_go dc_219_42, am_go dc_219_43, am_go dc_219_44, c32_4, am_go dc_219_45, am_go dc_219_48, am_go dc_219_51, am_go dc_219_52, am_go dc_219_55, c32_1, am_go dc_219_56, J_goto, am_go dc_219_59, am_go dc_219_60, am_go dc_219_61, am_go dc_219_62, am_go dc_219_63, am_go dc_219_66, c32_5, am_go dc_219_67, am_go dc_219_70, am_go dc_219_71, am_go dc_219_74, am_go dc_219_75, am_go dc_219_76, am_go dc_219_77, am_go dc_219_80, J_icmp_ge, am_go dc_219_83, am_go dc_219_84, am_go dc_219_87, am_go dc_219_88, mH_o, mg_0, mH_1, mw_1, zI_add, zI_mul, zI_lt, zI_le, zI_eq, zI_neg, zI_pos, zI_ne0, zI_gt0, zB_0, lg_cmp_ge, lg_cmp_le, lg_cmp_gt, lg_cmp_lt, lg_cmp_eq, ail_r, abl_r, all_r, ais_r, abs_r, als_r, mF_len, r_how, r_of, r_kind, r_spent hq, h3, not_true_eq_false, not_false_eq_true, List.length_cons, List.length_nil, Nat.reduceAdd, Nat.reduceLT, Nat.reduceLeDiff, Nat.reduceEqDiff, ↓reduceIte, bind_s, if_true, if_false, Nat.zero_add]
    simp only [i32_nle]
    grind
def qPeep (S : Nat → Int32) (b : Nat) : Bool := decide (S (18 * b) = zI 1) && (decide (S (90 + b) = 0) && qMay S b)
theorem r_mayPeep {b : Nat} (hq : qW (u.1 1)) (hb : b < wN (u.1 1 116)) : am_f X (d + 4) 228 [.ref o, .int (zI b)] (mH h o u, z) = some (.inl (some (.int (zB (qPeep (u.1 1) b)))), (mH h o u, z)) := by
  have h5 := hq.m.2
  have hb5 : b < 5 := by omega
  have hmy := fun d => r_may (X := X) (h := h) (o := o) (d := d) (z := z) hq hb
  rw [fU_228]
  unfold qPeep
  simp (disch := first | omega | exact ci_m | exact Nat.le_of_ble_eq_true rfl | (refine mF_lt ?_; omega)) only [own_228, am_go dc_228_0, J_aload_0, K_al, ld_0, am_go dc_228_1, J_iload_1, K_il, ld_1, am_go dc_228_2, cv_12_139_12 own_228, JR_v, JR_0, JR_ite, ci1_r, am_go dc_228_5, J_iconst, c32_1, am_go dc_228_6, J_icmp_ne, am_go dc_228_9, am_go dc_228_10, am_go dc_228_11, cv_12_183_12 own_228, am_go dc_228_14, J_if_ne, am_go dc_228_17, am_go dc_228_18, am_go dc_228_19, cv_12_192_12 own_228, am_go dc_228_22, J_if_eq, am_go dc_228_25, am_go dc_228_26, J_goto, am_go dc_228_29, c32_0, am_go dc_228_30, J_ret_z0 ret_228, J_ret_z1 ret_228, J_ret_zB ret_228, mH_o, zI_add, zI_mul, zI_lt, zI_le, zI_eq, zI_neg, zI_pos, zI_ne0, zI_gt0, zB_0, lg_cmp_ge, lg_cmp_le, lg_cmp_gt, lg_cmp_lt, lg_cmp_eq, ail_r, abl_r, all_r, ais_r, abs_r, als_r, mF_len, r_how, r_kind, hmy, List.length_cons, List.length_nil, Nat.reduceAdd, Nat.reduceLT, Nat.reduceLeDiff, Nat.reduceEqDiff, ↓reduceIte, bind_s, if_true, if_false, not_true_eq_false, not_false_eq_true, Nat.zero_add]
  by_cases h1 : u.1 1 (18 * b) = zI 1 <;> by_cases h2 : u.1 1 (90 + b) = 0 <;> cases h3 : qMay (u.1 1) b <;> simp [h1, h2, zB]
def q_has (S : Nat → Int32) (i : Nat) (v : Int32) : Int32 := if S (90 + i) ≤ zI 2 then v else if S (18 * i + (6 + (wN (S (90 + i)) - 3))) ≤ v then v else S (18 * i + (6 + (wN (S (90 + i)) - 3)))
theorem r_has_l {m : Nat} (hq : qW (u.1 1)) (hm : u.1 1 116 = zI m) (h5 : m ≤ 5) : ∀ (k i : Nat) (v : Int32), i + k = m → am_I X (am_f X (d + 2)) 225 4 [some (.ref o), some (.int v), some (.int (zI i))] [] (mH h o u, z) = some (.inl (some (.int (fo (q_has (u.1 1)) i k v))), (mH h o u, z)) := by
  intro k
  induction k with
  | zero =>
    intro i v hi
    rw [am_go dc_225_4]
    simp (disch := first | omega | exact ci_m | exact Nat.le_of_ble_eq_true rfl | (refine mF_lt ?_; omega)) only [own_225, am_go dc_225_0, J_iconst, c32_0, am_go dc_225_1, J_istore_1, st1_0, st1_1, st1_s, kl_i, kl_l, kl_r, kl_n, am_go dc_225_2, am_go dc_225_3, J_istore_2, J_iload_2, K_il, ld_2, am_go dc_225_5, J_aload_0, K_al, ld_0, am_go dc_225_6, J_getfield, gf_r, fk_12_9_12, am_go dc_225_9, J_bipush, c8_116, am_go dc_225_11, J_iaload, am_go dc_225_12, J_icmp_ge, am_go dc_225_15, am_go dc_225_16, am_go dc_225_17, cv_12_183_12 own_225, JR_v, JR_0, JR_ite, ci1_r, am_go dc_225_20, c32_2, am_go dc_225_21, J_icmp_le, am_go dc_225_24, am_go dc_225_25, am_go dc_225_26, am_go dc_225_27, am_go dc_225_28, am_go dc_225_31, c32_3, am_go dc_225_32, J_isub, am_go dc_225_33, cv_12_186_12 own_225, am_go dc_225_36, J_iload_1, ld_1, am_go dc_225_37, am_go dc_225_40, am_go dc_225_41, am_go dc_225_42, am_go dc_225_43, am_go dc_225_44, am_go dc_225_47, am_go dc_225_48, am_go dc_225_49, am_go dc_225_52, am_go dc_225_53, J_iinc, pinc_go, c32_1, am_go dc_225_56, J_goto, am_go dc_225_59, am_go dc_225_60, J_ret_i ret_225, mH_o, mg_0, mH_1, mw_1, zI_add, zI_mul, zI_lt, zI_le, zI_eq, zI_neg, zI_pos, zI_ne0, zI_gt0, zB_0, lg_cmp_ge, lg_cmp_le, lg_cmp_gt, lg_cmp_lt, lg_cmp_eq, ail_r, abl_r, all_r, ais_r, abs_r, als_r, mF_len, hm, List.length_cons, List.length_nil, Nat.reduceAdd, Nat.reduceLT, Nat.reduceLeDiff, Nat.reduceEqDiff, ↓reduceIte, bind_s, if_true, if_false, not_true_eq_false, not_false_eq_true, Nat.zero_add]
    rw [if_pos (by omega)]
    rfl
  | succ k ih =>
    intro i v hi
    have ih' := fun v => ih (i + 1) v (by omega)
    obtain ⟨w, hw, hw6⟩ := hq.1 i (by omega)
    have hww : wN (zI w) = w := wN_zI (by omega)
    have hok : i < 5 := by omega
    by_cases h2 : w ≤ 2
    · rw [am_go dc_225_4]
      simp (disch := first | omega | exact ci_m | exact Nat.le_of_ble_eq_true rfl | (refine mF_lt ?_; omega)) only [own_225, am_go dc_225_0, J_iconst, c32_0, am_go dc_225_1, J_istore_1, st1_0, st1_1, st1_s, kl_i, kl_l, kl_r, kl_n, am_go dc_225_2, am_go dc_225_3, J_istore_2, J_iload_2, K_il, ld_2, am_go dc_225_5, J_aload_0, K_al, ld_0, am_go dc_225_6, J_getfield, gf_r, fk_12_9_12, am_go dc_225_9, J_bipush, c8_116, am_go dc_225_11, J_iaload, am_go dc_225_12, J_icmp_ge, am_go dc_225_15, am_go dc_225_16, am_go dc_225_17, cv_12_183_12 own_225, JR_v, JR_0, JR_ite, ci1_r, am_go dc_225_20, c32_2, am_go dc_225_21, J_icmp_le, am_go dc_225_24, am_go dc_225_25, am_go dc_225_26, am_go dc_225_27, am_go dc_225_28, am_go dc_225_31, c32_3, am_go dc_225_32, J_isub, am_go dc_225_33, cv_12_186_12 own_225, am_go dc_225_36, J_iload_1, ld_1, am_go dc_225_37, am_go dc_225_40, am_go dc_225_41, am_go dc_225_42, am_go dc_225_43, am_go dc_225_44, am_go dc_225_47, am_go dc_225_48, am_go dc_225_49, am_go dc_225_52, am_go dc_225_53, J_iinc, pinc_go, c32_1, am_go dc_225_56, J_goto, am_go dc_225_59, am_go dc_225_60, J_ret_i ret_225, mH_o, mg_0, mH_1, mw_1, zI_add, zI_mul, zI_lt, zI_le, zI_eq, zI_neg, zI_pos, zI_ne0, zI_gt0, zB_0, lg_cmp_ge, lg_cmp_le, lg_cmp_gt, lg_cmp_lt, lg_cmp_eq, ail_r, abl_r, all_r, ais_r, abs_r, als_r, mF_len, hm, r_how, r_worth, zI_sub, hw, List.length_cons, List.length_nil, Nat.reduceAdd, Nat.reduceLT, Nat.reduceLeDiff, Nat.reduceEqDiff, ↓reduceIte, bind_s, if_true, if_false, not_true_eq_false, not_false_eq_true, Nat.zero_add]
      rw [if_neg (by omega), if_pos h2]
      simp only [ih', fo, q_has, hw]
      rw [if_pos (by rw [zI_le (by omega) (by omega)]; exact h2)]
    · have hw3 : w - 3 < 4 := by omega
      rw [am_go dc_225_4]
      simp (disch := first | omega | exact ci_m | exact Nat.le_of_ble_eq_true rfl | (refine mF_lt ?_; omega)) only [own_225, am_go dc_225_0, J_iconst, c32_0, am_go dc_225_1, J_istore_1, st1_0, st1_1, st1_s, kl_i, kl_l, kl_r, kl_n, am_go dc_225_2, am_go dc_225_3, J_istore_2, J_iload_2, K_il, ld_2, am_go dc_225_5, J_aload_0, K_al, ld_0, am_go dc_225_6, J_getfield, gf_r, fk_12_9_12, am_go dc_225_9, J_bipush, c8_116, am_go dc_225_11, J_iaload, am_go dc_225_12, J_icmp_ge, am_go dc_225_15, am_go dc_225_16, am_go dc_225_17, cv_12_183_12 own_225, JR_v, JR_0, JR_ite, ci1_r, am_go dc_225_20, c32_2, am_go dc_225_21, J_icmp_le, am_go dc_225_24, am_go dc_225_25, am_go dc_225_26, am_go dc_225_27, am_go dc_225_28, am_go dc_225_31, c32_3, am_go dc_225_32, J_isub, am_go dc_225_33, cv_12_186_12 own_225, am_go dc_225_36, J_iload_1, ld_1, am_go dc_225_37, am_go dc_225_40, am_go dc_225_41, am_go dc_225_42, am_go dc_225_43, am_go dc_225_44, am_go dc_225_47, am_go dc_225_48, am_go dc_225_49, am_go dc_225_52, am_go dc_225_53, J_iinc, pinc_go, c32_1, am_go dc_225_56, J_goto, am_go dc_225_59, am_go dc_225_60, J_ret_i ret_225, mH_o, mg_0, mH_1, mw_1, zI_add, zI_mul, zI_lt, zI_le, zI_eq, zI_neg, zI_pos, zI_ne0, zI_gt0, zB_0, lg_cmp_ge, lg_cmp_le, lg_cmp_gt, lg_cmp_lt, lg_cmp_eq, ail_r, abl_r, all_r, ais_r, abs_r, als_r, mF_len, hm, r_how, r_worth, zI_sub, hw, List.length_cons, List.length_nil, Nat.reduceAdd, Nat.reduceLT, Nat.reduceLeDiff, Nat.reduceEqDiff, ↓reduceIte, bind_s, if_true, if_false, not_true_eq_false, not_false_eq_true, Nat.zero_add]
      rw [if_neg (by omega), if_neg h2]
      have hle : ¬ zI w ≤ zI 2 := by rw [zI_le (by omega) (by omega)]; exact h2
      simp only [ih', fo, q_has, hw, hww, if_neg hle]
      split <;> rfl
def qHas (S : Nat → Int32) : Int32 := fo (q_has S) 0 (wN (S 116)) (zI 0)
theorem r_has (hq : qW (u.1 1)) : am_f X (d + 3) 225 [.ref o] (mH h o u, z) = some (.inl (some (.int (qHas (u.1 1)))), (mH h o u, z)) := by
  rw [fU_225]
  simp (disch := first | omega | exact ci_m | exact Nat.le_of_ble_eq_true rfl | (refine mF_lt ?_; omega)) only [own_225, am_go dc_225_0, J_iconst, c32_0, am_go dc_225_1, J_istore_1, st1_0, st1_1, st1_s, kl_i, kl_l, kl_r, kl_n, am_go dc_225_2, am_go dc_225_3, J_istore_2, J_iload_2, K_il, ld_2, am_go dc_225_5, J_aload_0, K_al, ld_0, am_go dc_225_6, J_getfield, gf_r, fk_12_9_12, am_go dc_225_9, J_bipush, c8_116, am_go dc_225_11, J_iaload, am_go dc_225_12, J_icmp_ge, am_go dc_225_15, am_go dc_225_16, am_go dc_225_17, cv_12_183_12 own_225, JR_v, JR_0, JR_ite, ci1_r, am_go dc_225_20, c32_2, am_go dc_225_21, J_icmp_le, am_go dc_225_24, am_go dc_225_25, am_go dc_225_26, am_go dc_225_27, am_go dc_225_28, am_go dc_225_31, c32_3, am_go dc_225_32, J_isub, am_go dc_225_33, cv_12_186_12 own_225, am_go dc_225_36, J_iload_1, ld_1, am_go dc_225_37, am_go dc_225_40, am_go dc_225_41, am_go dc_225_42, am_go dc_225_43, am_go dc_225_44, am_go dc_225_47, am_go dc_225_48, am_go dc_225_49, am_go dc_225_52, am_go dc_225_53, J_iinc, pinc_go, c32_1, am_go dc_225_56, J_goto, am_go dc_225_59, am_go dc_225_60, J_ret_i ret_225, mH_o, mg_0, mH_1, mw_1, zI_add, zI_mul, zI_lt, zI_le, zI_eq, zI_neg, zI_pos, zI_ne0, zI_gt0, zB_0, lg_cmp_ge, lg_cmp_le, lg_cmp_gt, lg_cmp_lt, lg_cmp_eq, ail_r, abl_r, all_r, ais_r, abs_r, als_r, mF_len, List.length_cons, List.length_nil, Nat.reduceAdd, Nat.reduceLT, Nat.reduceLeDiff, Nat.reduceEqDiff, ↓reduceIte, bind_s, if_true, if_false, not_true_eq_false, not_false_eq_true, Nat.zero_add]
  exact r_has_l hq hq.m.1 hq.m.2 _ 0 _ (Nat.zero_add _)
def q_mass (S : Nat → Int32) (i : Nat) (v : Int64) : Int64 := v * (if S (90 + i) = 0 then 100 else if S (90 + i) = zI 1 then (qChance S i 0).toInt64 else if S (90 + i) = zI 2 then (zI 100 - qChance S i 0).toInt64 else 1)
theorem r_mass_l {m : Nat} (hq : qW (u.1 1)) (hm : u.1 1 116 = zI m) (h5 : m ≤ 5) : ∀ (k i : Nat) (v : Int64), i + k = m → am_I X (am_f X (d + 2)) 233 4 [some (.ref o), some (.long v), none, some (.int (zI i))] [] (mH h o u, z) = some (.inl (some (.long (fo (q_mass (u.1 1)) i k v))), (mH h o u, z)) := by
  intro k
  induction k with
  | zero =>
    intro i v hi
    rw [am_go dc_233_4]
    simp (disch := first | omega | exact ci_m | exact Nat.le_of_ble_eq_true rfl | (refine mF_lt ?_; omega)) only [own_233, am_go dc_233_0, J_lconst, i64_1, am_go dc_233_1, J_lstore_1, st2_0, st2_1, st2_s, kl_i, kl_l, kl_r, kl_n, am_go dc_233_2, J_iconst, c32_0, am_go dc_233_3, J_istore_3, st1_0, st1_1, st1_s, J_iload_3, K_il, ld_3, am_go dc_233_5, J_aload_0, K_al, ld_0, am_go dc_233_6, J_getfield, gf_r, fk_12_9_12, am_go dc_233_9, J_bipush, c8_116, am_go dc_233_11, J_iaload, am_go dc_233_12, J_icmp_ge, am_go dc_233_15, J_lload_1, K_ll, ld_1, am_go dc_233_16, am_go dc_233_17, am_go dc_233_18, cv_12_183_12 own_233, JR_v, JR_0, JR_ite, ci1_r, am_go dc_233_21, J_if_ne, am_go dc_233_24, J_ldc2, cj_12_134, am_go dc_233_27, J_goto, am_go dc_233_30, am_go dc_233_31, am_go dc_233_32, am_go dc_233_35, c32_1, am_go dc_233_36, J_icmp_ne, am_go dc_233_39, am_go dc_233_40, am_go dc_233_41, am_go dc_233_42, cv_12_195_12 own_233, am_go dc_233_45, J_i2l, am_go dc_233_46, am_go dc_233_49, am_go dc_233_50, am_go dc_233_51, am_go dc_233_54, c32_2, am_go dc_233_55, am_go dc_233_58, c8_100, am_go dc_233_60, am_go dc_233_61, am_go dc_233_62, am_go dc_233_63, am_go dc_233_66, J_isub, am_go dc_233_67, am_go dc_233_68, am_go dc_233_71, am_go dc_233_72, J_lmul, am_go dc_233_73, am_go dc_233_74, J_iinc, pinc_go, am_go dc_233_77, am_go dc_233_80, am_go dc_233_81, J_ret_l ret_233, mH_o, mg_0, mH_1, mw_1, zI_add, zI_mul, zI_lt, zI_le, zI_eq, zI_neg, zI_pos, zI_ne0, zI_gt0, zB_0, lg_cmp_ge, lg_cmp_le, lg_cmp_gt, lg_cmp_lt, lg_cmp_eq, ail_r, abl_r, all_r, ais_r, abs_r, als_r, mF_len, hm, List.length_cons, List.length_nil, Nat.reduceAdd, Nat.reduceLT, Nat.reduceLeDiff, Nat.reduceEqDiff, ↓reduceIte, bind_s, if_true, if_false, not_true_eq_false, not_false_eq_true, Nat.zero_add]
    rw [if_pos (by omega)]
    rfl
  | succ k ih =>
    intro i v hi
    have ih' := fun v => ih (i + 1) v (by omega)
    have hmw : wN (u.1 1 116) = m := by rw [hm]; exact wN_zI (by omega)
    have hch := fun d => r_chance (X := X) (h := h) (o := o) (d := d) (z := z) (b := i) (i := 0) hq (by omega) (by omega)
    rw [am_go dc_233_4]
    simp (disch := first | omega | exact ci_m | exact Nat.le_of_ble_eq_true rfl | (refine mF_lt ?_; omega)) only [own_233, am_go dc_233_0, J_lconst, i64_1, am_go dc_233_1, J_lstore_1, st2_0, st2_1, st2_s, kl_i, kl_l, kl_r, kl_n, am_go dc_233_2, J_iconst, c32_0, am_go dc_233_3, J_istore_3, st1_0, st1_1, st1_s, J_iload_3, K_il, ld_3, am_go dc_233_5, J_aload_0, K_al, ld_0, am_go dc_233_6, J_getfield, gf_r, fk_12_9_12, am_go dc_233_9, J_bipush, c8_116, am_go dc_233_11, J_iaload, am_go dc_233_12, J_icmp_ge, am_go dc_233_15, J_lload_1, K_ll, ld_1, am_go dc_233_16, am_go dc_233_17, am_go dc_233_18, cv_12_183_12 own_233, JR_v, JR_0, JR_ite, ci1_r, am_go dc_233_21, J_if_ne, am_go dc_233_24, J_ldc2, cj_12_134, am_go dc_233_27, J_goto, am_go dc_233_30, am_go dc_233_31, am_go dc_233_32, am_go dc_233_35, c32_1, am_go dc_233_36, J_icmp_ne, am_go dc_233_39, am_go dc_233_40, am_go dc_233_41, am_go dc_233_42, cv_12_195_12 own_233, am_go dc_233_45, J_i2l, am_go dc_233_46, am_go dc_233_49, am_go dc_233_50, am_go dc_233_51, am_go dc_233_54, c32_2, am_go dc_233_55, am_go dc_233_58, c8_100, am_go dc_233_60, am_go dc_233_61, am_go dc_233_62, am_go dc_233_63, am_go dc_233_66, J_isub, am_go dc_233_67, am_go dc_233_68, am_go dc_233_71, am_go dc_233_72, J_lmul, am_go dc_233_73, am_go dc_233_74, J_iinc, pinc_go, am_go dc_233_77, am_go dc_233_80, am_go dc_233_81, J_ret_l ret_233, mH_o, mg_0, mH_1, mw_1, zI_add, zI_mul, zI_lt, zI_le, zI_eq, zI_neg, zI_pos, zI_ne0, zI_gt0, zB_0, lg_cmp_ge, lg_cmp_le, lg_cmp_gt, lg_cmp_lt, lg_cmp_eq, ail_r, abl_r, all_r, ais_r, abs_r, als_r, mF_len, hm, r_how, hch, List.length_cons, List.length_nil, Nat.reduceAdd, Nat.reduceLT, Nat.reduceLeDiff, Nat.reduceEqDiff, ↓reduceIte, bind_s, if_true, if_false, not_true_eq_false, not_false_eq_true, Nat.zero_add]
    rw [if_neg (by omega)]
    simp only [ih', fo, q_mass]
    grind
def qMass (S : Nat → Int32) : Int64 := fo (q_mass S) 0 (wN (S 116)) 1
theorem r_mass (hq : qW (u.1 1)) : am_f X (d + 3) 233 [.ref o] (mH h o u, z) = some (.inl (some (.long (qMass (u.1 1)))), (mH h o u, z)) := by
  rw [fU_233]
  simp (disch := first | omega | exact ci_m | exact Nat.le_of_ble_eq_true rfl | (refine mF_lt ?_; omega)) only [own_233, am_go dc_233_0, J_lconst, i64_1, am_go dc_233_1, J_lstore_1, st2_0, st2_1, st2_s, kl_i, kl_l, kl_r, kl_n, am_go dc_233_2, J_iconst, c32_0, am_go dc_233_3, J_istore_3, st1_0, st1_1, st1_s, J_iload_3, K_il, ld_3, am_go dc_233_5, J_aload_0, K_al, ld_0, am_go dc_233_6, J_getfield, gf_r, fk_12_9_12, am_go dc_233_9, J_bipush, c8_116, am_go dc_233_11, J_iaload, am_go dc_233_12, J_icmp_ge, am_go dc_233_15, J_lload_1, K_ll, ld_1, am_go dc_233_16, am_go dc_233_17, am_go dc_233_18, cv_12_183_12 own_233, JR_v, JR_0, JR_ite, ci1_r, am_go dc_233_21, J_if_ne, am_go dc_233_24, J_ldc2, cj_12_134, am_go dc_233_27, J_goto, am_go dc_233_30, am_go dc_233_31, am_go dc_233_32, am_go dc_233_35, c32_1, am_go dc_233_36, J_icmp_ne, am_go dc_233_39, am_go dc_233_40, am_go dc_233_41, am_go dc_233_42, cv_12_195_12 own_233, am_go dc_233_45, J_i2l, am_go dc_233_46, am_go dc_233_49, am_go dc_233_50, am_go dc_233_51, am_go dc_233_54, c32_2, am_go dc_233_55, am_go dc_233_58, c8_100, am_go dc_233_60, am_go dc_233_61, am_go dc_233_62, am_go dc_233_63, am_go dc_233_66, J_isub, am_go dc_233_67, am_go dc_233_68, am_go dc_233_71, am_go dc_233_72, J_lmul, am_go dc_233_73, am_go dc_233_74, J_iinc, pinc_go, am_go dc_233_77, am_go dc_233_80, am_go dc_233_81, J_ret_l ret_233, mH_o, mg_0, mH_1, mw_1, zI_add, zI_mul, zI_lt, zI_le, zI_eq, zI_neg, zI_pos, zI_ne0, zI_gt0, zB_0, lg_cmp_ge, lg_cmp_le, lg_cmp_gt, lg_cmp_lt, lg_cmp_eq, ail_r, abl_r, all_r, ais_r, abs_r, als_r, mF_len, List.length_cons, List.length_nil, Nat.reduceAdd, Nat.reduceLT, Nat.reduceLeDiff, Nat.reduceEqDiff, ↓reduceIte, bind_s, if_true, if_false, not_true_eq_false, not_false_eq_true, Nat.zero_add]
  exact r_mass_l hq hq.m.1 hq.m.2 _ 0 _ (Nat.zero_add _)
def qCode7 (S : Nat → Int32) : Int32 := zI 7 * (zI 7 * (zI 7 * (zI 7 * (zI 7 * zI 0 + S 94) + S 93) + S 92) + S 91) + S 90
theorem r_code7 : am_f X (d + 2) 231 [.ref o, .int (zI 7)] (mH h o u, z) = some (.inl (some (.int (qCode7 (u.1 1)))), (mH h o u, z)) := by
  rw [fU_231]
  simp (disch := first | omega | exact ci_m | exact Nat.le_of_ble_eq_true rfl | (refine mF_lt ?_; omega)) only [own_231, am_go dc_231_0, J_iconst, c32_0, am_go dc_231_1, J_istore_2, st1_0, st1_1, st1_s, kl_i, kl_l, kl_r, kl_n, am_go dc_231_2, c32_4, am_go dc_231_3, J_istore_3, am_go dc_231_4, J_iload_3, K_il, ld_3, am_go dc_231_5, J_if_lt, am_go dc_231_8, J_iload_1, ld_1, am_go dc_231_9, J_iload_2, ld_2, am_go dc_231_10, J_imul, am_go dc_231_11, am_go dc_231_12, c32_5, am_go dc_231_13, J_icmp_ne, am_go dc_231_16, J_aload_0, K_al, ld_0, am_go dc_231_17, am_go dc_231_18, cv_12_183_12 own_231, JR_v, JR_0, JR_ite, ci1_r, am_go dc_231_21, am_go dc_231_22, J_icmp_le, am_go dc_231_25, am_go dc_231_26, J_goto, am_go dc_231_29, am_go dc_231_30, am_go dc_231_31, am_go dc_231_34, J_iadd, am_go dc_231_35, am_go dc_231_36, J_iinc, pinc_go, i32_m1, am_go dc_231_39, am_go dc_231_42, am_go dc_231_43, J_ret_i ret_231, mH_o, zI_add, zI_mul, zI_lt, zI_le, zI_eq, zI_neg, zI_pos, zI_ne0, zI_gt0, zB_0, lg_cmp_ge, lg_cmp_le, lg_cmp_gt, lg_cmp_lt, lg_cmp_eq, ail_r, abl_r, all_r, ais_r, abs_r, als_r, mF_len, r_how, zI_dec, zI_d0, neg1_lt, not_false_eq_true, List.length_cons, List.length_nil, Nat.reduceAdd, Nat.reduceLT, Nat.reduceLeDiff, Nat.reduceEqDiff, ↓reduceIte, bind_s, if_true, if_false, not_true_eq_false, Nat.zero_add]
  rfl
def qD5 (x : Int32) : Int32 := if x ≤ zI 4 then x else zI 4
def qCode5 (S : Nat → Int32) : Int32 := zI 5 * (zI 5 * (zI 5 * (zI 5 * (zI 5 * zI 0 + qD5 (S 94)) + qD5 (S 93)) + qD5 (S 92)) + qD5 (S 91)) + qD5 (S 90)
end M2
