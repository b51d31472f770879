/-! texts: what is read, as functions of the bytes -/
def sg (by' : Nat → Int32) (n p : Nat) : Int32 := if p < n then by' p else -1000
def isD (x : Int32) : Bool := decide (48 ≤ x) && decide (x ≤ 57)
def pNum (s : Nat → Int32) (p : Nat) : Bool × Nat × Int32 := if isD (s p) = true then (if 0 < s p - zI 48 then (if isD (s (p + 1)) = true then (if 0 < zI 10 * (s p - zI 48) + s (p + 1) - zI 48 then (if isD (s (p + 2)) = true then (true, p + 3, zI 10 * (zI 10 * (s p - zI 48) + s (p + 1) - zI 48) + s (p + 2) - zI 48) else (true, p + 2, zI 10 * (s p - zI 48) + s (p + 1) - zI 48)) else (true, p + 2, zI 10 * (s p - zI 48) + s (p + 1) - zI 48)) else (true, p + 1, s p - zI 48)) else (true, p + 1, s p - zI 48)) else (false, p, 0)
theorem islD {x : Int32} : (decide (48 ≤ x.toInt64) && decide (x.toInt64 ≤ 57)) = isD x := by
  unfold isD
  congr 1
  · rw [decide_eq_decide, Int64.le_iff_toInt_le, Int32.le_iff_toInt_le, Int32.toInt_toInt64]
    rfl
  · rw [decide_eq_decide, Int64.le_iff_toInt_le, Int32.le_iff_toInt_le, Int32.toInt_toInt64]
    rfl
theorem isD_n {x : Int32} (h : isD x = true) : ∃ k, x = zI (48 + k) ∧ k ≤ 9 := by
  unfold isD at h
  simp only [Bool.and_eq_true, decide_eq_true_eq, Int32.le_iff_toInt_le] at h
  have e1 : (48 : Int32).toInt = 48 := rfl
  have e2 : (57 : Int32).toInt = 57 := rfl
  rw [e1, e2] at h
  refine ⟨(x.toInt - 48).toNat, ?_, by omega⟩
  apply Int32.toInt_inj.mp
  rw [zI_toInt (by omega)]
  omega
theorem pNum_ok {s : Nat → Int32} {p n : Nat} (hs : ∀ q, n ≤ q → isD (s q) = false) (hp : p ≤ n) : ((pNum s p).1 = true → p < (pNum s p).2.1 ∧ (pNum s p).2.1 ≤ n ∧ ∃ k, (pNum s p).2.2 = zI k ∧ k ≤ 999) ∧ ((pNum s p).1 = false → (pNum s p).2.1 = p) := by
  have hlt : ∀ q, isD (s q) = true → q < n := fun q hq => by
    rcases Nat.lt_or_ge q n with h | h
    · exact h
    · rw [hs q h] at hq
      cases hq
  unfold pNum
  by_cases c1 : isD (s p) = true
  · obtain ⟨k1, e1, l1⟩ := isD_n c1
    have h1 := hlt p c1
    have f1 : s p - zI 48 = zI k1 := by rw [e1, zI_sub (by omega), Nat.add_sub_cancel_left]
    rw [if_pos c1, f1]
    by_cases c2 : 0 < zI k1
    · rw [if_pos c2]
      by_cases c3 : isD (s (p + 1)) = true
      · obtain ⟨k2, e2, l2⟩ := isD_n c3
        have h2 := hlt (p + 1) c3
        have f2 : zI 10 * zI k1 + s (p + 1) - zI 48 = zI (10 * k1 + k2) := by
          rw [e2, zI_mul, zI_add, zI_sub (by omega)]
          congr 1
          omega
        rw [if_pos c3, f2]
        by_cases c4 : 0 < zI (10 * k1 + k2)
        · rw [if_pos c4]
          by_cases c5 : isD (s (p + 2)) = true
          · obtain ⟨k3, e3, l3⟩ := isD_n c5
            have h3 := hlt (p + 2) c5
            have f3 : zI 10 * zI (10 * k1 + k2) + s (p + 2) - zI 48 = zI (10 * (10 * k1 + k2) + k3) := by
              rw [e3, zI_mul, zI_add, zI_sub (by omega)]
              congr 1
              omega
            rw [if_pos c5, f3]
            dsimp only
            exact ⟨fun _ => ⟨by omega, by omega, _, rfl, by omega⟩, fun h => by cases h⟩
          · rw [if_neg c5]
            dsimp only
            exact ⟨fun _ => ⟨by omega, by omega, _, rfl, by omega⟩, fun h => by cases h⟩
        · rw [if_neg c4]
          dsimp only
          exact ⟨fun _ => ⟨by omega, by omega, _, rfl, by omega⟩, fun h => by cases h⟩
      · rw [if_neg c3]
        dsimp only
        exact ⟨fun _ => ⟨by omega, by omega, _, rfl, by omega⟩, fun h => by cases h⟩
    · rw [if_neg c2]
      dsimp only
      exact ⟨fun _ => ⟨by omega, by omega, _, rfl, by omega⟩, fun h => by cases h⟩
  · rw [if_neg c1]
    exact ⟨fun h => (by cases h), fun _ => rfl⟩
theorem sg_D {by' : Nat → Int32} {n q : Nat} (h : n ≤ q) : isD (sg by' n q) = false := by
  unfold sg
  rw [if_neg (by omega)]
  decide
theorem sg_c {by' : Nat → Int32} {n q : Nat} {c : Nat} (hc : c < 1000) (h : sg by' n q = zI c) : q < n := by
  unfold sg at h
  by_cases e : q < n
  · exact e
  · rw [if_neg e] at h
    have := congrArg Int32.toInt h
    rw [zI_toInt (by omega)] at this
    have h2 : (-1000 : Int32).toInt = -1000 := rfl
    omega
section M19
variable {X : am_X} {h : am_H} {o d : Nat} {u : mU} {z : Nat × Nat}
theorem mI_c {a b : Nat} {x y : Int32} (hab : a ≠ b) : mI (mI u a x) b y = mI (mI u b y) a x := by
  unfold mI
  congr 3
  funext j
  by_cases e1 : j = a
  · subst e1
    simp [hab]
  · by_cases e2 : j = b
    · subst e2
      simp [e1]
    · simp [e1, e2]
/-- the reader stands at p of shelf e's n bytes -/
def mAt (u : mU) (e n p : Nat) : Prop := u.2.2.1 13 = zI (120 * e) ∧ u.2.2.1 14 = zI n ∧ u.2.2.1 12 = zI p
def mBy (u : mU) (e n : Nat) : Nat → Int32 := sg (fun q => u.1 8 (120 * e + q)) n
theorem r_sign {e n p : Nat} (hA : mAt u e n p) (he : e < 8) (hn : n ≤ 120) (hp : p ≤ n) : am_f X (d + 1) 200 [.ref o] (mH h o u, z) = some (.inl (some (.int (mBy u e n p))), (mH h o u, z)) := by
  obtain ⟨h1, h2, h3⟩ := hA
  unfold mBy sg
  rw [fU_200]
  by_cases c : p < n
  · have c' : ¬ n ≤ p := by omega
    rw [if_pos c]
    simp (disch := first | omega | exact ci_m | exact Nat.le_of_ble_eq_true rfl | (refine mF_lt ?_; omega)) only [own_200, am_go dc_200_0, J_aload_0, K_al, ld_0, am_go dc_200_1, J_getfield, gf_r, fk_12_83_12, am_go dc_200_4, am_go dc_200_5, fk_12_86_12, am_go dc_200_8, J_icmp_ge, am_go dc_200_11, am_go dc_200_12, fk_12_31_12, am_go dc_200_15, am_go dc_200_16, fk_12_89_12, am_go dc_200_19, am_go dc_200_20, am_go dc_200_23, J_iadd, am_go dc_200_24, J_iaload, am_go dc_200_25, J_goto, am_go dc_200_28, J_sipush, i16_m1000, am_go dc_200_31, J_ret_i ret_200, mH_o, mg_12, mg_14, mg_7, mH_8, mw_8, mg_13, zI_add, zI_mul, zI_lt, zI_le, zI_eq, zI_neg, zI_pos, zI_ne0, zI_gt0, zB_0, lg_cmp_ge, lg_cmp_le, lg_cmp_gt, lg_cmp_lt, lg_cmp_eq, ail_r, abl_r, all_r, ais_r, abs_r, als_r, mF_len, h1, h2, h3, c', List.length_cons, List.length_nil, Nat.reduceAdd, Nat.reduceLT, Nat.reduceLeDiff, Nat.reduceEqDiff, ↓reduceIte, bind_s, if_true, if_false, not_true_eq_false, not_false_eq_true, Nat.zero_add]
  · have c' : n ≤ p := by omega
    rw [if_neg c]
    simp (disch := first | omega | exact ci_m | exact Nat.le_of_ble_eq_true rfl | (refine mF_lt ?_; omega)) only [own_200, am_go dc_200_0, J_aload_0, K_al, ld_0, am_go dc_200_1, J_getfield, gf_r, fk_12_83_12, am_go dc_200_4, am_go dc_200_5, fk_12_86_12, am_go dc_200_8, J_icmp_ge, am_go dc_200_11, am_go dc_200_12, fk_12_31_12, am_go dc_200_15, am_go dc_200_16, fk_12_89_12, am_go dc_200_19, am_go dc_200_20, am_go dc_200_23, J_iadd, am_go dc_200_24, J_iaload, am_go dc_200_25, J_goto, am_go dc_200_28, J_sipush, i16_m1000, am_go dc_200_31, J_ret_i ret_200, mH_o, mg_12, mg_14, mg_7, mH_8, mw_8, mg_13, zI_add, zI_mul, zI_lt, zI_le, zI_eq, zI_neg, zI_pos, zI_ne0, zI_gt0, zB_0, lg_cmp_ge, lg_cmp_le, lg_cmp_gt, lg_cmp_lt, lg_cmp_eq, ail_r, abl_r, all_r, ais_r, abs_r, als_r, mF_len, h1, h2, h3, c', List.length_cons, List.length_nil, Nat.reduceAdd, Nat.reduceLT, Nat.reduceLeDiff, Nat.reduceEqDiff, ↓reduceIte, bind_s, if_true, if_false, not_true_eq_false, not_false_eq_true, Nat.zero_add]
theorem mAt.I {e n p q : Nat} (hA : mAt u e n p) : mAt (mI u 12 (zI q)) e n q := ⟨hA.1, hA.2.1, rfl⟩
theorem mAt.N {e n p q : Nat} {x : Int32} (hA : mAt u e n p) : mAt (mI (mI u 15 x) 12 (zI q)) e n q := ⟨hA.1, hA.2.1, rfl⟩
theorem r_takes_n {e n p : Nat} {c : Int32} (hA : mAt u e n p) (he : e < 8) (hn : n ≤ 120) (hp : p ≤ n) (hc : ¬ mBy u e n p = c) : am_f X (d + 2) 199 [.ref o, .int c] (mH h o u, z) = some (.inl (some (.int (zI 0))), (mH h o u, z)) := by
  have hs := fun d => r_sign (X := X) (h := h) (o := o) (d := d) (u := u) (z := z) hA he hn hp
  rw [fU_199]
  simp (disch := first | omega | exact ci_m | exact Nat.le_of_ble_eq_true rfl | (refine mF_lt ?_; omega)) only [own_199, am_go dc_199_0, J_aload_0, K_al, ld_0, am_go dc_199_1, cv_12_92_12 own_199, JR_v, JR_0, JR_ite, ci1_r, am_go dc_199_4, J_iload_1, K_il, ld_1, am_go dc_199_5, J_icmp_eq, am_go dc_199_8, J_iconst, c32_0, am_go dc_199_9, J_ret_z0 ret_199, J_ret_z1 ret_199, J_ret_zB ret_199, am_go dc_199_10, am_go dc_199_11, J_dup_i, J_dup_r, am_go dc_199_12, J_getfield, gf_r, fk_12_83_12, am_go dc_199_15, c32_1, am_go dc_199_16, J_iadd, am_go dc_199_17, J_putfield_i, J_putfield_l, J_putfield_r, ini_199, pk_12_83_12, am_go dc_199_20, am_go dc_199_21, mH_o, mg_12, mp_12, pf_i pk_12_83_12 rfl, zI_add, zI_mul, zI_lt, zI_le, zI_eq, zI_neg, zI_pos, zI_ne0, zI_gt0, zB_0, lg_cmp_ge, lg_cmp_le, lg_cmp_gt, lg_cmp_lt, lg_cmp_eq, ail_r, abl_r, all_r, ais_r, abs_r, als_r, mF_len, hs, hc, List.length_cons, List.length_nil, Nat.reduceAdd, Nat.reduceLT, Nat.reduceLeDiff, Nat.reduceEqDiff, ↓reduceIte, bind_s, if_true, if_false, not_true_eq_false, not_false_eq_true, Nat.zero_add]
theorem r_takes_y {e n p : Nat} {c : Int32} (hA : mAt u e n p) (he : e < 8) (hn : n ≤ 120) (hp : p ≤ n) (hc : mBy u e n p = c) : am_f X (d + 2) 199 [.ref o, .int c] (mH h o u, z) = some (.inl (some (.int (zI 1))), (mH h o (mI u 12 (zI (p + 1))), z)) := by
  have hs := fun d => r_sign (X := X) (h := h) (o := o) (d := d) (u := u) (z := z) hA he hn hp
  have h3 := hA.2.2
  rw [fU_199]
  simp (disch := first | omega | exact ci_m | exact Nat.le_of_ble_eq_true rfl | (refine mF_lt ?_; omega)) only [own_199, am_go dc_199_0, J_aload_0, K_al, ld_0, am_go dc_199_1, cv_12_92_12 own_199, JR_v, JR_0, JR_ite, ci1_r, am_go dc_199_4, J_iload_1, K_il, ld_1, am_go dc_199_5, J_icmp_eq, am_go dc_199_8, J_iconst, c32_0, am_go dc_199_9, J_ret_z0 ret_199, J_ret_z1 ret_199, J_ret_zB ret_199, am_go dc_199_10, am_go dc_199_11, J_dup_i, J_dup_r, am_go dc_199_12, J_getfield, gf_r, fk_12_83_12, am_go dc_199_15, c32_1, am_go dc_199_16, J_iadd, am_go dc_199_17, J_putfield_i, J_putfield_l, J_putfield_r, ini_199, pk_12_83_12, am_go dc_199_20, am_go dc_199_21, mH_o, mg_12, mp_12, pf_i pk_12_83_12 rfl, zI_add, zI_mul, zI_lt, zI_le, zI_eq, zI_neg, zI_pos, zI_ne0, zI_gt0, zB_0, lg_cmp_ge, lg_cmp_le, lg_cmp_gt, lg_cmp_lt, lg_cmp_eq, ail_r, abl_r, all_r, ais_r, abs_r, als_r, mF_len, mS_s, mS_o, mS_2, mS_S, mI_1, mI_2, mI_s, mI_o, mI_3, mI_I, mJ_1, mJ_2, mJ_3, mJ_s, mJ_o, mJ_J, mL_1, mL_s, mL_o, mL_2, hs, hc, h3, List.length_cons, List.length_nil, Nat.reduceAdd, Nat.reduceLT, Nat.reduceLeDiff, Nat.reduceEqDiff, ↓reduceIte, bind_s, if_true, if_false, not_true_eq_false, not_false_eq_true, Nat.zero_add]
theorem mI_c12 {x y : Int32} : mI (mI u 12 x) 15 y = mI (mI u 15 y) 12 x := mI_c (by omega)
theorem r_readsNumber {e n p : Nat} (hA : mAt u e n p) (he : e < 8) (hn : n ≤ 120) (hp : p ≤ n) : am_f X (d + 2) 201 [.ref o] (mH h o u, z) = some (.inl (some (.int (zB (pNum (mBy u e n) p).1))), (mH h o (if (pNum (mBy u e n) p).1 = true then mI (mI u 15 (pNum (mBy u e n) p).2.2) 12 (zI (pNum (mBy u e n) p).2.1) else u), z)) := by
  have hs := fun d => r_sign (X := X) (h := h) (o := o) (d := d) (u := u) (z := z) hA he hn hp
  have h3 := hA.2.2
  have hlt : ∀ q, isD (mBy u e n q) = true → q < n := fun q hq => by
    rcases Nat.lt_or_ge q n with h | h
    · exact h
    · rw [show isD (mBy u e n q) = false from sg_D h] at hq
      cases hq
  have hs2 : ∀ d x q, q ≤ n → am_f X (d + 1) 200 [.ref o] (mH h o (mI (mI u 15 x) 12 (zI q)), z) = some (.inl (some (.int (mBy u e n q))), (mH h o (mI (mI u 15 x) 12 (zI q)), z)) := fun d x q hq => r_sign (u := mI (mI u 15 x) 12 (zI q)) hA.N he hn hq
  have hs3 : ∀ d x, am_f X (d + 1) 200 [.ref o] (mH h o (mI u 15 x), z) = some (.inl (some (.int (mBy u e n p))), (mH h o (mI u 15 x), z)) := fun d x => r_sign (u := mI u 15 x) hA he hn hp
  have h33 : ∀ x, (mI u 15 x).2.2.1 12 = zI p := fun x => h3
  rw [fU_201]
  unfold pNum
  by_cases c1 : isD (mBy u e n p) = true
  · have p1 := hlt p c1
    by_cases c2 : 0 < mBy u e n p - zI 48
    · have c2' : ¬ mBy u e n p - zI 48 ≤ 0 := Int32.not_le.mpr c2
      by_cases c3 : isD (mBy u e n (p + 1)) = true
      · have p2 := hlt (p + 1) c3
        by_cases c4 : 0 < zI 10 * (mBy u e n p - zI 48) + mBy u e n (p + 1) - zI 48
        · have c4' : ¬ zI 10 * (mBy u e n p - zI 48) + mBy u e n (p + 1) - zI 48 ≤ 0 := Int32.not_le.mpr c4
          by_cases c5 : isD (mBy u e n (p + 2)) = true
          · have p3 := hlt (p + 2) c5
            simp only [c1, c2, c3, c4, c5, if_true]
            simp (disch := first | omega | exact ci_m | exact Nat.le_of_ble_eq_true rfl | (refine mF_lt ?_; omega)) only [own_201, am_go dc_201_0, J_aload_0, K_al, ld_0, am_go dc_201_1, cv_12_92_12 own_201, JR_v, JR_0, JR_ite, ci1_r, am_go dc_201_4, J_i2l, am_go dc_201_5, J_ldc2, cj_12_96, am_go dc_201_8, cj_12_98, am_go dc_201_11, cs_12_73 own_201, am_go dc_201_14, J_if_ne, am_go dc_201_17, J_iconst, c32_0, am_go dc_201_18, J_ret_z0 ret_201, J_ret_z1 ret_201, J_ret_zB ret_201, am_go dc_201_19, am_go dc_201_20, am_go dc_201_21, am_go dc_201_24, J_bipush, c8_48, am_go dc_201_26, J_isub, am_go dc_201_27, J_putfield_i, J_putfield_l, J_putfield_r, ini_201, pk_12_100_12, am_go dc_201_30, am_go dc_201_31, J_dup_i, J_dup_r, am_go dc_201_32, J_getfield, gf_r, fk_12_83_12, am_go dc_201_35, c32_1, am_go dc_201_36, J_iadd, am_go dc_201_37, pk_12_83_12, am_go dc_201_40, am_go dc_201_41, J_istore_1, st1_0, st1_1, st1_s, kl_i, kl_l, kl_r, kl_n, am_go dc_201_42, J_iload_1, K_il, ld_1, am_go dc_201_43, c32_3, am_go dc_201_44, J_icmp_ge, am_go dc_201_47, am_go dc_201_48, fk_12_100_12, am_go dc_201_51, J_if_le, am_go dc_201_54, am_go dc_201_55, am_go dc_201_58, am_go dc_201_59, am_go dc_201_62, am_go dc_201_65, am_go dc_201_68, J_if_eq, am_go dc_201_71, am_go dc_201_72, c8_10, am_go dc_201_74, am_go dc_201_75, am_go dc_201_78, J_imul, am_go dc_201_79, am_go dc_201_80, am_go dc_201_83, am_go dc_201_84, am_go dc_201_86, am_go dc_201_87, am_go dc_201_90, am_go dc_201_91, am_go dc_201_92, am_go dc_201_95, am_go dc_201_96, am_go dc_201_97, am_go dc_201_100, J_iinc, pinc_go, am_go dc_201_103, J_goto, am_go dc_201_106, am_go dc_201_107, mH_o, mp_15, pf_i pk_12_100_12 rfl, mg_12, mp_12, pf_i pk_12_83_12 rfl, mg_15, zI_add, zI_mul, zI_lt, zI_le, zI_eq, zI_neg, zI_pos, zI_ne0, zI_gt0, zB_0, lg_cmp_ge, lg_cmp_le, lg_cmp_gt, lg_cmp_lt, lg_cmp_eq, ail_r, abl_r, all_r, ais_r, abs_r, als_r, mF_len, mS_s, mS_o, mS_2, mS_S, mI_1, mI_2, mI_s, mI_o, mI_3, mI_I, mJ_1, mJ_2, mJ_3, mJ_s, mJ_o, mJ_J, mL_1, mL_s, mL_o, mL_2, hs, hs2, hs3, h3, h33, mI_c12, r_isIn, islD, Bool.true_eq_false, Bool.false_eq_true, c1, c2', c3, c4', c5, List.length_cons, List.length_nil, Nat.reduceAdd, Nat.reduceLT, Nat.reduceLeDiff, Nat.reduceEqDiff, ↓reduceIte, bind_s, if_true, if_false, not_true_eq_false, not_false_eq_true, Nat.zero_add]
            rfl
          · have c5' : isD (mBy u e n (p + 2)) = false := by simpa using c5
            simp only [c1, c2, c3, c4, c5', if_true, if_false, Bool.false_eq_true]
            simp (disch := first | omega | exact ci_m | exact Nat.le_of_ble_eq_true rfl | (refine mF_lt ?_; omega)) only [own_201, am_go dc_201_0, J_aload_0, K_al, ld_0, am_go dc_201_1, cv_12_92_12 own_201, JR_v, JR_0, JR_ite, ci1_r, am_go dc_201_4, J_i2l, am_go dc_201_5, J_ldc2, cj_12_96, am_go dc_201_8, cj_12_98, am_go dc_201_11, cs_12_73 own_201, am_go dc_201_14, J_if_ne, am_go dc_201_17, J_iconst, c32_0, am_go dc_201_18, J_ret_z0 ret_201, J_ret_z1 ret_201, J_ret_zB ret_201, am_go dc_201_19, am_go dc_201_20, am_go dc_201_21, am_go dc_201_24, J_bipush, c8_48, am_go dc_201_26, J_isub, am_go dc_201_27, J_putfield_i, J_putfield_l, J_putfield_r, ini_201, pk_12_100_12, am_go dc_201_30, am_go dc_201_31, J_dup_i, J_dup_r, am_go dc_201_32, J_getfield, gf_r, fk_12_83_12, am_go dc_201_35, c32_1, am_go dc_201_36, J_iadd, am_go dc_201_37, pk_12_83_12, am_go dc_201_40, am_go dc_201_41, J_istore_1, st1_0, st1_1, st1_s, kl_i, kl_l, kl_r, kl_n, am_go dc_201_42, J_iload_1, K_il, ld_1, am_go dc_201_43, c32_3, am_go dc_201_44, J_icmp_ge, am_go dc_201_47, am_go dc_201_48, fk_12_100_12, am_go dc_201_51, J_if_le, am_go dc_201_54, am_go dc_201_55, am_go dc_201_58, am_go dc_201_59, am_go dc_201_62, am_go dc_201_65, am_go dc_201_68, J_if_eq, am_go dc_201_71, am_go dc_201_72, c8_10, am_go dc_201_74, am_go dc_201_75, am_go dc_201_78, J_imul, am_go dc_201_79, am_go dc_201_80, am_go dc_201_83, am_go dc_201_84, am_go dc_201_86, am_go dc_201_87, am_go dc_201_90, am_go dc_201_91, am_go dc_201_92, am_go dc_201_95, am_go dc_201_96, am_go dc_201_97, am_go dc_201_100, J_iinc, pinc_go, am_go dc_201_103, J_goto, am_go dc_201_106, am_go dc_201_107, mH_o, mp_15, pf_i pk_12_100_12 rfl, mg_12, mp_12, pf_i pk_12_83_12 rfl, mg_15, zI_add, zI_mul, zI_lt, zI_le, zI_eq, zI_neg, zI_pos, zI_ne0, zI_gt0, zB_0, lg_cmp_ge, lg_cmp_le, lg_cmp_gt, lg_cmp_lt, lg_cmp_eq, ail_r, abl_r, all_r, ais_r, abs_r, als_r, mF_len, mS_s, mS_o, mS_2, mS_S, mI_1, mI_2, mI_s, mI_o, mI_3, mI_I, mJ_1, mJ_2, mJ_3, mJ_s, mJ_o, mJ_J, mL_1, mL_s, mL_o, mL_2, hs, hs2, hs3, h3, h33, mI_c12, r_isIn, islD, Bool.true_eq_false, Bool.false_eq_true, c1, c2', c3, c4', c5', List.length_cons, List.length_nil, Nat.reduceAdd, Nat.reduceLT, Nat.reduceLeDiff, Nat.reduceEqDiff, ↓reduceIte, bind_s, if_true, if_false, not_true_eq_false, not_false_eq_true, Nat.zero_add]
            rfl
        · have c4' : zI 10 * (mBy u e n p - zI 48) + mBy u e n (p + 1) - zI 48 ≤ 0 := Int32.not_lt.mp c4
          simp only [c1, c2, c3, c4, if_true, if_false]
          simp (disch := first | omega | exact ci_m | exact Nat.le_of_ble_eq_true rfl | (refine mF_lt ?_; omega)) only [own_201, am_go dc_201_0, J_aload_0, K_al, ld_0, am_go dc_201_1, cv_12_92_12 own_201, JR_v, JR_0, JR_ite, ci1_r, am_go dc_201_4, J_i2l, am_go dc_201_5, J_ldc2, cj_12_96, am_go dc_201_8, cj_12_98, am_go dc_201_11, cs_12_73 own_201, am_go dc_201_14, J_if_ne, am_go dc_201_17, J_iconst, c32_0, am_go dc_201_18, J_ret_z0 ret_201, J_ret_z1 ret_201, J_ret_zB ret_201, am_go dc_201_19, am_go dc_201_20, am_go dc_201_21, am_go dc_201_24, J_bipush, c8_48, am_go dc_201_26, J_isub, am_go dc_201_27, J_putfield_i, J_putfield_l, J_putfield_r, ini_201, pk_12_100_12, am_go dc_201_30, am_go dc_201_31, J_dup_i, J_dup_r, am_go dc_201_32, J_getfield, gf_r, fk_12_83_12, am_go dc_201_35, c32_1, am_go dc_201_36, J_iadd, am_go dc_201_37, pk_12_83_12, am_go dc_201_40, am_go dc_201_41, J_istore_1, st1_0, st1_1, st1_s, kl_i, kl_l, kl_r, kl_n, am_go dc_201_42, J_iload_1, K_il, ld_1, am_go dc_201_43, c32_3, am_go dc_201_44, J_icmp_ge, am_go dc_201_47, am_go dc_201_48, fk_12_100_12, am_go dc_201_51, J_if_le, am_go dc_201_54, am_go dc_201_55, am_go dc_201_58, am_go dc_201_59, am_go dc_201_62, am_go dc_201_65, am_go dc_201_68, J_if_eq, am_go dc_201_71, am_go dc_201_72, c8_10, am_go dc_201_74, am_go dc_201_75, am_go dc_201_78, J_imul, am_go dc_201_79, am_go dc_201_80, am_go dc_201_83, am_go dc_201_84, am_go dc_201_86, am_go dc_201_87, am_go dc_201_90, am_go dc_201_91, am_go dc_201_92, am_go dc_201_95, am_go dc_201_96, am_go dc_201_97, am_go dc_201_100, J_iinc, pinc_go, am_go dc_201_103, J_goto, am_go dc_201_106, am_go dc_201_107, mH_o, mp_15, pf_i pk_12_100_12 rfl, mg_12, mp_12, pf_i pk_12_83_12 rfl, mg_15, zI_add, zI_mul, zI_lt, zI_le, zI_eq, zI_neg, zI_pos, zI_ne0, zI_gt0, zB_0, lg_cmp_ge, lg_cmp_le, lg_cmp_gt, lg_cmp_lt, lg_cmp_eq, ail_r, abl_r, all_r, ais_r, abs_r, als_r, mF_len, mS_s, mS_o, mS_2, mS_S, mI_1, mI_2, mI_s, mI_o, mI_3, mI_I, mJ_1, mJ_2, mJ_3, mJ_s, mJ_o, mJ_J, mL_1, mL_s, mL_o, mL_2, hs, hs2, hs3, h3, h33, mI_c12, r_isIn, islD, Bool.true_eq_false, Bool.false_eq_true, c1, c2', c3, c4', List.length_cons, List.length_nil, Nat.reduceAdd, Nat.reduceLT, Nat.reduceLeDiff, Nat.reduceEqDiff, ↓reduceIte, bind_s, if_true, if_false, not_true_eq_false, not_false_eq_true, Nat.zero_add]
          rfl
      · have c3' : isD (mBy u e n (p + 1)) = false := by simpa using c3
        simp only [c1, c2, c3', if_true, if_false, Bool.false_eq_true]
        simp (disch := first | omega | exact ci_m | exact Nat.le_of_ble_eq_true rfl | (refine mF_lt ?_; omega)) only [own_201, am_go dc_201_0, J_aload_0, K_al, ld_0, am_go dc_201_1, cv_12_92_12 own_201, JR_v, JR_0, JR_ite, ci1_r, am_go dc_201_4, J_i2l, am_go dc_201_5, J_ldc2, cj_12_96, am_go dc_201_8, cj_12_98, am_go dc_201_11, cs_12_73 own_201, am_go dc_201_14, J_if_ne, am_go dc_201_17, J_iconst, c32_0, am_go dc_201_18, J_ret_z0 ret_201, J_ret_z1 ret_201, J_ret_zB ret_201, am_go dc_201_19, am_go dc_201_20, am_go dc_201_21, am_go dc_201_24, J_bipush, c8_48, am_go dc_201_26, J_isub, am_go dc_201_27, J_putfield_i, J_putfield_l, J_putfield_r, ini_201, pk_12_100_12, am_go dc_201_30, am_go dc_201_31, J_dup_i, J_dup_r, am_go dc_201_32, J_getfield, gf_r, fk_12_83_12, am_go dc_201_35, c32_1, am_go dc_201_36, J_iadd, am_go dc_201_37, pk_12_83_12, am_go dc_201_40, am_go dc_201_41, J_istore_1, st1_0, st1_1, st1_s, kl_i, kl_l, kl_r, kl_n, am_go dc_201_42, J_iload_1, K_il, ld_1, am_go dc_201_43, c32_3, am_go dc_201_44, J_icmp_ge, am_go dc_201_47, am_go dc_201_48, fk_12_100_12, am_go dc_201_51, J_if_le, am_go dc_201_54, am_go dc_201_55, am_go dc_201_58, am_go dc_201_59, am_go dc_201_62, am_go dc_201_65, am_go dc_201_68, J_if_eq, am_go dc_201_71, am_go dc_201_72, c8_10, am_go dc_201_74, am_go dc_201_75, am_go dc_201_78, J_imul, am_go dc_201_79, am_go dc_201_80, am_go dc_201_83, am_go dc_201_84, am_go dc_201_86, am_go dc_201_87, am_go dc_201_90, am_go dc_201_91, am_go dc_201_92, am_go dc_201_95, am_go dc_201_96, am_go dc_201_97, am_go dc_201_100, J_iinc, pinc_go, am_go dc_201_103, J_goto, am_go dc_201_106, am_go dc_201_107, mH_o, mp_15, pf_i pk_12_100_12 rfl, mg_12, mp_12, pf_i pk_12_83_12 rfl, mg_15, zI_add, zI_mul, zI_lt, zI_le, zI_eq, zI_neg, zI_pos, zI_ne0, zI_gt0, zB_0, lg_cmp_ge, lg_cmp_le, lg_cmp_gt, lg_cmp_lt, lg_cmp_eq, ail_r, abl_r, all_r, ais_r, abs_r, als_r, mF_len, mS_s, mS_o, mS_2, mS_S, mI_1, mI_2, mI_s, mI_o, mI_3, mI_I, mJ_1, mJ_2, mJ_3, mJ_s, mJ_o, mJ_J, mL_1, mL_s, mL_o, mL_2, hs, hs2, hs3, h3, h33, mI_c12, r_isIn, islD, Bool.true_eq_false, Bool.false_eq_true, c1, c2', c3', List.length_cons, List.length_nil, Nat.reduceAdd, Nat.reduceLT, Nat.reduceLeDiff, Nat.reduceEqDiff, ↓reduceIte, bind_s, if_true, if_false, not_true_eq_false, not_false_eq_true, Nat.zero_add]
        rfl
    · have c2' : mBy u e n p - zI 48 ≤ 0 := Int32.not_lt.mp c2
      simp only [c1, c2, if_true, if_false]
      simp (disch := first | omega | exact ci_m | exact Nat.le_of_ble_eq_true rfl | (refine mF_lt ?_; omega)) only [own_201, am_go dc_201_0, J_aload_0, K_al, ld_0, am_go dc_201_1, cv_12_92_12 own_201, JR_v, JR_0, JR_ite, ci1_r, am_go dc_201_4, J_i2l, am_go dc_201_5, J_ldc2, cj_12_96, am_go dc_201_8, cj_12_98, am_go dc_201_11, cs_12_73 own_201, am_go dc_201_14, J_if_ne, am_go dc_201_17, J_iconst, c32_0, am_go dc_201_18, J_ret_z0 ret_201, J_ret_z1 ret_201, J_ret_zB ret_201, am_go dc_201_19, am_go dc_201_20, am_go dc_201_21, am_go dc_201_24, J_bipush, c8_48, am_go dc_201_26, J_isub, am_go dc_201_27, J_putfield_i, J_putfield_l, J_putfield_r, ini_201, pk_12_100_12, am_go dc_201_30, am_go dc_201_31, J_dup_i, J_dup_r, am_go dc_201_32, J_getfield, gf_r, fk_12_83_12, am_go dc_201_35, c32_1, am_go dc_201_36, J_iadd, am_go dc_201_37, pk_12_83_12, am_go dc_201_40, am_go dc_201_41, J_istore_1, st1_0, st1_1, st1_s, kl_i, kl_l, kl_r, kl_n, am_go dc_201_42, J_iload_1, K_il, ld_1, am_go dc_201_43, c32_3, am_go dc_201_44, J_icmp_ge, am_go dc_201_47, am_go dc_201_48, fk_12_100_12, am_go dc_201_51, J_if_le, am_go dc_201_54, am_go dc_201_55, am_go dc_201_58, am_go dc_201_59, am_go dc_201_62, am_go dc_201_65, am_go dc_201_68, J_if_eq, am_go dc_201_71, am_go dc_201_72, c8_10, am_go dc_201_74, am_go dc_201_75, am_go dc_201_78, J_imul, am_go dc_201_79, am_go dc_201_80, am_go dc_201_83, am_go dc_201_84, am_go dc_201_86, am_go dc_201_87, am_go dc_201_90, am_go dc_201_91, am_go dc_201_92, am_go dc_201_95, am_go dc_201_96, am_go dc_201_97, am_go dc_201_100, J_iinc, pinc_go, am_go dc_201_103, J_goto, am_go dc_201_106, am_go dc_201_107, mH_o, mp_15, pf_i pk_12_100_12 rfl, mg_12, mp_12, pf_i pk_12_83_12 rfl, mg_15, zI_add, zI_mul, zI_lt, zI_le, zI_eq, zI_neg, zI_pos, zI_ne0, zI_gt0, zB_0, lg_cmp_ge, lg_cmp_le, lg_cmp_gt, lg_cmp_lt, lg_cmp_eq, ail_r, abl_r, all_r, ais_r, abs_r, als_r, mF_len, mS_s, mS_o, mS_2, mS_S, mI_1, mI_2, mI_s, mI_o, mI_3, mI_I, mJ_1, mJ_2, mJ_3, mJ_s, mJ_o, mJ_J, mL_1, mL_s, mL_o, mL_2, hs, hs2, hs3, h3, h33, mI_c12, r_isIn, islD, Bool.true_eq_false, Bool.false_eq_true, c1, c2', List.length_cons, List.length_nil, Nat.reduceAdd, Nat.reduceLT, Nat.reduceLeDiff, Nat.reduceEqDiff, ↓reduceIte, bind_s, if_true, if_false, not_true_eq_false, not_false_eq_true, Nat.zero_add]
      rfl
  · have c1' : isD (mBy u e n p) = false := by simpa using c1
    simp only [c1', if_false, Bool.false_eq_true]
    simp (disch := first | omega | exact ci_m | exact Nat.le_of_ble_eq_true rfl | (refine mF_lt ?_; omega)) only [own_201, am_go dc_201_0, J_aload_0, K_al, ld_0, am_go dc_201_1, cv_12_92_12 own_201, JR_v, JR_0, JR_ite, ci1_r, am_go dc_201_4, J_i2l, am_go dc_201_5, J_ldc2, cj_12_96, am_go dc_201_8, cj_12_98, am_go dc_201_11, cs_12_73 own_201, am_go dc_201_14, J_if_ne, am_go dc_201_17, J_iconst, c32_0, am_go dc_201_18, J_ret_z0 ret_201, J_ret_z1 ret_201, J_ret_zB ret_201, am_go dc_201_19, am_go dc_201_20, am_go dc_201_21, am_go dc_201_24, J_bipush, c8_48, am_go dc_201_26, J_isub, am_go dc_201_27, J_putfield_i, J_putfield_l, J_putfield_r, ini_201, pk_12_100_12, am_go dc_201_30, am_go dc_201_31, J_dup_i, J_dup_r, am_go dc_201_32, J_getfield, gf_r, fk_12_83_12, am_go dc_201_35, c32_1, am_go dc_201_36, J_iadd, am_go dc_201_37, pk_12_83_12, am_go dc_201_40, am_go dc_201_41, J_istore_1, st1_0, st1_1, st1_s, kl_i, kl_l, kl_r, kl_n, am_go dc_201_42, J_iload_1, K_il, ld_1, am_go dc_201_43, c32_3, am_go dc_201_44, J_icmp_ge, am_go dc_201_47, am_go dc_201_48, fk_12_100_12, am_go dc_201_51, J_if_le, am_go dc_201_54, am_go dc_201_55, am_go dc_201_58, am_go dc_201_59, am_go dc_201_62, am_go dc_201_65, am_go dc_201_68, J_if_eq, am_go dc_201_71, am_go dc_201_72, c8_10, am_go dc_201_74, am_go dc_201_75, am_go dc_201_78, J_imul, am_go dc_201_79, am_go dc_201_80, am_go dc_201_83, am_go dc_201_84, am_go dc_201_86, am_go dc_201_87, am_go dc_201_90, am_go dc_201_91, am_go dc_201_92, am_go dc_201_95, am_go dc_201_96, am_go dc_201_97, am_go dc_201_100, J_iinc, pinc_go, am_go dc_201_103, J_goto, am_go dc_201_106, am_go dc_201_107, mH_o, mp_15, pf_i pk_12_100_12 rfl, mg_12, mp_12, pf_i pk_12_83_12 rfl, mg_15, zI_add, zI_mul, zI_lt, zI_le, zI_eq, zI_neg, zI_pos, zI_ne0, zI_gt0, zB_0, lg_cmp_ge, lg_cmp_le, lg_cmp_gt, lg_cmp_lt, lg_cmp_eq, ail_r, abl_r, all_r, ais_r, abs_r, als_r, mF_len, mS_s, mS_o, mS_2, mS_S, mI_1, mI_2, mI_s, mI_o, mI_3, mI_I, mJ_1, mJ_2, mJ_3, mJ_s, mJ_o, mJ_J, mL_1, mL_s, mL_o, mL_2, hs, hs2, hs3, h3, h33, mI_c12, r_isIn, islD, Bool.true_eq_false, Bool.false_eq_true, c1', List.length_cons, List.length_nil, Nat.reduceAdd, Nat.reduceLT, Nat.reduceLeDiff, Nat.reduceEqDiff, ↓reduceIte, bind_s, if_true, if_false, not_true_eq_false, not_false_eq_true, Nat.zero_add]
    rfl
end M19
