/-! the reference: writing; the calls that ask -/
section UU
variable {u : mU} {k j : Nat} {f g : Nat → Int32} {a b : Nat → Int64} {x y : Int32} {v w : Int64}
theorem mS_s : (mS u k f).1 k = f := by simp [mS]
theorem mS_o (h : j ≠ k) : (mS u k f).1 j = u.1 j := by simp [mS, h]
theorem mS_2 : (mS u k f).2 = u.2 := rfl
theorem mS_S : mS (mS u k f) k g = mS u k g := by
  unfold mS
  congr 1
  funext i
  by_cases h : i = k <;> simp [h]
theorem mS_id : mS u k (u.1 k) = u := by
  unfold mS
  obtain ⟨u1, u2⟩ := u
  simp only [Prod.mk.injEq, and_true]
  funext i
  by_cases h : i = k <;> simp [h]
theorem mL_1 : (mL u k a).1 = u.1 := rfl
theorem mL_s : (mL u k a).2.1 k = a := by simp [mL]
theorem mL_o (h : j ≠ k) : (mL u k a).2.1 j = u.2.1 j := by simp [mL, h]
theorem mL_2 : (mL u k a).2.2 = u.2.2 := rfl
theorem mI_1 : (mI u k x).1 = u.1 := rfl
theorem mI_2 : (mI u k x).2.1 = u.2.1 := rfl
theorem mI_s : (mI u k x).2.2.1 k = x := by simp [mI]
theorem mI_o (h : j ≠ k) : (mI u k x).2.2.1 j = u.2.2.1 j := by simp [mI, h]
theorem mI_3 : (mI u k x).2.2.2 = u.2.2.2 := rfl
theorem mI_I : mI (mI u k x) k y = mI u k y := by
  unfold mI
  congr 3
  funext i
  by_cases h : i = k <;> simp [h]
theorem mJ_1 : (mJ u k v).1 = u.1 := rfl
theorem mJ_2 : (mJ u k v).2.1 = u.2.1 := rfl
theorem mJ_3 : (mJ u k v).2.2.1 = u.2.2.1 := rfl
theorem mJ_s : (mJ u k v).2.2.2 k = v := by simp [mJ]
theorem mJ_o (h : j ≠ k) : (mJ u k v).2.2.2 j = u.2.2.2 j := by simp [mJ, h]
theorem mJ_J : mJ (mJ u k v) k w = mJ u k w := by
  unfold mJ
  congr 3
  funext i
  by_cases h : i = k <;> simp [h]
theorem upd_s : upd f k x k = x := by simp [upd]
theorem upd_o (h : j ≠ k) : upd f k x j = f j := by simp [upd, h]
theorem upd_u : upd (upd f k x) k y = upd f k y := by
  funext i
  by_cases h : i = k <;> simp [upd, h]
theorem upd_id : upd f k (f k) = f := by
  funext i
  by_cases h : i = k <;> simp [upd, h]
theorem upd_c (h : j ≠ k) : upd (upd f k x) j y = upd (upd f j y) k x := by
  funext i
  by_cases h1 : i = j
  · subst h1
    simp [upd, h]
  · by_cases h2 : i = k
    · subst h2
      simp [upd, h1]
    · simp [upd, h1, h2]
theorem updL_s : vp_updL a k v k = v := by simp [vp_updL]
theorem updL_o (h : j ≠ k) : vp_updL a k v j = a j := by simp [vp_updL, h]
end UU
section TS
variable {X : am_X} {rec : am_O} {t pc nx tg : Nat} {lv : am_L} {st : List Value} {σ : am_S}
theorem isl {x : Int32} (c : Nat) (hc : c < 1000) : (decide (0 ≤ x.toInt64) && decide (x.toInt64 ≤ (zI c).toInt64)) = qIs x (c + 1) := by
  rw [← qIs_pred (m := c + 1) (by omega), ← zI_lit_pred, zI_sub (a := c + 1) (b := 1) (by omega)]
  rfl
theorem isl_1 {x : Int32} : (decide (0 ≤ x.toInt64) && decide (x.toInt64 ≤ 1)) = qIs x 2 := isl 1 (by omega)
theorem isl_2 {x : Int32} : (decide (0 ≤ x.toInt64) && decide (x.toInt64 ≤ 2)) = qIs x 3 := isl 2 (by omega)
theorem isl_5 {x : Int32} : (decide (0 ≤ x.toInt64) && decide (x.toInt64 ≤ 5)) = qIs x 6 := isl 5 (by omega)
theorem isl_99 {x : Int32} : (decide (0 ≤ x.toInt64) && decide (x.toInt64 ≤ 99)) = qIs x 100 := isl 99 (by omega)
theorem isl_999 {x : Int32} : (decide (0 ≤ x.toInt64) && decide (x.toInt64 ≤ 999)) = qIs x 1000 := isl 999 (by omega)
theorem isl_m {x y : Int32} {m : Nat} (hy : y = zI m) (hm : m < 1000000) : (decide (0 ≤ x.toInt64) && decide (x.toInt64 ≤ (y - zI 1).toInt64)) = qIs x m := by
  rw [hy, zI_lit_pred, qIs_pred hm]
theorem qIs_zI {b n : Nat} (h : b < n) (hn : n < 2147483648) : qIs (zI b) n = true := by
  unfold qIs
  rw [wN_zI (by omega)]
  have h0 : 0 ≤ zI b := by rw [zI_pos (by omega)]; trivial
  simp [h, h0]
theorem ts_in {dflt hi o : Int} {offs : Array Int} {n : Nat} (hn : (n : Int) ≤ hi) (hb : n < 2147483648) (ho : offs[n]? = some o) (hp : 0 ≤ (pc : Int) + o) : am_J X rec t (some (.tableswitch dflt 0 hi offs, nx, tg)) pc lv (.int (zI n) :: st) σ = am_I X rec t ((pc : Int) + o).toNat lv st σ := by
  rw [J_tsw]
  have e : (zI n).toInt = n := zI_toInt hb
  unfold am_pure
  simp only [e]
  have e2 : ((n : Int) - 0).toNat = n := by omega
  rw [if_neg (by omega), e2, ho]
  simp only [hp, if_true]
  rfl
theorem ts_out {dflt : Int} {hi : Nat} {offs : Array Int} {x : Int32} (hx : qIs x (hi + 1) = false) (hp : 0 ≤ (pc : Int) + dflt) : am_J X rec t (some (.tableswitch dflt 0 (hi : Int) offs, nx, tg)) pc lv (.int x :: st) σ = am_I X rec t ((pc : Int) + dflt).toNat lv st σ := by
  rw [J_tsw]
  have hc : x.toInt < 0 ∨ (hi : Int) < x.toInt := by
    unfold qIs at hx
    simp only [Bool.and_eq_false_iff, decide_eq_false_iff_not] at hx
    rcases hx with h | h
    · left
      rw [Int32.not_le, Int32.lt_iff_toInt_lt] at h
      simpa using h
    · right
      have h2 : ¬ x.toInt.toNat < hi + 1 := h
      omega
  unfold am_pure
  simp only
  rw [if_pos hc]
  simp only [hp, if_true]
  rfl
end TS
section M3
variable {X : am_X} {h : am_H} {o d : Nat} {u : mU} {z : Nat × Nat}
def q5 (S : Nat → Int32) : Nat → Int32 → Int32
  | 0, v => v
  | k + 1, v => q5 S k (zI 5 * v + qD5 (S (90 + k)))
theorem r_code5_l : ∀ (k : Nat) (v : Int32), k ≤ 5 → am_I X (am_f X (d + 1)) 231 4 [some (.ref o), some (.int (zI 5)), some (.int v), some (.int (zI k + -1))] [] (mH h o u, z) = some (.inl (some (.int (q5 (u.1 1) k v))), (mH h o u, z)) := by
  intro k
  induction k with
  | zero =>
    intro v _
    rw [am_go dc_231_4]
    simp (disch := first | omega | exact ci_m | exact Nat.le_of_ble_eq_true rfl | (refine mF_lt ?_; omega)) only [own_231, am_go dc_231_0, J_iconst, c32_0, am_go dc_231_1, J_istore_2, st1_0, st1_1, st1_s, kl_i, kl_l, kl_r, kl_n, am_go dc_231_2, c32_4, am_go dc_231_3, J_istore_3, J_iload_3, K_il, ld_3, am_go dc_231_5, J_if_lt, am_go dc_231_8, J_iload_1, ld_1, am_go dc_231_9, J_iload_2, ld_2, am_go dc_231_10, J_imul, am_go dc_231_11, am_go dc_231_12, c32_5, am_go dc_231_13, J_icmp_ne, am_go dc_231_16, J_aload_0, K_al, ld_0, am_go dc_231_17, am_go dc_231_18, cv_12_183_12 own_231, JR_v, JR_0, JR_ite, ci1_r, am_go dc_231_21, am_go dc_231_22, J_icmp_le, am_go dc_231_25, am_go dc_231_26, J_goto, am_go dc_231_29, am_go dc_231_30, am_go dc_231_31, am_go dc_231_34, J_iadd, am_go dc_231_35, am_go dc_231_36, J_iinc, pinc_go, i32_m1, am_go dc_231_39, am_go dc_231_42, am_go dc_231_43, J_ret_i ret_231, mH_o, zI_add, zI_mul, zI_lt, zI_le, zI_eq, zI_neg, zI_pos, zI_ne0, zI_gt0, zB_0, lg_cmp_ge, lg_cmp_le, lg_cmp_gt, lg_cmp_lt, lg_cmp_eq, ail_r, abl_r, all_r, ais_r, abs_r, als_r, mF_len, zI_d0, neg1_lt, List.length_cons, List.length_nil, Nat.reduceAdd, Nat.reduceLT, Nat.reduceLeDiff, Nat.reduceEqDiff, ↓reduceIte, bind_s, if_true, if_false, not_true_eq_false, not_false_eq_true, Nat.zero_add]
    rfl
  | succ k ih =>
    intro v hk
    have hk5 : k < 5 := by omega
    have ih' := fun v => ih v (by omega)
    rw [am_go dc_231_4]
    simp (disch := first | omega | exact ci_m | exact Nat.le_of_ble_eq_true rfl | (refine mF_lt ?_; omega)) only [own_231, am_go dc_231_0, J_iconst, c32_0, am_go dc_231_1, J_istore_2, st1_0, st1_1, st1_s, kl_i, kl_l, kl_r, kl_n, am_go dc_231_2, c32_4, am_go dc_231_3, J_istore_3, J_iload_3, K_il, ld_3, am_go dc_231_5, J_if_lt, am_go dc_231_8, J_iload_1, ld_1, am_go dc_231_9, J_iload_2, ld_2, am_go dc_231_10, J_imul, am_go dc_231_11, am_go dc_231_12, c32_5, am_go dc_231_13, J_icmp_ne, am_go dc_231_16, J_aload_0, K_al, ld_0, am_go dc_231_17, am_go dc_231_18, cv_12_183_12 own_231, JR_v, JR_0, JR_ite, ci1_r, am_go dc_231_21, am_go dc_231_22, J_icmp_le, am_go dc_231_25, am_go dc_231_26, J_goto, am_go dc_231_29, am_go dc_231_30, am_go dc_231_31, am_go dc_231_34, J_iadd, am_go dc_231_35, am_go dc_231_36, J_iinc, pinc_go, i32_m1, am_go dc_231_39, am_go dc_231_42, am_go dc_231_43, J_ret_i ret_231, mH_o, zI_add, zI_mul, zI_lt, zI_le, zI_eq, zI_neg, zI_pos, zI_ne0, zI_gt0, zB_0, lg_cmp_ge, lg_cmp_le, lg_cmp_gt, lg_cmp_lt, lg_cmp_eq, ail_r, abl_r, all_r, ais_r, abs_r, als_r, mF_len, zI_dec, r_how, not_true_eq_false, List.length_cons, List.length_nil, Nat.reduceAdd, Nat.reduceLT, Nat.reduceLeDiff, Nat.reduceEqDiff, ↓reduceIte, bind_s, if_true, if_false, not_false_eq_true, Nat.zero_add]
    simp only [ih', q5, qD5]
    split <;> rfl
theorem r_code5 : am_f X (d + 2) 231 [.ref o, .int (zI 5)] (mH h o u, z) = some (.inl (some (.int (q5 (u.1 1) 5 (zI 0)))), (mH h o u, z)) := by
  rw [fU_231]
  simp (disch := first | omega | exact ci_m | exact Nat.le_of_ble_eq_true rfl | (refine mF_lt ?_; omega)) only [own_231, am_go dc_231_0, J_iconst, c32_0, am_go dc_231_1, J_istore_2, st1_0, st1_1, st1_s, kl_i, kl_l, kl_r, kl_n, am_go dc_231_2, c32_4, am_go dc_231_3, J_istore_3, J_iload_3, K_il, ld_3, am_go dc_231_5, J_if_lt, am_go dc_231_8, J_iload_1, ld_1, am_go dc_231_9, J_iload_2, ld_2, am_go dc_231_10, J_imul, am_go dc_231_11, am_go dc_231_12, c32_5, am_go dc_231_13, J_icmp_ne, am_go dc_231_16, J_aload_0, K_al, ld_0, am_go dc_231_17, am_go dc_231_18, cv_12_183_12 own_231, JR_v, JR_0, JR_ite, ci1_r, am_go dc_231_21, am_go dc_231_22, J_icmp_le, am_go dc_231_25, am_go dc_231_26, J_goto, am_go dc_231_29, am_go dc_231_30, am_go dc_231_31, am_go dc_231_34, J_iadd, am_go dc_231_35, am_go dc_231_36, J_iinc, pinc_go, i32_m1, am_go dc_231_39, am_go dc_231_42, am_go dc_231_43, J_ret_i ret_231, mH_o, zI_add, zI_mul, zI_lt, zI_le, zI_eq, zI_neg, zI_pos, zI_ne0, zI_gt0, zB_0, lg_cmp_ge, lg_cmp_le, lg_cmp_gt, lg_cmp_lt, lg_cmp_eq, ail_r, abl_r, all_r, ais_r, abs_r, als_r, mF_len, List.length_cons, List.length_nil, Nat.reduceAdd, Nat.reduceLT, Nat.reduceLeDiff, Nat.reduceEqDiff, ↓reduceIte, bind_s, if_true, if_false, not_true_eq_false, not_false_eq_true, Nat.zero_add]
  rw [show zI 4 = zI 5 + -1 from zI_dec.symm]
  exact r_code5_l 5 _ (by omega)
theorem r_puts {b : Nat} {x : Int32} (hb : b < 5) : am_f X (d + 1) 210 [.ref o, .int (zI b), .int x] (mH h o u, z) = some (.inl (none), (mH h o (mS u 1 (upd (u.1 1) (90 + b) x)), z)) := by
  rw [fU_210]
  simp (disch := first | omega | exact ci_m | exact Nat.le_of_ble_eq_true rfl | (refine mF_lt ?_; omega)) only [own_210, am_go dc_210_0, J_aload_0, K_al, ld_0, am_go dc_210_1, J_getfield, gf_r, fk_12_9_12, am_go dc_210_4, J_bipush, c8_90, am_go dc_210_6, J_iload_1, K_il, ld_1, am_go dc_210_7, J_iadd, am_go dc_210_8, J_iload_2, ld_2, am_go dc_210_9, J_iastore, am_go dc_210_10, J_ret_v ret_210, mH_o, mg_0, mH_1, mw_1, zI_add, zI_mul, zI_lt, zI_le, zI_eq, zI_neg, zI_pos, zI_ne0, zI_gt0, zB_0, lg_cmp_ge, lg_cmp_le, lg_cmp_gt, lg_cmp_lt, lg_cmp_eq, ail_r, abl_r, all_r, ais_r, abs_r, als_r, mF_len, List.length_cons, List.length_nil, Nat.reduceAdd, Nat.reduceLT, Nat.reduceLeDiff, Nat.reduceEqDiff, ↓reduceIte, bind_s, if_true, if_false, not_true_eq_false, not_false_eq_true, Nat.zero_add]
theorem r_becomes {i : Nat} {x : Int32} (hi : i < 118) : am_f X (d + 1) 214 [.ref o, .int (zI i), .int x] (mH h o u, z) = some (.inl (some (.int (u.1 1 i))), (mH h o (mI (mS u 1 (upd (u.1 1) i x)) 32 (zI 0)), z)) := by
  rw [fU_214]
  simp (disch := first | omega | exact ci_m | exact Nat.le_of_ble_eq_true rfl | (refine mF_lt ?_; omega)) only [own_214, am_go dc_214_0, J_aload_0, K_al, ld_0, am_go dc_214_1, J_getfield, gf_r, fk_12_9_12, am_go dc_214_4, J_iload_1, K_il, ld_1, am_go dc_214_5, J_iaload, am_go dc_214_6, J_istore_3, st1_0, st1_1, st1_s, kl_i, kl_l, kl_r, kl_n, am_go dc_214_7, am_go dc_214_8, am_go dc_214_11, am_go dc_214_12, J_iload_2, ld_2, am_go dc_214_13, J_iastore, am_go dc_214_14, am_go dc_214_15, J_iconst, c32_0, am_go dc_214_16, J_putfield_i, J_putfield_l, J_putfield_r, ini_214, pk_12_170_12, am_go dc_214_19, J_iload_3, ld_3, am_go dc_214_20, J_ret_i ret_214, mH_o, mg_0, mH_1, mw_1, mp_32, pf_z0 pk_12_170_12 rfl, pf_z1 pk_12_170_12 rfl, pf_zB pk_12_170_12 rfl, zI_add, zI_mul, zI_lt, zI_le, zI_eq, zI_neg, zI_pos, zI_ne0, zI_gt0, zB_0, lg_cmp_ge, lg_cmp_le, lg_cmp_gt, lg_cmp_lt, lg_cmp_eq, ail_r, abl_r, all_r, ais_r, abs_r, als_r, mF_len, mS_s, mS_o, mS_2, mS_S, mI_1, mI_2, mI_s, mI_o, mI_3, mI_I, mJ_1, mJ_2, mJ_3, mJ_s, mJ_o, mJ_J, mL_1, mL_s, mL_o, mL_2, List.length_cons, List.length_nil, Nat.reduceAdd, Nat.reduceLT, Nat.reduceLeDiff, Nat.reduceEqDiff, ↓reduceIte, bind_s, if_true, if_false, not_true_eq_false, not_false_eq_true, Nat.zero_add]
theorem r_thrown  : am_f X (d + 1) 193 [.ref o] (mH h o u, z) = some (.inl (some (.int (u.2.2.1 11))), (mH h o u, z)) := by
  rw [fU_193]
  simp (disch := first | omega | exact ci_m | exact Nat.le_of_ble_eq_true rfl | (refine mF_lt ?_; omega)) only [own_193, am_go dc_193_0, J_aload_0, K_al, ld_0, am_go dc_193_1, J_getfield, gf_r, fk_12_69_12, am_go dc_193_4, J_ret_i ret_193, mH_o, mg_11, zI_add, zI_mul, zI_lt, zI_le, zI_eq, zI_neg, zI_pos, zI_ne0, zI_gt0, zB_0, lg_cmp_ge, lg_cmp_le, lg_cmp_gt, lg_cmp_lt, lg_cmp_eq, ail_r, abl_r, all_r, ais_r, abs_r, als_r, mF_len, List.length_cons, List.length_nil, Nat.reduceAdd, Nat.reduceLT, Nat.reduceLeDiff, Nat.reduceEqDiff, ↓reduceIte, bind_s, if_true, if_false, not_true_eq_false, not_false_eq_true, Nat.zero_add]
theorem r_mass0 (hq : qW (u.1 1)) : am_f X (d + 4) 232 [.ref o] (mH h o u, z) = some (.inl (some (.long (qMass (u.1 1)))), (mH h o u, z)) := by
  rw [fU_232]
  simp (disch := first | omega | exact ci_m | exact Nat.le_of_ble_eq_true rfl | (refine mF_lt ?_; omega)) only [own_232, am_go dc_232_0, J_aload_0, K_al, ld_0, am_go dc_232_1, cv_12_213_12 own_232, JR_v, JR_0, JR_ite, ci1_r, am_go dc_232_4, J_ret_l ret_232, mH_o, zI_add, zI_mul, zI_lt, zI_le, zI_eq, zI_neg, zI_pos, zI_ne0, zI_gt0, zB_0, lg_cmp_ge, lg_cmp_le, lg_cmp_gt, lg_cmp_lt, lg_cmp_eq, ail_r, abl_r, all_r, ais_r, abs_r, als_r, mF_len, r_mass hq, List.length_cons, List.length_nil, Nat.reduceAdd, Nat.reduceLT, Nat.reduceLeDiff, Nat.reduceEqDiff, ↓reduceIte, bind_s, if_true, if_false, not_true_eq_false, not_false_eq_true, Nat.zero_add]
theorem r_is {x : Int32} (hq : qW (u.1 1)) : am_f X (d + 3) 216 [.ref o, .int x] (mH h o u, z) = some (.inl (some (.int (if qIs x (wN (u.1 1 116)) = true then qD5 (u.1 1 (90 + wN x)) else -1))), (mH h o u, z)) := by
  have h5 := hq.m.2
  rw [fU_216]
  cases hx : qIs x (wN (u.1 1 116)) with
  | false =>
    simp (disch := first | omega | exact ci_m | exact Nat.le_of_ble_eq_true rfl | (refine mF_lt ?_; omega)) only [own_216, am_go dc_216_0, J_aload_0, K_al, ld_0, am_go dc_216_1, J_iload_1, K_il, ld_1, am_go dc_216_2, cv_12_136_12 own_216, JR_v, JR_0, JR_ite, ci1_r, am_go dc_216_5, J_if_eq, am_go dc_216_8, am_go dc_216_9, am_go dc_216_10, cv_12_183_12 own_216, am_go dc_216_13, J_iconst, c32_4, am_go dc_216_14, J_icmp_le, am_go dc_216_17, am_go dc_216_18, J_goto, am_go dc_216_21, am_go dc_216_22, am_go dc_216_23, am_go dc_216_26, am_go dc_216_29, i32_m1, am_go dc_216_30, J_ret_i ret_216, mH_o, zI_add, zI_mul, zI_lt, zI_le, zI_eq, zI_neg, zI_pos, zI_ne0, zI_gt0, zB_0, lg_cmp_ge, lg_cmp_le, lg_cmp_gt, lg_cmp_lt, lg_cmp_eq, ail_r, abl_r, all_r, ais_r, abs_r, als_r, mF_len, r_isBox hq, hx, List.length_cons, List.length_nil, Nat.reduceAdd, Nat.reduceLT, Nat.reduceLeDiff, Nat.reduceEqDiff, ↓reduceIte, bind_s, if_true, if_false, not_true_eq_false, not_false_eq_true, Nat.zero_add]
    rfl
  | true =>
    obtain ⟨hx1, hx2⟩ := qIs_get hx
    have hw5 : wN x < 5 := by omega
    generalize wN x = b at hx1 hw5 hx2 hx ⊢
    subst hx1
    have hb := qIs_zI hx2 (by omega)
    simp (disch := first | omega | exact ci_m | exact Nat.le_of_ble_eq_true rfl | (refine mF_lt ?_; omega)) only [own_216, am_go dc_216_0, J_aload_0, K_al, ld_0, am_go dc_216_1, J_iload_1, K_il, ld_1, am_go dc_216_2, cv_12_136_12 own_216, JR_v, JR_0, JR_ite, ci1_r, am_go dc_216_5, J_if_eq, am_go dc_216_8, am_go dc_216_9, am_go dc_216_10, cv_12_183_12 own_216, am_go dc_216_13, J_iconst, c32_4, am_go dc_216_14, J_icmp_le, am_go dc_216_17, am_go dc_216_18, J_goto, am_go dc_216_21, am_go dc_216_22, am_go dc_216_23, am_go dc_216_26, am_go dc_216_29, i32_m1, am_go dc_216_30, J_ret_i ret_216, mH_o, zI_add, zI_mul, zI_lt, zI_le, zI_eq, zI_neg, zI_pos, zI_ne0, zI_gt0, zB_0, lg_cmp_ge, lg_cmp_le, lg_cmp_gt, lg_cmp_lt, lg_cmp_eq, ail_r, abl_r, all_r, ais_r, abs_r, als_r, mF_len, r_isBox hq, hb, r_how, Bool.true_eq_false, List.length_cons, List.length_nil, Nat.reduceAdd, Nat.reduceLT, Nat.reduceLeDiff, Nat.reduceEqDiff, ↓reduceIte, bind_s, if_true, if_false, not_true_eq_false, not_false_eq_true, Nat.zero_add]
    unfold qD5
    split <;> rfl
end M3
