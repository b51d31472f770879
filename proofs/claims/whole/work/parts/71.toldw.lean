/-! Told, written: ranks -/
def rkO (W : Nat → Int32) (x : Int32) : Nat → Nat → Nat
  | 0, i => i
  | k + 1, i => if W i < x then rkO W x k (i + 1) else i
theorem rkO_le {W : Nat → Int32} {x : Int32} : ∀ (k i : Nat), i ≤ rkO W x k i ∧ rkO W x k i ≤ i + k
  | 0, i => ⟨Nat.le_refl _, Nat.le_refl _⟩
  | k + 1, i => by
    have := rkO_le (W := W) (x := x) k (i + 1)
    unfold rkO
    split <;> omega
theorem rkO_lt {W : Nat → Int32} {x : Int32} : ∀ (k i j : Nat), i ≤ j → j < rkO W x k i → W j < x
  | 0, i, j, h1, h2 => by
    unfold rkO at h2
    omega
  | k + 1, i, j, h1, h2 => by
    unfold rkO at h2
    by_cases e : W i < x
    · rw [if_pos e] at h2
      by_cases e2 : j = i
      · rw [e2]
        exact e
      · exact rkO_lt k (i + 1) j (by omega) h2
    · rw [if_neg e] at h2
      omega
theorem rkO_ge {W : Nat → Int32} {x : Int32} : ∀ (k i : Nat), rkO W x k i < i + k → ¬ W (rkO W x k i) < x
  | 0, i, h2 => by
    unfold rkO at h2
    omega
  | k + 1, i, h2 => by
    unfold rkO at h2 ⊢
    by_cases e : W i < x
    · rw [if_pos e] at h2 ⊢
      exact rkO_ge k (i + 1) (by omega)
    · rw [if_neg e]
      exact e
def shW (W : Nat → Int32) (w k : Nat) : Nat → Int32 := fun j => if w < j ∧ j ≤ w + k then W (j - 1) else W j
/-- one worth more -/
def tAw (T : mU × (Nat → Option Nat)) (R : Nat) (x : Int32) : mU × (Nat → Option Nat) :=
  if (rkO (T.1.1 4) x R 0 < R ∧ T.1.1 4 (rkO (T.1.1 4) x R 0) = x) ∨ 21 ≤ R then T else (mI (mS T.1 4 (upd (shW (T.1.1 4) (rkO (T.1.1 4) x R 0) (R - rkO (T.1.1 4) x R 0)) (rkO (T.1.1 4) x R 0) x)) 5 (zI (R + 1)), T.2)
section TW
variable {X : am_X} {h H : am_H} {t d : Nat} {T : mU × (Nat → Option Nat)} {z : Nat × Nat}
theorem c_rank_l {x : Int32} {R : Nat} (hT : isT H t T) (hR : T.1.2.2.1 5 = zI R) (h21 : R ≤ 21) : ∀ (k i : Nat), i + k = R → am_I X (am_f X d) 24 2 [some (.ref t), some (.int x), some (.int (zI i))] [] (H, z) = some (.inl (some (.int (zI (rkO (T.1.1 4) x k i)))), (H, z)) := by
  intro k
  induction k with
  | zero =>
    intro i hi
    rw [am_go dc_24_2]
    simp (disch := first | omega | exact Nat.le_of_ble_eq_true rfl | exact hT.ci) only [own_24, am_go dc_24_0, J_iconst, c32_0, am_go dc_24_1, J_istore_2, st1_0, st1_1, st1_s, kl_i, kl_l, kl_r, kl_n, J_iload_2, K_il, ld_2, am_go dc_24_3, J_aload_0, K_al, ld_0, am_go dc_24_4, J_getfield, gf_r, fk_1_28_1, am_go dc_24_7, J_icmp_ge, am_go dc_24_10, am_go dc_24_11, fk_1_25_1, am_go dc_24_14, am_go dc_24_15, J_iaload, am_go dc_24_16, J_iload_1, ld_1, am_go dc_24_17, am_go dc_24_20, J_iinc, pinc_go, c32_1, am_go dc_24_23, J_goto, am_go dc_24_26, am_go dc_24_27, J_ret_i ret_24, tg_5, tg_4, hT.c0, hT.c1, hT.c2, hT.c3, hT.c4, hT.c5, hT.c6, hT.c7, zI_add, zI_mul, zI_lt, zI_le, zI_eq, zI_neg, zI_pos, zI_ne0, zI_gt0, zB_0, lg_cmp_ge, lg_cmp_le, lg_cmp_gt, lg_cmp_lt, lg_cmp_eq, ail_r, abl_r, all_r, ais_r, abs_r, als_r, aal_r, aal_q, aln_r, vrf_s, vrf_n, z32, hR, List.length_cons, List.length_nil, Nat.reduceAdd, Nat.reduceLT, Nat.reduceLeDiff, Nat.reduceEqDiff, ↓reduceIte, bind_s, if_true, if_false, not_true_eq_false, not_false_eq_true, Nat.zero_add]
    rw [if_pos (by omega)]
    rfl
  | succ k ih =>
    intro i hi
    have ih' := ih (i + 1) (by omega)
    rw [am_go dc_24_2]
    simp (disch := first | omega | exact Nat.le_of_ble_eq_true rfl | exact hT.ci) only [own_24, am_go dc_24_0, J_iconst, c32_0, am_go dc_24_1, J_istore_2, st1_0, st1_1, st1_s, kl_i, kl_l, kl_r, kl_n, J_iload_2, K_il, ld_2, am_go dc_24_3, J_aload_0, K_al, ld_0, am_go dc_24_4, J_getfield, gf_r, fk_1_28_1, am_go dc_24_7, J_icmp_ge, am_go dc_24_10, am_go dc_24_11, fk_1_25_1, am_go dc_24_14, am_go dc_24_15, J_iaload, am_go dc_24_16, J_iload_1, ld_1, am_go dc_24_17, am_go dc_24_20, J_iinc, pinc_go, c32_1, am_go dc_24_23, J_goto, am_go dc_24_26, am_go dc_24_27, J_ret_i ret_24, tg_5, tg_4, hT.c0, hT.c1, hT.c2, hT.c3, hT.c4, hT.c5, hT.c6, hT.c7, zI_add, zI_mul, zI_lt, zI_le, zI_eq, zI_neg, zI_pos, zI_ne0, zI_gt0, zB_0, lg_cmp_ge, lg_cmp_le, lg_cmp_gt, lg_cmp_lt, lg_cmp_eq, ail_r, abl_r, all_r, ais_r, abs_r, als_r, aal_r, aal_q, aln_r, vrf_s, vrf_n, z32, hR, List.length_cons, List.length_nil, Nat.reduceAdd, Nat.reduceLT, Nat.reduceLeDiff, Nat.reduceEqDiff, ↓reduceIte, bind_s, if_true, if_false, not_true_eq_false, not_false_eq_true, Nat.zero_add]
    rw [if_neg (by omega)]
    unfold rkO
    by_cases e : T.1.1 4 i < x
    · rw [if_neg (by rw [Int32.not_le]; exact e), if_pos e]
      exact ih'
    · rw [if_pos (by rw [← Int32.not_lt]; exact e), if_neg e]
theorem c_rank {x : Int32} {R : Nat} (hT : isT H t T) (hR : T.1.2.2.1 5 = zI R) (h21 : R ≤ 21) : am_f X (d + 1) 24 [.ref t, .int x] (H, z) = some (.inl (some (.int (zI (rkO (T.1.1 4) x R 0)))), (H, z)) := by
  rw [fU_24]
  simp (disch := first | omega | exact Nat.le_of_ble_eq_true rfl | exact hT.ci) only [own_24, am_go dc_24_0, J_iconst, c32_0, am_go dc_24_1, J_istore_2, st1_0, st1_1, st1_s, kl_i, kl_l, kl_r, kl_n, J_iload_2, K_il, ld_2, am_go dc_24_3, J_aload_0, K_al, ld_0, am_go dc_24_4, J_getfield, gf_r, fk_1_28_1, am_go dc_24_7, J_icmp_ge, am_go dc_24_10, am_go dc_24_11, fk_1_25_1, am_go dc_24_14, am_go dc_24_15, J_iaload, am_go dc_24_16, J_iload_1, ld_1, am_go dc_24_17, am_go dc_24_20, J_iinc, pinc_go, c32_1, am_go dc_24_23, J_goto, am_go dc_24_26, am_go dc_24_27, J_ret_i ret_24, tg_5, tg_4, hT.c0, hT.c1, hT.c2, hT.c3, hT.c4, hT.c5, hT.c6, hT.c7, zI_add, zI_mul, zI_lt, zI_le, zI_eq, zI_neg, zI_pos, zI_ne0, zI_gt0, zB_0, lg_cmp_ge, lg_cmp_le, lg_cmp_gt, lg_cmp_lt, lg_cmp_eq, ail_r, abl_r, all_r, ais_r, abs_r, als_r, aal_r, aal_q, aln_r, vrf_s, vrf_n, z32, List.length_cons, List.length_nil, Nat.reduceAdd, Nat.reduceLT, Nat.reduceLeDiff, Nat.reduceEqDiff, ↓reduceIte, bind_s, if_true, if_false, not_true_eq_false, not_false_eq_true, Nat.zero_add]
  exact c_rank_l hT hR h21 R 0 (by omega)
theorem shW_0 {W : Nat → Int32} {w : Nat} : shW W w 0 = W := by
  funext j
  exact if_neg (by omega)
theorem shW_s {W : Nat → Int32} {w k : Nat} : shW (upd W (w + (k + 1)) (W (w + k))) w k = shW W w (k + 1) := by
  funext j
  unfold shW upd
  by_cases e1 : w < j ∧ j ≤ w + k
  · rw [if_pos e1, if_neg (by omega), if_pos (by omega)]
  · rw [if_neg e1]
    by_cases e2 : j = w + (k + 1)
    · subst e2
      rw [if_pos rfl, if_pos (by omega)]
      rfl
    · rw [if_neg e2, if_neg (by omega)]
theorem c_shift_l {x : Int32} {R w : Nat} (hR : R < 21) : ∀ (k : Nat) (T : mU × (Nat → Option Nat)), T.1.2.2.1 5 = zI R → w + k ≤ R → am_I X (am_f X d) 23 39 [some (.ref t), some (.int x), some (.int (zI w)), some (.int (zI (w + k)))] [] (tH h t T, z) = some (.inl none, (tH h t (mI (mS T.1 4 (upd (shW (T.1.1 4) w k) w x)) 5 (zI (R + 1)), T.2), z)) := by
  intro k
  induction k with
  | zero =>
    intro T hT hk
    rw [am_go dc_23_39, shW_0]
    simp (disch := first | omega | exact Nat.le_of_ble_eq_true rfl | exact tH_ci | (refine tF_lt ?_; omega)) only [own_23, am_go dc_23_0, J_aload_0, K_al, ld_0, am_go dc_23_1, J_iload_1, K_il, ld_1, am_go dc_23_2, cv_1_83_1 own_23, JR_v, JR_0, JR_ite, ci1_r, am_go dc_23_5, J_istore_2, st1_0, st1_1, st1_s, kl_i, kl_l, kl_r, kl_n, am_go dc_23_6, J_iload_2, ld_2, am_go dc_23_7, am_go dc_23_8, J_getfield, gf_r, fk_1_28_1, am_go dc_23_11, J_icmp_ge, am_go dc_23_14, am_go dc_23_15, fk_1_25_1, am_go dc_23_18, am_go dc_23_19, J_iaload, am_go dc_23_20, am_go dc_23_21, J_icmp_eq, am_go dc_23_24, am_go dc_23_25, am_go dc_23_28, J_bipush, c8_21, am_go dc_23_30, J_icmp_lt, am_go dc_23_33, J_ret_v ret_23, am_go dc_23_34, am_go dc_23_35, am_go dc_23_38, J_istore_3, J_iload_3, ld_3, am_go dc_23_40, am_go dc_23_41, J_icmp_le, am_go dc_23_44, am_go dc_23_45, am_go dc_23_48, am_go dc_23_49, am_go dc_23_50, am_go dc_23_53, am_go dc_23_54, J_iconst, c32_1, am_go dc_23_55, J_isub, am_go dc_23_56, am_go dc_23_57, J_iastore, am_go dc_23_58, J_iinc, pinc_go, i32_m1, am_go dc_23_61, J_goto, am_go dc_23_64, am_go dc_23_65, am_go dc_23_68, am_go dc_23_69, am_go dc_23_70, am_go dc_23_71, am_go dc_23_72, J_dup_i, J_dup_r, am_go dc_23_73, am_go dc_23_76, am_go dc_23_77, J_iadd, am_go dc_23_78, J_putfield_i, J_putfield_l, J_putfield_r, ini_23, pk_1_28_1, am_go dc_23_81, tg_5, tg_4, tp_5, pf_i pk_1_28_1 rfl, tH_0, tH_1, tH_2, tH_3, tH_4, tH_5, tH_6, tH_7, tw_1, tw_2, tw_3, tw_4, tw_5, tw_6, tw_7, zI_add, zI_mul, zI_lt, zI_le, zI_eq, zI_neg, zI_pos, zI_ne0, zI_gt0, zB_0, lg_cmp_ge, lg_cmp_le, lg_cmp_gt, lg_cmp_lt, lg_cmp_eq, ail_r, abl_r, all_r, ais_r, abs_r, als_r, aal_r, aal_q, aln_r, vrf_s, vrf_n, z32, hT, mS_s, mS_o, mS_2, mI_1, mI_2, mI_s, mI_o, mI_I, mS_S, List.length_cons, List.length_nil, Nat.reduceAdd, Nat.reduceLT, Nat.reduceLeDiff, Nat.reduceEqDiff, ↓reduceIte, bind_s, if_true, if_false, not_true_eq_false, not_false_eq_true, Nat.zero_add]
    rw [if_pos (by omega)]
  | succ k ih =>
    intro T hT hk
    have ih' := ih (mS T.1 4 (upd (T.1.1 4) (w + (k + 1)) (T.1.1 4 (w + k))), T.2) hT (by omega)
    have hs : zI (w + (k + 1)) - zI 1 = zI (w + k) := by
      rw [zI_sub (by omega)]
      rfl
    have hs2 : zI (w + (k + 1)) + -1 = zI (w + k) := zI_dec
    rw [am_go dc_23_39]
    simp (disch := first | omega | exact Nat.le_of_ble_eq_true rfl | exact tH_ci | (refine tF_lt ?_; omega)) only [own_23, am_go dc_23_0, J_aload_0, K_al, ld_0, am_go dc_23_1, J_iload_1, K_il, ld_1, am_go dc_23_2, cv_1_83_1 own_23, JR_v, JR_0, JR_ite, ci1_r, am_go dc_23_5, J_istore_2, st1_0, st1_1, st1_s, kl_i, kl_l, kl_r, kl_n, am_go dc_23_6, J_iload_2, ld_2, am_go dc_23_7, am_go dc_23_8, J_getfield, gf_r, fk_1_28_1, am_go dc_23_11, J_icmp_ge, am_go dc_23_14, am_go dc_23_15, fk_1_25_1, am_go dc_23_18, am_go dc_23_19, J_iaload, am_go dc_23_20, am_go dc_23_21, J_icmp_eq, am_go dc_23_24, am_go dc_23_25, am_go dc_23_28, J_bipush, c8_21, am_go dc_23_30, J_icmp_lt, am_go dc_23_33, J_ret_v ret_23, am_go dc_23_34, am_go dc_23_35, am_go dc_23_38, J_istore_3, J_iload_3, ld_3, am_go dc_23_40, am_go dc_23_41, J_icmp_le, am_go dc_23_44, am_go dc_23_45, am_go dc_23_48, am_go dc_23_49, am_go dc_23_50, am_go dc_23_53, am_go dc_23_54, J_iconst, c32_1, am_go dc_23_55, J_isub, am_go dc_23_56, am_go dc_23_57, J_iastore, am_go dc_23_58, J_iinc, pinc_go, i32_m1, am_go dc_23_61, J_goto, am_go dc_23_64, am_go dc_23_65, am_go dc_23_68, am_go dc_23_69, am_go dc_23_70, am_go dc_23_71, am_go dc_23_72, J_dup_i, J_dup_r, am_go dc_23_73, am_go dc_23_76, am_go dc_23_77, J_iadd, am_go dc_23_78, J_putfield_i, J_putfield_l, J_putfield_r, ini_23, pk_1_28_1, am_go dc_23_81, tg_5, tg_4, tp_5, pf_i pk_1_28_1 rfl, tH_0, tH_1, tH_2, tH_3, tH_4, tH_5, tH_6, tH_7, tw_1, tw_2, tw_3, tw_4, tw_5, tw_6, tw_7, zI_add, zI_mul, zI_lt, zI_le, zI_eq, zI_neg, zI_pos, zI_ne0, zI_gt0, zB_0, lg_cmp_ge, lg_cmp_le, lg_cmp_gt, lg_cmp_lt, lg_cmp_eq, ail_r, abl_r, all_r, ais_r, abs_r, als_r, aal_r, aal_q, aln_r, vrf_s, vrf_n, z32, hT, hs, hs2, mS_s, mS_o, mS_2, mI_1, mI_2, mI_s, mI_o, mI_I, mS_S, List.length_cons, List.length_nil, Nat.reduceAdd, Nat.reduceLT, Nat.reduceLeDiff, Nat.reduceEqDiff, ↓reduceIte, bind_s, if_true, if_false, not_true_eq_false, not_false_eq_true, Nat.zero_add]
    rw [if_neg (by omega), ih']
    simp only [mS_s, mS_S, shW_s]
theorem c_addWorth {x : Int32} {R : Nat} (hR : T.1.2.2.1 5 = zI R) (h21 : R ≤ 21) : am_f X (d + 2) 23 [.ref t, .int x] (tH h t T, z) = some (.inl none, (tH h t (tAw T R x), z)) := by
  have hr := c_rank (X := X) (d := d) (x := x) (z := z) (tH_is (h := h) (t := t) (D := T)) hR h21
  have hle := rkO_le (W := T.1.1 4) (x := x) R 0
  unfold tAw
  generalize rkO (T.1.1 4) x R 0 = w at *
  have hw : w < R ∨ R ≤ w := by omega
  rw [fU_23]
  by_cases e1 : w < R
  · by_cases e2 : T.1.1 4 w = x
    · simp (disch := first | omega | exact Nat.le_of_ble_eq_true rfl | exact tH_ci | (refine tF_lt ?_; omega)) only [own_23, am_go dc_23_0, J_aload_0, K_al, ld_0, am_go dc_23_1, J_iload_1, K_il, ld_1, am_go dc_23_2, cv_1_83_1 own_23, JR_v, JR_0, JR_ite, ci1_r, am_go dc_23_5, J_istore_2, st1_0, st1_1, st1_s, kl_i, kl_l, kl_r, kl_n, am_go dc_23_6, J_iload_2, ld_2, am_go dc_23_7, am_go dc_23_8, J_getfield, gf_r, fk_1_28_1, am_go dc_23_11, J_icmp_ge, am_go dc_23_14, am_go dc_23_15, fk_1_25_1, am_go dc_23_18, am_go dc_23_19, J_iaload, am_go dc_23_20, am_go dc_23_21, J_icmp_eq, am_go dc_23_24, am_go dc_23_25, am_go dc_23_28, J_bipush, c8_21, am_go dc_23_30, J_icmp_lt, am_go dc_23_33, J_ret_v ret_23, am_go dc_23_34, am_go dc_23_35, am_go dc_23_38, J_istore_3, J_iload_3, ld_3, am_go dc_23_40, am_go dc_23_41, J_icmp_le, am_go dc_23_44, am_go dc_23_45, am_go dc_23_48, am_go dc_23_49, am_go dc_23_50, am_go dc_23_53, am_go dc_23_54, J_iconst, c32_1, am_go dc_23_55, J_isub, am_go dc_23_56, am_go dc_23_57, J_iastore, am_go dc_23_58, J_iinc, pinc_go, i32_m1, am_go dc_23_61, J_goto, am_go dc_23_64, am_go dc_23_65, am_go dc_23_68, am_go dc_23_69, am_go dc_23_70, am_go dc_23_71, am_go dc_23_72, J_dup_i, J_dup_r, am_go dc_23_73, am_go dc_23_76, am_go dc_23_77, J_iadd, am_go dc_23_78, J_putfield_i, J_putfield_l, J_putfield_r, ini_23, pk_1_28_1, am_go dc_23_81, tg_5, tg_4, tp_5, pf_i pk_1_28_1 rfl, tH_0, tH_1, tH_2, tH_3, tH_4, tH_5, tH_6, tH_7, tw_1, tw_2, tw_3, tw_4, tw_5, tw_6, tw_7, zI_add, zI_mul, zI_lt, zI_le, zI_eq, zI_neg, zI_pos, zI_ne0, zI_gt0, zB_0, lg_cmp_ge, lg_cmp_le, lg_cmp_gt, lg_cmp_lt, lg_cmp_eq, ail_r, abl_r, all_r, ais_r, abs_r, als_r, aal_r, aal_q, aln_r, vrf_s, vrf_n, z32, hR, hr, e2, mS_s, mS_o, mS_2, mI_1, mI_2, mI_s, mI_o, mI_I, mS_S, List.length_cons, List.length_nil, Nat.reduceAdd, Nat.reduceLT, Nat.reduceLeDiff, Nat.reduceEqDiff, ↓reduceIte, bind_s, if_true, if_false, not_true_eq_false, not_false_eq_true, Nat.zero_add]
      simp [e1, e2]
      intro hh
      exact absurd e1 (by omega)
    · by_cases e3 : R < 21
      · rw [if_neg (by
          intro hh
          rcases hh with hh | hh
          · exact e2 hh.2
          · omega)]
        have hl := c_shift_l (X := X) (h := h) (t := t) (d := d + 1) (z := z) (x := x) (w := w) e3 (R - w) T hR (by omega)
        rw [show w + (R - w) = R by omega] at hl
        simp (disch := first | omega | exact Nat.le_of_ble_eq_true rfl | exact tH_ci | (refine tF_lt ?_; omega)) only [own_23, am_go dc_23_0, J_aload_0, K_al, ld_0, am_go dc_23_1, J_iload_1, K_il, ld_1, am_go dc_23_2, cv_1_83_1 own_23, JR_v, JR_0, JR_ite, ci1_r, am_go dc_23_5, J_istore_2, st1_0, st1_1, st1_s, kl_i, kl_l, kl_r, kl_n, am_go dc_23_6, J_iload_2, ld_2, am_go dc_23_7, am_go dc_23_8, J_getfield, gf_r, fk_1_28_1, am_go dc_23_11, J_icmp_ge, am_go dc_23_14, am_go dc_23_15, fk_1_25_1, am_go dc_23_18, am_go dc_23_19, J_iaload, am_go dc_23_20, am_go dc_23_21, J_icmp_eq, am_go dc_23_24, am_go dc_23_25, am_go dc_23_28, J_bipush, c8_21, am_go dc_23_30, J_icmp_lt, am_go dc_23_33, J_ret_v ret_23, am_go dc_23_34, am_go dc_23_35, am_go dc_23_38, J_istore_3, J_iload_3, ld_3, am_go dc_23_40, am_go dc_23_41, J_icmp_le, am_go dc_23_44, am_go dc_23_45, am_go dc_23_48, am_go dc_23_49, am_go dc_23_50, am_go dc_23_53, am_go dc_23_54, J_iconst, c32_1, am_go dc_23_55, J_isub, am_go dc_23_56, am_go dc_23_57, J_iastore, am_go dc_23_58, J_iinc, pinc_go, i32_m1, am_go dc_23_61, J_goto, am_go dc_23_64, am_go dc_23_65, am_go dc_23_68, am_go dc_23_69, am_go dc_23_70, am_go dc_23_71, am_go dc_23_72, J_dup_i, J_dup_r, am_go dc_23_73, am_go dc_23_76, am_go dc_23_77, J_iadd, am_go dc_23_78, J_putfield_i, J_putfield_l, J_putfield_r, ini_23, pk_1_28_1, am_go dc_23_81, tg_5, tg_4, tp_5, pf_i pk_1_28_1 rfl, tH_0, tH_1, tH_2, tH_3, tH_4, tH_5, tH_6, tH_7, tw_1, tw_2, tw_3, tw_4, tw_5, tw_6, tw_7, zI_add, zI_mul, zI_lt, zI_le, zI_eq, zI_neg, zI_pos, zI_ne0, zI_gt0, zB_0, lg_cmp_ge, lg_cmp_le, lg_cmp_gt, lg_cmp_lt, lg_cmp_eq, ail_r, abl_r, all_r, ais_r, abs_r, als_r, aal_r, aal_q, aln_r, vrf_s, vrf_n, z32, hR, hr, mS_s, mS_o, mS_2, mI_1, mI_2, mI_s, mI_o, mI_I, mS_S, List.length_cons, List.length_nil, Nat.reduceAdd, Nat.reduceLT, Nat.reduceLeDiff, Nat.reduceEqDiff, ↓reduceIte, bind_s, if_true, if_false, not_true_eq_false, not_false_eq_true, Nat.zero_add]
        simp (disch := omega) only [if_neg, if_pos, e2, if_false, if_true, hl]
      · rw [if_pos (by omega)]
        have e4 : R = 21 := by omega
        subst e4
        simp (disch := first | omega | exact Nat.le_of_ble_eq_true rfl | exact tH_ci | (refine tF_lt ?_; omega)) only [own_23, am_go dc_23_0, J_aload_0, K_al, ld_0, am_go dc_23_1, J_iload_1, K_il, ld_1, am_go dc_23_2, cv_1_83_1 own_23, JR_v, JR_0, JR_ite, ci1_r, am_go dc_23_5, J_istore_2, st1_0, st1_1, st1_s, kl_i, kl_l, kl_r, kl_n, am_go dc_23_6, J_iload_2, ld_2, am_go dc_23_7, am_go dc_23_8, J_getfield, gf_r, fk_1_28_1, am_go dc_23_11, J_icmp_ge, am_go dc_23_14, am_go dc_23_15, fk_1_25_1, am_go dc_23_18, am_go dc_23_19, J_iaload, am_go dc_23_20, am_go dc_23_21, J_icmp_eq, am_go dc_23_24, am_go dc_23_25, am_go dc_23_28, J_bipush, c8_21, am_go dc_23_30, J_icmp_lt, am_go dc_23_33, J_ret_v ret_23, am_go dc_23_34, am_go dc_23_35, am_go dc_23_38, J_istore_3, J_iload_3, ld_3, am_go dc_23_40, am_go dc_23_41, J_icmp_le, am_go dc_23_44, am_go dc_23_45, am_go dc_23_48, am_go dc_23_49, am_go dc_23_50, am_go dc_23_53, am_go dc_23_54, J_iconst, c32_1, am_go dc_23_55, J_isub, am_go dc_23_56, am_go dc_23_57, J_iastore, am_go dc_23_58, J_iinc, pinc_go, i32_m1, am_go dc_23_61, J_goto, am_go dc_23_64, am_go dc_23_65, am_go dc_23_68, am_go dc_23_69, am_go dc_23_70, am_go dc_23_71, am_go dc_23_72, J_dup_i, J_dup_r, am_go dc_23_73, am_go dc_23_76, am_go dc_23_77, J_iadd, am_go dc_23_78, J_putfield_i, J_putfield_l, J_putfield_r, ini_23, pk_1_28_1, am_go dc_23_81, tg_5, tg_4, tp_5, pf_i pk_1_28_1 rfl, tH_0, tH_1, tH_2, tH_3, tH_4, tH_5, tH_6, tH_7, tw_1, tw_2, tw_3, tw_4, tw_5, tw_6, tw_7, zI_add, zI_mul, zI_lt, zI_le, zI_eq, zI_neg, zI_pos, zI_ne0, zI_gt0, zB_0, lg_cmp_ge, lg_cmp_le, lg_cmp_gt, lg_cmp_lt, lg_cmp_eq, ail_r, abl_r, all_r, ais_r, abs_r, als_r, aal_r, aal_q, aln_r, vrf_s, vrf_n, z32, hR, hr, mS_s, mS_o, mS_2, mI_1, mI_2, mI_s, mI_o, mI_I, mS_S, List.length_cons, List.length_nil, Nat.reduceAdd, Nat.reduceLT, Nat.reduceLeDiff, Nat.reduceEqDiff, ↓reduceIte, bind_s, if_true, if_false, not_true_eq_false, not_false_eq_true, Nat.zero_add]
        simp (disch := omega) [e1, e2]
  · by_cases e3 : R < 21
    · rw [if_neg (by omega)]
      have hl := c_shift_l (X := X) (h := h) (t := t) (d := d + 1) (z := z) (x := x) (w := w) e3 (R - w) T hR (by omega)
      rw [show w + (R - w) = R by omega] at hl
      have e5 : R = w := by omega
      simp (disch := first | omega | exact Nat.le_of_ble_eq_true rfl | exact tH_ci | (refine tF_lt ?_; omega)) only [own_23, am_go dc_23_0, J_aload_0, K_al, ld_0, am_go dc_23_1, J_iload_1, K_il, ld_1, am_go dc_23_2, cv_1_83_1 own_23, JR_v, JR_0, JR_ite, ci1_r, am_go dc_23_5, J_istore_2, st1_0, st1_1, st1_s, kl_i, kl_l, kl_r, kl_n, am_go dc_23_6, J_iload_2, ld_2, am_go dc_23_7, am_go dc_23_8, J_getfield, gf_r, fk_1_28_1, am_go dc_23_11, J_icmp_ge, am_go dc_23_14, am_go dc_23_15, fk_1_25_1, am_go dc_23_18, am_go dc_23_19, J_iaload, am_go dc_23_20, am_go dc_23_21, J_icmp_eq, am_go dc_23_24, am_go dc_23_25, am_go dc_23_28, J_bipush, c8_21, am_go dc_23_30, J_icmp_lt, am_go dc_23_33, J_ret_v ret_23, am_go dc_23_34, am_go dc_23_35, am_go dc_23_38, J_istore_3, J_iload_3, ld_3, am_go dc_23_40, am_go dc_23_41, J_icmp_le, am_go dc_23_44, am_go dc_23_45, am_go dc_23_48, am_go dc_23_49, am_go dc_23_50, am_go dc_23_53, am_go dc_23_54, J_iconst, c32_1, am_go dc_23_55, J_isub, am_go dc_23_56, am_go dc_23_57, J_iastore, am_go dc_23_58, J_iinc, pinc_go, i32_m1, am_go dc_23_61, J_goto, am_go dc_23_64, am_go dc_23_65, am_go dc_23_68, am_go dc_23_69, am_go dc_23_70, am_go dc_23_71, am_go dc_23_72, J_dup_i, J_dup_r, am_go dc_23_73, am_go dc_23_76, am_go dc_23_77, J_iadd, am_go dc_23_78, J_putfield_i, J_putfield_l, J_putfield_r, ini_23, pk_1_28_1, am_go dc_23_81, tg_5, tg_4, tp_5, pf_i pk_1_28_1 rfl, tH_0, tH_1, tH_2, tH_3, tH_4, tH_5, tH_6, tH_7, tw_1, tw_2, tw_3, tw_4, tw_5, tw_6, tw_7, zI_add, zI_mul, zI_lt, zI_le, zI_eq, zI_neg, zI_pos, zI_ne0, zI_gt0, zB_0, lg_cmp_ge, lg_cmp_le, lg_cmp_gt, lg_cmp_lt, lg_cmp_eq, ail_r, abl_r, all_r, ais_r, abs_r, als_r, aal_r, aal_q, aln_r, vrf_s, vrf_n, z32, hR, hr, mS_s, mS_o, mS_2, mI_1, mI_2, mI_s, mI_o, mI_I, mS_S, List.length_cons, List.length_nil, Nat.reduceAdd, Nat.reduceLT, Nat.reduceLeDiff, Nat.reduceEqDiff, ↓reduceIte, bind_s, if_true, if_false, not_true_eq_false, not_false_eq_true, Nat.zero_add]
      simp (disch := omega) only [if_neg, if_pos, if_false, if_true, hl]
    · rw [if_pos (by omega)]
      have e4 : R = 21 := by omega
      have e5 : w = 21 := by omega
      subst e4
      subst e5
      simp (disch := first | omega | exact Nat.le_of_ble_eq_true rfl | exact tH_ci | (refine tF_lt ?_; omega)) only [own_23, am_go dc_23_0, J_aload_0, K_al, ld_0, am_go dc_23_1, J_iload_1, K_il, ld_1, am_go dc_23_2, cv_1_83_1 own_23, JR_v, JR_0, JR_ite, ci1_r, am_go dc_23_5, J_istore_2, st1_0, st1_1, st1_s, kl_i, kl_l, kl_r, kl_n, am_go dc_23_6, J_iload_2, ld_2, am_go dc_23_7, am_go dc_23_8, J_getfield, gf_r, fk_1_28_1, am_go dc_23_11, J_icmp_ge, am_go dc_23_14, am_go dc_23_15, fk_1_25_1, am_go dc_23_18, am_go dc_23_19, J_iaload, am_go dc_23_20, am_go dc_23_21, J_icmp_eq, am_go dc_23_24, am_go dc_23_25, am_go dc_23_28, J_bipush, c8_21, am_go dc_23_30, J_icmp_lt, am_go dc_23_33, J_ret_v ret_23, am_go dc_23_34, am_go dc_23_35, am_go dc_23_38, J_istore_3, J_iload_3, ld_3, am_go dc_23_40, am_go dc_23_41, J_icmp_le, am_go dc_23_44, am_go dc_23_45, am_go dc_23_48, am_go dc_23_49, am_go dc_23_50, am_go dc_23_53, am_go dc_23_54, J_iconst, c32_1, am_go dc_23_55, J_isub, am_go dc_23_56, am_go dc_23_57, J_iastore, am_go dc_23_58, J_iinc, pinc_go, i32_m1, am_go dc_23_61, J_goto, am_go dc_23_64, am_go dc_23_65, am_go dc_23_68, am_go dc_23_69, am_go dc_23_70, am_go dc_23_71, am_go dc_23_72, J_dup_i, J_dup_r, am_go dc_23_73, am_go dc_23_76, am_go dc_23_77, J_iadd, am_go dc_23_78, J_putfield_i, J_putfield_l, J_putfield_r, ini_23, pk_1_28_1, am_go dc_23_81, tg_5, tg_4, tp_5, pf_i pk_1_28_1 rfl, tH_0, tH_1, tH_2, tH_3, tH_4, tH_5, tH_6, tH_7, tw_1, tw_2, tw_3, tw_4, tw_5, tw_6, tw_7, zI_add, zI_mul, zI_lt, zI_le, zI_eq, zI_neg, zI_pos, zI_ne0, zI_gt0, zB_0, lg_cmp_ge, lg_cmp_le, lg_cmp_gt, lg_cmp_lt, lg_cmp_eq, ail_r, abl_r, all_r, ais_r, abs_r, als_r, aal_r, aal_q, aln_r, vrf_s, vrf_n, z32, hR, hr, Nat.le_refl, mS_s, mS_o, mS_2, mI_1, mI_2, mI_s, mI_o, mI_I, mS_S, List.length_cons, List.length_nil, Nat.reduceAdd, Nat.reduceLT, Nat.reduceLeDiff, Nat.reduceEqDiff, ↓reduceIte, bind_s, if_true, if_false, not_true_eq_false, not_false_eq_true, Nat.zero_add]
/-! the common divisor -/
theorem c_common_l {σ : am_S} {x0 x2 : Int64} : ∀ (n : Nat) (a b : Int) (j : Nat) (v9 v10 : Option Value), j + n = 128 → 0 ≤ a → a < 4611686018427387904 → 0 ≤ b → b < n → b < 4611686018427387904 → am_I X (am_f X d) 26 9 [some (.long x0), none, some (.long x2), none, some (.long (jI a)), none, some (.long (jI b)), none, some (.int (zI j)), v9, v10] [] σ = some (.inl (some (.long (eu n (jI a) (jI b)))), σ) := by
  intro n
  induction n with
  | zero =>
    intro a b j v9 v10 hj h1 h2 h3 h4 h5
    omega
  | succ n ih =>
    intro a b j v9 v10 hj h1 h2 h3 h4 h5
    have q1 : (jI b = 0) = (b = 0) := jI_eq (b := 0) (by omega) (by omega) (by omega) (by omega)
    rw [am_go dc_26_9]
    simp (disch := first | omega | exact Nat.le_of_ble_eq_true rfl) only [own_26, am_go dc_26_0, J_lload_0, K_ll, ld_0, am_go dc_26_1, J_lstore, st2_0, st2_1, st2_s, kl_i, kl_l, kl_r, kl_n, am_go dc_26_3, J_lload_2, ld_2, am_go dc_26_4, am_go dc_26_6, J_iconst, c32_0, am_go dc_26_7, J_istore, st1_0, st1_1, st1_s, J_iload, K_il, ld_8, am_go dc_26_11, J_sipush, c16_128, am_go dc_26_14, J_icmp_ge, am_go dc_26_17, J_lload, ld_6, am_go dc_26_19, J_lconst, i64_0, am_go dc_26_20, J_lcmp, am_go dc_26_21, J_if_eq, am_go dc_26_24, ld_4, am_go dc_26_26, am_go dc_26_28, J_lrem, am_go dc_26_29, am_go dc_26_31, am_go dc_26_33, am_go dc_26_35, ld_9, am_go dc_26_37, am_go dc_26_39, J_iinc, pinc_go, c32_1, am_go dc_26_42, J_goto, am_go dc_26_45, am_go dc_26_47, J_ret_l ret_26, zI_add, zI_mul, zI_lt, zI_le, zI_eq, zI_neg, zI_pos, zI_ne0, zI_gt0, zB_0, lg_cmp_ge, lg_cmp_le, lg_cmp_gt, lg_cmp_lt, lg_cmp_eq, ail_r, abl_r, all_r, ais_r, abs_r, als_r, aal_r, aal_q, aln_r, vrf_s, vrf_n, z32, List.length_cons, List.length_nil, Nat.reduceAdd, Nat.reduceLT, Nat.reduceLeDiff, Nat.reduceEqDiff, ↓reduceIte, bind_s, if_true, if_false, not_true_eq_false, not_false_eq_true, Nat.zero_add]
    rw [if_neg (by omega)]
    unfold eu
    by_cases e : b = 0
    · subst e
      rw [if_pos (show jI 0 = 0 from rfl), if_pos (show jI 0 = 0 from rfl)]
    · have hb : 0 < b := by omega
      have h7 := Int.emod_nonneg a e
      have h8 := Int.emod_lt_of_pos a hb
      simp only [q1, e, if_false]
      rw [jI_rem h1 (by omega) hb (by omega)]
      exact ih b (a % b) (j + 1) _ _ (by omega) h3 h5 h7 (by omega) (by omega)
theorem c_common {σ : am_S} {a b : Int} (h1 : 0 ≤ a) (h2 : a < 4611686018427387904) (h3 : 0 ≤ b) (h4 : b < 128) : am_f X (d + 1) 26 [.long (jI a), .long (jI b)] σ = some (.inl (some (.long (eu 128 (jI a) (jI b)))), σ) := by
  rw [fU_26]
  simp (disch := first | omega | exact Nat.le_of_ble_eq_true rfl) only [own_26, am_go dc_26_0, J_lload_0, K_ll, ld_0, am_go dc_26_1, J_lstore, st2_0, st2_1, st2_s, kl_i, kl_l, kl_r, kl_n, am_go dc_26_3, J_lload_2, ld_2, am_go dc_26_4, am_go dc_26_6, J_iconst, c32_0, am_go dc_26_7, J_istore, st1_0, st1_1, st1_s, J_iload, K_il, ld_8, am_go dc_26_11, J_sipush, c16_128, am_go dc_26_14, J_icmp_ge, am_go dc_26_17, J_lload, ld_6, am_go dc_26_19, J_lconst, i64_0, am_go dc_26_20, J_lcmp, am_go dc_26_21, J_if_eq, am_go dc_26_24, ld_4, am_go dc_26_26, am_go dc_26_28, J_lrem, am_go dc_26_29, am_go dc_26_31, am_go dc_26_33, am_go dc_26_35, ld_9, am_go dc_26_37, am_go dc_26_39, J_iinc, pinc_go, c32_1, am_go dc_26_42, J_goto, am_go dc_26_45, am_go dc_26_47, J_ret_l ret_26, zI_add, zI_mul, zI_lt, zI_le, zI_eq, zI_neg, zI_pos, zI_ne0, zI_gt0, zB_0, lg_cmp_ge, lg_cmp_le, lg_cmp_gt, lg_cmp_lt, lg_cmp_eq, ail_r, abl_r, all_r, ais_r, abs_r, als_r, aal_r, aal_q, aln_r, vrf_s, vrf_n, z32, List.length_cons, List.length_nil, Nat.reduceAdd, Nat.reduceLT, Nat.reduceLeDiff, Nat.reduceEqDiff, ↓reduceIte, bind_s, if_true, if_false, not_true_eq_false, not_false_eq_true, Nat.zero_add]
  exact c_common_l 128 a b 0 _ _ (by omega) h1 h2 h3 (by omega) (by omega)
end TW
