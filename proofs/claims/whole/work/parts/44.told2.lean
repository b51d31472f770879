/-! Told, more that only looks -/
def fall (p : Nat → Bool) : Nat → Nat → Bool
  | _, 0 => true
  | i, k + 1 => p i && fall p (i + 1) k
theorem fall_iff {p : Nat → Bool} : ∀ k i, fall p i k = true ↔ ∀ j, i ≤ j → j < i + k → p j = true
  | 0, i => by
    simp only [fall, true_iff]
    intro j h1 h2
    omega
  | k + 1, i => by
    simp only [fall, Bool.and_eq_true]
    rw [fall_iff k (i + 1)]
    constructor
    · rintro ⟨h1, h2⟩ j h3 h4
      by_cases e : j = i
      · rw [e]
        exact h1
      · exact h2 j (by omega) (by omega)
    · intro h
      exact ⟨h i (by omega) (by omega), fun j h3 h4 => h j (by omega) (by omega)⟩
section TL2
variable {X : am_X} {C : Nat → Prop} {H : am_H} {t d : Nat} {T : mU × (Nat → Option Nat)} {S : Nat → Int32} {z : Nat × Nat} {dg : Nat → Nat}
def cAo (S : Nat → Int32) (dg : Nat → Nat) (b i : Nat) : Nat → Nat := dset dg b (if i = 0 ∧ S (18 * b) = zI 4 then dg b ||| 1 else 3)
theorem c_afterOpening {b i : Nat} (hS : tS C H t T S) (hd : dOk dg) (hb : b < wN (S 116)) (hi : i < 4) : am_f X (d + 1) 73 [.ref t, .int (zI (pk dg)), .int (zI b), .int (zI i)] (H, z) = some (.inl (some (.int (zI (pk (cAo S dg b i))))), (H, z)) := by
  have hT := hS.iT
  have hsz := hS.sz
  have hm5 := hS.m5
  have hb5 : b < 5 := by omega
  obtain ⟨a, bb, ha, hB⟩ := hS.box hb
  rw [fU_73]
  simp (disch := first | omega | exact Nat.le_of_ble_eq_true rfl | exact hT.ci) only [own_73, am_go dc_73_0, J_iload_3, K_il, ld_3, am_go dc_73_1, J_if_ne, am_go dc_73_4, J_aload_0, K_al, ld_0, am_go dc_73_5, J_getfield, gf_r, fk_1_11_1, am_go dc_73_8, J_iload_2, ld_2, am_go dc_73_9, J_aaload, am_go dc_73_10, am_go dc_73_13, J_if_eq, am_go dc_73_16, J_iconst, c32_1, am_go dc_73_17, J_goto, am_go dc_73_20, c32_3, am_go dc_73_21, J_istore, st1_0, st1_1, st1_s, kl_i, kl_l, kl_r, kl_n, am_go dc_73_23, J_iload_1, ld_1, am_go dc_73_24, J_iload, ld_4, am_go dc_73_26, c32_2, am_go dc_73_27, am_go dc_73_28, J_imul, am_go dc_73_29, J_ishl, am_go dc_73_30, J_ior, am_go dc_73_31, J_ret_i ret_73, tg_0, hT.c0, hT.c1, hT.c2, hT.c3, hT.c4, hT.c5, hT.c6, hT.c7, zI_add, zI_mul, zI_lt, zI_le, zI_eq, zI_neg, zI_pos, zI_ne0, zI_gt0, zB_0, lg_cmp_ge, lg_cmp_le, lg_cmp_gt, lg_cmp_lt, lg_cmp_eq, ail_r, abl_r, all_r, ais_r, abs_r, als_r, aal_r, aal_q, aln_r, vrf_s, vrf_n, z32, ha, hsz, qRow_k, Nat.add_zero, J_kin (t := 73) (by rw [own_73]; exact kk_1_60) hB, dput_1 hd hb5, dput_3 hd hb5, List.length_cons, List.length_nil, Nat.reduceAdd, Nat.reduceLT, Nat.reduceLeDiff, Nat.reduceEqDiff, ↓reduceIte, bind_s, if_true, if_false, not_true_eq_false, not_false_eq_true, Nat.zero_add]
  unfold cAo
  by_cases e1 : i = 0
  · by_cases e4 : S (18 * b) = zI 4
    · simp [e1, e4, zB]
    · simp [e1, e4, zB]
  · simp [e1]
def cAp (dg : Nat → Nat) (b : Nat) (g : Bool) : Nat → Nat := dset dg b (if g = true then dg b ||| 1 else dg b ||| 2)
theorem c_afterPeeping {b : Nat} {g : Bool} (hd : dOk dg) (hb : b < 5) : am_f X (d + 1) 74 [.ref t, .int (zI (pk dg)), .int (zI b), .int (zB g)] (H, z) = some (.inl (some (.int (zI (pk (cAp dg b g))))), (H, z)) := by
  rw [fU_74]
  simp (disch := first | omega | exact Nat.le_of_ble_eq_true rfl) only [own_74, am_go dc_74_0, J_iload_1, K_il, ld_1, am_go dc_74_1, J_iload_3, ld_3, am_go dc_74_2, J_if_eq, am_go dc_74_5, J_iconst, c32_1, am_go dc_74_6, J_goto, am_go dc_74_9, c32_2, am_go dc_74_10, am_go dc_74_11, J_iload_2, ld_2, am_go dc_74_12, J_imul, am_go dc_74_13, J_ishl, am_go dc_74_14, J_ior, am_go dc_74_15, J_ret_i ret_74, zI_add, zI_mul, zI_lt, zI_le, zI_eq, zI_neg, zI_pos, zI_ne0, zI_gt0, zB_0, lg_cmp_ge, lg_cmp_le, lg_cmp_gt, lg_cmp_lt, lg_cmp_eq, ail_r, abl_r, all_r, ais_r, abs_r, als_r, aal_r, aal_q, aln_r, vrf_s, vrf_n, z32, dput_1 hd hb, dput_2 hd hb, List.length_cons, List.length_nil, Nat.reduceAdd, Nat.reduceLT, Nat.reduceLeDiff, Nat.reduceEqDiff, ↓reduceIte, bind_s, if_true, if_false, not_true_eq_false, not_false_eq_true, Nat.zero_add]
  unfold cAp
  cases g <;> simp [zB]
theorem zB_eq0 : zB false = 0 := rfl
theorem c_numberAt {b : Nat} (hS : tS C H t T S) (hd : dOk dg) (hb : b < wN (S 116)) : am_f X (d + 2) 101 [.ref t, .int (zI (pk dg)), .int (zI b)] (H, z) = some (.inl (some (.int (zI (if cTo S dg b = true then 2 * b + 1 else 2 * b)))), (H, z)) := by
  have hT := hS.iT
  have hsz := hS.sz
  have hm5 := hS.m5
  have hto := fun d => c_isToldOf (X := X) (d := d) (z := z) hS hd hb
  rw [fU_101]
  simp (disch := first | omega | exact Nat.le_of_ble_eq_true rfl | exact hT.ci) only [own_101, am_go dc_101_0, J_aload_0, K_al, ld_0, am_go dc_101_1, J_iload_1, K_il, ld_1, am_go dc_101_2, J_iload_2, ld_2, am_go dc_101_3, cv_1_125_1 own_101, JR_v, JR_0, JR_ite, ci1_r, am_go dc_101_6, J_if_eq, am_go dc_101_9, J_iconst, c32_2, am_go dc_101_10, am_go dc_101_11, J_imul, am_go dc_101_12, c32_1, am_go dc_101_13, J_iadd, am_go dc_101_14, J_goto, am_go dc_101_17, am_go dc_101_18, am_go dc_101_19, am_go dc_101_20, J_ret_i ret_101, hT.c0, hT.c1, hT.c2, hT.c3, hT.c4, hT.c5, hT.c6, hT.c7, zI_add, zI_mul, zI_lt, zI_le, zI_eq, zI_neg, zI_pos, zI_ne0, zI_gt0, zB_0, lg_cmp_ge, lg_cmp_le, lg_cmp_gt, lg_cmp_lt, lg_cmp_eq, ail_r, abl_r, all_r, ais_r, abs_r, als_r, aal_r, aal_q, aln_r, vrf_s, vrf_n, z32, hto, List.length_cons, List.length_nil, Nat.reduceAdd, Nat.reduceLT, Nat.reduceLeDiff, Nat.reduceEqDiff, ↓reduceIte, bind_s, if_true, if_false, not_true_eq_false, not_false_eq_true, Nat.zero_add]
  cases cTo S dg b <;> simp [zB]
theorem c_stepRank {b i : Nat} (hT : isT H t T) (hb : b < 5) (hi : i < 4) : am_f X (d + 1) 91 [.ref t, .int (zI b), .int (zI i)] (H, z) = some (.inl (some (.int (T.1.1 6 (4 * b + i)))), (H, z)) := by
  rw [fU_91]
  simp (disch := first | omega | exact Nat.le_of_ble_eq_true rfl | exact hT.ci) only [own_91, am_go dc_91_0, J_aload_0, K_al, ld_0, am_go dc_91_1, J_getfield, gf_r, fk_1_31_1, am_go dc_91_4, J_iload_1, K_il, ld_1, am_go dc_91_5, J_iconst, c32_4, am_go dc_91_6, J_imul, am_go dc_91_7, J_iload_2, ld_2, am_go dc_91_8, J_iadd, am_go dc_91_9, J_iaload, am_go dc_91_10, J_ret_i ret_91, tg_6, hT.c0, hT.c1, hT.c2, hT.c3, hT.c4, hT.c5, hT.c6, hT.c7, zI_add, zI_mul, zI_lt, zI_le, zI_eq, zI_neg, zI_pos, zI_ne0, zI_gt0, zB_0, lg_cmp_ge, lg_cmp_le, lg_cmp_gt, lg_cmp_lt, lg_cmp_eq, ail_r, abl_r, all_r, ais_r, abs_r, als_r, aal_r, aal_q, aln_r, vrf_s, vrf_n, z32, Nat.mul_comm b 4, List.length_cons, List.length_nil, Nat.reduceAdd, Nat.reduceLT, Nat.reduceLeDiff, Nat.reduceEqDiff, ↓reduceIte, bind_s, if_true, if_false, not_true_eq_false, not_false_eq_true, Nat.zero_add]
theorem sh_key : ∀ r, r < 32 → ∀ m, m < 6 → zI r <<< (zI (2 * m) &&& 31) = zI (r * 4 ^ m) := by decide +kernel
theorem c_index {r : Nat} (hS : tS C H t T S) (hr : r < 32) : am_f X (d + 1) 122 [.ref t, .int (zI (pk dg)), .int (zI r)] (H, z) = some (.inl (some (.int (zI (r * 4 ^ wN (S 116) + pk dg)))), (H, z)) := by
  have hT := hS.iT
  have hsz := hS.sz
  have hm5 := hS.m5
  have hk := sh_key r hr (wN (S 116)) (by omega)
  rw [fU_122]
  simp (disch := first | omega | exact Nat.le_of_ble_eq_true rfl | exact hT.ci) only [own_122, am_go dc_122_0, J_iload_2, K_il, ld_2, am_go dc_122_1, J_iconst, c32_2, am_go dc_122_2, J_aload_0, K_al, ld_0, am_go dc_122_3, J_getfield, gf_r, fk_1_44_1, am_go dc_122_6, J_imul, am_go dc_122_7, J_ishl, am_go dc_122_8, J_iload_1, ld_1, am_go dc_122_9, J_iadd, am_go dc_122_10, J_ret_i ret_122, tg_1, hT.c0, hT.c1, hT.c2, hT.c3, hT.c4, hT.c5, hT.c6, hT.c7, zI_add, zI_mul, zI_lt, zI_le, zI_eq, zI_neg, zI_pos, zI_ne0, zI_gt0, zB_0, lg_cmp_ge, lg_cmp_le, lg_cmp_gt, lg_cmp_lt, lg_cmp_eq, ail_r, abl_r, all_r, ais_r, abs_r, als_r, aal_r, aal_q, aln_r, vrf_s, vrf_n, z32, hsz, hk, List.length_cons, List.length_nil, Nat.reduceAdd, Nat.reduceLT, Nat.reduceLeDiff, Nat.reduceEqDiff, ↓reduceIte, bind_s, if_true, if_false, not_true_eq_false, not_false_eq_true, Nat.zero_add]
theorem c_codes (hS : tS C H t T S) : am_f X (d + 1) 110 [.ref t] (H, z) = some (.inl (some (.int (zI (4 ^ wN (S 116))))), (H, z)) := by
  have hT := hS.iT
  have hsz := hS.sz
  have hm5 := hS.m5
  have hk := sh_key 1 (by omega) (wN (S 116)) (by omega)
  rw [Nat.one_mul] at hk
  rw [fU_110]
  simp (disch := first | omega | exact Nat.le_of_ble_eq_true rfl | exact hT.ci) only [own_110, am_go dc_110_0, J_iconst, c32_1, am_go dc_110_1, c32_2, am_go dc_110_2, J_aload_0, K_al, ld_0, am_go dc_110_3, J_getfield, gf_r, fk_1_44_1, am_go dc_110_6, J_imul, am_go dc_110_7, J_ishl, am_go dc_110_8, J_ret_i ret_110, tg_1, hT.c0, hT.c1, hT.c2, hT.c3, hT.c4, hT.c5, hT.c6, hT.c7, zI_add, zI_mul, zI_lt, zI_le, zI_eq, zI_neg, zI_pos, zI_ne0, zI_gt0, zB_0, lg_cmp_ge, lg_cmp_le, lg_cmp_gt, lg_cmp_lt, lg_cmp_eq, ail_r, abl_r, all_r, ais_r, abs_r, als_r, aal_r, aal_q, aln_r, vrf_s, vrf_n, z32, hsz, hk, List.length_cons, List.length_nil, Nat.reduceAdd, Nat.reduceLT, Nat.reduceLeDiff, Nat.reduceEqDiff, ↓reduceIte, bind_s, if_true, if_false, not_true_eq_false, not_false_eq_true, Nat.zero_add]
def c_can (S : Nat → Int32) (dg : Nat → Nat) (b : Nat) : Bool := decide (dg b = 0) || (cOp S dg b || decide (S (18 * b) = zI 1))
theorem c_canBe_l (hS : tS C H t T S) (hd : dOk dg) (hT : isT H t T) (hsz : T.1.2.2.1 1 = zI (wN (S 116))) (hm5 : wN (S 116) ≤ 5) : ∀ (k i : Nat) (v3 v4 : Option Value), i + k = wN (S 116) → am_I X (am_f X (d + 1)) 112 2 [some (.ref t), some (.int (zI (pk dg))), some (.int (zI i)), v3, v4] [] (H, z) = some (.inl (some (.int (zB (fall (c_can S dg) i k)))), (H, z)) := by
  intro k
  induction k with
  | zero =>
    intro i v3 v4 hi
    rw [am_go dc_112_2]
    simp (disch := first | omega | exact Nat.le_of_ble_eq_true rfl | exact hT.ci) only [own_112, am_go dc_112_0, J_iconst, c32_0, am_go dc_112_1, J_istore_2, st1_0, st1_1, st1_s, kl_i, kl_l, kl_r, kl_n, J_iload_2, K_il, ld_2, am_go dc_112_3, J_aload_0, K_al, ld_0, am_go dc_112_4, J_getfield, gf_r, fk_1_44_1, am_go dc_112_7, J_icmp_ge, am_go dc_112_10, J_iload_1, ld_1, am_go dc_112_11, am_go dc_112_12, cs_1_91 own_112, JR_v, JR_0, JR_ite, am_go dc_112_15, J_istore_3, am_go dc_112_16, J_iload_3, ld_3, am_go dc_112_17, J_if_eq, am_go dc_112_20, am_go dc_112_21, am_go dc_112_22, am_go dc_112_23, cv_1_95_1 own_112, ci1_r, am_go dc_112_26, am_go dc_112_29, c32_1, am_go dc_112_30, J_goto, am_go dc_112_33, am_go dc_112_34, J_istore, am_go dc_112_36, J_iload, ld_4, am_go dc_112_38, J_if_ne, am_go dc_112_41, am_go dc_112_42, fk_1_11_1, am_go dc_112_45, am_go dc_112_46, J_aaload, am_go dc_112_47, am_go dc_112_50, am_go dc_112_53, am_go dc_112_54, J_ret_z0 ret_112, J_ret_z1 ret_112, J_ret_zB ret_112, am_go dc_112_55, J_iinc, pinc_go, am_go dc_112_58, am_go dc_112_61, am_go dc_112_62, tg_1, tg_0, hT.c0, hT.c1, hT.c2, hT.c3, hT.c4, hT.c5, hT.c6, hT.c7, zI_add, zI_mul, zI_lt, zI_le, zI_eq, zI_neg, zI_pos, zI_ne0, zI_gt0, zB_0, lg_cmp_ge, lg_cmp_le, lg_cmp_gt, lg_cmp_lt, lg_cmp_eq, ail_r, abl_r, all_r, ais_r, abs_r, als_r, aal_r, aal_q, aln_r, vrf_s, vrf_n, z32, hsz, List.length_cons, List.length_nil, Nat.reduceAdd, Nat.reduceLT, Nat.reduceLeDiff, Nat.reduceEqDiff, ↓reduceIte, bind_s, if_true, if_false, not_true_eq_false, not_false_eq_true, Nat.zero_add]
    rw [if_pos (by omega)]
    rfl
  | succ k ih =>
    intro i v3 v4 hi
    have ih' := fun v3 v4 => ih (i + 1) v3 v4 (by omega)
    have hi5 : i < 5 := by omega
    obtain ⟨a, bb, ha, hB⟩ := hS.box (b := i) (by omega)
    have h4 := hd i hi5
    have hop := fun d => c_isOpen (X := X) (d := d) (z := z) (b := i) hS hd (by omega)
    have hdg := fun d => c_digit (X := X) (H := H) (d := d) (z := z) (b := i) hd hi5
    rw [am_go dc_112_2]
    simp (disch := first | omega | exact Nat.le_of_ble_eq_true rfl | exact hT.ci) only [own_112, am_go dc_112_0, J_iconst, c32_0, am_go dc_112_1, J_istore_2, st1_0, st1_1, st1_s, kl_i, kl_l, kl_r, kl_n, J_iload_2, K_il, ld_2, am_go dc_112_3, J_aload_0, K_al, ld_0, am_go dc_112_4, J_getfield, gf_r, fk_1_44_1, am_go dc_112_7, J_icmp_ge, am_go dc_112_10, J_iload_1, ld_1, am_go dc_112_11, am_go dc_112_12, cs_1_91 own_112, JR_v, JR_0, JR_ite, am_go dc_112_15, J_istore_3, am_go dc_112_16, J_iload_3, ld_3, am_go dc_112_17, J_if_eq, am_go dc_112_20, am_go dc_112_21, am_go dc_112_22, am_go dc_112_23, cv_1_95_1 own_112, ci1_r, am_go dc_112_26, am_go dc_112_29, c32_1, am_go dc_112_30, J_goto, am_go dc_112_33, am_go dc_112_34, J_istore, am_go dc_112_36, J_iload, ld_4, am_go dc_112_38, J_if_ne, am_go dc_112_41, am_go dc_112_42, fk_1_11_1, am_go dc_112_45, am_go dc_112_46, J_aaload, am_go dc_112_47, am_go dc_112_50, am_go dc_112_53, am_go dc_112_54, J_ret_z0 ret_112, J_ret_z1 ret_112, J_ret_zB ret_112, am_go dc_112_55, J_iinc, pinc_go, am_go dc_112_58, am_go dc_112_61, am_go dc_112_62, tg_1, tg_0, hT.c0, hT.c1, hT.c2, hT.c3, hT.c4, hT.c5, hT.c6, hT.c7, zI_add, zI_mul, zI_lt, zI_le, zI_eq, zI_neg, zI_pos, zI_ne0, zI_gt0, zB_0, lg_cmp_ge, lg_cmp_le, lg_cmp_gt, lg_cmp_lt, lg_cmp_eq, ail_r, abl_r, all_r, ais_r, abs_r, als_r, aal_r, aal_q, aln_r, vrf_s, vrf_n, z32, hsz, ha, qRow_k, Nat.add_zero, hop, hdg, vx_1_99 own_112 hB, List.length_cons, List.length_nil, Nat.reduceAdd, Nat.reduceLT, Nat.reduceLeDiff, Nat.reduceEqDiff, ↓reduceIte, bind_s, if_true, if_false, not_true_eq_false, not_false_eq_true, Nat.zero_add]
    rw [if_neg (by omega)]
    simp only [ih', fall, c_can]
    by_cases e0 : dg i = 0
    · simp [e0]
    · cases cOp S dg i <;> by_cases e1 : S (18 * i) = zI 1 <;> simp [e0, e1, zB]
def cCan (S : Nat → Int32) (dg : Nat → Nat) : Bool := fall (c_can S dg) 0 (wN (S 116))
theorem c_canBe (hS : tS C H t T S) (hd : dOk dg) : am_f X (d + 2) 112 [.ref t, .int (zI (pk dg))] (H, z) = some (.inl (some (.int (zB (cCan S dg)))), (H, z)) := by
  have hT := hS.iT
  have hsz := hS.sz
  have hm5 := hS.m5
  rw [fU_112]
  simp (disch := first | omega | exact Nat.le_of_ble_eq_true rfl | exact hT.ci) only [own_112, am_go dc_112_0, J_iconst, c32_0, am_go dc_112_1, J_istore_2, st1_0, st1_1, st1_s, kl_i, kl_l, kl_r, kl_n, J_iload_2, K_il, ld_2, am_go dc_112_3, J_aload_0, K_al, ld_0, am_go dc_112_4, J_getfield, gf_r, fk_1_44_1, am_go dc_112_7, J_icmp_ge, am_go dc_112_10, J_iload_1, ld_1, am_go dc_112_11, am_go dc_112_12, cs_1_91 own_112, JR_v, JR_0, JR_ite, am_go dc_112_15, J_istore_3, am_go dc_112_16, J_iload_3, ld_3, am_go dc_112_17, J_if_eq, am_go dc_112_20, am_go dc_112_21, am_go dc_112_22, am_go dc_112_23, cv_1_95_1 own_112, ci1_r, am_go dc_112_26, am_go dc_112_29, c32_1, am_go dc_112_30, J_goto, am_go dc_112_33, am_go dc_112_34, J_istore, am_go dc_112_36, J_iload, ld_4, am_go dc_112_38, J_if_ne, am_go dc_112_41, am_go dc_112_42, fk_1_11_1, am_go dc_112_45, am_go dc_112_46, J_aaload, am_go dc_112_47, am_go dc_112_50, am_go dc_112_53, am_go dc_112_54, J_ret_z0 ret_112, J_ret_z1 ret_112, J_ret_zB ret_112, am_go dc_112_55, J_iinc, pinc_go, am_go dc_112_58, am_go dc_112_61, am_go dc_112_62, tg_1, tg_0, hT.c0, hT.c1, hT.c2, hT.c3, hT.c4, hT.c5, hT.c6, hT.c7, zI_add, zI_mul, zI_lt, zI_le, zI_eq, zI_neg, zI_pos, zI_ne0, zI_gt0, zB_0, lg_cmp_ge, lg_cmp_le, lg_cmp_gt, lg_cmp_lt, lg_cmp_eq, ail_r, abl_r, all_r, ais_r, abs_r, als_r, aal_r, aal_q, aln_r, vrf_s, vrf_n, z32, hsz, List.length_cons, List.length_nil, Nat.reduceAdd, Nat.reduceLT, Nat.reduceLeDiff, Nat.reduceEqDiff, ↓reduceIte, bind_s, if_true, if_false, not_true_eq_false, not_false_eq_true, Nat.zero_add]
  exact c_canBe_l hS hd hT hsz hm5 _ 0 _ _ (Nat.zero_add _)
def c_np (S : Nat → Int32) (dg : Nat → Nat) (b : Nat) : Bool := decide (dg b = 0) || cOp S dg b
theorem c_hasPeeped_l (hS : tS C H t T S) (hd : dOk dg) (hT : isT H t T) (hsz : T.1.2.2.1 1 = zI (wN (S 116))) (hm5 : wN (S 116) ≤ 5) : ∀ (k i : Nat), i + k = wN (S 116) → am_I X (am_f X (d + 1)) 148 2 [some (.ref t), some (.int (zI (pk dg))), some (.int (zI i))] [] (H, z) = some (.inl (some (.int (zB (!fall (c_np S dg) i k)))), (H, z)) := by
  intro k
  induction k with
  | zero =>
    intro i hi
    rw [am_go dc_148_2]
    simp (disch := first | omega | exact Nat.le_of_ble_eq_true rfl | exact hT.ci) only [own_148, am_go dc_148_0, J_iconst, c32_0, am_go dc_148_1, J_istore_2, st1_0, st1_1, st1_s, kl_i, kl_l, kl_r, kl_n, J_iload_2, K_il, ld_2, am_go dc_148_3, J_aload_0, K_al, ld_0, am_go dc_148_4, J_getfield, gf_r, fk_1_44_1, am_go dc_148_7, J_icmp_ge, am_go dc_148_10, J_iload_1, ld_1, am_go dc_148_11, am_go dc_148_12, cs_1_91 own_148, JR_v, JR_0, JR_ite, am_go dc_148_15, J_if_eq, am_go dc_148_18, am_go dc_148_19, am_go dc_148_20, am_go dc_148_21, cv_1_95_1 own_148, ci1_r, am_go dc_148_24, J_if_ne, am_go dc_148_27, c32_1, am_go dc_148_28, J_ret_z0 ret_148, J_ret_z1 ret_148, J_ret_zB ret_148, am_go dc_148_29, J_iinc, pinc_go, am_go dc_148_32, J_goto, am_go dc_148_35, am_go dc_148_36, tg_1, hT.c0, hT.c1, hT.c2, hT.c3, hT.c4, hT.c5, hT.c6, hT.c7, zI_add, zI_mul, zI_lt, zI_le, zI_eq, zI_neg, zI_pos, zI_ne0, zI_gt0, zB_0, lg_cmp_ge, lg_cmp_le, lg_cmp_gt, lg_cmp_lt, lg_cmp_eq, ail_r, abl_r, all_r, ais_r, abs_r, als_r, aal_r, aal_q, aln_r, vrf_s, vrf_n, z32, hsz, List.length_cons, List.length_nil, Nat.reduceAdd, Nat.reduceLT, Nat.reduceLeDiff, Nat.reduceEqDiff, ↓reduceIte, bind_s, if_true, if_false, not_true_eq_false, not_false_eq_true, Nat.zero_add]
    rw [if_pos (by omega)]
    rfl
  | succ k ih =>
    intro i hi
    have ih' := ih (i + 1) (by omega)
    have hi5 : i < 5 := by omega
    have h4 := hd i hi5
    have hop := fun d => c_isOpen (X := X) (d := d) (z := z) (b := i) hS hd (by omega)
    have hdg := fun d => c_digit (X := X) (H := H) (d := d) (z := z) (b := i) hd hi5
    rw [am_go dc_148_2]
    simp (disch := first | omega | exact Nat.le_of_ble_eq_true rfl | exact hT.ci) only [own_148, am_go dc_148_0, J_iconst, c32_0, am_go dc_148_1, J_istore_2, st1_0, st1_1, st1_s, kl_i, kl_l, kl_r, kl_n, J_iload_2, K_il, ld_2, am_go dc_148_3, J_aload_0, K_al, ld_0, am_go dc_148_4, J_getfield, gf_r, fk_1_44_1, am_go dc_148_7, J_icmp_ge, am_go dc_148_10, J_iload_1, ld_1, am_go dc_148_11, am_go dc_148_12, cs_1_91 own_148, JR_v, JR_0, JR_ite, am_go dc_148_15, J_if_eq, am_go dc_148_18, am_go dc_148_19, am_go dc_148_20, am_go dc_148_21, cv_1_95_1 own_148, ci1_r, am_go dc_148_24, J_if_ne, am_go dc_148_27, c32_1, am_go dc_148_28, J_ret_z0 ret_148, J_ret_z1 ret_148, J_ret_zB ret_148, am_go dc_148_29, J_iinc, pinc_go, am_go dc_148_32, J_goto, am_go dc_148_35, am_go dc_148_36, tg_1, hT.c0, hT.c1, hT.c2, hT.c3, hT.c4, hT.c5, hT.c6, hT.c7, zI_add, zI_mul, zI_lt, zI_le, zI_eq, zI_neg, zI_pos, zI_ne0, zI_gt0, zB_0, lg_cmp_ge, lg_cmp_le, lg_cmp_gt, lg_cmp_lt, lg_cmp_eq, ail_r, abl_r, all_r, ais_r, abs_r, als_r, aal_r, aal_q, aln_r, vrf_s, vrf_n, z32, hsz, hop, hdg, List.length_cons, List.length_nil, Nat.reduceAdd, Nat.reduceLT, Nat.reduceLeDiff, Nat.reduceEqDiff, ↓reduceIte, bind_s, if_true, if_false, not_true_eq_false, not_false_eq_true, Nat.zero_add]
    rw [if_neg (by omega)]
    simp only [ih', fall, c_np]
    by_cases e0 : dg i = 0
    · simp [e0]
    · cases cOp S dg i <;> simp [e0, zB]
def cPp (S : Nat → Int32) (dg : Nat → Nat) : Bool := !fall (c_np S dg) 0 (wN (S 116))
theorem c_hasPeeped (hS : tS C H t T S) (hd : dOk dg) : am_f X (d + 2) 148 [.ref t, .int (zI (pk dg))] (H, z) = some (.inl (some (.int (zB (cPp S dg)))), (H, z)) := by
  have hT := hS.iT
  have hsz := hS.sz
  have hm5 := hS.m5
  rw [fU_148]
  simp (disch := first | omega | exact Nat.le_of_ble_eq_true rfl | exact hT.ci) only [own_148, am_go dc_148_0, J_iconst, c32_0, am_go dc_148_1, J_istore_2, st1_0, st1_1, st1_s, kl_i, kl_l, kl_r, kl_n, J_iload_2, K_il, ld_2, am_go dc_148_3, J_aload_0, K_al, ld_0, am_go dc_148_4, J_getfield, gf_r, fk_1_44_1, am_go dc_148_7, J_icmp_ge, am_go dc_148_10, J_iload_1, ld_1, am_go dc_148_11, am_go dc_148_12, cs_1_91 own_148, JR_v, JR_0, JR_ite, am_go dc_148_15, J_if_eq, am_go dc_148_18, am_go dc_148_19, am_go dc_148_20, am_go dc_148_21, cv_1_95_1 own_148, ci1_r, am_go dc_148_24, J_if_ne, am_go dc_148_27, c32_1, am_go dc_148_28, J_ret_z0 ret_148, J_ret_z1 ret_148, J_ret_zB ret_148, am_go dc_148_29, J_iinc, pinc_go, am_go dc_148_32, J_goto, am_go dc_148_35, am_go dc_148_36, tg_1, hT.c0, hT.c1, hT.c2, hT.c3, hT.c4, hT.c5, hT.c6, hT.c7, zI_add, zI_mul, zI_lt, zI_le, zI_eq, zI_neg, zI_pos, zI_ne0, zI_gt0, zB_0, lg_cmp_ge, lg_cmp_le, lg_cmp_gt, lg_cmp_lt, lg_cmp_eq, ail_r, abl_r, all_r, ais_r, abs_r, als_r, aal_r, aal_q, aln_r, vrf_s, vrf_n, z32, hsz, List.length_cons, List.length_nil, Nat.reduceAdd, Nat.reduceLT, Nat.reduceLeDiff, Nat.reduceEqDiff, ↓reduceIte, bind_s, if_true, if_false, not_true_eq_false, not_false_eq_true, Nat.zero_add]
  exact c_hasPeeped_l hS hd hT hsz hm5 _ 0 (Nat.zero_add _)
def c_sr (T : mU × (Nat → Option Nat)) (b i : Nat) (x : Int32) : Int32 := x ||| (zI 1 <<< (T.1.1 6 (4 * b + i) &&& 31))
def c_sb (T : mU × (Nat → Option Nat)) (S : Nat → Int32) (dg : Nat → Nat) (b : Nat) (x : Int32) : Int32 := if cOp S dg b = true then fo (c_sr T b) 0 (wN (S (18 * b + 3))) x else x
theorem c_seen_i (hS : tS C H t T S) (hd : dOk dg) (hT : isT H t T) (hsz : T.1.2.2.1 1 = zI (wN (S 116))) (hm5 : wN (S 116) ≤ 5) {b : Nat} (hb : b < wN (S 116)) : ∀ (k i : Nat) (x : Int32), i + k = wN (S (18 * b + 3)) → am_I X (am_f X (d + 1)) 118 24 [some (.ref t), some (.int (zI (pk dg))), some (.int x), some (.int (zI b)), some (.int (zI i))] [] (H, z) = am_I X (am_f X (d + 1)) 118 56 [some (.ref t), some (.int (zI (pk dg))), some (.int (fo (c_sr T b) i k x)), some (.int (zI b)), some (.int (zI (wN (S (18 * b + 3)))))] [] (H, z) := by
  intro k
  induction k with
  | zero =>
    intro i x hi
    have hb5 : b < 5 := by omega
    have hn := hS.2.1.n hb
    obtain ⟨a, bb, ha, hB⟩ := hS.box hb
    rw [am_go dc_118_24]
    simp (disch := first | omega | exact Nat.le_of_ble_eq_true rfl | exact hT.ci) only [own_118, am_go dc_118_0, J_iconst, c32_0, am_go dc_118_1, J_istore_2, st1_0, st1_1, st1_s, kl_i, kl_l, kl_r, kl_n, am_go dc_118_2, am_go dc_118_3, J_istore_3, am_go dc_118_4, J_iload_3, K_il, ld_3, am_go dc_118_5, J_aload_0, K_al, ld_0, am_go dc_118_6, J_getfield, gf_r, fk_1_44_1, am_go dc_118_9, J_icmp_ge, am_go dc_118_12, am_go dc_118_13, J_iload_1, ld_1, am_go dc_118_14, am_go dc_118_15, cv_1_95_1 own_118, JR_v, JR_0, JR_ite, ci1_r, am_go dc_118_18, J_if_eq, am_go dc_118_21, am_go dc_118_22, J_istore, J_iload, ld_4, am_go dc_118_26, am_go dc_118_27, fk_1_11_1, am_go dc_118_30, am_go dc_118_31, J_aaload, am_go dc_118_32, am_go dc_118_35, am_go dc_118_38, J_iload_2, ld_2, am_go dc_118_39, c32_1, am_go dc_118_40, am_go dc_118_41, am_go dc_118_42, am_go dc_118_44, cv_1_103_1 own_118, am_go dc_118_47, J_ishl, am_go dc_118_48, J_ior, am_go dc_118_49, am_go dc_118_50, J_iinc, pinc_go, am_go dc_118_53, J_goto, am_go dc_118_59, am_go dc_118_62, am_go dc_118_63, J_if_ne, am_go dc_118_66, am_go dc_118_67, am_go dc_118_70, am_go dc_118_71, J_ret_i ret_118, tg_1, tg_0, hT.c0, hT.c1, hT.c2, hT.c3, hT.c4, hT.c5, hT.c6, hT.c7, zI_add, zI_mul, zI_lt, zI_le, zI_eq, zI_neg, zI_pos, zI_ne0, zI_gt0, zB_0, lg_cmp_ge, lg_cmp_le, lg_cmp_gt, lg_cmp_lt, lg_cmp_eq, ail_r, abl_r, all_r, ais_r, abs_r, als_r, aal_r, aal_q, aln_r, vrf_s, vrf_n, z32, hsz, ha, qRow_k, vx_1_74 own_118 hB, List.length_cons, List.length_nil, Nat.reduceAdd, Nat.reduceLT, Nat.reduceLeDiff, Nat.reduceEqDiff, ↓reduceIte, bind_s, if_true, if_false, not_true_eq_false, not_false_eq_true, Nat.zero_add]
    rw [if_pos (by omega)]
    have : i = wN (S (18 * b + 3)) := by omega
    rw [this]
    rfl
  | succ k ih =>
    intro i x hi
    have hb5 : b < 5 := by omega
    have hn := hS.2.1.n hb
    have hi4 : i < 4 := by omega
    obtain ⟨a, bb, ha, hB⟩ := hS.box hb
    have ih' := fun x => ih (i + 1) x (by omega)
    have hsr := fun d => c_stepRank (X := X) (d := d) (z := z) (b := b) (i := i) hT hb5 hi4
    rw [am_go dc_118_24]
    simp (disch := first | omega | exact Nat.le_of_ble_eq_true rfl | exact hT.ci) only [own_118, am_go dc_118_0, J_iconst, c32_0, am_go dc_118_1, J_istore_2, st1_0, st1_1, st1_s, kl_i, kl_l, kl_r, kl_n, am_go dc_118_2, am_go dc_118_3, J_istore_3, am_go dc_118_4, J_iload_3, K_il, ld_3, am_go dc_118_5, J_aload_0, K_al, ld_0, am_go dc_118_6, J_getfield, gf_r, fk_1_44_1, am_go dc_118_9, J_icmp_ge, am_go dc_118_12, am_go dc_118_13, J_iload_1, ld_1, am_go dc_118_14, am_go dc_118_15, cv_1_95_1 own_118, JR_v, JR_0, JR_ite, ci1_r, am_go dc_118_18, J_if_eq, am_go dc_118_21, am_go dc_118_22, J_istore, J_iload, ld_4, am_go dc_118_26, am_go dc_118_27, fk_1_11_1, am_go dc_118_30, am_go dc_118_31, J_aaload, am_go dc_118_32, am_go dc_118_35, am_go dc_118_38, J_iload_2, ld_2, am_go dc_118_39, c32_1, am_go dc_118_40, am_go dc_118_41, am_go dc_118_42, am_go dc_118_44, cv_1_103_1 own_118, am_go dc_118_47, J_ishl, am_go dc_118_48, J_ior, am_go dc_118_49, am_go dc_118_50, J_iinc, pinc_go, am_go dc_118_53, J_goto, am_go dc_118_59, am_go dc_118_62, am_go dc_118_63, J_if_ne, am_go dc_118_66, am_go dc_118_67, am_go dc_118_70, am_go dc_118_71, J_ret_i ret_118, tg_1, tg_0, hT.c0, hT.c1, hT.c2, hT.c3, hT.c4, hT.c5, hT.c6, hT.c7, zI_add, zI_mul, zI_lt, zI_le, zI_eq, zI_neg, zI_pos, zI_ne0, zI_gt0, zB_0, lg_cmp_ge, lg_cmp_le, lg_cmp_gt, lg_cmp_lt, lg_cmp_eq, ail_r, abl_r, all_r, ais_r, abs_r, als_r, aal_r, aal_q, aln_r, vrf_s, vrf_n, z32, hsz, ha, qRow_k, vx_1_74 own_118 hB, hsr, List.length_cons, List.length_nil, Nat.reduceAdd, Nat.reduceLT, Nat.reduceLeDiff, Nat.reduceEqDiff, ↓reduceIte, bind_s, if_true, if_false, not_true_eq_false, not_false_eq_true, Nat.zero_add]
    rw [if_neg (by omega)]
    simp only [ih', fo, c_sr]
theorem c_seen_l (hS : tS C H t T S) (hd : dOk dg) (hT : isT H t T) (hsz : T.1.2.2.1 1 = zI (wN (S 116))) (hm5 : wN (S 116) ≤ 5) : ∀ (k i : Nat) (x : Int32) (v : Option Value), i + k = wN (S 116) → am_I X (am_f X (d + 1)) 118 4 [some (.ref t), some (.int (zI (pk dg))), some (.int x), some (.int (zI i)), v] [] (H, z) = some (.inl (some (.int (if fo (c_sb T S dg) i k x = 0 then zI 1 else fo (c_sb T S dg) i k x))), (H, z)) := by
  intro k
  induction k with
  | zero =>
    intro i x v hi
    rw [am_go dc_118_4]
    simp (disch := first | omega | exact Nat.le_of_ble_eq_true rfl | exact hT.ci) only [own_118, am_go dc_118_0, J_iconst, c32_0, am_go dc_118_1, J_istore_2, st1_0, st1_1, st1_s, kl_i, kl_l, kl_r, kl_n, am_go dc_118_2, am_go dc_118_3, J_istore_3, J_iload_3, K_il, ld_3, am_go dc_118_5, J_aload_0, K_al, ld_0, am_go dc_118_6, J_getfield, gf_r, fk_1_44_1, am_go dc_118_9, J_icmp_ge, am_go dc_118_12, am_go dc_118_13, J_iload_1, ld_1, am_go dc_118_14, am_go dc_118_15, cv_1_95_1 own_118, JR_v, JR_0, JR_ite, ci1_r, am_go dc_118_18, J_if_eq, am_go dc_118_21, am_go dc_118_22, J_istore, J_iload, ld_4, am_go dc_118_26, am_go dc_118_27, fk_1_11_1, am_go dc_118_30, am_go dc_118_31, J_aaload, am_go dc_118_32, am_go dc_118_35, am_go dc_118_38, J_iload_2, ld_2, am_go dc_118_39, c32_1, am_go dc_118_40, am_go dc_118_41, am_go dc_118_42, am_go dc_118_44, cv_1_103_1 own_118, am_go dc_118_47, J_ishl, am_go dc_118_48, J_ior, am_go dc_118_49, am_go dc_118_50, J_iinc, pinc_go, am_go dc_118_53, J_goto, am_go dc_118_56, am_go dc_118_59, am_go dc_118_62, am_go dc_118_63, J_if_ne, am_go dc_118_66, am_go dc_118_67, am_go dc_118_70, am_go dc_118_71, J_ret_i ret_118, tg_1, tg_0, hT.c0, hT.c1, hT.c2, hT.c3, hT.c4, hT.c5, hT.c6, hT.c7, zI_add, zI_mul, zI_lt, zI_le, zI_eq, zI_neg, zI_pos, zI_ne0, zI_gt0, zB_0, lg_cmp_ge, lg_cmp_le, lg_cmp_gt, lg_cmp_lt, lg_cmp_eq, ail_r, abl_r, all_r, ais_r, abs_r, als_r, aal_r, aal_q, aln_r, vrf_s, vrf_n, z32, hsz, List.length_cons, List.length_nil, Nat.reduceAdd, Nat.reduceLT, Nat.reduceLeDiff, Nat.reduceEqDiff, ↓reduceIte, bind_s, if_true, if_false, not_true_eq_false, not_false_eq_true, Nat.zero_add]
    rw [if_pos (by omega)]
    simp only [fo]
    by_cases e : x = 0 <;> simp [e]
  | succ k ih =>
    intro i x v hi
    have ih' := fun x v => ih (i + 1) x v (by omega)
    have hi5 : i < 5 := by omega
    have hop := fun d => c_isOpen (X := X) (d := d) (z := z) (b := i) hS hd (by omega)
    have hin := fun x => c_seen_i (X := X) (d := d) (z := z) (b := i) hS hd hT hsz hm5 (by omega) (wN (S (18 * i + 3))) 0 x (Nat.zero_add _)
    rw [am_go dc_118_4]
    simp (disch := first | omega | exact Nat.le_of_ble_eq_true rfl | exact hT.ci) only [own_118, am_go dc_118_0, J_iconst, c32_0, am_go dc_118_1, J_istore_2, st1_0, st1_1, st1_s, kl_i, kl_l, kl_r, kl_n, am_go dc_118_2, am_go dc_118_3, J_istore_3, J_iload_3, K_il, ld_3, am_go dc_118_5, J_aload_0, K_al, ld_0, am_go dc_118_6, J_getfield, gf_r, fk_1_44_1, am_go dc_118_9, J_icmp_ge, am_go dc_118_12, am_go dc_118_13, J_iload_1, ld_1, am_go dc_118_14, am_go dc_118_15, cv_1_95_1 own_118, JR_v, JR_0, JR_ite, ci1_r, am_go dc_118_18, J_if_eq, am_go dc_118_21, am_go dc_118_22, J_istore, J_iload, ld_4, am_go dc_118_26, am_go dc_118_27, fk_1_11_1, am_go dc_118_30, am_go dc_118_31, J_aaload, am_go dc_118_32, am_go dc_118_35, am_go dc_118_38, J_iload_2, ld_2, am_go dc_118_39, c32_1, am_go dc_118_40, am_go dc_118_41, am_go dc_118_42, am_go dc_118_44, cv_1_103_1 own_118, am_go dc_118_47, J_ishl, am_go dc_118_48, J_ior, am_go dc_118_49, am_go dc_118_50, J_iinc, pinc_go, am_go dc_118_53, J_goto, am_go dc_118_56, am_go dc_118_59, am_go dc_118_62, am_go dc_118_63, J_if_ne, am_go dc_118_66, am_go dc_118_67, am_go dc_118_70, am_go dc_118_71, J_ret_i ret_118, tg_1, tg_0, hT.c0, hT.c1, hT.c2, hT.c3, hT.c4, hT.c5, hT.c6, hT.c7, zI_add, zI_mul, zI_lt, zI_le, zI_eq, zI_neg, zI_pos, zI_ne0, zI_gt0, zB_0, lg_cmp_ge, lg_cmp_le, lg_cmp_gt, lg_cmp_lt, lg_cmp_eq, ail_r, abl_r, all_r, ais_r, abs_r, als_r, aal_r, aal_q, aln_r, vrf_s, vrf_n, z32, hsz, hop, List.length_cons, List.length_nil, Nat.reduceAdd, Nat.reduceLT, Nat.reduceLeDiff, Nat.reduceEqDiff, ↓reduceIte, bind_s, if_true, if_false, not_true_eq_false, not_false_eq_true, Nat.zero_add]
    rw [if_neg (by omega)]
    simp only [ih', fo, c_sb]
    by_cases hc : cOp S dg i = true
    case neg =>
      have hc' : cOp S dg i = false := by simpa using hc
      simp [hc']
    case pos =>
      simp only [hc, Bool.true_eq_false, if_false, if_true, hin]
      rw [am_go dc_118_56]
      simp (disch := first | omega | exact Nat.le_of_ble_eq_true rfl | exact hT.ci) only [own_118, am_go dc_118_0, J_iconst, c32_0, am_go dc_118_1, J_istore_2, st1_0, st1_1, st1_s, kl_i, kl_l, kl_r, kl_n, am_go dc_118_2, am_go dc_118_3, J_istore_3, J_iload_3, K_il, ld_3, am_go dc_118_5, J_aload_0, K_al, ld_0, am_go dc_118_6, J_getfield, gf_r, fk_1_44_1, am_go dc_118_9, J_icmp_ge, am_go dc_118_12, am_go dc_118_13, J_iload_1, ld_1, am_go dc_118_14, am_go dc_118_15, cv_1_95_1 own_118, JR_v, JR_0, JR_ite, ci1_r, am_go dc_118_18, J_if_eq, am_go dc_118_21, am_go dc_118_22, J_istore, J_iload, ld_4, am_go dc_118_26, am_go dc_118_27, fk_1_11_1, am_go dc_118_30, am_go dc_118_31, J_aaload, am_go dc_118_32, am_go dc_118_35, am_go dc_118_38, J_iload_2, ld_2, am_go dc_118_39, c32_1, am_go dc_118_40, am_go dc_118_41, am_go dc_118_42, am_go dc_118_44, cv_1_103_1 own_118, am_go dc_118_47, J_ishl, am_go dc_118_48, J_ior, am_go dc_118_49, am_go dc_118_50, J_iinc, pinc_go, am_go dc_118_53, J_goto, am_go dc_118_56, am_go dc_118_59, am_go dc_118_62, am_go dc_118_63, J_if_ne, am_go dc_118_66, am_go dc_118_67, am_go dc_118_70, am_go dc_118_71, J_ret_i ret_118, tg_1, tg_0, hT.c0, hT.c1, hT.c2, hT.c3, hT.c4, hT.c5, hT.c6, hT.c7, zI_add, zI_mul, zI_lt, zI_le, zI_eq, zI_neg, zI_pos, zI_ne0, zI_gt0, zB_0, lg_cmp_ge, lg_cmp_le, lg_cmp_gt, lg_cmp_lt, lg_cmp_eq, ail_r, abl_r, all_r, ais_r, abs_r, als_r, aal_r, aal_q, aln_r, vrf_s, vrf_n, z32, hsz, hop, List.length_cons, List.length_nil, Nat.reduceAdd, Nat.reduceLT, Nat.reduceLeDiff, Nat.reduceEqDiff, ↓reduceIte, bind_s, if_true, if_false, not_true_eq_false, not_false_eq_true, Nat.zero_add]
      rw [ih']
def cSeen (T : mU × (Nat → Option Nat)) (S : Nat → Int32) (dg : Nat → Nat) : Int32 := if fo (c_sb T S dg) 0 (wN (S 116)) (zI 0) = 0 then zI 1 else fo (c_sb T S dg) 0 (wN (S 116)) (zI 0)
theorem c_seenRanks (hS : tS C H t T S) (hd : dOk dg) : am_f X (d + 2) 118 [.ref t, .int (zI (pk dg))] (H, z) = some (.inl (some (.int (cSeen T S dg))), (H, z)) := by
  have hT := hS.iT
  have hsz := hS.sz
  have hm5 := hS.m5
  rw [fU_118]
  simp (disch := first | omega | exact Nat.le_of_ble_eq_true rfl | exact hT.ci) only [own_118, am_go dc_118_0, J_iconst, c32_0, am_go dc_118_1, J_istore_2, st1_0, st1_1, st1_s, kl_i, kl_l, kl_r, kl_n, am_go dc_118_2, am_go dc_118_3, J_istore_3, J_iload_3, K_il, ld_3, am_go dc_118_5, J_aload_0, K_al, ld_0, am_go dc_118_6, J_getfield, gf_r, fk_1_44_1, am_go dc_118_9, J_icmp_ge, am_go dc_118_12, am_go dc_118_13, J_iload_1, ld_1, am_go dc_118_14, am_go dc_118_15, cv_1_95_1 own_118, JR_v, JR_0, JR_ite, ci1_r, am_go dc_118_18, J_if_eq, am_go dc_118_21, am_go dc_118_22, J_istore, am_go dc_118_24, J_iload, ld_4, am_go dc_118_26, am_go dc_118_27, fk_1_11_1, am_go dc_118_30, am_go dc_118_31, J_aaload, am_go dc_118_32, am_go dc_118_35, am_go dc_118_38, J_iload_2, ld_2, am_go dc_118_39, c32_1, am_go dc_118_40, am_go dc_118_41, am_go dc_118_42, am_go dc_118_44, cv_1_103_1 own_118, am_go dc_118_47, J_ishl, am_go dc_118_48, J_ior, am_go dc_118_49, am_go dc_118_50, J_iinc, pinc_go, am_go dc_118_53, J_goto, am_go dc_118_56, am_go dc_118_59, am_go dc_118_62, am_go dc_118_63, J_if_ne, am_go dc_118_66, am_go dc_118_67, am_go dc_118_70, am_go dc_118_71, J_ret_i ret_118, tg_1, tg_0, hT.c0, hT.c1, hT.c2, hT.c3, hT.c4, hT.c5, hT.c6, hT.c7, zI_add, zI_mul, zI_lt, zI_le, zI_eq, zI_neg, zI_pos, zI_ne0, zI_gt0, zB_0, lg_cmp_ge, lg_cmp_le, lg_cmp_gt, lg_cmp_lt, lg_cmp_eq, ail_r, abl_r, all_r, ais_r, abs_r, als_r, aal_r, aal_q, aln_r, vrf_s, vrf_n, z32, hsz, List.length_cons, List.length_nil, Nat.reduceAdd, Nat.reduceLT, Nat.reduceLeDiff, Nat.reduceEqDiff, ↓reduceIte, bind_s, if_true, if_false, not_true_eq_false, not_false_eq_true, Nat.zero_add]
  exact c_seen_l hS hd hT hsz hm5 _ 0 _ _ (Nat.zero_add _)
def c_as (S : Nat → Int32) (b : Nat) (v : Int32) : Int32 := v + zI (wN (S (18 * b + 3)))
theorem c_allSteps_l (hS : tS C H t T S) (hT : isT H t T) (hsz : T.1.2.2.1 1 = zI (wN (S 116))) (hm5 : wN (S 116) ≤ 5) : ∀ (k i : Nat) (v : Int32), i + k = wN (S 116) → am_I X (am_f X (d + 1)) 161 4 [some (.ref t), some (.int v), some (.int (zI i))] [] (H, z) = some (.inl (some (.int (fo (c_as S) i k v))), (H, z)) := by
  intro k
  induction k with
  | zero =>
    intro i v hi
    rw [am_go dc_161_4]
    simp (disch := first | omega | exact Nat.le_of_ble_eq_true rfl | exact hT.ci) only [own_161, am_go dc_161_0, J_iconst, c32_0, am_go dc_161_1, J_istore_1, st1_0, st1_1, st1_s, kl_i, kl_l, kl_r, kl_n, am_go dc_161_2, am_go dc_161_3, J_istore_2, J_iload_2, K_il, ld_2, am_go dc_161_5, J_aload_0, K_al, ld_0, am_go dc_161_6, J_getfield, gf_r, fk_1_44_1, am_go dc_161_9, J_icmp_ge, am_go dc_161_12, J_iload_1, ld_1, am_go dc_161_13, am_go dc_161_14, fk_1_11_1, am_go dc_161_17, am_go dc_161_18, J_aaload, am_go dc_161_19, JR_v, JR_0, JR_ite, ci1_r, am_go dc_161_22, J_iadd, am_go dc_161_23, am_go dc_161_24, J_iinc, pinc_go, c32_1, am_go dc_161_27, J_goto, am_go dc_161_30, am_go dc_161_31, J_ret_i ret_161, tg_1, tg_0, hT.c0, hT.c1, hT.c2, hT.c3, hT.c4, hT.c5, hT.c6, hT.c7, zI_add, zI_mul, zI_lt, zI_le, zI_eq, zI_neg, zI_pos, zI_ne0, zI_gt0, zB_0, lg_cmp_ge, lg_cmp_le, lg_cmp_gt, lg_cmp_lt, lg_cmp_eq, ail_r, abl_r, all_r, ais_r, abs_r, als_r, aal_r, aal_q, aln_r, vrf_s, vrf_n, z32, hsz, List.length_cons, List.length_nil, Nat.reduceAdd, Nat.reduceLT, Nat.reduceLeDiff, Nat.reduceEqDiff, ↓reduceIte, bind_s, if_true, if_false, not_true_eq_false, not_false_eq_true, Nat.zero_add]
    rw [if_pos (by omega)]
    rfl
  | succ k ih =>
    intro i v hi
    have ih' := fun v => ih (i + 1) v (by omega)
    obtain ⟨a, bb, ha, hB⟩ := hS.box (b := i) (by omega)
    rw [am_go dc_161_4]
    simp (disch := first | omega | exact Nat.le_of_ble_eq_true rfl | exact hT.ci) only [own_161, am_go dc_161_0, J_iconst, c32_0, am_go dc_161_1, J_istore_1, st1_0, st1_1, st1_s, kl_i, kl_l, kl_r, kl_n, am_go dc_161_2, am_go dc_161_3, J_istore_2, J_iload_2, K_il, ld_2, am_go dc_161_5, J_aload_0, K_al, ld_0, am_go dc_161_6, J_getfield, gf_r, fk_1_44_1, am_go dc_161_9, J_icmp_ge, am_go dc_161_12, J_iload_1, ld_1, am_go dc_161_13, am_go dc_161_14, fk_1_11_1, am_go dc_161_17, am_go dc_161_18, J_aaload, am_go dc_161_19, JR_v, JR_0, JR_ite, ci1_r, am_go dc_161_22, J_iadd, am_go dc_161_23, am_go dc_161_24, J_iinc, pinc_go, c32_1, am_go dc_161_27, J_goto, am_go dc_161_30, am_go dc_161_31, J_ret_i ret_161, tg_1, tg_0, hT.c0, hT.c1, hT.c2, hT.c3, hT.c4, hT.c5, hT.c6, hT.c7, zI_add, zI_mul, zI_lt, zI_le, zI_eq, zI_neg, zI_pos, zI_ne0, zI_gt0, zB_0, lg_cmp_ge, lg_cmp_le, lg_cmp_gt, lg_cmp_lt, lg_cmp_eq, ail_r, abl_r, all_r, ais_r, abs_r, als_r, aal_r, aal_q, aln_r, vrf_s, vrf_n, z32, hsz, ha, qRow_k, vx_1_74 own_161 hB, List.length_cons, List.length_nil, Nat.reduceAdd, Nat.reduceLT, Nat.reduceLeDiff, Nat.reduceEqDiff, ↓reduceIte, bind_s, if_true, if_false, not_true_eq_false, not_false_eq_true, Nat.zero_add]
    rw [if_neg (by omega)]
    simp only [ih', fo, c_as]
theorem c_allSteps (hS : tS C H t T S) : am_f X (d + 2) 161 [.ref t] (H, z) = some (.inl (some (.int (fo (c_as S) 0 (wN (S 116)) (zI 0)))), (H, z)) := by
  have hT := hS.iT
  have hsz := hS.sz
  have hm5 := hS.m5
  rw [fU_161]
  simp (disch := first | omega | exact Nat.le_of_ble_eq_true rfl | exact hT.ci) only [own_161, am_go dc_161_0, J_iconst, c32_0, am_go dc_161_1, J_istore_1, st1_0, st1_1, st1_s, kl_i, kl_l, kl_r, kl_n, am_go dc_161_2, am_go dc_161_3, J_istore_2, J_iload_2, K_il, ld_2, am_go dc_161_5, J_aload_0, K_al, ld_0, am_go dc_161_6, J_getfield, gf_r, fk_1_44_1, am_go dc_161_9, J_icmp_ge, am_go dc_161_12, J_iload_1, ld_1, am_go dc_161_13, am_go dc_161_14, fk_1_11_1, am_go dc_161_17, am_go dc_161_18, J_aaload, am_go dc_161_19, JR_v, JR_0, JR_ite, ci1_r, am_go dc_161_22, J_iadd, am_go dc_161_23, am_go dc_161_24, J_iinc, pinc_go, c32_1, am_go dc_161_27, J_goto, am_go dc_161_30, am_go dc_161_31, J_ret_i ret_161, tg_1, tg_0, hT.c0, hT.c1, hT.c2, hT.c3, hT.c4, hT.c5, hT.c6, hT.c7, zI_add, zI_mul, zI_lt, zI_le, zI_eq, zI_neg, zI_pos, zI_ne0, zI_gt0, zB_0, lg_cmp_ge, lg_cmp_le, lg_cmp_gt, lg_cmp_lt, lg_cmp_eq, ail_r, abl_r, all_r, ais_r, abs_r, als_r, aal_r, aal_q, aln_r, vrf_s, vrf_n, z32, hsz, List.length_cons, List.length_nil, Nat.reduceAdd, Nat.reduceLT, Nat.reduceLeDiff, Nat.reduceEqDiff, ↓reduceIte, bind_s, if_true, if_false, not_true_eq_false, not_false_eq_true, Nat.zero_add]
  exact c_allSteps_l hS hT hsz hm5 _ 0 _ (Nat.zero_add _)
end TL2
