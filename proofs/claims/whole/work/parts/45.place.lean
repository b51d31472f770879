/-! Place -/
def qPl (S : Nat → Int32) : Prop := ∀ b, b < 5 → qN S (90 + b) 6 ∧ (wN (S 116) ≤ b → S (90 + b) = zI 0) ∧ (b < wN (S 116) → (S (90 + b) = zI 1 ∨ S (90 + b) = zI 2 → S (18 * b) = zI 1) ∧ (3 ≤ wN (S (90 + b)) → wN (S (90 + b)) - 3 < wN (S (18 * b + 3))))
/-- the object's place is that of S -/
def pS (P : mU) (S : Nat → Int32) : Prop := (∀ b, b < 5 → P.1 0 b = qD5 (S (90 + b)) ∧ (3 ≤ wN (S (90 + b)) → P.1 1 b = zI (wN (S (90 + b)) - 3))) ∧ P.2.2.1 4 = S 115 ∧ qN S 115 10 ∧ ∀ j, j < wN (S 115) → P.1 2 j = S (95 + 2 * j) ∧ P.1 3 j = S (95 + 2 * j + 1)
def qDg (S : Nat → Int32) (b : Nat) : Nat := if wN (S 116) ≤ b then 0 else if wN (S (90 + b)) ≤ 2 then wN (S (90 + b)) else if wN (S (90 + b)) = 3 ∧ S (18 * b) = zI 4 then 1 else 3
def dgs (S : Nat → Int32) (i : Nat) : Nat → Nat := fun b => if b < i then qDg S b else 0
theorem qDg_lt {S : Nat → Int32} {b : Nat} : qDg S b < 4 := by
  unfold qDg
  split
  · omega
  · split
    · omega
    · split <;> omega
theorem dgs_ok {S : Nat → Int32} {i : Nat} : dOk (dgs S i) := by
  intro b _
  unfold dgs
  split
  · exact qDg_lt
  · omega
theorem qDg_ok {S : Nat → Int32} : dOk (qDg S) := fun b _ => qDg_lt
theorem dgs_s {S : Nat → Int32} {i x : Nat} (hx : qDg S i = x) : dset (dgs S i) i x = dgs S (i + 1) := by
  funext b
  unfold dset dgs
  by_cases e : b = i
  · subst e
    rw [if_pos rfl, if_pos (by omega), hx]
  · rw [if_neg e]
    by_cases e2 : b < i
    · rw [if_pos e2, if_pos (by omega)]
    · rw [if_neg e2, if_neg (by omega)]
theorem dgs_0 {S : Nat → Int32} {i : Nat} (hx : qDg S i = 0) : dgs S i = dgs S (i + 1) := by
  rw [← dgs_s hx]
  funext b
  unfold dset dgs
  by_cases e : b = i
  · subst e
    rw [if_pos rfl, if_neg (by omega)]
  · rw [if_neg e]
theorem dgs_i {S : Nat → Int32} {i : Nat} : dgs S i i = 0 := if_neg (by omega)
theorem dgs_m {S : Nat → Int32} (h5 : wN (S 116) ≤ 5) : dgs S (wN (S 116)) = qDg S := by
  funext b
  unfold dgs
  by_cases e : b < wN (S 116)
  · rw [if_pos e]
  · rw [if_neg e]
    unfold qDg
    rw [if_pos (by omega)]
theorem dgs_z {S : Nat → Int32} : pk (dgs S 0) = 0 := by
  unfold pk dgs
  simp
theorem qD5_lo {w : Nat} (h : w ≤ 4) : qD5 (zI w) = zI w := by
  unfold qD5
  rw [if_pos]
  rw [zI_le (by omega) (by omega)]
  exact h
theorem qD5_hi {w : Nat} (h : 4 ≤ w) (h2 : w < 1000) : qD5 (zI w) = zI 4 := by
  unfold qD5
  by_cases e : w = 4
  · rw [e]
    simp
  · rw [if_neg]
    rw [zI_le (by omega) (by omega)]
    omega
theorem qD5_op {w : Nat} (h2 : w < 1000) : (qD5 (zI w) < zI 3) = (w < 3) := by
  by_cases e : w ≤ 4
  · rw [qD5_lo e, zI_lt (by omega) (by omega)]
  · rw [qD5_hi (by omega) h2, zI_lt (by omega) (by omega)]
    simp
    omega
section PL
variable {X : am_X} {C : Nat → Prop} {h H : am_H} {t p d : Nat} {T : mU × (Nat → Option Nat)} {P : mU} {S : Nat → Int32} {z : Nat × Nat} {dg : Nat → Nat}
theorem pS.how {b : Nat} (hP : pS P S) (hb : b < 5) : P.1 0 b = qD5 (S (90 + b)) := (hP.1 b hb).1
theorem p_isOpen {b w : Nat} (hO : isP H p P) (hP : pS P S) (hb : b < 5) (hw : S (90 + b) = zI w) (hw6 : w ≤ 6) : am_f X (d + 1) 72 [.ref p, .int (zI b)] (H, z) = some (.inl (some (.int (zB (decide (3 ≤ w))))), (H, z)) := by
  have hh := hP.how hb
  rw [hw] at hh
  rw [fU_72]
  simp (disch := first | omega | exact Nat.le_of_ble_eq_true rfl | exact hO.ci) only [own_72, am_go dc_72_0, J_aload_0, K_al, ld_0, am_go dc_72_1, J_getfield, gf_r, fk_2_9_2, am_go dc_72_4, J_iload_1, K_il, ld_1, am_go dc_72_5, J_iaload, am_go dc_72_6, J_iconst, c32_3, am_go dc_72_7, J_icmp_lt, am_go dc_72_10, c32_1, am_go dc_72_11, J_goto, am_go dc_72_14, c32_0, am_go dc_72_15, J_ret_z0 ret_72, J_ret_z1 ret_72, J_ret_zB ret_72, pg_0, hO.c0, hO.c1, hO.c2, hO.c3, hO.c4, zI_add, zI_mul, zI_lt, zI_le, zI_eq, zI_neg, zI_pos, zI_ne0, zI_gt0, zB_0, lg_cmp_ge, lg_cmp_le, lg_cmp_gt, lg_cmp_lt, lg_cmp_eq, ail_r, abl_r, all_r, ais_r, abs_r, als_r, aal_r, aal_q, aln_r, vrf_s, vrf_n, z32, hh, qD5_op (show w < 1000 by omega), List.length_cons, List.length_nil, Nat.reduceAdd, Nat.reduceLT, Nat.reduceLeDiff, Nat.reduceEqDiff, ↓reduceIte, bind_s, if_true, if_false, not_true_eq_false, not_false_eq_true, Nat.zero_add]
  by_cases e : w < 3
  · have e2 : ¬ 3 ≤ w := by omega
    simp [e, e2, zB]
  · have e2 : 3 ≤ w := by omega
    simp [e, e2, zB]
theorem p_packed_l (hS : tS C H t T S) (hO : isP H p P) (hP : pS P S) (hL : qPl S) (hT : isT H t T) (hsz : T.1.2.2.1 1 = zI (wN (S 116))) (hm5 : wN (S 116) ≤ 5) : ∀ (k i : Nat), i + k = wN (S 116) → am_I X (am_f X (d + 1)) 71 4 [some (.ref p), some (.ref t), some (.int (zI (pk (dgs S i)))), some (.int (zI i))] [] (H, z) = some (.inl (some (.int (zI (pk (dgs S (wN (S 116))))))), (H, z)) := by
  intro k
  induction k with
  | zero =>
    intro i hi
    rw [am_go dc_71_4]
    simp (disch := first | omega | exact Nat.le_of_ble_eq_true rfl | exact hO.ci | exact hT.ci) only [own_71, am_go dc_71_0, J_iconst, c32_0, am_go dc_71_1, J_istore_2, st1_0, st1_1, st1_s, kl_i, kl_l, kl_r, kl_n, am_go dc_71_2, am_go dc_71_3, J_istore_3, J_iload_3, K_il, ld_3, am_go dc_71_5, J_aload_1, K_al, ld_1, am_go dc_71_6, J_getfield, gf_r, fk_2_40_1, am_go dc_71_9, J_icmp_ge, am_go dc_71_12, J_aload_0, ld_0, am_go dc_71_13, am_go dc_71_14, cv_2_45_2 own_71, JR_v, JR_0, JR_ite, ci1_r, am_go dc_71_17, J_if_eq, am_go dc_71_20, am_go dc_71_21, J_iload_2, ld_2, am_go dc_71_22, am_go dc_71_23, am_go dc_71_24, fk_2_15_2, am_go dc_71_27, am_go dc_71_28, J_iaload, am_go dc_71_29, cv_2_49_1 own_71, am_go dc_71_32, am_go dc_71_33, J_goto, am_go dc_71_36, am_go dc_71_37, fk_2_9_2, am_go dc_71_40, am_go dc_71_41, am_go dc_71_42, am_go dc_71_45, am_go dc_71_46, am_go dc_71_47, am_go dc_71_48, am_go dc_71_49, am_go dc_71_52, am_go dc_71_53, am_go dc_71_54, c32_1, am_go dc_71_55, J_icmp_ne, am_go dc_71_58, am_go dc_71_59, am_go dc_71_62, am_go dc_71_63, cv_2_53_1 own_71, am_go dc_71_66, am_go dc_71_67, J_iinc, pinc_go, am_go dc_71_70, am_go dc_71_73, am_go dc_71_74, J_ret_i ret_71, tg_1, pg_1, pg_0, hO.c0, hO.c1, hO.c2, hO.c3, hO.c4, hT.c0, hT.c1, hT.c2, hT.c3, hT.c4, hT.c5, hT.c6, hT.c7, zI_add, zI_mul, zI_lt, zI_le, zI_eq, zI_neg, zI_pos, zI_ne0, zI_gt0, zB_0, lg_cmp_ge, lg_cmp_le, lg_cmp_gt, lg_cmp_lt, lg_cmp_eq, ail_r, abl_r, all_r, ais_r, abs_r, als_r, aal_r, aal_q, aln_r, vrf_s, vrf_n, z32, hsz, List.length_cons, List.length_nil, Nat.reduceAdd, Nat.reduceLT, Nat.reduceLeDiff, Nat.reduceEqDiff, ↓reduceIte, bind_s, if_true, if_false, not_true_eq_false, not_false_eq_true, Nat.zero_add]
    rw [if_pos (by omega)]
    have : i = wN (S 116) := by omega
    rw [this]
  | succ k ih =>
    intro i hi
    have ih' := ih (i + 1) (by omega)
    have hi5 : i < 5 := by omega
    have him : i < wN (S 116) := by omega
    obtain ⟨hwz, hw6⟩ := (hL i hi5).1.z (by omega)
    obtain ⟨-, hL2⟩ := (hL i hi5).2.2 him
    have hqd : qDg S i = if wN (S (90 + i)) ≤ 2 then wN (S (90 + i)) else if wN (S (90 + i)) = 3 ∧ S (18 * i) = zI 4 then 1 else 3 := by
      unfold qDg
      rw [if_neg (by omega)]
    have hn4 := (hS.2.1.n him).2.2
    have hh := hP.how hi5
    have hsh0 := (hP.1 i hi5).2
    have hio := fun d => p_isOpen (X := X) (d := d) (z := z) (b := i) hO hP hi5 hwz hw6
    generalize wN (S (90 + i)) = w at *
    rw [hwz] at hh
    rw [am_go dc_71_4]
    by_cases e3 : 3 ≤ w
    · have hsh := hsh0 e3
      have hw4 : w - 3 < 4 := by
        have := hL2 e3
        omega
      have hao := fun d => c_afterOpening (X := X) (d := d) (z := z) (b := i) (i := w - 3) (dg := dgs S i) hS dgs_ok him hw4
      simp (disch := first | omega | exact Nat.le_of_ble_eq_true rfl | exact hO.ci | exact hT.ci) only [own_71, am_go dc_71_0, J_iconst, c32_0, am_go dc_71_1, J_istore_2, st1_0, st1_1, st1_s, kl_i, kl_l, kl_r, kl_n, am_go dc_71_2, am_go dc_71_3, J_istore_3, J_iload_3, K_il, ld_3, am_go dc_71_5, J_aload_1, K_al, ld_1, am_go dc_71_6, J_getfield, gf_r, fk_2_40_1, am_go dc_71_9, J_icmp_ge, am_go dc_71_12, J_aload_0, ld_0, am_go dc_71_13, am_go dc_71_14, cv_2_45_2 own_71, JR_v, JR_0, JR_ite, ci1_r, am_go dc_71_17, J_if_eq, am_go dc_71_20, am_go dc_71_21, J_iload_2, ld_2, am_go dc_71_22, am_go dc_71_23, am_go dc_71_24, fk_2_15_2, am_go dc_71_27, am_go dc_71_28, J_iaload, am_go dc_71_29, cv_2_49_1 own_71, am_go dc_71_32, am_go dc_71_33, J_goto, am_go dc_71_36, am_go dc_71_37, fk_2_9_2, am_go dc_71_40, am_go dc_71_41, am_go dc_71_42, am_go dc_71_45, am_go dc_71_46, am_go dc_71_47, am_go dc_71_48, am_go dc_71_49, am_go dc_71_52, am_go dc_71_53, am_go dc_71_54, c32_1, am_go dc_71_55, J_icmp_ne, am_go dc_71_58, am_go dc_71_59, am_go dc_71_62, am_go dc_71_63, cv_2_53_1 own_71, am_go dc_71_66, am_go dc_71_67, J_iinc, pinc_go, am_go dc_71_70, am_go dc_71_73, am_go dc_71_74, J_ret_i ret_71, tg_1, pg_1, pg_0, hO.c0, hO.c1, hO.c2, hO.c3, hO.c4, hT.c0, hT.c1, hT.c2, hT.c3, hT.c4, hT.c5, hT.c6, hT.c7, zI_add, zI_mul, zI_lt, zI_le, zI_eq, zI_neg, zI_pos, zI_ne0, zI_gt0, zB_0, lg_cmp_ge, lg_cmp_le, lg_cmp_gt, lg_cmp_lt, lg_cmp_eq, ail_r, abl_r, all_r, ais_r, abs_r, als_r, aal_r, aal_q, aln_r, vrf_s, vrf_n, z32, hsz, hio, hh, hsh, hao, decide_true, decide_false, zB_t, zB_f, e3, List.length_cons, List.length_nil, Nat.reduceAdd, Nat.reduceLT, Nat.reduceLeDiff, Nat.reduceEqDiff, ↓reduceIte, bind_s, if_true, if_false, not_true_eq_false, not_false_eq_true, Nat.zero_add]
      rw [if_neg (by omega)]
      unfold cAo
      rw [dgs_i, Nat.zero_or]
      rw [dgs_s]
      · exact ih'
      · rw [hqd, if_neg (by omega)]
        by_cases e : w = 3
        · simp [e]
        · have : ¬ w - 3 = 0 := by omega
          simp [e, this]
    · have hlo : qD5 (zI w) = zI w := qD5_lo (by omega)
      rw [hlo] at hh
      have hap1 := fun d => c_afterPeeping (X := X) (H := H) (t := t) (d := d) (z := z) (b := i) (dg := dgs S i) (g := true) dgs_ok hi5
      have hap2 := fun d => c_afterPeeping (X := X) (H := H) (t := t) (d := d) (z := z) (b := i) (dg := dgs S i) (g := false) dgs_ok hi5
      rw [zB_t] at hap1
      rw [zB_f] at hap2
      rw [if_pos (by omega)] at hqd
      rcases (by omega : w = 0 ∨ w = 1 ∨ w = 2) with rfl | rfl | rfl
      · simp (disch := first | omega | exact Nat.le_of_ble_eq_true rfl | exact hO.ci | exact hT.ci) only [own_71, am_go dc_71_0, J_iconst, c32_0, am_go dc_71_1, J_istore_2, st1_0, st1_1, st1_s, kl_i, kl_l, kl_r, kl_n, am_go dc_71_2, am_go dc_71_3, J_istore_3, J_iload_3, K_il, ld_3, am_go dc_71_5, J_aload_1, K_al, ld_1, am_go dc_71_6, J_getfield, gf_r, fk_2_40_1, am_go dc_71_9, J_icmp_ge, am_go dc_71_12, J_aload_0, ld_0, am_go dc_71_13, am_go dc_71_14, cv_2_45_2 own_71, JR_v, JR_0, JR_ite, ci1_r, am_go dc_71_17, J_if_eq, am_go dc_71_20, am_go dc_71_21, J_iload_2, ld_2, am_go dc_71_22, am_go dc_71_23, am_go dc_71_24, fk_2_15_2, am_go dc_71_27, am_go dc_71_28, J_iaload, am_go dc_71_29, cv_2_49_1 own_71, am_go dc_71_32, am_go dc_71_33, J_goto, am_go dc_71_36, am_go dc_71_37, fk_2_9_2, am_go dc_71_40, am_go dc_71_41, am_go dc_71_42, am_go dc_71_45, am_go dc_71_46, am_go dc_71_47, am_go dc_71_48, am_go dc_71_49, am_go dc_71_52, am_go dc_71_53, am_go dc_71_54, c32_1, am_go dc_71_55, J_icmp_ne, am_go dc_71_58, am_go dc_71_59, am_go dc_71_62, am_go dc_71_63, cv_2_53_1 own_71, am_go dc_71_66, am_go dc_71_67, J_iinc, pinc_go, am_go dc_71_70, am_go dc_71_73, am_go dc_71_74, J_ret_i ret_71, tg_1, pg_1, pg_0, hO.c0, hO.c1, hO.c2, hO.c3, hO.c4, hT.c0, hT.c1, hT.c2, hT.c3, hT.c4, hT.c5, hT.c6, hT.c7, zI_add, zI_mul, zI_lt, zI_le, zI_eq, zI_neg, zI_pos, zI_ne0, zI_gt0, zB_0, lg_cmp_ge, lg_cmp_le, lg_cmp_gt, lg_cmp_lt, lg_cmp_eq, ail_r, abl_r, all_r, ais_r, abs_r, als_r, aal_r, aal_q, aln_r, vrf_s, vrf_n, z32, hsz, hio, hh, hap1, hap2, decide_true, decide_false, zB_t, zB_f, e3, List.length_cons, List.length_nil, Nat.reduceAdd, Nat.reduceLT, Nat.reduceLeDiff, Nat.reduceEqDiff, ↓reduceIte, bind_s, if_true, if_false, not_true_eq_false, not_false_eq_true, Nat.zero_add]
        rw [if_neg (by omega)]
        rw [dgs_0 hqd]
        exact ih'
      · simp (disch := first | omega | exact Nat.le_of_ble_eq_true rfl | exact hO.ci | exact hT.ci) only [own_71, am_go dc_71_0, J_iconst, c32_0, am_go dc_71_1, J_istore_2, st1_0, st1_1, st1_s, kl_i, kl_l, kl_r, kl_n, am_go dc_71_2, am_go dc_71_3, J_istore_3, J_iload_3, K_il, ld_3, am_go dc_71_5, J_aload_1, K_al, ld_1, am_go dc_71_6, J_getfield, gf_r, fk_2_40_1, am_go dc_71_9, J_icmp_ge, am_go dc_71_12, J_aload_0, ld_0, am_go dc_71_13, am_go dc_71_14, cv_2_45_2 own_71, JR_v, JR_0, JR_ite, ci1_r, am_go dc_71_17, J_if_eq, am_go dc_71_20, am_go dc_71_21, J_iload_2, ld_2, am_go dc_71_22, am_go dc_71_23, am_go dc_71_24, fk_2_15_2, am_go dc_71_27, am_go dc_71_28, J_iaload, am_go dc_71_29, cv_2_49_1 own_71, am_go dc_71_32, am_go dc_71_33, J_goto, am_go dc_71_36, am_go dc_71_37, fk_2_9_2, am_go dc_71_40, am_go dc_71_41, am_go dc_71_42, am_go dc_71_45, am_go dc_71_46, am_go dc_71_47, am_go dc_71_48, am_go dc_71_49, am_go dc_71_52, am_go dc_71_53, am_go dc_71_54, c32_1, am_go dc_71_55, J_icmp_ne, am_go dc_71_58, am_go dc_71_59, am_go dc_71_62, am_go dc_71_63, cv_2_53_1 own_71, am_go dc_71_66, am_go dc_71_67, J_iinc, pinc_go, am_go dc_71_70, am_go dc_71_73, am_go dc_71_74, J_ret_i ret_71, tg_1, pg_1, pg_0, hO.c0, hO.c1, hO.c2, hO.c3, hO.c4, hT.c0, hT.c1, hT.c2, hT.c3, hT.c4, hT.c5, hT.c6, hT.c7, zI_add, zI_mul, zI_lt, zI_le, zI_eq, zI_neg, zI_pos, zI_ne0, zI_gt0, zB_0, lg_cmp_ge, lg_cmp_le, lg_cmp_gt, lg_cmp_lt, lg_cmp_eq, ail_r, abl_r, all_r, ais_r, abs_r, als_r, aal_r, aal_q, aln_r, vrf_s, vrf_n, z32, hsz, hio, hh, hap1, hap2, decide_true, decide_false, zB_t, zB_f, e3, List.length_cons, List.length_nil, Nat.reduceAdd, Nat.reduceLT, Nat.reduceLeDiff, Nat.reduceEqDiff, ↓reduceIte, bind_s, if_true, if_false, not_true_eq_false, not_false_eq_true, Nat.zero_add]
        rw [if_neg (by omega)]
        unfold cAp
        rw [dgs_i]
        simp only [if_true, Nat.zero_or]
        rw [dgs_s hqd]
        exact ih'
      · simp (disch := first | omega | exact Nat.le_of_ble_eq_true rfl | exact hO.ci | exact hT.ci) only [own_71, am_go dc_71_0, J_iconst, c32_0, am_go dc_71_1, J_istore_2, st1_0, st1_1, st1_s, kl_i, kl_l, kl_r, kl_n, am_go dc_71_2, am_go dc_71_3, J_istore_3, J_iload_3, K_il, ld_3, am_go dc_71_5, J_aload_1, K_al, ld_1, am_go dc_71_6, J_getfield, gf_r, fk_2_40_1, am_go dc_71_9, J_icmp_ge, am_go dc_71_12, J_aload_0, ld_0, am_go dc_71_13, am_go dc_71_14, cv_2_45_2 own_71, JR_v, JR_0, JR_ite, ci1_r, am_go dc_71_17, J_if_eq, am_go dc_71_20, am_go dc_71_21, J_iload_2, ld_2, am_go dc_71_22, am_go dc_71_23, am_go dc_71_24, fk_2_15_2, am_go dc_71_27, am_go dc_71_28, J_iaload, am_go dc_71_29, cv_2_49_1 own_71, am_go dc_71_32, am_go dc_71_33, J_goto, am_go dc_71_36, am_go dc_71_37, fk_2_9_2, am_go dc_71_40, am_go dc_71_41, am_go dc_71_42, am_go dc_71_45, am_go dc_71_46, am_go dc_71_47, am_go dc_71_48, am_go dc_71_49, am_go dc_71_52, am_go dc_71_53, am_go dc_71_54, c32_1, am_go dc_71_55, J_icmp_ne, am_go dc_71_58, am_go dc_71_59, am_go dc_71_62, am_go dc_71_63, cv_2_53_1 own_71, am_go dc_71_66, am_go dc_71_67, J_iinc, pinc_go, am_go dc_71_70, am_go dc_71_73, am_go dc_71_74, J_ret_i ret_71, tg_1, pg_1, pg_0, hO.c0, hO.c1, hO.c2, hO.c3, hO.c4, hT.c0, hT.c1, hT.c2, hT.c3, hT.c4, hT.c5, hT.c6, hT.c7, zI_add, zI_mul, zI_lt, zI_le, zI_eq, zI_neg, zI_pos, zI_ne0, zI_gt0, zB_0, lg_cmp_ge, lg_cmp_le, lg_cmp_gt, lg_cmp_lt, lg_cmp_eq, ail_r, abl_r, all_r, ais_r, abs_r, als_r, aal_r, aal_q, aln_r, vrf_s, vrf_n, z32, hsz, hio, hh, hap1, hap2, decide_true, decide_false, zB_t, zB_f, e3, List.length_cons, List.length_nil, Nat.reduceAdd, Nat.reduceLT, Nat.reduceLeDiff, Nat.reduceEqDiff, ↓reduceIte, bind_s, if_true, if_false, not_true_eq_false, not_false_eq_true, Nat.zero_add]
        rw [if_neg (by omega)]
        unfold cAp
        rw [dgs_i]
        simp only [Bool.false_eq_true, if_false, Nat.zero_or]
        rw [dgs_s hqd]
        exact ih'
theorem p_packed (hS : tS C H t T S) (hO : isP H p P) (hP : pS P S) (hL : qPl S) : am_f X (d + 2) 71 [.ref p, .ref t] (H, z) = some (.inl (some (.int (zI (pk (qDg S))))), (H, z)) := by
  have hT := hS.iT
  have hsz := hS.sz
  have hm5 := hS.m5
  rw [fU_71]
  simp (disch := first | omega | exact Nat.le_of_ble_eq_true rfl | exact hO.ci | exact hT.ci) only [own_71, am_go dc_71_0, J_iconst, c32_0, am_go dc_71_1, J_istore_2, st1_0, st1_1, st1_s, kl_i, kl_l, kl_r, kl_n, am_go dc_71_2, am_go dc_71_3, J_istore_3, J_iload_3, K_il, ld_3, am_go dc_71_5, J_aload_1, K_al, ld_1, am_go dc_71_6, J_getfield, gf_r, fk_2_40_1, am_go dc_71_9, J_icmp_ge, am_go dc_71_12, J_aload_0, ld_0, am_go dc_71_13, am_go dc_71_14, cv_2_45_2 own_71, JR_v, JR_0, JR_ite, ci1_r, am_go dc_71_17, J_if_eq, am_go dc_71_20, am_go dc_71_21, J_iload_2, ld_2, am_go dc_71_22, am_go dc_71_23, am_go dc_71_24, fk_2_15_2, am_go dc_71_27, am_go dc_71_28, J_iaload, am_go dc_71_29, cv_2_49_1 own_71, am_go dc_71_32, am_go dc_71_33, J_goto, am_go dc_71_36, am_go dc_71_37, fk_2_9_2, am_go dc_71_40, am_go dc_71_41, am_go dc_71_42, am_go dc_71_45, am_go dc_71_46, am_go dc_71_47, am_go dc_71_48, am_go dc_71_49, am_go dc_71_52, am_go dc_71_53, am_go dc_71_54, c32_1, am_go dc_71_55, J_icmp_ne, am_go dc_71_58, am_go dc_71_59, am_go dc_71_62, am_go dc_71_63, cv_2_53_1 own_71, am_go dc_71_66, am_go dc_71_67, J_iinc, pinc_go, am_go dc_71_70, am_go dc_71_73, am_go dc_71_74, J_ret_i ret_71, tg_1, pg_1, pg_0, hO.c0, hO.c1, hO.c2, hO.c3, hO.c4, hT.c0, hT.c1, hT.c2, hT.c3, hT.c4, hT.c5, hT.c6, hT.c7, zI_add, zI_mul, zI_lt, zI_le, zI_eq, zI_neg, zI_pos, zI_ne0, zI_gt0, zB_0, lg_cmp_ge, lg_cmp_le, lg_cmp_gt, lg_cmp_lt, lg_cmp_eq, ail_r, abl_r, all_r, ais_r, abs_r, als_r, aal_r, aal_q, aln_r, vrf_s, vrf_n, z32, hsz, List.length_cons, List.length_nil, Nat.reduceAdd, Nat.reduceLT, Nat.reduceLeDiff, Nat.reduceEqDiff, ↓reduceIte, bind_s, if_true, if_false, not_true_eq_false, not_false_eq_true, Nat.zero_add]
  have := p_packed_l (X := X) (d := d) (z := z) hS hO hP hL hT hsz hm5 _ 0 (Nat.zero_add _)
  rw [dgs_z] at this
  rw [this, dgs_m hm5]
def c_rk (T : mU × (Nat → Option Nat)) (S : Nat → Int32) (b : Nat) (v : Int32) : Int32 := if 3 ≤ wN (S (90 + b)) then (if v < T.1.1 6 (4 * b + (wN (S (90 + b)) - 3)) then T.1.1 6 (4 * b + (wN (S (90 + b)) - 3)) else v) else v
theorem p_rank_l (hS : tS C H t T S) (hO : isP H p P) (hP : pS P S) (hL : qPl S) (hT : isT H t T) (hsz : T.1.2.2.1 1 = zI (wN (S 116))) (hm5 : wN (S 116) ≤ 5) : ∀ (k i : Nat) (v : Int32), i + k = wN (S 116) → am_I X (am_f X (d + 1)) 90 4 [some (.ref p), some (.ref t), some (.int v), some (.int (zI i))] [] (H, z) = some (.inl (some (.int (fo (c_rk T S) i k v))), (H, z)) := by
  intro k
  induction k with
  | zero =>
    intro i v hi
    rw [am_go dc_90_4]
    simp (disch := first | omega | exact Nat.le_of_ble_eq_true rfl | exact hO.ci | exact hT.ci) only [own_90, am_go dc_90_0, J_iconst, c32_0, am_go dc_90_1, J_istore_2, st1_0, st1_1, st1_s, kl_i, kl_l, kl_r, kl_n, am_go dc_90_2, am_go dc_90_3, J_istore_3, J_iload_3, K_il, ld_3, am_go dc_90_5, J_aload_1, K_al, ld_1, am_go dc_90_6, J_getfield, gf_r, fk_2_40_1, am_go dc_90_9, J_icmp_ge, am_go dc_90_12, J_aload_0, ld_0, am_go dc_90_13, am_go dc_90_14, cv_2_45_2 own_90, JR_v, JR_0, JR_ite, ci1_r, am_go dc_90_17, J_if_eq, am_go dc_90_20, J_iload_2, ld_2, am_go dc_90_21, am_go dc_90_22, am_go dc_90_23, am_go dc_90_24, fk_2_15_2, am_go dc_90_27, am_go dc_90_28, J_iaload, am_go dc_90_29, cv_2_57_1 own_90, am_go dc_90_32, cm_2_61 own_90, mth_0, am_go dc_90_35, am_go dc_90_36, J_iinc, pinc_go, c32_1, am_go dc_90_39, J_goto, am_go dc_90_42, am_go dc_90_43, J_ret_i ret_90, tg_1, pg_1, hO.c0, hO.c1, hO.c2, hO.c3, hO.c4, hT.c0, hT.c1, hT.c2, hT.c3, hT.c4, hT.c5, hT.c6, hT.c7, zI_add, zI_mul, zI_lt, zI_le, zI_eq, zI_neg, zI_pos, zI_ne0, zI_gt0, zB_0, lg_cmp_ge, lg_cmp_le, lg_cmp_gt, lg_cmp_lt, lg_cmp_eq, ail_r, abl_r, all_r, ais_r, abs_r, als_r, aal_r, aal_q, aln_r, vrf_s, vrf_n, z32, hsz, List.length_cons, List.length_nil, Nat.reduceAdd, Nat.reduceLT, Nat.reduceLeDiff, Nat.reduceEqDiff, ↓reduceIte, bind_s, if_true, if_false, not_true_eq_false, not_false_eq_true, Nat.zero_add]
    rw [if_pos (by omega)]
    rfl
  | succ k ih =>
    intro i v hi
    have ih' := fun v => ih (i + 1) v (by omega)
    have hi5 : i < 5 := by omega
    have him : i < wN (S 116) := by omega
    obtain ⟨hwz, hw6⟩ := (hL i hi5).1.z (by omega)
    obtain ⟨-, hL2⟩ := (hL i hi5).2.2 him
    have hn4 := (hS.2.1.n him).2.2
    have hsh0 := (hP.1 i hi5).2
    have hio := fun d => p_isOpen (X := X) (d := d) (z := z) (b := i) hO hP hi5 hwz hw6
    rw [am_go dc_90_4]
    by_cases e3 : 3 ≤ wN (S (90 + i))
    · have hsh := hsh0 e3
      have hw4 : wN (S (90 + i)) - 3 < 4 := by
        have := hL2 e3
        omega
      have hsr := fun d => c_stepRank (X := X) (d := d) (z := z) (b := i) (i := wN (S (90 + i)) - 3) hT hi5 hw4
      simp (disch := first | omega | exact Nat.le_of_ble_eq_true rfl | exact hO.ci | exact hT.ci) only [own_90, am_go dc_90_0, J_iconst, c32_0, am_go dc_90_1, J_istore_2, st1_0, st1_1, st1_s, kl_i, kl_l, kl_r, kl_n, am_go dc_90_2, am_go dc_90_3, J_istore_3, J_iload_3, K_il, ld_3, am_go dc_90_5, J_aload_1, K_al, ld_1, am_go dc_90_6, J_getfield, gf_r, fk_2_40_1, am_go dc_90_9, J_icmp_ge, am_go dc_90_12, J_aload_0, ld_0, am_go dc_90_13, am_go dc_90_14, cv_2_45_2 own_90, JR_v, JR_0, JR_ite, ci1_r, am_go dc_90_17, J_if_eq, am_go dc_90_20, J_iload_2, ld_2, am_go dc_90_21, am_go dc_90_22, am_go dc_90_23, am_go dc_90_24, fk_2_15_2, am_go dc_90_27, am_go dc_90_28, J_iaload, am_go dc_90_29, cv_2_57_1 own_90, am_go dc_90_32, cm_2_61 own_90, mth_0, am_go dc_90_35, am_go dc_90_36, J_iinc, pinc_go, c32_1, am_go dc_90_39, J_goto, am_go dc_90_42, am_go dc_90_43, J_ret_i ret_90, tg_1, pg_1, hO.c0, hO.c1, hO.c2, hO.c3, hO.c4, hT.c0, hT.c1, hT.c2, hT.c3, hT.c4, hT.c5, hT.c6, hT.c7, zI_add, zI_mul, zI_lt, zI_le, zI_eq, zI_neg, zI_pos, zI_ne0, zI_gt0, zB_0, lg_cmp_ge, lg_cmp_le, lg_cmp_gt, lg_cmp_lt, lg_cmp_eq, ail_r, abl_r, all_r, ais_r, abs_r, als_r, aal_r, aal_q, aln_r, vrf_s, vrf_n, z32, hsz, hio, hsh, hsr, decide_true, decide_false, zB_t, zB_f, e3, List.length_cons, List.length_nil, Nat.reduceAdd, Nat.reduceLT, Nat.reduceLeDiff, Nat.reduceEqDiff, ↓reduceIte, bind_s, if_true, if_false, not_true_eq_false, not_false_eq_true, Nat.zero_add]
      rw [if_neg (by omega)]
      simp only [ih', fo, c_rk, if_pos e3]
    · simp (disch := first | omega | exact Nat.le_of_ble_eq_true rfl | exact hO.ci | exact hT.ci) only [own_90, am_go dc_90_0, J_iconst, c32_0, am_go dc_90_1, J_istore_2, st1_0, st1_1, st1_s, kl_i, kl_l, kl_r, kl_n, am_go dc_90_2, am_go dc_90_3, J_istore_3, J_iload_3, K_il, ld_3, am_go dc_90_5, J_aload_1, K_al, ld_1, am_go dc_90_6, J_getfield, gf_r, fk_2_40_1, am_go dc_90_9, J_icmp_ge, am_go dc_90_12, J_aload_0, ld_0, am_go dc_90_13, am_go dc_90_14, cv_2_45_2 own_90, JR_v, JR_0, JR_ite, ci1_r, am_go dc_90_17, J_if_eq, am_go dc_90_20, J_iload_2, ld_2, am_go dc_90_21, am_go dc_90_22, am_go dc_90_23, am_go dc_90_24, fk_2_15_2, am_go dc_90_27, am_go dc_90_28, J_iaload, am_go dc_90_29, cv_2_57_1 own_90, am_go dc_90_32, cm_2_61 own_90, mth_0, am_go dc_90_35, am_go dc_90_36, J_iinc, pinc_go, c32_1, am_go dc_90_39, J_goto, am_go dc_90_42, am_go dc_90_43, J_ret_i ret_90, tg_1, pg_1, hO.c0, hO.c1, hO.c2, hO.c3, hO.c4, hT.c0, hT.c1, hT.c2, hT.c3, hT.c4, hT.c5, hT.c6, hT.c7, zI_add, zI_mul, zI_lt, zI_le, zI_eq, zI_neg, zI_pos, zI_ne0, zI_gt0, zB_0, lg_cmp_ge, lg_cmp_le, lg_cmp_gt, lg_cmp_lt, lg_cmp_eq, ail_r, abl_r, all_r, ais_r, abs_r, als_r, aal_r, aal_q, aln_r, vrf_s, vrf_n, z32, hsz, hio, decide_true, decide_false, zB_t, zB_f, e3, List.length_cons, List.length_nil, Nat.reduceAdd, Nat.reduceLT, Nat.reduceLeDiff, Nat.reduceEqDiff, ↓reduceIte, bind_s, if_true, if_false, not_true_eq_false, not_false_eq_true, Nat.zero_add]
      rw [if_neg (by omega)]
      simp only [ih', fo, c_rk, if_neg e3]
def cRk (T : mU × (Nat → Option Nat)) (S : Nat → Int32) : Int32 := fo (c_rk T S) 0 (wN (S 116)) (zI 0)
theorem p_rank (hS : tS C H t T S) (hO : isP H p P) (hP : pS P S) (hL : qPl S) : am_f X (d + 2) 90 [.ref p, .ref t] (H, z) = some (.inl (some (.int (cRk T S))), (H, z)) := by
  have hT := hS.iT
  have hsz := hS.sz
  have hm5 := hS.m5
  rw [fU_90]
  simp (disch := first | omega | exact Nat.le_of_ble_eq_true rfl | exact hO.ci | exact hT.ci) only [own_90, am_go dc_90_0, J_iconst, c32_0, am_go dc_90_1, J_istore_2, st1_0, st1_1, st1_s, kl_i, kl_l, kl_r, kl_n, am_go dc_90_2, am_go dc_90_3, J_istore_3, J_iload_3, K_il, ld_3, am_go dc_90_5, J_aload_1, K_al, ld_1, am_go dc_90_6, J_getfield, gf_r, fk_2_40_1, am_go dc_90_9, J_icmp_ge, am_go dc_90_12, J_aload_0, ld_0, am_go dc_90_13, am_go dc_90_14, cv_2_45_2 own_90, JR_v, JR_0, JR_ite, ci1_r, am_go dc_90_17, J_if_eq, am_go dc_90_20, J_iload_2, ld_2, am_go dc_90_21, am_go dc_90_22, am_go dc_90_23, am_go dc_90_24, fk_2_15_2, am_go dc_90_27, am_go dc_90_28, J_iaload, am_go dc_90_29, cv_2_57_1 own_90, am_go dc_90_32, cm_2_61 own_90, mth_0, am_go dc_90_35, am_go dc_90_36, J_iinc, pinc_go, c32_1, am_go dc_90_39, J_goto, am_go dc_90_42, am_go dc_90_43, J_ret_i ret_90, tg_1, pg_1, hO.c0, hO.c1, hO.c2, hO.c3, hO.c4, hT.c0, hT.c1, hT.c2, hT.c3, hT.c4, hT.c5, hT.c6, hT.c7, zI_add, zI_mul, zI_lt, zI_le, zI_eq, zI_neg, zI_pos, zI_ne0, zI_gt0, zB_0, lg_cmp_ge, lg_cmp_le, lg_cmp_gt, lg_cmp_lt, lg_cmp_eq, ail_r, abl_r, all_r, ais_r, abs_r, als_r, aal_r, aal_q, aln_r, vrf_s, vrf_n, z32, hsz, List.length_cons, List.length_nil, Nat.reduceAdd, Nat.reduceLT, Nat.reduceLeDiff, Nat.reduceEqDiff, ↓reduceIte, bind_s, if_true, if_false, not_true_eq_false, not_false_eq_true, Nat.zero_add]
  exact p_rank_l hS hO hP hL hT hsz hm5 _ 0 _ (Nat.zero_add _)
def c_hd (T : mU × (Nat → Option Nat)) (S : Nat → Int32) (r : Int32) : Nat → Nat → Int32
  | _, 0 => -4
  | i, k + 1 => if 3 ≤ wN (S (90 + i)) ∧ T.1.1 6 (4 * i + (wN (S (90 + i)) - 3)) = r then zI i else c_hd T S r (i + 1) k
theorem p_holder_l {r : Int32} (hS : tS C H t T S) (hO : isP H p P) (hP : pS P S) (hL : qPl S) (hT : isT H t T) (hsz : T.1.2.2.1 1 = zI (wN (S 116))) (hm5 : wN (S 116) ≤ 5) : ∀ (k i : Nat), i + k = wN (S 116) → am_I X (am_f X (d + 1)) 131 8 [some (.ref p), some (.ref t), some (.int r), some (.int (zI i))] [] (H, z) = some (.inl (some (.int (c_hd T S r i k))), (H, z)) := by
  intro k
  induction k with
  | zero =>
    intro i hi
    rw [am_go dc_131_8]
    simp (disch := first | omega | exact Nat.le_of_ble_eq_true rfl | exact hO.ci | exact hT.ci) only [own_131, am_go dc_131_0, J_aload_0, K_al, ld_0, am_go dc_131_1, J_aload_1, ld_1, am_go dc_131_2, cv_2_66_2 own_131, JR_v, JR_0, JR_ite, ci1_r, am_go dc_131_5, J_istore_2, st1_0, st1_1, st1_s, kl_i, kl_l, kl_r, kl_n, am_go dc_131_6, J_iconst, c32_0, am_go dc_131_7, J_istore_3, J_iload_3, K_il, ld_3, am_go dc_131_9, am_go dc_131_10, J_getfield, gf_r, fk_2_40_1, am_go dc_131_13, J_icmp_ge, am_go dc_131_16, am_go dc_131_17, am_go dc_131_18, cv_2_45_2 own_131, am_go dc_131_21, J_if_eq, am_go dc_131_24, am_go dc_131_25, am_go dc_131_26, am_go dc_131_27, fk_2_15_2, am_go dc_131_30, am_go dc_131_31, J_iaload, am_go dc_131_32, cv_2_57_1 own_131, am_go dc_131_35, J_iload_2, ld_2, am_go dc_131_36, J_icmp_ne, am_go dc_131_39, am_go dc_131_40, J_ret_i ret_131, am_go dc_131_41, J_iinc, pinc_go, c32_1, am_go dc_131_44, J_goto, am_go dc_131_47, J_bipush, i8_m4, am_go dc_131_49, tg_1, pg_1, hO.c0, hO.c1, hO.c2, hO.c3, hO.c4, hT.c0, hT.c1, hT.c2, hT.c3, hT.c4, hT.c5, hT.c6, hT.c7, zI_add, zI_mul, zI_lt, zI_le, zI_eq, zI_neg, zI_pos, zI_ne0, zI_gt0, zB_0, lg_cmp_ge, lg_cmp_le, lg_cmp_gt, lg_cmp_lt, lg_cmp_eq, ail_r, abl_r, all_r, ais_r, abs_r, als_r, aal_r, aal_q, aln_r, vrf_s, vrf_n, z32, hsz, List.length_cons, List.length_nil, Nat.reduceAdd, Nat.reduceLT, Nat.reduceLeDiff, Nat.reduceEqDiff, ↓reduceIte, bind_s, if_true, if_false, not_true_eq_false, not_false_eq_true, Nat.zero_add]
    rw [if_pos (by omega)]
    rfl
  | succ k ih =>
    intro i hi
    have ih' := ih (i + 1) (by omega)
    have hi5 : i < 5 := by omega
    have him : i < wN (S 116) := by omega
    obtain ⟨hwz, hw6⟩ := (hL i hi5).1.z (by omega)
    obtain ⟨-, hL2⟩ := (hL i hi5).2.2 him
    have hn4 := (hS.2.1.n him).2.2
    have hsh0 := (hP.1 i hi5).2
    have hio := fun d => p_isOpen (X := X) (d := d) (z := z) (b := i) hO hP hi5 hwz hw6
    rw [am_go dc_131_8]
    by_cases e3 : 3 ≤ wN (S (90 + i))
    · have hsh := hsh0 e3
      have hw4 : wN (S (90 + i)) - 3 < 4 := by
        have := hL2 e3
        omega
      have hsr := fun d => c_stepRank (X := X) (d := d) (z := z) (b := i) (i := wN (S (90 + i)) - 3) hT hi5 hw4
      simp (disch := first | omega | exact Nat.le_of_ble_eq_true rfl | exact hO.ci | exact hT.ci) only [own_131, am_go dc_131_0, J_aload_0, K_al, ld_0, am_go dc_131_1, J_aload_1, ld_1, am_go dc_131_2, cv_2_66_2 own_131, JR_v, JR_0, JR_ite, ci1_r, am_go dc_131_5, J_istore_2, st1_0, st1_1, st1_s, kl_i, kl_l, kl_r, kl_n, am_go dc_131_6, J_iconst, c32_0, am_go dc_131_7, J_istore_3, J_iload_3, K_il, ld_3, am_go dc_131_9, am_go dc_131_10, J_getfield, gf_r, fk_2_40_1, am_go dc_131_13, J_icmp_ge, am_go dc_131_16, am_go dc_131_17, am_go dc_131_18, cv_2_45_2 own_131, am_go dc_131_21, J_if_eq, am_go dc_131_24, am_go dc_131_25, am_go dc_131_26, am_go dc_131_27, fk_2_15_2, am_go dc_131_30, am_go dc_131_31, J_iaload, am_go dc_131_32, cv_2_57_1 own_131, am_go dc_131_35, J_iload_2, ld_2, am_go dc_131_36, J_icmp_ne, am_go dc_131_39, am_go dc_131_40, J_ret_i ret_131, am_go dc_131_41, J_iinc, pinc_go, c32_1, am_go dc_131_44, J_goto, am_go dc_131_47, J_bipush, i8_m4, am_go dc_131_49, tg_1, pg_1, hO.c0, hO.c1, hO.c2, hO.c3, hO.c4, hT.c0, hT.c1, hT.c2, hT.c3, hT.c4, hT.c5, hT.c6, hT.c7, zI_add, zI_mul, zI_lt, zI_le, zI_eq, zI_neg, zI_pos, zI_ne0, zI_gt0, zB_0, lg_cmp_ge, lg_cmp_le, lg_cmp_gt, lg_cmp_lt, lg_cmp_eq, ail_r, abl_r, all_r, ais_r, abs_r, als_r, aal_r, aal_q, aln_r, vrf_s, vrf_n, z32, hsz, hio, hsh, hsr, decide_true, decide_false, zB_t, zB_f, e3, List.length_cons, List.length_nil, Nat.reduceAdd, Nat.reduceLT, Nat.reduceLeDiff, Nat.reduceEqDiff, ↓reduceIte, bind_s, if_true, if_false, not_true_eq_false, not_false_eq_true, Nat.zero_add]
      rw [if_neg (by omega)]
      simp only [ih', c_hd]
      by_cases e : T.1.1 6 (4 * i + (wN (S (90 + i)) - 3)) = r <;> simp [e, e3]
    · simp (disch := first | omega | exact Nat.le_of_ble_eq_true rfl | exact hO.ci | exact hT.ci) only [own_131, am_go dc_131_0, J_aload_0, K_al, ld_0, am_go dc_131_1, J_aload_1, ld_1, am_go dc_131_2, cv_2_66_2 own_131, JR_v, JR_0, JR_ite, ci1_r, am_go dc_131_5, J_istore_2, st1_0, st1_1, st1_s, kl_i, kl_l, kl_r, kl_n, am_go dc_131_6, J_iconst, c32_0, am_go dc_131_7, J_istore_3, J_iload_3, K_il, ld_3, am_go dc_131_9, am_go dc_131_10, J_getfield, gf_r, fk_2_40_1, am_go dc_131_13, J_icmp_ge, am_go dc_131_16, am_go dc_131_17, am_go dc_131_18, cv_2_45_2 own_131, am_go dc_131_21, J_if_eq, am_go dc_131_24, am_go dc_131_25, am_go dc_131_26, am_go dc_131_27, fk_2_15_2, am_go dc_131_30, am_go dc_131_31, J_iaload, am_go dc_131_32, cv_2_57_1 own_131, am_go dc_131_35, J_iload_2, ld_2, am_go dc_131_36, J_icmp_ne, am_go dc_131_39, am_go dc_131_40, J_ret_i ret_131, am_go dc_131_41, J_iinc, pinc_go, c32_1, am_go dc_131_44, J_goto, am_go dc_131_47, J_bipush, i8_m4, am_go dc_131_49, tg_1, pg_1, hO.c0, hO.c1, hO.c2, hO.c3, hO.c4, hT.c0, hT.c1, hT.c2, hT.c3, hT.c4, hT.c5, hT.c6, hT.c7, zI_add, zI_mul, zI_lt, zI_le, zI_eq, zI_neg, zI_pos, zI_ne0, zI_gt0, zB_0, lg_cmp_ge, lg_cmp_le, lg_cmp_gt, lg_cmp_lt, lg_cmp_eq, ail_r, abl_r, all_r, ais_r, abs_r, als_r, aal_r, aal_q, aln_r, vrf_s, vrf_n, z32, hsz, hio, decide_true, decide_false, zB_t, zB_f, e3, List.length_cons, List.length_nil, Nat.reduceAdd, Nat.reduceLT, Nat.reduceLeDiff, Nat.reduceEqDiff, ↓reduceIte, bind_s, if_true, if_false, not_true_eq_false, not_false_eq_true, Nat.zero_add]
      rw [if_neg (by omega)]
      simp only [ih', c_hd]
      simp [e3]
theorem p_holder (hS : tS C H t T S) (hO : isP H p P) (hP : pS P S) (hL : qPl S) : am_f X (d + 3) 131 [.ref p, .ref t] (H, z) = some (.inl (some (.int (c_hd T S (cRk T S) 0 (wN (S 116))))), (H, z)) := by
  have hT := hS.iT
  have hsz := hS.sz
  have hm5 := hS.m5
  have hrk := fun d => p_rank (X := X) (d := d) (z := z) hS hO hP hL
  rw [fU_131]
  simp (disch := first | omega | exact Nat.le_of_ble_eq_true rfl | exact hO.ci | exact hT.ci) only [own_131, am_go dc_131_0, J_aload_0, K_al, ld_0, am_go dc_131_1, J_aload_1, ld_1, am_go dc_131_2, cv_2_66_2 own_131, JR_v, JR_0, JR_ite, ci1_r, am_go dc_131_5, J_istore_2, st1_0, st1_1, st1_s, kl_i, kl_l, kl_r, kl_n, am_go dc_131_6, J_iconst, c32_0, am_go dc_131_7, J_istore_3, J_iload_3, K_il, ld_3, am_go dc_131_9, am_go dc_131_10, J_getfield, gf_r, fk_2_40_1, am_go dc_131_13, J_icmp_ge, am_go dc_131_16, am_go dc_131_17, am_go dc_131_18, cv_2_45_2 own_131, am_go dc_131_21, J_if_eq, am_go dc_131_24, am_go dc_131_25, am_go dc_131_26, am_go dc_131_27, fk_2_15_2, am_go dc_131_30, am_go dc_131_31, J_iaload, am_go dc_131_32, cv_2_57_1 own_131, am_go dc_131_35, J_iload_2, ld_2, am_go dc_131_36, J_icmp_ne, am_go dc_131_39, am_go dc_131_40, J_ret_i ret_131, am_go dc_131_41, J_iinc, pinc_go, c32_1, am_go dc_131_44, J_goto, am_go dc_131_47, J_bipush, i8_m4, am_go dc_131_49, tg_1, pg_1, hO.c0, hO.c1, hO.c2, hO.c3, hO.c4, hT.c0, hT.c1, hT.c2, hT.c3, hT.c4, hT.c5, hT.c6, hT.c7, zI_add, zI_mul, zI_lt, zI_le, zI_eq, zI_neg, zI_pos, zI_ne0, zI_gt0, zB_0, lg_cmp_ge, lg_cmp_le, lg_cmp_gt, lg_cmp_lt, lg_cmp_eq, ail_r, abl_r, all_r, ais_r, abs_r, als_r, aal_r, aal_q, aln_r, vrf_s, vrf_n, z32, hsz, hrk, List.length_cons, List.length_nil, Nat.reduceAdd, Nat.reduceLT, Nat.reduceLeDiff, Nat.reduceEqDiff, ↓reduceIte, bind_s, if_true, if_false, not_true_eq_false, not_false_eq_true, Nat.zero_add]
  exact p_holder_l hS hO hP hL hT hsz hm5 _ 0 (Nat.zero_add _)
theorem p_digits_l (hO : isP H p P) (hP : pS P S) : ∀ (k : Nat) (v : Int32), k ≤ 5 → am_I X (am_f X d) 96 4 [some (.ref p), some (.int v), some (.int (zI k + -1))] [] (H, z) = some (.inl (some (.int (q5 S k v))), (H, z)) := by
  intro k
  induction k with
  | zero =>
    intro v _
    rw [am_go dc_96_4]
    simp (disch := first | omega | exact Nat.le_of_ble_eq_true rfl | exact hO.ci) only [own_96, am_go dc_96_0, J_iconst, c32_0, am_go dc_96_1, J_istore_1, st1_0, st1_1, st1_s, kl_i, kl_l, kl_r, kl_n, am_go dc_96_2, c32_4, am_go dc_96_3, J_istore_2, J_iload_2, K_il, ld_2, am_go dc_96_5, J_if_lt, am_go dc_96_8, J_iload_1, ld_1, am_go dc_96_9, c32_5, am_go dc_96_10, J_imul, am_go dc_96_11, J_aload_0, K_al, ld_0, am_go dc_96_12, J_getfield, gf_r, fk_2_9_2, am_go dc_96_15, am_go dc_96_16, J_iaload, am_go dc_96_17, J_iadd, am_go dc_96_18, am_go dc_96_19, J_iinc, pinc_go, i32_m1, am_go dc_96_22, J_goto, am_go dc_96_25, am_go dc_96_26, J_ret_i ret_96, pg_0, hO.c0, hO.c1, hO.c2, hO.c3, hO.c4, zI_add, zI_mul, zI_lt, zI_le, zI_eq, zI_neg, zI_pos, zI_ne0, zI_gt0, zB_0, lg_cmp_ge, lg_cmp_le, lg_cmp_gt, lg_cmp_lt, lg_cmp_eq, ail_r, abl_r, all_r, ais_r, abs_r, als_r, aal_r, aal_q, aln_r, vrf_s, vrf_n, z32, zI_d0, neg1_lt, List.length_cons, List.length_nil, Nat.reduceAdd, Nat.reduceLT, Nat.reduceLeDiff, Nat.reduceEqDiff, ↓reduceIte, bind_s, if_true, if_false, not_true_eq_false, not_false_eq_true, Nat.zero_add]
    rfl
  | succ k ih =>
    intro v hk
    have hk5 : k < 5 := by omega
    have ih' := fun v => ih v (by omega)
    have hh := hP.how hk5
    rw [am_go dc_96_4]
    simp (disch := first | omega | exact Nat.le_of_ble_eq_true rfl | exact hO.ci) only [own_96, am_go dc_96_0, J_iconst, c32_0, am_go dc_96_1, J_istore_1, st1_0, st1_1, st1_s, kl_i, kl_l, kl_r, kl_n, am_go dc_96_2, c32_4, am_go dc_96_3, J_istore_2, J_iload_2, K_il, ld_2, am_go dc_96_5, J_if_lt, am_go dc_96_8, J_iload_1, ld_1, am_go dc_96_9, c32_5, am_go dc_96_10, J_imul, am_go dc_96_11, J_aload_0, K_al, ld_0, am_go dc_96_12, J_getfield, gf_r, fk_2_9_2, am_go dc_96_15, am_go dc_96_16, J_iaload, am_go dc_96_17, J_iadd, am_go dc_96_18, am_go dc_96_19, J_iinc, pinc_go, i32_m1, am_go dc_96_22, J_goto, am_go dc_96_25, am_go dc_96_26, J_ret_i ret_96, pg_0, hO.c0, hO.c1, hO.c2, hO.c3, hO.c4, zI_add, zI_mul, zI_lt, zI_le, zI_eq, zI_neg, zI_pos, zI_ne0, zI_gt0, zB_0, lg_cmp_ge, lg_cmp_le, lg_cmp_gt, lg_cmp_lt, lg_cmp_eq, ail_r, abl_r, all_r, ais_r, abs_r, als_r, aal_r, aal_q, aln_r, vrf_s, vrf_n, z32, zI_dec, hh, List.length_cons, List.length_nil, Nat.reduceAdd, Nat.reduceLT, Nat.reduceLeDiff, Nat.reduceEqDiff, ↓reduceIte, bind_s, if_true, if_false, not_true_eq_false, not_false_eq_true, Nat.zero_add]
    simp only [ih', q5, Int32.mul_comm]
theorem p_digits (hO : isP H p P) (hP : pS P S) : am_f X (d + 1) 96 [.ref p] (H, z) = some (.inl (some (.int (q5 S 5 (zI 0)))), (H, z)) := by
  rw [fU_96]
  simp (disch := first | omega | exact Nat.le_of_ble_eq_true rfl | exact hO.ci) only [own_96, am_go dc_96_0, J_iconst, c32_0, am_go dc_96_1, J_istore_1, st1_0, st1_1, st1_s, kl_i, kl_l, kl_r, kl_n, am_go dc_96_2, c32_4, am_go dc_96_3, J_istore_2, J_iload_2, K_il, ld_2, am_go dc_96_5, J_if_lt, am_go dc_96_8, J_iload_1, ld_1, am_go dc_96_9, c32_5, am_go dc_96_10, J_imul, am_go dc_96_11, J_aload_0, K_al, ld_0, am_go dc_96_12, J_getfield, gf_r, fk_2_9_2, am_go dc_96_15, am_go dc_96_16, J_iaload, am_go dc_96_17, J_iadd, am_go dc_96_18, am_go dc_96_19, J_iinc, pinc_go, i32_m1, am_go dc_96_22, J_goto, am_go dc_96_25, am_go dc_96_26, J_ret_i ret_96, pg_0, hO.c0, hO.c1, hO.c2, hO.c3, hO.c4, zI_add, zI_mul, zI_lt, zI_le, zI_eq, zI_neg, zI_pos, zI_ne0, zI_gt0, zB_0, lg_cmp_ge, lg_cmp_le, lg_cmp_gt, lg_cmp_lt, lg_cmp_eq, ail_r, abl_r, all_r, ais_r, abs_r, als_r, aal_r, aal_q, aln_r, vrf_s, vrf_n, z32, List.length_cons, List.length_nil, Nat.reduceAdd, Nat.reduceLT, Nat.reduceLeDiff, Nat.reduceEqDiff, ↓reduceIte, bind_s, if_true, if_false, not_true_eq_false, not_false_eq_true, Nat.zero_add]
  rw [show zI 4 = zI 5 + -1 from zI_dec.symm]
  exact p_digits_l hO hP 5 _ (by omega)
def c_cb (P : mU) (x y : Int32) (b : Nat) (v : Int32) : Int32 := if P.1 0 b < x then v else if y < P.1 0 b then v else v + zI 1
theorem p_count_l {x y : Int32} (hO : isP H p P) : ∀ (k i : Nat) (v : Int32), i + k = 5 → am_I X (am_f X (d + 0)) 162 5 [some (.ref p), some (.int x), some (.int y), some (.int v), some (.int (zI i))] [] (H, z) = some (.inl (some (.int (fo (c_cb P x y) i k v))), (H, z)) := by
  intro k
  induction k with
  | zero =>
    intro i v hi
    rw [am_go dc_162_5]
    simp (disch := first | omega | exact Nat.le_of_ble_eq_true rfl | exact hO.ci) only [own_162, am_go dc_162_0, J_iconst, c32_0, am_go dc_162_1, J_istore_3, st1_0, st1_1, st1_s, kl_i, kl_l, kl_r, kl_n, am_go dc_162_2, am_go dc_162_3, J_istore, J_iload, K_il, ld_4, am_go dc_162_7, c32_5, am_go dc_162_8, J_icmp_ge, am_go dc_162_11, J_aload_0, K_al, ld_0, am_go dc_162_12, J_getfield, gf_r, fk_2_9_2, am_go dc_162_15, am_go dc_162_17, J_iaload, am_go dc_162_18, J_iload_1, ld_1, am_go dc_162_19, J_icmp_lt, am_go dc_162_22, am_go dc_162_23, am_go dc_162_26, am_go dc_162_28, am_go dc_162_29, J_iload_2, ld_2, am_go dc_162_30, J_icmp_gt, am_go dc_162_33, J_iinc, pinc_go, ld_3, c32_1, am_go dc_162_36, am_go dc_162_39, J_goto, am_go dc_162_42, J_iload_3, am_go dc_162_43, J_ret_i ret_162, pg_0, hO.c0, hO.c1, hO.c2, hO.c3, hO.c4, zI_mul, zI_lt, zI_le, zI_eq, zI_neg, zI_pos, zI_ne0, zI_gt0, zB_0, lg_cmp_ge, lg_cmp_le, lg_cmp_gt, lg_cmp_lt, lg_cmp_eq, ail_r, abl_r, all_r, ais_r, abs_r, als_r, aal_r, aal_q, aln_r, vrf_s, vrf_n, z32, zI_add (a := i) (b := 1), List.length_cons, List.length_nil, Nat.reduceAdd, Nat.reduceLT, Nat.reduceLeDiff, Nat.reduceEqDiff, ↓reduceIte, bind_s, if_true, if_false, not_true_eq_false, not_false_eq_true, Nat.zero_add]
    rw [if_pos (by omega)]
    rfl
  | succ k ih =>
    intro i v hi
    have ih' := fun v => ih (i + 1) v (by omega)
    rw [am_go dc_162_5]
    simp (disch := first | omega | exact Nat.le_of_ble_eq_true rfl | exact hO.ci) only [own_162, am_go dc_162_0, J_iconst, c32_0, am_go dc_162_1, J_istore_3, st1_0, st1_1, st1_s, kl_i, kl_l, kl_r, kl_n, am_go dc_162_2, am_go dc_162_3, J_istore, J_iload, K_il, ld_4, am_go dc_162_7, c32_5, am_go dc_162_8, J_icmp_ge, am_go dc_162_11, J_aload_0, K_al, ld_0, am_go dc_162_12, J_getfield, gf_r, fk_2_9_2, am_go dc_162_15, am_go dc_162_17, J_iaload, am_go dc_162_18, J_iload_1, ld_1, am_go dc_162_19, J_icmp_lt, am_go dc_162_22, am_go dc_162_23, am_go dc_162_26, am_go dc_162_28, am_go dc_162_29, J_iload_2, ld_2, am_go dc_162_30, J_icmp_gt, am_go dc_162_33, J_iinc, pinc_go, ld_3, c32_1, am_go dc_162_36, am_go dc_162_39, J_goto, am_go dc_162_42, J_iload_3, am_go dc_162_43, J_ret_i ret_162, pg_0, hO.c0, hO.c1, hO.c2, hO.c3, hO.c4, zI_mul, zI_lt, zI_le, zI_eq, zI_neg, zI_pos, zI_ne0, zI_gt0, zB_0, lg_cmp_ge, lg_cmp_le, lg_cmp_gt, lg_cmp_lt, lg_cmp_eq, ail_r, abl_r, all_r, ais_r, abs_r, als_r, aal_r, aal_q, aln_r, vrf_s, vrf_n, z32, zI_add (a := i) (b := 1), List.length_cons, List.length_nil, Nat.reduceAdd, Nat.reduceLT, Nat.reduceLeDiff, Nat.reduceEqDiff, ↓reduceIte, bind_s, if_true, if_false, not_true_eq_false, not_false_eq_true, Nat.zero_add]
    rw [if_neg (by omega)]
    simp only [ih', fo, c_cb, i32_nle]
    grind
theorem p_count {x y : Int32} (hO : isP H p P) : am_f X (d + 1) 162 [.ref p, .int x, .int y] (H, z) = some (.inl (some (.int (fo (c_cb P x y) 0 5 (zI 0)))), (H, z)) := by
  rw [fU_162]
  simp (disch := first | omega | exact Nat.le_of_ble_eq_true rfl | exact hO.ci) only [own_162, am_go dc_162_0, J_iconst, c32_0, am_go dc_162_1, J_istore_3, st1_0, st1_1, st1_s, kl_i, kl_l, kl_r, kl_n, am_go dc_162_2, am_go dc_162_3, J_istore, J_iload, K_il, ld_4, am_go dc_162_7, c32_5, am_go dc_162_8, J_icmp_ge, am_go dc_162_11, J_aload_0, K_al, ld_0, am_go dc_162_12, J_getfield, gf_r, fk_2_9_2, am_go dc_162_15, am_go dc_162_17, J_iaload, am_go dc_162_18, J_iload_1, ld_1, am_go dc_162_19, J_icmp_lt, am_go dc_162_22, am_go dc_162_23, am_go dc_162_26, am_go dc_162_28, am_go dc_162_29, J_iload_2, ld_2, am_go dc_162_30, J_icmp_gt, am_go dc_162_33, J_iinc, pinc_go, ld_3, c32_1, am_go dc_162_36, am_go dc_162_39, J_goto, am_go dc_162_42, J_iload_3, am_go dc_162_43, J_ret_i ret_162, pg_0, hO.c0, hO.c1, hO.c2, hO.c3, hO.c4, zI_add, zI_mul, zI_lt, zI_le, zI_eq, zI_neg, zI_pos, zI_ne0, zI_gt0, zB_0, lg_cmp_ge, lg_cmp_le, lg_cmp_gt, lg_cmp_lt, lg_cmp_eq, ail_r, abl_r, all_r, ais_r, abs_r, als_r, aal_r, aal_q, aln_r, vrf_s, vrf_n, z32, List.length_cons, List.length_nil, Nat.reduceAdd, Nat.reduceLT, Nat.reduceLeDiff, Nat.reduceEqDiff, ↓reduceIte, bind_s, if_true, if_false, not_true_eq_false, not_false_eq_true, Nat.zero_add]
  exact p_count_l hO 5 0 _ (by omega)
end PL
