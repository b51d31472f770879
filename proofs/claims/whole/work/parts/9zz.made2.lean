/-! the class made, whole -/
section MK2
variable {X : am_X} {rec : am_O} {h H : am_H} {o d t p e l w pc nx tg s : Nat} {z : Nat × Nat} {lv : am_L} {st : List Value} {σ : am_S}
def lC0 (l t : Nat) : Nat → Option am_E := fun k => if k = 2 then some (.inl (.long, 0, .inr (.inl (fun _ => 0)))) else if k = 3 then some (.inl (.int, 0, .inl (fun _ => 0))) else lC l (P00, (t, l + 2, l + 3, 0)) k
def wC0 (w t : Nat) : Nat → Option am_E := fun k => if k = 2 then some (.inl (.int, 0, .inl (fun _ => 0))) else if k = 3 then some (.inl (.long, 0, .inr (.inl (fun _ => 0)))) else wC w (P00, (t, w + 2, 0, w + 3, 0)) k
theorem l_init : am_f X (d + 1) 4 [.ref l, .ref t] (am_up h l (.inr (4, am_df 4)), (l + 1, s)) = some (.inl none, (ov h l (lC0 l t), (l + 9, s + 60))) := by
  rw [ov_new, fU_4]
  simp (disch := first | omega | exact Nat.le_of_ble_eq_true rfl) only [own_4, am_go dc_4_0, J_aload_0, K_al, ld_0, am_go dc_4_1, co_4_3 own_4, am_go dc_4_4, am_go dc_4_5, J_iconst, c32_5, am_go dc_4_6, am_go dc_4_8, J_putfield_i, J_putfield_l, J_putfield_r, ini_4, pk_4_9_4, am_go dc_4_11, am_go dc_4_12, c32_0, am_go dc_4_13, am_go dc_4_15, pk_4_15_4, am_go dc_4_18, am_go dc_4_19, am_go dc_4_20, am_go dc_4_22, pk_4_19_4, am_go dc_4_25, am_go dc_4_26, am_go dc_4_27, am_go dc_4_29, pk_4_22_4, am_go dc_4_32, am_go dc_4_33, J_bipush, c8_20, am_go dc_4_35, am_go dc_4_37, pk_4_26_4, am_go dc_4_40, am_go dc_4_41, am_go dc_4_43, am_go dc_4_45, pk_4_29_4, am_go dc_4_48, am_go dc_4_49, am_go dc_4_50, am_go dc_4_52, pk_4_32_4, am_go dc_4_55, am_go dc_4_56, am_go dc_4_57, am_go dc_4_59, pk_4_35_4, am_go dc_4_62, am_go dc_4_63, J_aload_1, ld_1, am_go dc_4_64, pk_4_38_4, am_go dc_4_67, J_ret_v ret_4, pf_a pk_4_9_4 rfl, pf_a pk_4_15_4 rfl, pf_a pk_4_19_4 rfl, pf_a pk_4_22_4 rfl, pf_a pk_4_26_4 rfl, pf_a pk_4_29_4 rfl, pf_a pk_4_32_4 rfl, pf_a pk_4_35_4 rfl, pf_o pk_4_38_4 rfl, zI_add, zI_mul, zI_lt, zI_le, zI_eq, zI_neg, zI_pos, zI_ne0, zI_gt0, zB_0, lg_cmp_ge, lg_cmp_le, lg_cmp_gt, lg_cmp_lt, lg_cmp_eq, ail_r, abl_r, all_r, ais_r, abs_r, als_r, aal_r, aal_q, aln_r, vrf_s, vrf_n, z32, J_nai, J_nal, J_naz, ovr_0, ov_cu, ov_cu0, cu_s, cu_o, orE_s, Nat.add_assoc, List.length_cons, List.length_nil, Nat.reduceAdd, Nat.reduceLT, Nat.reduceLeDiff, Nat.reduceEqDiff, ↓reduceIte, bind_s, if_true, if_false, not_true_eq_false, not_false_eq_true, Nat.zero_add]
  refine congrArg (fun x : am_S => some ((.inl none : am_R), x)) (Prod.ext (ov_ext (fun k => ?_)) rfl)
  match k with
  | 0 => rfl
  | 1 => rfl
  | 2 => rfl
  | 3 => rfl
  | 4 => rfl
  | 5 => rfl
  | 6 => rfl
  | 7 => rfl
  | 8 => rfl
  | k + 9 =>
    simp (disch := omega) only [cu_o]
    rfl
theorem w_init : am_f X (d + 1) 5 [.ref w, .ref t] (am_up h w (.inr (5, am_df 5)), (w + 1, s)) = some (.inl none, (ov h w (wC0 w t), (w + 4, s + 162))) := by
  rw [ov_new, fU_5]
  simp (disch := first | omega | exact Nat.le_of_ble_eq_true rfl) only [own_5, am_go dc_5_0, J_aload_0, K_al, ld_0, am_go dc_5_1, co_5_3 own_5, am_go dc_5_4, am_go dc_5_5, J_sipush, c16_162, am_go dc_5_8, am_go dc_5_10, J_putfield_i, J_putfield_l, J_putfield_r, ini_5, pk_5_11_5, am_go dc_5_13, am_go dc_5_14, J_iconst, c32_0, am_go dc_5_15, am_go dc_5_17, pk_5_15_5, am_go dc_5_20, am_go dc_5_21, am_go dc_5_22, am_go dc_5_24, pk_5_18_5, am_go dc_5_27, am_go dc_5_28, J_aload_1, ld_1, am_go dc_5_29, pk_5_22_5, am_go dc_5_32, J_ret_v ret_5, pf_a pk_5_11_5 rfl, pf_a pk_5_15_5 rfl, pf_a pk_5_18_5 rfl, pf_o pk_5_22_5 rfl, zI_add, zI_mul, zI_lt, zI_le, zI_eq, zI_neg, zI_pos, zI_ne0, zI_gt0, zB_0, lg_cmp_ge, lg_cmp_le, lg_cmp_gt, lg_cmp_lt, lg_cmp_eq, ail_r, abl_r, all_r, ais_r, abs_r, als_r, aal_r, aal_q, aln_r, vrf_s, vrf_n, z32, J_nai, J_nal, J_naz, ovr_0, ov_cu, ov_cu0, cu_s, cu_o, orE_s, Nat.add_assoc, List.length_cons, List.length_nil, Nat.reduceAdd, Nat.reduceLT, Nat.reduceLeDiff, Nat.reduceEqDiff, ↓reduceIte, bind_s, if_true, if_false, not_true_eq_false, not_false_eq_true, Nat.zero_add]
  refine congrArg (fun x : am_S => some ((.inl none : am_R), x)) (Prod.ext (ov_ext (fun k => ?_)) rfl)
  match k with
  | 0 => rfl
  | 1 => rfl
  | 2 => rfl
  | 3 => rfl
  | k + 4 =>
    simp (disch := omega) only [cu_o]
    rfl
theorem cL_of {D : mU × (Nat × Nat × Nat × Nat)} (hk : lOkk l D.2) (h0 : isO H l (lC l D)) (hm : H D.2.2.1 = some (.inl (.long, D.2.2.2.2, .inr (.inl (D.1.2.1 3))))) (ha : H D.2.2.2.1 = some (.inl (.int, D.2.2.2.2, .inl (D.1.1 4)))) : cL H l D := by
  refine ⟨hk, ?_⟩
  unfold lH lB
  rw [up_id hm, up_id ha]
  exact ov_eq h0
theorem cW_of {D : mU × (Nat × Nat × Nat × Nat × Nat)} (hk : wOkk w D.2) (h0 : isO H w (wC w D)) (hm : H D.2.2.1 = some (.inl (.int, D.2.2.2.1, .inl (D.1.1 3)))) (ha : H D.2.2.2.2.1 = some (.inl (.long, D.2.2.2.2.2, .inr (.inl (D.1.2.1 4))))) : cW H w D := by
  refine ⟨hk, ?_⟩
  unfold wH wB
  rw [up_id hm, up_id ha]
  exact ov_eq h0
theorem J_mn : am_J X rec 0 (some (.multianewarray 62 2, nx, tg)) pc lv (.int (zI 120) :: .int (zI 8) :: st) σ = am_I X rec 0 nx lv (.ref σ.2.1 :: st) (am_rows σ.1 σ.2.1 8 120, σ.2.1 + 9, σ.2.2 + 968) := by
  rw [J_mna]
  unfold am_heap
  simp only
  rw [zI_in (show 8 < 257 by omega) (by omega), zI_in (show 120 < 257 by omega) (by omega), zI_nat (show 8 < 2147483648 by omega), zI_nat (show 120 < 2147483648 by omega), show (am_own 0 == 0) = true by decide +kernel]
  rfl
theorem lC0_k {k : Nat} (h2 : k ≠ 2) (h3 : k ≠ 3) : lC0 l t k = lC l (P00, (t, l + 2, l + 3, 0)) k := by
  unfold lC0
  rw [if_neg h2, if_neg h3]
theorem wC0_k {k : Nat} (h2 : k ≠ 2) (h3 : k ≠ 3) : wC0 w t k = wC w (P00, (t, w + 2, 0, w + 3, 0)) k := by
  unfold wC0
  rw [if_neg h2, if_neg h3]
theorem sg_1 {fs : List Value} (hH : H o = some (.inr (0, fs))) (hl : fs.length = 13) : ∃ H', am_I X (am_f X (d + 2)) 0 4 [some (.ref o)] [] (H, (o + 1, s)) = am_I X (am_f X (d + 2)) 0 15 [some (.ref o)] [] (H', (o + 9, s + 101)) ∧ H' o = some (.inr (0, fs.set 0 (.ref (o + 1)))) ∧ isT H' (o + 1) T00 ∧ ∀ x, x ≠ o → (x < o + 1 ∨ o + 9 ≤ x) → H' x = H x := by
  have kt : am_f X (d + 2) 1 [.ref (o + 1)] (am_up H (o + 1) (.inr (1, am_df 1)), (o + 2, s + 10)) = some (.inl none, (tH H (o + 1) T00, (o + 9, s + 10 + 91))) := t_init (t := o + 1)
  have h0 : (tH H (o + 1) T00) o = some (.inr (0, fs)) := by
    rw [tH_x (by omega)]
    exact hH
  have fr : ∀ x, x < o + 1 ∨ o + 9 ≤ x → (tH H (o + 1) T00) x = H x := fun x hx => by
    exact tH_x (by omega)
  refine ⟨am_up (tH H (o + 1) T00) o (.inr (0, fs.set 0 (.ref (o + 1)))), ?_, up_r, isT.fr tH_is (fun x q1 q2 => up_x (by omega)), fun x q1 q2 => (up_x q1).trans (fr x q2)⟩
  rw [am_go dc_0_4]
  simp (disch := first | omega | exact Nat.le_of_ble_eq_true rfl | exact up_r | exact hl) only [own_0, am_go dc_0_4, J_aload_0, K_al, ld_0, am_go dc_0_5, am_go dc_0_8, J_dup_i, J_dup_r, am_go dc_0_9, cn_0_11 own_0, JR_0, am_go dc_0_12, J_putfield_i, J_putfield_l, J_putfield_r, ini_0, pk_0_12_0, pf_o pk_0_12_0 rfl, pf_o pk_0_19_0 rfl, pf_o pk_0_23_0 rfl, pf_o pk_0_26_0 rfl, pf_o pk_0_32_0 rfl, pf_o pk_0_41_0 rfl, pf_o pk_0_48_0 rfl, pf_a pk_0_52_0 rfl, pf_a pk_0_58_0 rfl, pf_a pk_0_64_0 rfl, pf_a pk_0_67_0 rfl, pf_a pk_0_70_0 rfl, zI_add, zI_mul, zI_lt, zI_le, zI_eq, zI_neg, zI_pos, zI_ne0, zI_gt0, zB_0, lg_cmp_ge, lg_cmp_le, lg_cmp_gt, lg_cmp_lt, lg_cmp_eq, ail_r, abl_r, all_r, ais_r, abs_r, als_r, aal_r, aal_q, aln_r, vrf_s, vrf_n, z32, h0, df_1, df_2, df_3, df_4, df_5, Nat.add_assoc, kt, J_newc (t := 0) (k := 9) (ci := 1) (by decide +kernel), List.length_cons, List.length_nil, Nat.reduceAdd, Nat.reduceLT, Nat.reduceLeDiff, Nat.reduceEqDiff, ↓reduceIte, bind_s, if_true, if_false, not_true_eq_false, not_false_eq_true, Nat.zero_add]
theorem sg_2 {fs : List Value} (hH : H o = some (.inr (0, fs))) (hl : fs.length = 13) : ∃ H', am_I X (am_f X (d + 2)) 0 15 [some (.ref o)] [] (H, (o + 9, s)) = am_I X (am_f X (d + 2)) 0 26 [some (.ref o)] [] (H', (o + 14, s + 35)) ∧ H' o = some (.inr (0, fs.set 1 (.ref (o + 9)))) ∧ isP H' (o + 9) P00 ∧ ∀ x, x ≠ o → (x < o + 9 ∨ o + 14 ≤ x) → H' x = H x := by
  have kt : am_f X (d + 2) 2 [.ref (o + 9)] (am_up H (o + 9) (.inr (2, am_df 2)), (o + 10, s + 5)) = some (.inl none, (pH H (o + 9) P00, (o + 14, s + 5 + 30))) := p_init (p := o + 9)
  have h0 : (pH H (o + 9) P00) o = some (.inr (0, fs)) := by
    rw [pH_x (by omega)]
    exact hH
  have fr : ∀ x, x < o + 9 ∨ o + 14 ≤ x → (pH H (o + 9) P00) x = H x := fun x hx => by
    exact pH_x (by omega)
  refine ⟨am_up (pH H (o + 9) P00) o (.inr (0, fs.set 1 (.ref (o + 9)))), ?_, up_r, isP.fr pH_is (fun x q1 q2 => up_x (by omega)), fun x q1 q2 => (up_x q1).trans (fr x q2)⟩
  rw [am_go dc_0_15]
  simp (disch := first | omega | exact Nat.le_of_ble_eq_true rfl | exact up_r | exact hl) only [own_0, am_go dc_0_15, J_aload_0, K_al, ld_0, am_go dc_0_16, am_go dc_0_19, J_dup_i, J_dup_r, am_go dc_0_20, cn_0_18 own_0, JR_0, am_go dc_0_23, J_putfield_i, J_putfield_l, J_putfield_r, ini_0, pk_0_19_0, pf_o pk_0_12_0 rfl, pf_o pk_0_19_0 rfl, pf_o pk_0_23_0 rfl, pf_o pk_0_26_0 rfl, pf_o pk_0_32_0 rfl, pf_o pk_0_41_0 rfl, pf_o pk_0_48_0 rfl, pf_a pk_0_52_0 rfl, pf_a pk_0_58_0 rfl, pf_a pk_0_64_0 rfl, pf_a pk_0_67_0 rfl, pf_a pk_0_70_0 rfl, zI_add, zI_mul, zI_lt, zI_le, zI_eq, zI_neg, zI_pos, zI_ne0, zI_gt0, zB_0, lg_cmp_ge, lg_cmp_le, lg_cmp_gt, lg_cmp_lt, lg_cmp_eq, ail_r, abl_r, all_r, ais_r, abs_r, als_r, aal_r, aal_q, aln_r, vrf_s, vrf_n, z32, h0, df_1, df_2, df_3, df_4, df_5, Nat.add_assoc, kt, J_newc (t := 0) (k := 16) (ci := 2) (by decide +kernel), List.length_cons, List.length_nil, Nat.reduceAdd, Nat.reduceLT, Nat.reduceLeDiff, Nat.reduceEqDiff, ↓reduceIte, bind_s, if_true, if_false, not_true_eq_false, not_false_eq_true, Nat.zero_add]
theorem sg_3 {fs : List Value} (hH : H o = some (.inr (0, fs))) (hl : fs.length = 13) : ∃ H', am_I X (am_f X (d + 2)) 0 26 [some (.ref o)] [] (H, (o + 14, s)) = am_I X (am_f X (d + 2)) 0 37 [some (.ref o)] [] (H', (o + 22, s + 101)) ∧ H' o = some (.inr (0, fs.set 2 (.ref (o + 14)))) ∧ isT H' (o + 14) T00 ∧ ∀ x, x ≠ o → (x < o + 14 ∨ o + 22 ≤ x) → H' x = H x := by
  have kt : am_f X (d + 2) 1 [.ref (o + 14)] (am_up H (o + 14) (.inr (1, am_df 1)), (o + 15, s + 10)) = some (.inl none, (tH H (o + 14) T00, (o + 22, s + 10 + 91))) := t_init (t := o + 14)
  have h0 : (tH H (o + 14) T00) o = some (.inr (0, fs)) := by
    rw [tH_x (by omega)]
    exact hH
  have fr : ∀ x, x < o + 14 ∨ o + 22 ≤ x → (tH H (o + 14) T00) x = H x := fun x hx => by
    exact tH_x (by omega)
  refine ⟨am_up (tH H (o + 14) T00) o (.inr (0, fs.set 2 (.ref (o + 14)))), ?_, up_r, isT.fr tH_is (fun x q1 q2 => up_x (by omega)), fun x q1 q2 => (up_x q1).trans (fr x q2)⟩
  rw [am_go dc_0_26]
  simp (disch := first | omega | exact Nat.le_of_ble_eq_true rfl | exact up_r | exact hl) only [own_0, am_go dc_0_26, J_aload_0, K_al, ld_0, am_go dc_0_27, am_go dc_0_30, J_dup_i, J_dup_r, am_go dc_0_31, cn_0_11 own_0, JR_0, am_go dc_0_34, J_putfield_i, J_putfield_l, J_putfield_r, ini_0, pk_0_23_0, pf_o pk_0_12_0 rfl, pf_o pk_0_19_0 rfl, pf_o pk_0_23_0 rfl, pf_o pk_0_26_0 rfl, pf_o pk_0_32_0 rfl, pf_o pk_0_41_0 rfl, pf_o pk_0_48_0 rfl, pf_a pk_0_52_0 rfl, pf_a pk_0_58_0 rfl, pf_a pk_0_64_0 rfl, pf_a pk_0_67_0 rfl, pf_a pk_0_70_0 rfl, zI_add, zI_mul, zI_lt, zI_le, zI_eq, zI_neg, zI_pos, zI_ne0, zI_gt0, zB_0, lg_cmp_ge, lg_cmp_le, lg_cmp_gt, lg_cmp_lt, lg_cmp_eq, ail_r, abl_r, all_r, ais_r, abs_r, als_r, aal_r, aal_q, aln_r, vrf_s, vrf_n, z32, h0, df_1, df_2, df_3, df_4, df_5, Nat.add_assoc, kt, J_newc (t := 0) (k := 9) (ci := 1) (by decide +kernel), List.length_cons, List.length_nil, Nat.reduceAdd, Nat.reduceLT, Nat.reduceLeDiff, Nat.reduceEqDiff, ↓reduceIte, bind_s, if_true, if_false, not_true_eq_false, not_false_eq_true, Nat.zero_add]
theorem sg_4 {fs : List Value} (hH : H o = some (.inr (0, fs))) (hl : fs.length = 13) : ∃ H', am_I X (am_f X (d + 2)) 0 37 [some (.ref o)] [] (H, (o + 22, s)) = am_I X (am_f X (d + 2)) 0 48 [some (.ref o)] [] (H', (o + 27, s + 35)) ∧ H' o = some (.inr (0, fs.set 3 (.ref (o + 22)))) ∧ isP H' (o + 22) P00 ∧ ∀ x, x ≠ o → (x < o + 22 ∨ o + 27 ≤ x) → H' x = H x := by
  have kt : am_f X (d + 2) 2 [.ref (o + 22)] (am_up H (o + 22) (.inr (2, am_df 2)), (o + 23, s + 5)) = some (.inl none, (pH H (o + 22) P00, (o + 27, s + 5 + 30))) := p_init (p := o + 22)
  have h0 : (pH H (o + 22) P00) o = some (.inr (0, fs)) := by
    rw [pH_x (by omega)]
    exact hH
  have fr : ∀ x, x < o + 22 ∨ o + 27 ≤ x → (pH H (o + 22) P00) x = H x := fun x hx => by
    exact pH_x (by omega)
  refine ⟨am_up (pH H (o + 22) P00) o (.inr (0, fs.set 3 (.ref (o + 22)))), ?_, up_r, isP.fr pH_is (fun x q1 q2 => up_x (by omega)), fun x q1 q2 => (up_x q1).trans (fr x q2)⟩
  rw [am_go dc_0_37]
  simp (disch := first | omega | exact Nat.le_of_ble_eq_true rfl | exact up_r | exact hl) only [own_0, am_go dc_0_37, J_aload_0, K_al, ld_0, am_go dc_0_38, am_go dc_0_41, J_dup_i, J_dup_r, am_go dc_0_42, cn_0_18 own_0, JR_0, am_go dc_0_45, J_putfield_i, J_putfield_l, J_putfield_r, ini_0, pk_0_26_0, pf_o pk_0_12_0 rfl, pf_o pk_0_19_0 rfl, pf_o pk_0_23_0 rfl, pf_o pk_0_26_0 rfl, pf_o pk_0_32_0 rfl, pf_o pk_0_41_0 rfl, pf_o pk_0_48_0 rfl, pf_a pk_0_52_0 rfl, pf_a pk_0_58_0 rfl, pf_a pk_0_64_0 rfl, pf_a pk_0_67_0 rfl, pf_a pk_0_70_0 rfl, zI_add, zI_mul, zI_lt, zI_le, zI_eq, zI_neg, zI_pos, zI_ne0, zI_gt0, zB_0, lg_cmp_ge, lg_cmp_le, lg_cmp_gt, lg_cmp_lt, lg_cmp_eq, ail_r, abl_r, all_r, ais_r, abs_r, als_r, aal_r, aal_q, aln_r, vrf_s, vrf_n, z32, h0, df_1, df_2, df_3, df_4, df_5, Nat.add_assoc, kt, J_newc (t := 0) (k := 16) (ci := 2) (by decide +kernel), List.length_cons, List.length_nil, Nat.reduceAdd, Nat.reduceLT, Nat.reduceLeDiff, Nat.reduceEqDiff, ↓reduceIte, bind_s, if_true, if_false, not_true_eq_false, not_false_eq_true, Nat.zero_add]
theorem sg_5 {fs : List Value} (hH : H o = some (.inr (0, fs))) (hl : fs.length = 13) : ∃ H', am_I X (am_f X (d + 2)) 0 48 [some (.ref o)] [] (H, (o + 27, s)) = am_I X (am_f X (d + 2)) 0 59 [some (.ref o)] [] (H', (o + 40, s + 128)) ∧ H' o = some (.inr (0, fs.set 5 (.ref (o + 27)))) ∧ isE H' (o + 27) (P00, o + 28) ∧ isT H' (o + 29) T00 ∧ ∀ x, x ≠ o → (x < o + 27 ∨ o + 40 ≤ x) → H' x = H x := by
  have exx : ∀ x, x < o + 27 ∨ o + 40 ≤ x → ov H (o + 27) (eC0 (o + 27)) x = H x := fun x hx => ov_x (fun k hk => by
    match k, hk with
    | 0, _ => omega
    | 1, _ => omega
    | 2, _ => rfl
    | 3, _ => rfl
    | 4, _ => rfl
    | 5, _ => rfl
    | 6, _ => rfl
    | 7, _ => rfl
    | 8, _ => rfl
    | 9, _ => rfl
    | 10, _ => omega
    | 11, _ => omega
    | 12, _ => omega
    | k + 13, _ => rfl)
  have kt : am_f X (d + 2) 3 [.ref (o + 27)] (am_up H (o + 27) (.inr (3, am_df 3)), (o + 28, s + 15)) = some (.inl none, (tH (ov H (o + 27) (eC0 (o + 27))) (o + 29) T00, (o + 40, s + 15 + 113))) := e_init (e := o + 27)
  have h0 : (tH (ov H (o + 27) (eC0 (o + 27))) (o + 29) T00) o = some (.inr (0, fs)) := by
    rw [tH_x (by omega), exx _ (by omega)]
    exact hH
  have fr : ∀ x, x < o + 27 ∨ o + 40 ≤ x → (tH (ov H (o + 27) (eC0 (o + 27))) (o + 29) T00) x = H x := fun x hx => by
    rw [tH_x (by omega), exx x (by omega)]
  refine ⟨am_up (tH (ov H (o + 27) (eC0 (o + 27))) (o + 29) T00) o (.inr (0, fs.set 5 (.ref (o + 27)))), ?_, up_r, (fun k e hc => ?_), isT.fr (tH_is (t := o + 29)) (fun x q1 q2 => up_x (by omega)), fun x q1 q2 => (up_x q1).trans (fr x q2)⟩
  · rw [am_go dc_0_48]
    simp (disch := first | omega | exact Nat.le_of_ble_eq_true rfl | exact up_r | exact hl) only [own_0, am_go dc_0_48, J_aload_0, K_al, ld_0, am_go dc_0_49, am_go dc_0_52, J_dup_i, J_dup_r, am_go dc_0_53, cn_0_31 own_0, JR_0, am_go dc_0_56, J_putfield_i, J_putfield_l, J_putfield_r, ini_0, pk_0_32_0, pf_o pk_0_12_0 rfl, pf_o pk_0_19_0 rfl, pf_o pk_0_23_0 rfl, pf_o pk_0_26_0 rfl, pf_o pk_0_32_0 rfl, pf_o pk_0_41_0 rfl, pf_o pk_0_48_0 rfl, pf_a pk_0_52_0 rfl, pf_a pk_0_58_0 rfl, pf_a pk_0_64_0 rfl, pf_a pk_0_67_0 rfl, pf_a pk_0_70_0 rfl, zI_add, zI_mul, zI_lt, zI_le, zI_eq, zI_neg, zI_pos, zI_ne0, zI_gt0, zB_0, lg_cmp_ge, lg_cmp_le, lg_cmp_gt, lg_cmp_lt, lg_cmp_eq, ail_r, abl_r, all_r, ais_r, abs_r, als_r, aal_r, aal_q, aln_r, vrf_s, vrf_n, z32, h0, df_1, df_2, df_3, df_4, df_5, Nat.add_assoc, kt, J_newc (t := 0) (k := 29) (ci := 3) (by decide +kernel), List.length_cons, List.length_nil, Nat.reduceAdd, Nat.reduceLT, Nat.reduceLeDiff, Nat.reduceEqDiff, ↓reduceIte, bind_s, if_true, if_false, not_true_eq_false, not_false_eq_true, Nat.zero_add]
  · have hk : k = 0 ∨ k = 10 ∨ k = 11 ∨ k = 12 := by
      match k, hc with
      | 0, _ => omega
      | 10, _ => omega
      | 11, _ => omega
      | 12, _ => omega
      | 1, hc => exact absurd (show (none : Option am_E) = some e from hc) (by simp)
      | 2, hc => exact absurd (show (none : Option am_E) = some e from hc) (by simp)
      | 3, hc => exact absurd (show (none : Option am_E) = some e from hc) (by simp)
      | 4, hc => exact absurd (show (none : Option am_E) = some e from hc) (by simp)
      | 5, hc => exact absurd (show (none : Option am_E) = some e from hc) (by simp)
      | 6, hc => exact absurd (show (none : Option am_E) = some e from hc) (by simp)
      | 7, hc => exact absurd (show (none : Option am_E) = some e from hc) (by simp)
      | 8, hc => exact absurd (show (none : Option am_E) = some e from hc) (by simp)
      | 9, hc => exact absurd (show (none : Option am_E) = some e from hc) (by simp)
      | k + 13, hc => exact absurd (show (none : Option am_E) = some e from hc) (by simp)
    have hc0 : eC0 (o + 27) k = some e := by
      unfold eC0
      rw [if_neg (by omega)]
      exact hc
    rw [up_x (by omega), tH_x (by omega)]
    exact ov_r hc0
theorem sg_6 {fs : List Value} (hH : H o = some (.inr (0, fs))) (hl : fs.length = 13) (hf0 : fs[0]? = some (.ref (o + 1))) : ∃ H', am_I X (am_f X (d + 2)) 0 59 [some (.ref o)] [] (H, (o + 40, s)) = am_I X (am_f X (d + 2)) 0 74 [some (.ref o)] [] (H', (o + 49, s + 74)) ∧ H' o = some (.inr (0, fs.set 6 (.ref (o + 40)))) ∧ cL H' (o + 40) (P00, (o + 1, o + 42, o + 43, 0)) ∧ ∀ x, x ≠ o → (x < o + 40 ∨ o + 49 ≤ x) → H' x = H x := by
  have exx : ∀ x, x < o + 40 ∨ o + 49 ≤ x → ov H (o + 40) (lC0 (o + 40) (o + 1)) x = H x := fun x hx => ov_x (fun k hk => by
    by_cases c : k < 9
    · omega
    · match k, c with
      | k + 9, _ => rfl)
  have hu : am_up H (o + 40) (.inr (4, am_df 4)) o = some (.inr (0, fs)) := by
    rw [up_x (by omega)]
    exact hH
  have kt : am_f X (d + 2) 4 [.ref (o + 40), .ref (o + 1)] (am_up H (o + 40) (.inr (4, am_df 4)), (o + 41, s + 14)) = some (.inl none, (ov H (o + 40) (lC0 (o + 40) (o + 1)), (o + 49, s + 14 + 60))) := l_init (l := o + 40)
  have h0 : (ov H (o + 40) (lC0 (o + 40) (o + 1))) o = some (.inr (0, fs)) := by
    rw [exx _ (by omega)]
    exact hH
  have fr : ∀ x, x < o + 40 ∨ o + 49 ≤ x → (ov H (o + 40) (lC0 (o + 40) (o + 1))) x = H x := fun x hx => by
    exact exx x (by omega)
  refine ⟨am_up (ov H (o + 40) (lC0 (o + 40) (o + 1))) o (.inr (0, fs.set 6 (.ref (o + 40)))), ?_, up_r, cL_of ⟨⟨by show o + 42 ≠ o + 40; omega, by show o + 42 ≠ o + 41; omega, by show o + 42 ≠ o + 44; omega, by show o + 42 ≠ o + 45; omega, by show o + 42 ≠ o + 46; omega, by show o + 42 ≠ o + 47; omega, by show o + 42 ≠ o + 48; omega⟩, ⟨by show o + 43 ≠ o + 40; omega, by show o + 43 ≠ o + 41; omega, by show o + 43 ≠ o + 44; omega, by show o + 43 ≠ o + 45; omega, by show o + 43 ≠ o + 46; omega, by show o + 43 ≠ o + 47; omega, by show o + 43 ≠ o + 48; omega⟩, by show o + 42 ≠ o + 43; omega⟩ (fun k e hc => ?_) ((up_x (by show o + 42 ≠ o; omega)).trans (ov_r (k := 2) rfl)) ((up_x (by show o + 43 ≠ o; omega)).trans (ov_r (k := 3) rfl)), fun x q1 q2 => (up_x q1).trans (fr x q2)⟩
  · rw [am_go dc_0_59]
    simp (disch := first | omega | exact Nat.le_of_ble_eq_true rfl | exact up_r | exact hl) only [own_0, am_go dc_0_59, J_aload_0, K_al, ld_0, am_go dc_0_60, am_go dc_0_63, J_dup_i, J_dup_r, am_go dc_0_64, am_go dc_0_65, J_getfield, gf_r, fk_0_12_0, am_go dc_0_68, cn_0_38 own_0, JR_0, am_go dc_0_71, J_putfield_i, J_putfield_l, J_putfield_r, ini_0, pk_0_41_0, pf_o pk_0_12_0 rfl, pf_o pk_0_19_0 rfl, pf_o pk_0_23_0 rfl, pf_o pk_0_26_0 rfl, pf_o pk_0_32_0 rfl, pf_o pk_0_41_0 rfl, pf_o pk_0_48_0 rfl, pf_a pk_0_52_0 rfl, pf_a pk_0_58_0 rfl, pf_a pk_0_64_0 rfl, pf_a pk_0_67_0 rfl, pf_a pk_0_70_0 rfl, zI_add, zI_mul, zI_lt, zI_le, zI_eq, zI_neg, zI_pos, zI_ne0, zI_gt0, zB_0, lg_cmp_ge, lg_cmp_le, lg_cmp_gt, lg_cmp_lt, lg_cmp_eq, ail_r, abl_r, all_r, ais_r, abs_r, als_r, aal_r, aal_q, aln_r, vrf_s, vrf_n, z32, h0, df_1, df_2, df_3, df_4, df_5, Nat.add_assoc, kt, hu, hf0, J_newc (t := 0) (k := 36) (ci := 4) (by decide +kernel), List.length_cons, List.length_nil, Nat.reduceAdd, Nat.reduceLT, Nat.reduceLeDiff, Nat.reduceEqDiff, ↓reduceIte, bind_s, if_true, if_false, not_true_eq_false, not_false_eq_true, Nat.zero_add]
  · rw [up_x (by omega)]
    refine ov_r ?_
    rw [lC0_k (fun q => by subst q; exact absurd (show (none : Option am_E) = some e from hc) (by simp)) (fun q => by subst q; exact absurd (show (none : Option am_E) = some e from hc) (by simp))]
    exact hc
theorem sg_7 {fs : List Value} (hH : H o = some (.inr (0, fs))) (hl : fs.length = 13) (hf0 : fs[0]? = some (.ref (o + 1))) : ∃ H', am_I X (am_f X (d + 2)) 0 74 [some (.ref o)] [] (H, (o + 49, s)) = am_I X (am_f X (d + 2)) 0 89 [some (.ref o)] [] (H', (o + 53, s + 170)) ∧ H' o = some (.inr (0, fs.set 7 (.ref (o + 49)))) ∧ cW H' (o + 49) (P00, (o + 1, o + 51, 0, o + 52, 0)) ∧ ∀ x, x ≠ o → (x < o + 49 ∨ o + 53 ≤ x) → H' x = H x := by
  have exx : ∀ x, x < o + 49 ∨ o + 53 ≤ x → ov H (o + 49) (wC0 (o + 49) (o + 1)) x = H x := fun x hx => ov_x (fun k hk => by
    by_cases c : k < 4
    · omega
    · match k, c with
      | k + 4, _ => rfl)
  have hu : am_up H (o + 49) (.inr (5, am_df 5)) o = some (.inr (0, fs)) := by
    rw [up_x (by omega)]
    exact hH
  have kt : am_f X (d + 2) 5 [.ref (o + 49), .ref (o + 1)] (am_up H (o + 49) (.inr (5, am_df 5)), (o + 50, s + 8)) = some (.inl none, (ov H (o + 49) (wC0 (o + 49) (o + 1)), (o + 53, s + 8 + 162))) := w_init (w := o + 49)
  have h0 : (ov H (o + 49) (wC0 (o + 49) (o + 1))) o = some (.inr (0, fs)) := by
    rw [exx _ (by omega)]
    exact hH
  have fr : ∀ x, x < o + 49 ∨ o + 53 ≤ x → (ov H (o + 49) (wC0 (o + 49) (o + 1))) x = H x := fun x hx => by
    exact exx x (by omega)
  refine ⟨am_up (ov H (o + 49) (wC0 (o + 49) (o + 1))) o (.inr (0, fs.set 7 (.ref (o + 49)))), ?_, up_r, cW_of ⟨⟨by show o + 51 ≠ o + 49; omega, by show o + 51 ≠ o + 50; omega⟩, ⟨by show o + 52 ≠ o + 49; omega, by show o + 52 ≠ o + 50; omega⟩, by show o + 51 ≠ o + 52; omega⟩ (fun k e hc => ?_) ((up_x (by show o + 51 ≠ o; omega)).trans (ov_r (k := 2) rfl)) ((up_x (by show o + 52 ≠ o; omega)).trans (ov_r (k := 3) rfl)), fun x q1 q2 => (up_x q1).trans (fr x q2)⟩
  · rw [am_go dc_0_74]
    simp (disch := first | omega | exact Nat.le_of_ble_eq_true rfl | exact up_r | exact hl) only [own_0, am_go dc_0_74, J_aload_0, K_al, ld_0, am_go dc_0_75, am_go dc_0_78, J_dup_i, J_dup_r, am_go dc_0_79, am_go dc_0_80, J_getfield, gf_r, fk_0_12_0, am_go dc_0_83, cn_0_47 own_0, JR_0, am_go dc_0_86, J_putfield_i, J_putfield_l, J_putfield_r, ini_0, pk_0_48_0, pf_o pk_0_12_0 rfl, pf_o pk_0_19_0 rfl, pf_o pk_0_23_0 rfl, pf_o pk_0_26_0 rfl, pf_o pk_0_32_0 rfl, pf_o pk_0_41_0 rfl, pf_o pk_0_48_0 rfl, pf_a pk_0_52_0 rfl, pf_a pk_0_58_0 rfl, pf_a pk_0_64_0 rfl, pf_a pk_0_67_0 rfl, pf_a pk_0_70_0 rfl, zI_add, zI_mul, zI_lt, zI_le, zI_eq, zI_neg, zI_pos, zI_ne0, zI_gt0, zB_0, lg_cmp_ge, lg_cmp_le, lg_cmp_gt, lg_cmp_lt, lg_cmp_eq, ail_r, abl_r, all_r, ais_r, abs_r, als_r, aal_r, aal_q, aln_r, vrf_s, vrf_n, z32, h0, df_1, df_2, df_3, df_4, df_5, Nat.add_assoc, kt, hu, hf0, J_newc (t := 0) (k := 45) (ci := 5) (by decide +kernel), List.length_cons, List.length_nil, Nat.reduceAdd, Nat.reduceLT, Nat.reduceLeDiff, Nat.reduceEqDiff, ↓reduceIte, bind_s, if_true, if_false, not_true_eq_false, not_false_eq_true, Nat.zero_add]
  · rw [up_x (by omega)]
    refine ov_r ?_
    rw [wC0_k (fun q => by subst q; exact absurd (show (none : Option am_E) = some e from hc) (by simp)) (fun q => by subst q; exact absurd (show (none : Option am_E) = some e from hc) (by simp))]
    exact hc
theorem sg_8 {fs : List Value} (hH : H o = some (.inr (0, fs))) (hl : fs.length = 13) : ∃ H', am_I X (am_f X (d + 2)) 0 89 [some (.ref o)] [] (H, (o + 53, s)) = am_I X (am_f X (d + 2)) 0 97 [some (.ref o)] [] (H', (o + 54, s + 8)) ∧ H' o = some (.inr (0, fs.set 8 (.ref (o + 53)))) ∧ H' (o + 53) = some (.inl (.int, 8, .inl (fun _ => 0))) ∧ ∀ x, x ≠ o → (x < o + 53 ∨ o + 54 ≤ x) → H' x = H x := by
  have h0 : (am_up H (o + 53) (.inl (.int, 8, .inl (fun _ => 0)))) o = some (.inr (0, fs)) := by
    rw [up_x (by omega)]
    exact hH
  have fr : ∀ x, x < o + 53 ∨ o + 54 ≤ x → (am_up H (o + 53) (.inl (.int, 8, .inl (fun _ => 0)))) x = H x := fun x hx => by
    exact up_x (by omega)
  refine ⟨am_up (am_up H (o + 53) (.inl (.int, 8, .inl (fun _ => 0)))) o (.inr (0, fs.set 8 (.ref (o + 53)))), ?_, up_r, (up_x (by omega)).trans up_r, fun x q1 q2 => (up_x q1).trans (fr x q2)⟩
  rw [am_go dc_0_89]
  simp (disch := first | omega | exact Nat.le_of_ble_eq_true rfl | exact up_r | exact hl) only [own_0, am_go dc_0_89, J_aload_0, K_al, ld_0, am_go dc_0_90, J_bipush, c8_8, am_go dc_0_92, am_go dc_0_94, J_putfield_i, J_putfield_l, J_putfield_r, ini_0, pk_0_52_0, pf_o pk_0_12_0 rfl, pf_o pk_0_19_0 rfl, pf_o pk_0_23_0 rfl, pf_o pk_0_26_0 rfl, pf_o pk_0_32_0 rfl, pf_o pk_0_41_0 rfl, pf_o pk_0_48_0 rfl, pf_a pk_0_52_0 rfl, pf_a pk_0_58_0 rfl, pf_a pk_0_64_0 rfl, pf_a pk_0_67_0 rfl, pf_a pk_0_70_0 rfl, zI_add, zI_mul, zI_lt, zI_le, zI_eq, zI_neg, zI_pos, zI_ne0, zI_gt0, zB_0, lg_cmp_ge, lg_cmp_le, lg_cmp_gt, lg_cmp_lt, lg_cmp_eq, ail_r, abl_r, all_r, ais_r, abs_r, als_r, aal_r, aal_q, aln_r, vrf_s, vrf_n, z32, h0, df_1, df_2, df_3, df_4, df_5, Nat.add_assoc, J_nai, List.length_cons, List.length_nil, Nat.reduceAdd, Nat.reduceLT, Nat.reduceLeDiff, Nat.reduceEqDiff, ↓reduceIte, bind_s, if_true, if_false, not_true_eq_false, not_false_eq_true, Nat.zero_add]
theorem sg_9 {fs : List Value} (hH : H o = some (.inr (0, fs))) (hl : fs.length = 13) : ∃ H', am_I X (am_f X (d + 2)) 0 97 [some (.ref o)] [] (H, (o + 54, s)) = am_I X (am_f X (d + 2)) 0 106 [some (.ref o)] [] (H', (o + 55, s + 8)) ∧ H' o = some (.inr (0, fs.set 9 (.ref (o + 54)))) ∧ H' (o + 54) = some (.inl (.object "BoxSearch$Box", 8, .inr (.inr (.inr (.inr (fun _ => none)))))) ∧ ∀ x, x ≠ o → (x < o + 54 ∨ o + 55 ≤ x) → H' x = H x := by
  have h0 : (am_up H (o + 54) (.inl (.object "BoxSearch$Box", 8, .inr (.inr (.inr (.inr (fun _ => none))))))) o = some (.inr (0, fs)) := by
    rw [up_x (by omega)]
    exact hH
  have fr : ∀ x, x < o + 54 ∨ o + 55 ≤ x → (am_up H (o + 54) (.inl (.object "BoxSearch$Box", 8, .inr (.inr (.inr (.inr (fun _ => none))))))) x = H x := fun x hx => by
    exact up_x (by omega)
  refine ⟨am_up (am_up H (o + 54) (.inl (.object "BoxSearch$Box", 8, .inr (.inr (.inr (.inr (fun _ => none))))))) o (.inr (0, fs.set 9 (.ref (o + 54)))), ?_, up_r, (up_x (by omega)).trans up_r, fun x q1 q2 => (up_x q1).trans (fr x q2)⟩
  rw [am_go dc_0_97]
  simp (disch := first | omega | exact Nat.le_of_ble_eq_true rfl | exact up_r | exact hl) only [own_0, am_go dc_0_97, J_aload_0, K_al, ld_0, am_go dc_0_98, J_bipush, c8_8, am_go dc_0_100, am_go dc_0_103, J_putfield_i, J_putfield_l, J_putfield_r, ini_0, pk_0_58_0, pf_o pk_0_12_0 rfl, pf_o pk_0_19_0 rfl, pf_o pk_0_23_0 rfl, pf_o pk_0_26_0 rfl, pf_o pk_0_32_0 rfl, pf_o pk_0_41_0 rfl, pf_o pk_0_48_0 rfl, pf_a pk_0_52_0 rfl, pf_a pk_0_58_0 rfl, pf_a pk_0_64_0 rfl, pf_a pk_0_67_0 rfl, pf_a pk_0_70_0 rfl, zI_add, zI_mul, zI_lt, zI_le, zI_eq, zI_neg, zI_pos, zI_ne0, zI_gt0, zB_0, lg_cmp_ge, lg_cmp_le, lg_cmp_gt, lg_cmp_lt, lg_cmp_eq, ail_r, abl_r, all_r, ais_r, abs_r, als_r, aal_r, aal_q, aln_r, vrf_s, vrf_n, z32, h0, df_1, df_2, df_3, df_4, df_5, Nat.add_assoc, J_ana (t := 0) (k := 56) (by decide +kernel), List.length_cons, List.length_nil, Nat.reduceAdd, Nat.reduceLT, Nat.reduceLeDiff, Nat.reduceEqDiff, ↓reduceIte, bind_s, if_true, if_false, not_true_eq_false, not_false_eq_true, Nat.zero_add]
theorem sg_10 {fs : List Value} (hH : H o = some (.inr (0, fs))) (hl : fs.length = 13) : ∃ H', am_I X (am_f X (d + 2)) 0 106 [some (.ref o)] [] (H, (o + 55, s)) = am_I X (am_f X (d + 2)) 0 118 [some (.ref o)] [] (H', (o + 64, s + 968)) ∧ H' o = some (.inr (0, fs.set 10 (.ref (o + 55)))) ∧ H' (o + 55) = some (.inl (.array .int, 8, .inr (.inr (.inr (.inr (rwF o)))))) ∧ (∀ k, k < 8 → H' (o + 56 + k) = some (.inl (.int, 120, .inl (fun _ => 0)))) ∧ ∀ x, x ≠ o → (x < o + 55 ∨ o + 64 ≤ x) → H' x = H x := by
  have h0 : (am_rows H (o + 55) 8 120) o = some (.inr (0, fs)) := by
    unfold am_rows
    rw [if_neg (by omega), if_neg (by omega)]
    exact hH
  have fr : ∀ x, x < o + 55 ∨ o + 64 ≤ x → (am_rows H (o + 55) 8 120) x = H x := fun x hx => by
    unfold am_rows
    rw [if_neg (by omega), if_neg (by omega)]
  refine ⟨am_up (am_rows H (o + 55) 8 120) o (.inr (0, fs.set 10 (.ref (o + 55)))), ?_, up_r, (up_x (by omega)).trans (if_pos rfl), fun k hk => (up_x (by omega)).trans ((if_neg (by omega)).trans (if_pos (by omega))), fun x q1 q2 => (up_x q1).trans (fr x q2)⟩
  rw [am_go dc_0_106]
  simp (disch := first | omega | exact Nat.le_of_ble_eq_true rfl | exact up_r | exact hl) only [own_0, am_go dc_0_106, J_aload_0, K_al, ld_0, am_go dc_0_107, J_bipush, c8_8, am_go dc_0_109, c8_120, am_go dc_0_111, am_go dc_0_115, J_putfield_i, J_putfield_l, J_putfield_r, ini_0, pk_0_64_0, pf_o pk_0_12_0 rfl, pf_o pk_0_19_0 rfl, pf_o pk_0_23_0 rfl, pf_o pk_0_26_0 rfl, pf_o pk_0_32_0 rfl, pf_o pk_0_41_0 rfl, pf_o pk_0_48_0 rfl, pf_a pk_0_52_0 rfl, pf_a pk_0_58_0 rfl, pf_a pk_0_64_0 rfl, pf_a pk_0_67_0 rfl, pf_a pk_0_70_0 rfl, zI_add, zI_mul, zI_lt, zI_le, zI_eq, zI_neg, zI_pos, zI_ne0, zI_gt0, zB_0, lg_cmp_ge, lg_cmp_le, lg_cmp_gt, lg_cmp_lt, lg_cmp_eq, ail_r, abl_r, all_r, ais_r, abs_r, als_r, aal_r, aal_q, aln_r, vrf_s, vrf_n, z32, h0, df_1, df_2, df_3, df_4, df_5, Nat.add_assoc, J_mn, List.length_cons, List.length_nil, Nat.reduceAdd, Nat.reduceLT, Nat.reduceLeDiff, Nat.reduceEqDiff, ↓reduceIte, bind_s, if_true, if_false, not_true_eq_false, not_false_eq_true, Nat.zero_add]
theorem sg_11 {fs : List Value} (hH : H o = some (.inr (0, fs))) (hl : fs.length = 13) : ∃ H', am_I X (am_f X (d + 2)) 0 118 [some (.ref o)] [] (H, (o + 64, s)) = am_I X (am_f X (d + 2)) 0 126 [some (.ref o)] [] (H', (o + 65, s + 8)) ∧ H' o = some (.inr (0, fs.set 11 (.ref (o + 64)))) ∧ H' (o + 64) = some (.inl (.int, 8, .inl (fun _ => 0))) ∧ ∀ x, x ≠ o → (x < o + 64 ∨ o + 65 ≤ x) → H' x = H x := by
  have h0 : (am_up H (o + 64) (.inl (.int, 8, .inl (fun _ => 0)))) o = some (.inr (0, fs)) := by
    rw [up_x (by omega)]
    exact hH
  have fr : ∀ x, x < o + 64 ∨ o + 65 ≤ x → (am_up H (o + 64) (.inl (.int, 8, .inl (fun _ => 0)))) x = H x := fun x hx => by
    exact up_x (by omega)
  refine ⟨am_up (am_up H (o + 64) (.inl (.int, 8, .inl (fun _ => 0)))) o (.inr (0, fs.set 11 (.ref (o + 64)))), ?_, up_r, (up_x (by omega)).trans up_r, fun x q1 q2 => (up_x q1).trans (fr x q2)⟩
  rw [am_go dc_0_118]
  simp (disch := first | omega | exact Nat.le_of_ble_eq_true rfl | exact up_r | exact hl) only [own_0, am_go dc_0_118, J_aload_0, K_al, ld_0, am_go dc_0_119, J_bipush, c8_8, am_go dc_0_121, am_go dc_0_123, J_putfield_i, J_putfield_l, J_putfield_r, ini_0, pk_0_67_0, pf_o pk_0_12_0 rfl, pf_o pk_0_19_0 rfl, pf_o pk_0_23_0 rfl, pf_o pk_0_26_0 rfl, pf_o pk_0_32_0 rfl, pf_o pk_0_41_0 rfl, pf_o pk_0_48_0 rfl, pf_a pk_0_52_0 rfl, pf_a pk_0_58_0 rfl, pf_a pk_0_64_0 rfl, pf_a pk_0_67_0 rfl, pf_a pk_0_70_0 rfl, zI_add, zI_mul, zI_lt, zI_le, zI_eq, zI_neg, zI_pos, zI_ne0, zI_gt0, zB_0, lg_cmp_ge, lg_cmp_le, lg_cmp_gt, lg_cmp_lt, lg_cmp_eq, ail_r, abl_r, all_r, ais_r, abs_r, als_r, aal_r, aal_q, aln_r, vrf_s, vrf_n, z32, h0, df_1, df_2, df_3, df_4, df_5, Nat.add_assoc, J_nai, List.length_cons, List.length_nil, Nat.reduceAdd, Nat.reduceLT, Nat.reduceLeDiff, Nat.reduceEqDiff, ↓reduceIte, bind_s, if_true, if_false, not_true_eq_false, not_false_eq_true, Nat.zero_add]
theorem sg_12 {fs : List Value} (hH : H o = some (.inr (0, fs))) (hl : fs.length = 13) : ∃ H', am_I X (am_f X (d + 2)) 0 126 [some (.ref o)] [] (H, (o + 65, s)) = am_I X (am_f X (d + 2)) 0 134 [some (.ref o)] [] (H', (o + 66, s + 8)) ∧ H' o = some (.inr (0, fs.set 12 (.ref (o + 65)))) ∧ H' (o + 65) = some (.inl (.int, 8, .inl (fun _ => 0))) ∧ ∀ x, x ≠ o → (x < o + 65 ∨ o + 66 ≤ x) → H' x = H x := by
  have h0 : (am_up H (o + 65) (.inl (.int, 8, .inl (fun _ => 0)))) o = some (.inr (0, fs)) := by
    rw [up_x (by omega)]
    exact hH
  have fr : ∀ x, x < o + 65 ∨ o + 66 ≤ x → (am_up H (o + 65) (.inl (.int, 8, .inl (fun _ => 0)))) x = H x := fun x hx => by
    exact up_x (by omega)
  refine ⟨am_up (am_up H (o + 65) (.inl (.int, 8, .inl (fun _ => 0)))) o (.inr (0, fs.set 12 (.ref (o + 65)))), ?_, up_r, (up_x (by omega)).trans up_r, fun x q1 q2 => (up_x q1).trans (fr x q2)⟩
  rw [am_go dc_0_126]
  simp (disch := first | omega | exact Nat.le_of_ble_eq_true rfl | exact up_r | exact hl) only [own_0, am_go dc_0_126, J_aload_0, K_al, ld_0, am_go dc_0_127, J_bipush, c8_8, am_go dc_0_129, am_go dc_0_131, J_putfield_i, J_putfield_l, J_putfield_r, ini_0, pk_0_70_0, pf_o pk_0_12_0 rfl, pf_o pk_0_19_0 rfl, pf_o pk_0_23_0 rfl, pf_o pk_0_26_0 rfl, pf_o pk_0_32_0 rfl, pf_o pk_0_41_0 rfl, pf_o pk_0_48_0 rfl, pf_a pk_0_52_0 rfl, pf_a pk_0_58_0 rfl, pf_a pk_0_64_0 rfl, pf_a pk_0_67_0 rfl, pf_a pk_0_70_0 rfl, zI_add, zI_mul, zI_lt, zI_le, zI_eq, zI_neg, zI_pos, zI_ne0, zI_gt0, zB_0, lg_cmp_ge, lg_cmp_le, lg_cmp_gt, lg_cmp_lt, lg_cmp_eq, ail_r, abl_r, all_r, ais_r, abs_r, als_r, aal_r, aal_q, aln_r, vrf_s, vrf_n, z32, h0, df_1, df_2, df_3, df_4, df_5, Nat.add_assoc, J_nai, List.length_cons, List.length_nil, Nat.reduceAdd, Nat.reduceLT, Nat.reduceLeDiff, Nat.reduceEqDiff, ↓reduceIte, bind_s, if_true, if_false, not_true_eq_false, not_false_eq_true, Nat.zero_add]
end MK2
