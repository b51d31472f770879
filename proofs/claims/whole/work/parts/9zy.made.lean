/-! the class made -/
def T00 : mU × (Nat → Option Nat) := ((fun _ _ => 0, fun _ _ => 0, fun j => if j = 2 then zI 99 else if j = 5 then zI 1 else 0, fun _ => 0), fun _ => none)
def P00 : mU := (fun _ _ => 0, fun _ _ => 0, fun _ => 0, fun _ => 0)
theorem ov_ext {h : am_H} {o : Nat} {c c' : Nat → Option am_E} (hc : ∀ k, c k = c' k) : ov h o c = ov h o c' := by
  rw [show c = c' from funext hc]
theorem ovr_cu {h : am_H} {o k : Nat} {c : Nat → Option am_E} {e : am_E} : ov h o (cu c k e) (o + k) = some e := by
  rw [ovr_k, cu_s]
  rfl
theorem df_1 : (am_df 1).length = 10 := rfl
theorem df_2 : (am_df 2).length = 5 := rfl
theorem df_3 : (am_df 3).length = 15 := rfl
theorem df_4 : (am_df 4).length = 14 := rfl
theorem df_5 : (am_df 5).length = 8 := rfl
section MK
variable {X : am_X} {rec : am_O} {h H : am_H} {o d t p e l w pc nx tg s : Nat} {z : Nat × Nat} {lv : am_L} {st : List Value} {σ : am_S}
theorem J_ana {k n : Nat} (hk : am_kk (am_own t) k = some 6) (hn : n < 65537) : am_J X rec t (some (.anewarray k, nx, tg)) pc lv (.int (zI n) :: st) σ = am_I X rec t nx lv (.ref σ.2.1 :: st) (am_up σ.1 σ.2.1 (.inl (.object "BoxSearch$Box", n, .inr (.inr (.inr (.inr (fun _ => none)))))), σ.2.1 + 1, σ.2.2 + n) := by
  rw [J_anewarray]
  unfold am_heap
  simp only
  rw [hk, zI_in hn (by omega), zI_nat (by omega)]
  rfl
theorem t_init : am_f X (d + 1) 1 [.ref t] (am_up h t (.inr (1, am_df 1)), (t + 1, s)) = some (.inl none, (tH h t T00, (t + 8, s + 91))) := by
  rw [ov_new, fU_1]
  simp (disch := first | omega | exact Nat.le_of_ble_eq_true rfl) only [own_1, am_go dc_1_0, J_aload_0, K_al, ld_0, am_go dc_1_1, co_1_3 own_1, am_go dc_1_4, am_go dc_1_5, J_iconst, c32_5, am_go dc_1_6, am_go dc_1_9, J_putfield_i, J_putfield_l, J_putfield_r, ini_1, pk_1_11_1, am_go dc_1_12, am_go dc_1_13, J_bipush, c8_99, am_go dc_1_15, pk_1_17_1, am_go dc_1_18, am_go dc_1_19, am_go dc_1_20, am_go dc_1_22, pk_1_21_1, am_go dc_1_25, am_go dc_1_26, c8_21, am_go dc_1_28, am_go dc_1_30, pk_1_25_1, am_go dc_1_33, am_go dc_1_34, c32_1, am_go dc_1_35, pk_1_28_1, am_go dc_1_38, am_go dc_1_39, c8_20, am_go dc_1_41, am_go dc_1_43, pk_1_31_1, am_go dc_1_46, am_go dc_1_47, am_go dc_1_49, am_go dc_1_51, pk_1_34_1, am_go dc_1_54, am_go dc_1_55, c8_10, am_go dc_1_57, am_go dc_1_59, pk_1_37_1, am_go dc_1_62, am_go dc_1_63, am_go dc_1_65, am_go dc_1_67, pk_1_41_1, am_go dc_1_70, J_ret_v ret_1, pf_a pk_1_11_1 rfl, pf_i pk_1_17_1 rfl, pf_a pk_1_21_1 rfl, pf_a pk_1_25_1 rfl, pf_i pk_1_28_1 rfl, pf_a pk_1_31_1 rfl, pf_a pk_1_34_1 rfl, pf_a pk_1_37_1 rfl, pf_a pk_1_41_1 rfl, zI_add, zI_mul, zI_lt, zI_le, zI_eq, zI_neg, zI_pos, zI_ne0, zI_gt0, zB_0, lg_cmp_ge, lg_cmp_le, lg_cmp_gt, lg_cmp_lt, lg_cmp_eq, ail_r, abl_r, all_r, ais_r, abs_r, als_r, aal_r, aal_q, aln_r, vrf_s, vrf_n, z32, J_nai, J_nal, J_naz, ovr_0, ov_cu, ov_cu0, cu_s, cu_o, orE_s, Nat.add_assoc, J_ana (t := 1) (k := 9) (by decide +kernel), List.length_cons, List.length_nil, Nat.reduceAdd, Nat.reduceLT, Nat.reduceLeDiff, Nat.reduceEqDiff, ↓reduceIte, bind_s, if_true, if_false, not_true_eq_false, not_false_eq_true, Nat.zero_add]
  refine congrArg (fun x : am_S => some ((.inl none : am_R), x)) (Prod.ext (ov_ext (fun k => ?_)) rfl)
  match k with
  | 0 => rfl
  | 1 => rfl
  | 2 => rfl
  | 3 => rfl
  | 4 => rfl
  | 5 => rfl
  | 6 => rfl
  | 7 => rfl
  | k + 8 =>
    simp (disch := omega) only [cu_o]
    rfl
theorem p_init : am_f X (d + 1) 2 [.ref p] (am_up h p (.inr (2, am_df 2)), (p + 1, s)) = some (.inl none, (pH h p P00, (p + 5, s + 30))) := by
  rw [ov_new, fU_2]
  simp (disch := first | omega | exact Nat.le_of_ble_eq_true rfl) only [own_2, am_go dc_2_0, J_aload_0, K_al, ld_0, am_go dc_2_1, co_2_3 own_2, am_go dc_2_4, am_go dc_2_5, J_iconst, c32_5, am_go dc_2_6, am_go dc_2_8, J_putfield_i, J_putfield_l, J_putfield_r, ini_2, pk_2_9_2, am_go dc_2_11, am_go dc_2_12, am_go dc_2_13, am_go dc_2_15, pk_2_15_2, am_go dc_2_18, am_go dc_2_19, J_bipush, c8_10, am_go dc_2_21, am_go dc_2_23, pk_2_18_2, am_go dc_2_26, am_go dc_2_27, am_go dc_2_29, am_go dc_2_31, pk_2_21_2, am_go dc_2_34, J_ret_v ret_2, pf_a pk_2_9_2 rfl, pf_a pk_2_15_2 rfl, pf_a pk_2_18_2 rfl, pf_a pk_2_21_2 rfl, zI_add, zI_mul, zI_lt, zI_le, zI_eq, zI_neg, zI_pos, zI_ne0, zI_gt0, zB_0, lg_cmp_ge, lg_cmp_le, lg_cmp_gt, lg_cmp_lt, lg_cmp_eq, ail_r, abl_r, all_r, ais_r, abs_r, als_r, aal_r, aal_q, aln_r, vrf_s, vrf_n, z32, J_nai, J_nal, J_naz, ovr_0, ov_cu, ov_cu0, cu_s, cu_o, orE_s, Nat.add_assoc, List.length_cons, List.length_nil, Nat.reduceAdd, Nat.reduceLT, Nat.reduceLeDiff, Nat.reduceEqDiff, ↓reduceIte, bind_s, if_true, if_false, not_true_eq_false, not_false_eq_true, Nat.zero_add]
  refine congrArg (fun x : am_S => some ((.inl none : am_R), x)) (Prod.ext (ov_ext (fun k => ?_)) rfl)
  match k with
  | 0 => rfl
  | 1 => rfl
  | 2 => rfl
  | 3 => rfl
  | 4 => rfl
  | k + 5 =>
    simp (disch := omega) only [cu_o]
    rfl
def eC0 (e : Nat) : Nat → Option am_E := fun k => if k = 1 then some (.inl (.int, 0, .inl (fun _ => 0))) else eC e (P00, e + 1) k
theorem e_init : am_f X (d + 2) 3 [.ref e] (am_up h e (.inr (3, am_df 3)), (e + 1, s)) = some (.inl none, (tH (ov h e (eC0 e)) (e + 2) T00, (e + 13, s + 113))) := by
  have kt : ∀ c s, am_f X (d + 1) 1 [.ref (e + 2)] (ov h e (cu c 2 (.inr (1, am_df 1))), (e + 3, s)) = some (.inl none, (tH (ov h e c) (e + 2) T00, (e + 10, s + 91))) := fun c s => by
    rw [← ov_cu]
    exact t_init (t := e + 2)
  have tx : ∀ hh, tH hh (e + 2) T00 e = hh e := fun hh => tH_x (by omega)
  have tu : ∀ hh n x, n < e + 2 ∨ e + 10 ≤ n → am_up (tH hh (e + 2) T00) n x = tH (am_up hh n x) (e + 2) T00 := fun hh n x hn => tH_up (by omega)
  rw [ov_new, fU_3]
  simp (disch := first | omega | exact Nat.le_of_ble_eq_true rfl | exact ovr_cu) only [own_3, am_go dc_3_0, J_aload_0, K_al, ld_0, am_go dc_3_1, co_3_3 own_3, am_go dc_3_4, am_go dc_3_5, J_iconst, c32_0, am_go dc_3_6, am_go dc_3_8, J_putfield_i, J_putfield_l, J_putfield_r, ini_3, pk_3_9_3, am_go dc_3_11, am_go dc_3_12, am_go dc_3_15, J_dup_i, J_dup_r, am_go dc_3_16, cn_3_17 own_3, JR_0, am_go dc_3_19, pk_3_18_3, am_go dc_3_22, am_go dc_3_23, c32_4, am_go dc_3_24, am_go dc_3_26, pk_3_22_3, am_go dc_3_29, am_go dc_3_30, am_go dc_3_31, am_go dc_3_33, pk_3_25_3, am_go dc_3_36, am_go dc_3_37, am_go dc_3_38, am_go dc_3_40, pk_3_28_3, am_go dc_3_43, J_ret_v ret_3, pf_a pk_3_9_3 rfl, pf_o pk_3_18_3 rfl, pf_a pk_3_22_3 rfl, pf_a pk_3_25_3 rfl, pf_a pk_3_28_3 rfl, zI_add, zI_mul, zI_lt, zI_le, zI_eq, zI_neg, zI_pos, zI_ne0, zI_gt0, zB_0, lg_cmp_ge, lg_cmp_le, lg_cmp_gt, lg_cmp_lt, lg_cmp_eq, ail_r, abl_r, all_r, ais_r, abs_r, als_r, aal_r, aal_q, aln_r, vrf_s, vrf_n, z32, J_nai, J_nal, J_naz, ovr_0, ov_cu, ov_cu0, cu_s, cu_o, orE_s, Nat.add_assoc, J_newc (t := 3) (k := 15) (ci := 1) (by decide +kernel), kt, tx, tu, df_1, df_3, List.length_cons, List.length_nil, Nat.reduceAdd, Nat.reduceLT, Nat.reduceLeDiff, Nat.reduceEqDiff, ↓reduceIte, bind_s, if_true, if_false, not_true_eq_false, not_false_eq_true, Nat.zero_add]
  refine congrArg (fun x : am_S => some ((.inl none : am_R), x)) (Prod.ext (congrArg (fun x => tH x (e + 2) T00) (ov_ext (fun k => ?_))) rfl)
  match k with
  | 0 => rfl
  | 1 => rfl
  | 2 => rfl
  | 3 => rfl
  | 4 => rfl
  | 5 => rfl
  | 6 => rfl
  | 7 => rfl
  | 8 => rfl
  | 9 => rfl
  | 10 => rfl
  | 11 => rfl
  | 12 => rfl
  | k + 13 =>
    simp (disch := omega) only [cu_o]
    rfl
end MK
