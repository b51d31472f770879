/-! Place, written -/
def pMv (P : mU) (b n : Nat) (x : Int32) : mU := mS (mI (mS (mS P 2 (upd (P.1 2) n (zI b))) 3 (upd (P.1 3) n (P.1 0 b))) 4 (zI (n + 1))) 0 (upd (P.1 0) b x)
def pBk (P : mU) (b n : Nat) : mU := mS (mI P 4 (zI n)) 0 (upd (P.1 0) b (P.1 3 n))
def pCl (P : mU) : mU := mI (mS P 0 (updr (P.1 0) 0 5 (fun _ => zI 0))) 4 (zI 0)
def pTk (Q P : mU) : mU := mI (mS (mS (mS (mS P 0 (va_cpy (Q.1 0) (P.1 0) 0 0 5)) 1 (va_cpy (Q.1 1) (P.1 1) 0 0 5)) 2 (va_cpy (Q.1 2) (P.1 2) 0 0 10)) 3 (va_cpy (Q.1 3) (P.1 3) 0 0 10)) 4 (Q.2.2.1 4)
theorem pF_lt {p j : Nat} {D : mU} (hj : j < 5) : j < (pF p D).length := hj
theorem tF_lt {p j : Nat} {D : mU × (Nat → Option Nat)} (hj : j < 10) : j < (tF p D).length := hj
section PW
variable {X : am_X} {h : am_H} {p d : Nat} {P Q : mU} {S : Nat → Int32} {z : Nat × Nat}
theorem p_move_y {b n : Nat} {x : Int32} (hb : b < 5) (hn : n < 10) (ha : P.2.2.1 4 = zI n) : am_f X (d + 1) 88 [.ref p, .int (zI b), .int x] (pH h p P, z) = some (.inl (none), (pH h p (pMv P b n x), z)) := by
  rw [fU_88]
  simp (disch := first | omega | exact Nat.le_of_ble_eq_true rfl | exact pH_ci | (refine pF_lt ?_; omega)) only [own_88, am_go dc_88_0, J_aload_0, K_al, ld_0, am_go dc_88_1, J_getfield, gf_r, fk_2_30_2, am_go dc_88_4, J_bipush, c8_10, am_go dc_88_6, J_icmp_ge, am_go dc_88_9, am_go dc_88_10, fk_2_18_2, am_go dc_88_13, am_go dc_88_14, am_go dc_88_17, J_iload_1, K_il, ld_1, am_go dc_88_18, J_iastore, am_go dc_88_19, am_go dc_88_20, fk_2_21_2, am_go dc_88_23, am_go dc_88_24, am_go dc_88_27, am_go dc_88_28, fk_2_9_2, am_go dc_88_31, am_go dc_88_32, J_iaload, am_go dc_88_33, am_go dc_88_34, am_go dc_88_35, J_dup_i, J_dup_r, am_go dc_88_36, am_go dc_88_39, J_iconst, c32_1, am_go dc_88_40, J_iadd, am_go dc_88_41, J_putfield_i, J_putfield_l, J_putfield_r, ini_88, pk_2_30_2, am_go dc_88_44, am_go dc_88_45, am_go dc_88_48, am_go dc_88_49, J_iload_2, ld_2, am_go dc_88_50, am_go dc_88_51, J_ret_v ret_88, pg_4, pg_2, pg_3, pg_0, pp_4, pf_i pk_2_30_2 rfl, pH_0, pH_1, pH_2, pH_3, pH_4, pw_1, pw_2, pw_3, pw_4, zI_add, zI_mul, zI_lt, zI_le, zI_eq, zI_neg, zI_pos, zI_ne0, zI_gt0, zB_0, lg_cmp_ge, lg_cmp_le, lg_cmp_gt, lg_cmp_lt, lg_cmp_eq, ail_r, abl_r, all_r, ais_r, abs_r, als_r, aal_r, aal_q, aln_r, vrf_s, vrf_n, z32, ha, mS_s, mS_o, mS_2, mI_1, mI_2, mI_s, mI_o, mI_I, mS_S, List.length_cons, List.length_nil, Nat.reduceAdd, Nat.reduceLT, Nat.reduceLeDiff, Nat.reduceEqDiff, ↓reduceIte, bind_s, if_true, if_false, not_true_eq_false, not_false_eq_true, Nat.zero_add]
  rw [if_neg (by omega)]
  rfl
theorem p_move_n {b : Nat} {x : Int32} (ha : P.2.2.1 4 = zI 10) : am_f X (d + 1) 88 [.ref p, .int (zI b), .int x] (pH h p P, z) = some (.inl (none), (pH h p P, z)) := by
  rw [fU_88]
  simp (disch := first | omega | exact Nat.le_of_ble_eq_true rfl | exact pH_ci | (refine pF_lt ?_; omega)) only [own_88, am_go dc_88_0, J_aload_0, K_al, ld_0, am_go dc_88_1, J_getfield, gf_r, fk_2_30_2, am_go dc_88_4, J_bipush, c8_10, am_go dc_88_6, J_icmp_ge, am_go dc_88_9, am_go dc_88_10, fk_2_18_2, am_go dc_88_13, am_go dc_88_14, am_go dc_88_17, J_iload_1, K_il, ld_1, am_go dc_88_18, J_iastore, am_go dc_88_19, am_go dc_88_20, fk_2_21_2, am_go dc_88_23, am_go dc_88_24, am_go dc_88_27, am_go dc_88_28, fk_2_9_2, am_go dc_88_31, am_go dc_88_32, J_iaload, am_go dc_88_33, am_go dc_88_34, am_go dc_88_35, J_dup_i, J_dup_r, am_go dc_88_36, am_go dc_88_39, J_iconst, c32_1, am_go dc_88_40, J_iadd, am_go dc_88_41, J_putfield_i, J_putfield_l, J_putfield_r, ini_88, pk_2_30_2, am_go dc_88_44, am_go dc_88_45, am_go dc_88_48, am_go dc_88_49, J_iload_2, ld_2, am_go dc_88_50, am_go dc_88_51, J_ret_v ret_88, pg_4, pg_2, pg_3, pg_0, pp_4, pf_i pk_2_30_2 rfl, pH_0, pH_1, pH_2, pH_3, pH_4, pw_1, pw_2, pw_3, pw_4, zI_add, zI_mul, zI_lt, zI_le, zI_eq, zI_neg, zI_pos, zI_ne0, zI_gt0, zB_0, lg_cmp_ge, lg_cmp_le, lg_cmp_gt, lg_cmp_lt, lg_cmp_eq, ail_r, abl_r, all_r, ais_r, abs_r, als_r, aal_r, aal_q, aln_r, vrf_s, vrf_n, z32, ha, Nat.le_refl, mS_s, mS_o, mS_2, mI_1, mI_2, mI_s, mI_o, mI_I, mS_S, List.length_cons, List.length_nil, Nat.reduceAdd, Nat.reduceLT, Nat.reduceLeDiff, Nat.reduceEqDiff, ↓reduceIte, bind_s, if_true, if_false, not_true_eq_false, not_false_eq_true, Nat.zero_add]
theorem p_back_y {b n : Nat} (hb : b < 5) (hn : n < 10) (ha : P.2.2.1 4 = zI (n + 1)) (hB : P.1 2 n = zI b) : am_f X (d + 1) 94 [.ref p] (pH h p P, z) = some (.inl (none), (pH h p (pBk P b n), z)) := by
  have hs : zI (n + 1) - zI 1 = zI n := by
    rw [zI_sub (by omega)]
    rfl
  have h0 : (zI (n + 1) ≤ 0) = False := by
    rw [show (0 : Int32) = zI 0 from rfl, zI_le (by omega) (by omega)]
    simp
  rw [fU_94]
  simp (disch := first | omega | exact Nat.le_of_ble_eq_true rfl | exact pH_ci | (refine pF_lt ?_; omega)) only [own_94, am_go dc_94_0, J_aload_0, K_al, ld_0, am_go dc_94_1, J_getfield, gf_r, fk_2_30_2, am_go dc_94_4, J_if_le, am_go dc_94_7, am_go dc_94_8, J_dup_i, J_dup_r, am_go dc_94_9, am_go dc_94_12, J_iconst, c32_1, am_go dc_94_13, J_isub, am_go dc_94_14, J_putfield_i, J_putfield_l, J_putfield_r, ini_94, pk_2_30_2, am_go dc_94_17, am_go dc_94_18, fk_2_9_2, am_go dc_94_21, am_go dc_94_22, fk_2_18_2, am_go dc_94_25, am_go dc_94_26, am_go dc_94_29, J_iaload, am_go dc_94_30, am_go dc_94_31, fk_2_21_2, am_go dc_94_34, am_go dc_94_35, am_go dc_94_38, am_go dc_94_39, J_iastore, am_go dc_94_40, J_ret_v ret_94, pg_4, pp_4, pf_i pk_2_30_2 rfl, pg_0, pg_2, pg_3, pH_0, pH_1, pH_2, pH_3, pH_4, pw_1, pw_2, pw_3, pw_4, zI_add, zI_mul, zI_lt, zI_le, zI_eq, zI_neg, zI_pos, zI_ne0, zI_gt0, zB_0, lg_cmp_ge, lg_cmp_le, lg_cmp_gt, lg_cmp_lt, lg_cmp_eq, ail_r, abl_r, all_r, ais_r, abs_r, als_r, aal_r, aal_q, aln_r, vrf_s, vrf_n, z32, ha, hB, hs, h0, mS_s, mS_o, mS_2, mI_1, mI_2, mI_s, mI_o, mI_I, mS_S, List.length_cons, List.length_nil, Nat.reduceAdd, Nat.reduceLT, Nat.reduceLeDiff, Nat.reduceEqDiff, ↓reduceIte, bind_s, if_true, if_false, not_true_eq_false, not_false_eq_true, Nat.zero_add]
  rfl
theorem p_back_n (ha : P.2.2.1 4 = zI 0) : am_f X (d + 1) 94 [.ref p] (pH h p P, z) = some (.inl (none), (pH h p P, z)) := by
  have h0 : (zI 0 ≤ 0) = True := by decide
  rw [fU_94]
  simp (disch := first | omega | exact Nat.le_of_ble_eq_true rfl | exact pH_ci | (refine pF_lt ?_; omega)) only [own_94, am_go dc_94_0, J_aload_0, K_al, ld_0, am_go dc_94_1, J_getfield, gf_r, fk_2_30_2, am_go dc_94_4, J_if_le, am_go dc_94_7, am_go dc_94_8, J_dup_i, J_dup_r, am_go dc_94_9, am_go dc_94_12, J_iconst, c32_1, am_go dc_94_13, J_isub, am_go dc_94_14, J_putfield_i, J_putfield_l, J_putfield_r, ini_94, pk_2_30_2, am_go dc_94_17, am_go dc_94_18, fk_2_9_2, am_go dc_94_21, am_go dc_94_22, fk_2_18_2, am_go dc_94_25, am_go dc_94_26, am_go dc_94_29, J_iaload, am_go dc_94_30, am_go dc_94_31, fk_2_21_2, am_go dc_94_34, am_go dc_94_35, am_go dc_94_38, am_go dc_94_39, J_iastore, am_go dc_94_40, J_ret_v ret_94, pg_4, pp_4, pf_i pk_2_30_2 rfl, pg_0, pg_2, pg_3, pH_0, pH_1, pH_2, pH_3, pH_4, pw_1, pw_2, pw_3, pw_4, zI_add, zI_mul, zI_lt, zI_le, zI_eq, zI_neg, zI_pos, zI_ne0, zI_gt0, zB_0, lg_cmp_ge, lg_cmp_le, lg_cmp_gt, lg_cmp_lt, lg_cmp_eq, ail_r, abl_r, all_r, ais_r, abs_r, als_r, aal_r, aal_q, aln_r, vrf_s, vrf_n, z32, ha, h0, mS_s, mS_o, mS_2, mI_1, mI_2, mI_s, mI_o, mI_I, mS_S, List.length_cons, List.length_nil, Nat.reduceAdd, Nat.reduceLT, Nat.reduceLeDiff, Nat.reduceEqDiff, ↓reduceIte, bind_s, if_true, if_false, not_true_eq_false, not_false_eq_true, Nat.zero_add]
theorem p_clear  : am_f X (d + 2) 46 [.ref p] (pH h p P, z) = some (.inl (none), (pH h p (pCl P), z)) := by
  have hf := a_fill (X := X) (H := pH h p P) (a := p + 1) (d := d) (z := z) (n := 5) (x := zI 0) pH_1 (by omega)
  rw [pw_1] at hf
  rw [fU_46]
  simp (disch := first | omega | exact Nat.le_of_ble_eq_true rfl | exact pH_ci | (refine pF_lt ?_; omega)) only [own_46, am_go dc_46_0, J_aload_0, K_al, ld_0, am_go dc_46_1, J_getfield, gf_r, fk_2_9_2, am_go dc_46_4, J_iconst, c32_0, am_go dc_46_5, cs_2_24 own_46, JR_v, JR_0, JR_ite, am_go dc_46_8, am_go dc_46_9, am_go dc_46_10, J_putfield_i, J_putfield_l, J_putfield_r, ini_46, pk_2_30_2, am_go dc_46_13, J_ret_v ret_46, pg_0, pp_4, pf_i pk_2_30_2 rfl, pH_0, pH_1, pH_2, pH_3, pH_4, pw_1, pw_2, pw_3, pw_4, zI_add, zI_mul, zI_lt, zI_le, zI_eq, zI_neg, zI_pos, zI_ne0, zI_gt0, zB_0, lg_cmp_ge, lg_cmp_le, lg_cmp_gt, lg_cmp_lt, lg_cmp_eq, ail_r, abl_r, all_r, ais_r, abs_r, als_r, aal_r, aal_q, aln_r, vrf_s, vrf_n, z32, hf, mS_s, mS_o, mS_2, mI_1, mI_2, mI_s, mI_o, mI_I, mS_S, List.length_cons, List.length_nil, Nat.reduceAdd, Nat.reduceLT, Nat.reduceLeDiff, Nat.reduceEqDiff, ↓reduceIte, bind_s, if_true, if_false, not_true_eq_false, not_false_eq_true, Nat.zero_add]
  rfl
theorem isP.sep {q : Nat} (hQ : isP h q Q) (hd : q + 5 ≤ p ∨ p + 5 ≤ q) : isP (pH h p P) q Q := isO.ov hQ (fun j k hjk => by
  by_cases e1 : j < 5
  · refine Or.inr ?_
    match k, hjk with
    | 0, _ => omega
    | 1, _ => omega
    | 2, _ => omega
    | 3, _ => omega
    | 4, _ => omega
    | k + 5, _ => rfl
  · refine Or.inl ?_
    match j, e1 with
    | j + 5, _ => rfl)
theorem p_take {q : Nat} (hQ : isP h q Q) (hd : q + 5 ≤ p ∨ p + 5 ≤ q) : am_f X (d + 1) 158 [.ref p, .ref q] (pH h p P, z) = some (.inl (none), (pH h p (pTk Q P), z)) := by
  have q0 := fun (P : mU) => (hQ.sep (P := P) hd).c0
  have q1 := fun (P : mU) => (hQ.sep (P := P) hd).c1
  have q2 := fun (P : mU) => (hQ.sep (P := P) hd).c2
  have q3 := fun (P : mU) => (hQ.sep (P := P) hd).c3
  have q4 := fun (P : mU) => (hQ.sep (P := P) hd).c4
  rw [fU_158]
  simp (disch := first | omega | exact Nat.le_of_ble_eq_true rfl | exact pH_ci | (refine pF_lt ?_; omega)) only [own_158, am_go dc_158_0, J_aload_1, K_al, ld_1, am_go dc_158_1, J_getfield, gf_r, fk_2_9_2, am_go dc_158_4, J_iconst, c32_0, am_go dc_158_5, J_aload_0, ld_0, am_go dc_158_6, am_go dc_158_9, am_go dc_158_10, c32_5, am_go dc_158_11, ca_2_34 own_158, am_go dc_158_14, am_go dc_158_15, fk_2_15_2, am_go dc_158_18, am_go dc_158_19, am_go dc_158_20, am_go dc_158_23, am_go dc_158_24, am_go dc_158_25, am_go dc_158_28, am_go dc_158_29, fk_2_18_2, am_go dc_158_32, am_go dc_158_33, am_go dc_158_34, am_go dc_158_37, am_go dc_158_38, J_bipush, c8_10, am_go dc_158_40, am_go dc_158_43, am_go dc_158_44, fk_2_21_2, am_go dc_158_47, am_go dc_158_48, am_go dc_158_49, am_go dc_158_52, am_go dc_158_53, am_go dc_158_55, am_go dc_158_58, am_go dc_158_59, am_go dc_158_60, fk_2_30_2, am_go dc_158_63, J_putfield_i, J_putfield_l, J_putfield_r, ini_158, pk_2_30_2, am_go dc_158_66, J_ret_v ret_158, pg_0, pg_1, pg_2, pg_3, pg_4, pp_4, pf_i pk_2_30_2 rfl, pH_0, pH_1, pH_2, pH_3, pH_4, pw_1, pw_2, pw_3, pw_4, zI_add, zI_mul, zI_lt, zI_le, zI_eq, zI_neg, zI_pos, zI_ne0, zI_gt0, zB_0, lg_cmp_ge, lg_cmp_le, lg_cmp_gt, lg_cmp_lt, lg_cmp_eq, ail_r, abl_r, all_r, ais_r, abs_r, als_r, aal_r, aal_q, aln_r, vrf_s, vrf_n, z32, q0, q1, q2, q3, q4, cpy_r, mS_s, mS_o, mS_2, mI_1, mI_2, mI_s, mI_o, mI_I, mS_S, List.length_cons, List.length_nil, Nat.reduceAdd, Nat.reduceLT, Nat.reduceLeDiff, Nat.reduceEqDiff, ↓reduceIte, bind_s, if_true, if_false, not_true_eq_false, not_false_eq_true, Nat.zero_add]
  rfl
theorem cp_j {f g : Nat → Int32} {n j : Nat} (hj : j < n) : va_cpy f g 0 0 n j = f j := by
  unfold va_cpy
  simp [hj]
theorem pS_take (hQ : pS Q S) : pS (pTk Q P) S := by
  obtain ⟨h1, h2, h3, h4⟩ := hQ
  have e3 : (pTk Q P).1 3 = va_cpy (Q.1 3) (P.1 3) 0 0 10 := rfl
  have e2 : (pTk Q P).1 2 = va_cpy (Q.1 2) (P.1 2) 0 0 10 := rfl
  have e1 : (pTk Q P).1 1 = va_cpy (Q.1 1) (P.1 1) 0 0 5 := rfl
  have e0 : (pTk Q P).1 0 = va_cpy (Q.1 0) (P.1 0) 0 0 5 := rfl
  refine ⟨fun b hb => ?_, h2, h3, fun j hj => ?_⟩
  · rw [e0, e1, cp_j hb, cp_j hb]
    exact h1 b hb
  · have : j < 10 := by
      obtain ⟨k, hk, hk2⟩ := h3
      rw [hk, wN_zI (by omega)] at hj
      omega
    rw [e2, e3, cp_j this, cp_j this]
    exact h4 j hj
end PW
