/-! Plan: means -/
section LX
variable {h : am_H} {l t m a N : Nat} {u : mU}
theorem lM (hL : lOkk l (t, m, a, N)) : lH h l (u, (t, m, a, N)) m = some (.inl (.long, N, .inr (.inl (u.2.1 3)))) := lH_m (D := (u, (t, m, a, N))) hL
theorem lA (hL : lOkk l (t, m, a, N)) : lH h l (u, (t, m, a, N)) a = some (.inl (.int, N, .inl (u.1 4))) := lH_a (D := (u, (t, m, a, N))) hL
theorem lMw {f : Nat → Int64} (hL : lOkk l (t, m, a, N)) : am_up (lH h l (u, (t, m, a, N))) m (.inl (.long, N, .inr (.inl f))) = lH h l (mL u 3 f, (t, m, a, N)) := lw_m (D := (u, (t, m, a, N))) hL
theorem lAw {f : Nat → Int32} (hL : lOkk l (t, m, a, N)) : am_up (lH h l (u, (t, m, a, N))) a (.inl (.int, N, .inl f)) = lH h l (mS u 4 f, (t, m, a, N)) := lw_a (D := (u, (t, m, a, N))) hL
end LX
/-- the digits stand within the boxes told -/
def dIn (S : Nat → Int32) (dg : Nat → Nat) : Prop := dOk dg ∧ ∀ b, wN (S 116) ≤ b → dg b = 0
theorem pkm_lt {S : Nat → Int32} {dg : Nat → Nat} (h : dIn S dg) (h5 : wN (S 116) ≤ 5) : pk dg < 4 ^ wN (S 116) := by
  obtain ⟨h1, h2⟩ := h
  have a0 := h1 0 (by omega)
  have a1 := h1 1 (by omega)
  have a2 := h1 2 (by omega)
  have a3 := h1 3 (by omega)
  have a4 := h1 4 (by omega)
  have b0 := h2 0
  have b1 := h2 1
  have b2 := h2 2
  have b3 := h2 3
  have b4 := h2 4
  unfold pk
  rcases (by omega : wN (S 116) = 0 ∨ wN (S 116) = 1 ∨ wN (S 116) = 2 ∨ wN (S 116) = 3 ∨ wN (S 116) = 4 ∨ wN (S 116) = 5) with e | e | e | e | e | e <;> rw [e] at b0 b1 b2 b3 b4 ⊢ <;> omega
theorem or1_lt {x : Nat} (h : x < 4) : x ||| 1 < 4 ∧ x ||| 2 < 4 := by
  rcases (by omega : x = 0 ∨ x = 1 ∨ x = 2 ∨ x = 3) with rfl | rfl | rfl | rfl <;> decide
theorem dIn.set {S : Nat → Int32} {dg : Nat → Nat} {b x : Nat} (h : dIn S dg) (hb : b < wN (S 116)) (hx : x < 4) : dIn S (dset dg b x) := ⟨h.1.set hx, fun c h1 => by rw [dset_o (by omega)]; exact h.2 c h1⟩
theorem dIn.ao {S : Nat → Int32} {dg : Nat → Nat} {b i : Nat} (h : dIn S dg) (h5 : wN (S 116) ≤ 5) (hb : b < wN (S 116)) : dIn S (cAo S dg b i) := by
  refine h.set hb ?_
  have := h.1 b (by omega)
  split
  · exact (or1_lt this).1
  · omega
theorem dIn.ap {S : Nat → Int32} {dg : Nat → Nat} {b : Nat} {g : Bool} (h : dIn S dg) (h5 : wN (S 116) ≤ 5) (hb : b < wN (S 116)) : dIn S (cAp dg b g) := by
  refine h.set hb ?_
  have := h.1 b (by omega)
  split
  · exact (or1_lt this).1
  · exact (or1_lt this).2
def cBdS (S : Nat → Int32) (ch : Nat → Int32) (b i : Nat) (v : Int64) : Int64 := v + (ch i).toInt64 * (S (18 * b + (6 + i))).toInt64
def rMx (T : mU × (Nat → Option Nat)) (r k : Nat) : Nat := if r < wN (T.1.1 6 k) then wN (T.1.1 6 k) else r
section PM
variable {X : am_X} {C : Nat → Prop} {h : am_H} {l t m a N d b r : Nat} {u : mU} {T : mU × (Nat → Option Nat)} {S : Nat → Int32} {z : Nat × Nat} {dg : Nat → Nat}
theorem l_shut (hS : ∀ u, tS C (lH h l (u, (t, m, a, N))) t T S) (hh : u.2.2.1 5 = zI (pk dg)) (hd : dOk dg) (hb : b < 5) : am_f X (d + 2) 116 [.ref l, .int (zI b)] (lH h l (u, (t, m, a, N)), z) = some (.inl (some (.int (zB (decide (dg b = 0))))), (lH h l (u, (t, m, a, N)), z)) := by
  have t0 := fun u => (hS u).iT.c0
  have t1 := fun u => (hS u).iT.c1
  have t3 := fun u => (hS u).iT.c3
  have t4 := fun u => (hS u).iT.c4
  have hsz := (hS u).sz
  have hm5 := (hS u).m5
  have hdg := c_digit (X := X) (d := d) (z := z) (H := lH h l (u, (t, m, a, N))) hd hb
  have hd4 := hd b hb
  rw [fU_116]
  by_cases c : dg b = 0
  · rw [decide_eq_true c]
    simp (disch := first | omega | exact Nat.le_of_ble_eq_true rfl | exact lH_ci | (refine lF_lt ?_; omega) | exact (hS _).iT.ci) only [own_116, am_go dc_116_0, J_aload_0, K_al, ld_0, am_go dc_116_1, J_getfield, gf_r, fk_4_90_4, am_go dc_116_4, J_iload_1, K_il, ld_1, am_go dc_116_5, cs_4_154 own_116, JR_v, JR_0, JR_ite, am_go dc_116_8, J_if_ne, am_go dc_116_11, J_iconst, c32_1, am_go dc_116_12, J_goto, am_go dc_116_15, c32_0, am_go dc_116_16, J_ret_z0 ret_116, J_ret_z1 ret_116, J_ret_zB ret_116, lg_5, lH_0, lH_1, lH_4, lH_5, lH_6, lH_7, lH_8, lw_1, lw_4, lw_5, lw_6, lw_7, lw_8, zI_add, zI_mul, zI_lt, zI_le, zI_eq, zI_neg, zI_pos, zI_ne0, zI_gt0, zB_0, lg_cmp_ge, lg_cmp_le, lg_cmp_gt, lg_cmp_lt, lg_cmp_eq, ail_r, abl_r, all_r, ais_r, abs_r, als_r, aal_r, aal_q, aln_r, vrf_s, vrf_n, z32, t0, t1, t3, t4, hsz, hh, hdg, c, List.length_cons, List.length_nil, Nat.reduceAdd, Nat.reduceLT, Nat.reduceLeDiff, Nat.reduceEqDiff, ↓reduceIte, bind_s, if_true, if_false, not_true_eq_false, not_false_eq_true, Nat.zero_add]
    all_goals rfl
  · rw [decide_eq_false c]
    simp (disch := first | omega | exact Nat.le_of_ble_eq_true rfl | exact lH_ci | (refine lF_lt ?_; omega) | exact (hS _).iT.ci) only [own_116, am_go dc_116_0, J_aload_0, K_al, ld_0, am_go dc_116_1, J_getfield, gf_r, fk_4_90_4, am_go dc_116_4, J_iload_1, K_il, ld_1, am_go dc_116_5, cs_4_154 own_116, JR_v, JR_0, JR_ite, am_go dc_116_8, J_if_ne, am_go dc_116_11, J_iconst, c32_1, am_go dc_116_12, J_goto, am_go dc_116_15, c32_0, am_go dc_116_16, J_ret_z0 ret_116, J_ret_z1 ret_116, J_ret_zB ret_116, lg_5, lH_0, lH_1, lH_4, lH_5, lH_6, lH_7, lH_8, lw_1, lw_4, lw_5, lw_6, lw_7, lw_8, zI_add, zI_mul, zI_lt, zI_le, zI_eq, zI_neg, zI_pos, zI_ne0, zI_gt0, zB_0, lg_cmp_ge, lg_cmp_le, lg_cmp_gt, lg_cmp_lt, lg_cmp_eq, ail_r, abl_r, all_r, ais_r, abs_r, als_r, aal_r, aal_q, aln_r, vrf_s, vrf_n, z32, t0, t1, t3, t4, hsz, hh, hdg, c, List.length_cons, List.length_nil, Nat.reduceAdd, Nat.reduceLT, Nat.reduceLeDiff, Nat.reduceEqDiff, ↓reduceIte, bind_s, if_true, if_false, not_true_eq_false, not_false_eq_true, Nat.zero_add]
    all_goals rfl
theorem l_stop (hS : ∀ u, tS C (lH h l (u, (t, m, a, N))) t T S) (hr : r < 21) : am_f X (d + 1) 120 [.ref l, .int (zI r)] (lH h l (u, (t, m, a, N)), z) = some (.inl (some (.long ((T.1.1 4 r).toInt64 * u.2.2.2 6))), (lH h l (u, (t, m, a, N)), z)) := by
  have t0 := fun u => (hS u).iT.c0
  have t1 := fun u => (hS u).iT.c1
  have t3 := fun u => (hS u).iT.c3
  have t4 := fun u => (hS u).iT.c4
  have hsz := (hS u).sz
  have hm5 := (hS u).m5
  rw [fU_120]
  simp (disch := first | omega | exact Nat.le_of_ble_eq_true rfl | exact lH_ci | (refine lF_lt ?_; omega) | exact (hS _).iT.ci) only [own_120, am_go dc_120_0, J_aload_0, K_al, ld_0, am_go dc_120_1, J_getfield, gf_r, fk_4_38_4, am_go dc_120_4, fk_4_157_1, am_go dc_120_7, J_iload_1, K_il, ld_1, am_go dc_120_8, J_iaload, am_go dc_120_9, J_i2l, am_go dc_120_10, am_go dc_120_11, fk_4_97_4, am_go dc_120_14, J_lmul, am_go dc_120_15, J_ret_l ret_120, lg_0, tg_4, lg_6, lH_0, lH_1, lH_4, lH_5, lH_6, lH_7, lH_8, lw_1, lw_4, lw_5, lw_6, lw_7, lw_8, zI_add, zI_mul, zI_lt, zI_le, zI_eq, zI_neg, zI_pos, zI_ne0, zI_gt0, zB_0, lg_cmp_ge, lg_cmp_le, lg_cmp_gt, lg_cmp_lt, lg_cmp_eq, ail_r, abl_r, all_r, ais_r, abs_r, als_r, aal_r, aal_q, aln_r, vrf_s, vrf_n, z32, t0, t1, t3, t4, hsz, List.length_cons, List.length_nil, Nat.reduceAdd, Nat.reduceLT, Nat.reduceLeDiff, Nat.reduceEqDiff, ↓reduceIte, bind_s, if_true, if_false, not_true_eq_false, not_false_eq_true, Nat.zero_add]
theorem l_shutMean_l (hS : ∀ u, tS C (lH h l (u, (t, m, a, N))) t T S) (hb : b < wN (S 116)) : ∀ (k i : Nat) (v : Int64), i + k = wN (S (18 * b + 3)) → am_I X (am_f X (d + 1)) 117 5 [some (.ref l), some (.int (zI b)), some (.long v), none, some (.int (zI i))] [] (lH h l (u, (t, m, a, N)), z) = some (.inl (some (.long (u.2.2.2 6 / 100 * fo (cBdS S (fun i => u.1 8 (4 * b + i)) b) i k v))), (lH h l (u, (t, m, a, N)), z)) := by
  have t0 := fun u => (hS u).iT.c0
  have t1 := fun u => (hS u).iT.c1
  have t3 := fun u => (hS u).iT.c3
  have t4 := fun u => (hS u).iT.c4
  have hsz := (hS u).sz
  have hm5 := (hS u).m5
  obtain ⟨a', bb, ha, hB⟩ := (hS u).box hb
  have hn := hB.n
  have hn3 : wN (qRow S b 3) = wN (S (18 * b + 3)) := rfl
  rw [hn3] at hn
  have q100 : ((100 : Int64) = 0) = False := by decide
  intro k
  induction k with
  | zero =>
    intro i v hi
    have hi' : wN (S (18 * b + 3)) ≤ i := by omega
    rw [am_go dc_117_5]
    simp (disch := first | omega | exact Nat.le_of_ble_eq_true rfl | exact lH_ci | (refine lF_lt ?_; omega) | exact (hS _).iT.ci) only [own_117, am_go dc_117_0, J_lconst, i64_0, am_go dc_117_1, J_lstore_2, st2_0, st2_1, st2_s, kl_i, kl_l, kl_r, kl_n, am_go dc_117_2, J_iconst, c32_0, am_go dc_117_3, J_istore, st1_0, st1_1, st1_s, J_iload, K_il, ld_4, am_go dc_117_7, J_aload_0, K_al, ld_0, am_go dc_117_8, J_getfield, gf_r, fk_4_38_4, am_go dc_117_11, fk_4_56_1, am_go dc_117_14, J_iload_1, ld_1, am_go dc_117_15, J_aaload, am_go dc_117_16, JR_v, JR_0, JR_ite, ci1_r, am_go dc_117_19, J_icmp_ge, am_go dc_117_22, J_lload_2, K_ll, ld_2, am_go dc_117_23, am_go dc_117_24, fk_4_26_4, am_go dc_117_27, am_go dc_117_28, c32_4, am_go dc_117_29, J_imul, am_go dc_117_30, am_go dc_117_32, J_iadd, am_go dc_117_33, J_iaload, am_go dc_117_34, J_i2l, am_go dc_117_35, am_go dc_117_36, am_go dc_117_39, am_go dc_117_42, am_go dc_117_43, am_go dc_117_44, am_go dc_117_47, am_go dc_117_49, am_go dc_117_50, am_go dc_117_51, J_lmul, am_go dc_117_52, J_ladd, am_go dc_117_53, am_go dc_117_54, J_iinc, pinc_go, c32_1, am_go dc_117_57, J_goto, am_go dc_117_60, am_go dc_117_61, fk_4_97_4, am_go dc_117_64, J_ldc2, cj_4_161, am_go dc_117_67, J_ldiv, am_go dc_117_68, am_go dc_117_69, am_go dc_117_70, J_ret_l ret_117, lg_0, tg_0, lg_8, lg_6, lH_0, lH_1, lH_4, lH_5, lH_6, lH_7, lH_8, lw_1, lw_4, lw_5, lw_6, lw_7, lw_8, zI_add, zI_mul, zI_lt, zI_le, zI_eq, zI_neg, zI_pos, zI_ne0, zI_gt0, zB_0, lg_cmp_ge, lg_cmp_le, lg_cmp_gt, lg_cmp_lt, lg_cmp_eq, ail_r, abl_r, all_r, ais_r, abs_r, als_r, aal_r, aal_q, aln_r, vrf_s, vrf_n, z32, t0, t1, t3, t4, hsz, ha, vx_4_117 own_117 hB, hn3, hi', q100, List.length_cons, List.length_nil, Nat.reduceAdd, Nat.reduceLT, Nat.reduceLeDiff, Nat.reduceEqDiff, ↓reduceIte, bind_s, if_true, if_false, not_true_eq_false, not_false_eq_true, Nat.zero_add]
    all_goals rfl
  | succ k ih =>
    intro i v hi
    have hlt : ¬ wN (S (18 * b + 3)) ≤ i := by omega
    have hw := fun x => hB.w (x := x) (i := i) (show i < wN (qRow S b 3) by omega)
    have hwr : qRow S b (6 + i) = S (18 * b + (6 + i)) := rfl
    have ih' := ih (i + 1) (v + (u.1 8 (4 * b + i)).toInt64 * (S (18 * b + (6 + i))).toInt64) (by omega)
    refine Eq.trans ?_ ih'
    conv => lhs; rw [am_go dc_117_5]
    simp (disch := first | omega | exact Nat.le_of_ble_eq_true rfl | exact lH_ci | (refine lF_lt ?_; omega) | exact (hS _).iT.ci) only [own_117, am_go dc_117_0, J_lconst, i64_0, am_go dc_117_1, J_lstore_2, st2_0, st2_1, st2_s, kl_i, kl_l, kl_r, kl_n, am_go dc_117_2, J_iconst, c32_0, am_go dc_117_3, J_istore, st1_0, st1_1, st1_s, J_iload, K_il, ld_4, am_go dc_117_7, J_aload_0, K_al, ld_0, am_go dc_117_8, J_getfield, gf_r, fk_4_38_4, am_go dc_117_11, fk_4_56_1, am_go dc_117_14, J_iload_1, ld_1, am_go dc_117_15, J_aaload, am_go dc_117_16, JR_v, JR_0, JR_ite, ci1_r, am_go dc_117_19, J_icmp_ge, am_go dc_117_22, J_lload_2, K_ll, ld_2, am_go dc_117_23, am_go dc_117_24, fk_4_26_4, am_go dc_117_27, am_go dc_117_28, c32_4, am_go dc_117_29, J_imul, am_go dc_117_30, am_go dc_117_32, J_iadd, am_go dc_117_33, J_iaload, am_go dc_117_34, J_i2l, am_go dc_117_35, am_go dc_117_36, am_go dc_117_39, am_go dc_117_42, am_go dc_117_43, am_go dc_117_44, am_go dc_117_47, am_go dc_117_49, am_go dc_117_50, am_go dc_117_51, J_lmul, am_go dc_117_52, J_ladd, am_go dc_117_53, am_go dc_117_54, J_iinc, pinc_go, c32_1, am_go dc_117_57, J_goto, am_go dc_117_60, am_go dc_117_61, fk_4_97_4, am_go dc_117_64, J_ldc2, cj_4_161, am_go dc_117_67, J_ldiv, am_go dc_117_68, am_go dc_117_69, am_go dc_117_70, J_ret_l ret_117, lg_0, tg_0, lg_8, lg_6, lH_0, lH_1, lH_4, lH_5, lH_6, lH_7, lH_8, lw_1, lw_4, lw_5, lw_6, lw_7, lw_8, zI_add, zI_mul, zI_lt, zI_le, zI_eq, zI_neg, zI_pos, zI_ne0, zI_gt0, zB_0, lg_cmp_ge, lg_cmp_le, lg_cmp_gt, lg_cmp_lt, lg_cmp_eq, ail_r, abl_r, all_r, ais_r, abs_r, als_r, aal_r, aal_q, aln_r, vrf_s, vrf_n, z32, t0, t1, t3, t4, hsz, ha, vx_4_117 own_117 hB, bf_4_160 hB, hn3, hlt, hw, hwr, Nat.mul_comm b 4, List.length_cons, List.length_nil, Nat.reduceAdd, Nat.reduceLT, Nat.reduceLeDiff, Nat.reduceEqDiff, ↓reduceIte, bind_s, if_true, if_false, not_true_eq_false, not_false_eq_true, Nat.zero_add]
theorem l_shutMean (hS : ∀ u, tS C (lH h l (u, (t, m, a, N))) t T S) (hb : b < wN (S 116)) : am_f X (d + 2) 117 [.ref l, .int (zI b)] (lH h l (u, (t, m, a, N)), z) = some (.inl (some (.long (u.2.2.2 6 / 100 * fo (cBdS S (fun i => u.1 8 (4 * b + i)) b) 0 (wN (S (18 * b + 3))) 0))), (lH h l (u, (t, m, a, N)), z)) := by
  have t0 := fun u => (hS u).iT.c0
  have t1 := fun u => (hS u).iT.c1
  have t3 := fun u => (hS u).iT.c3
  have t4 := fun u => (hS u).iT.c4
  have hsz := (hS u).sz
  have hm5 := (hS u).m5
  rw [fU_117]
  refine Eq.trans ?_ (l_shutMean_l (X := X) (d := d) hS hb _ 0 0 (Nat.zero_add _))
  simp (disch := first | omega | exact Nat.le_of_ble_eq_true rfl | exact lH_ci | (refine lF_lt ?_; omega) | exact (hS _).iT.ci) only [own_117, am_go dc_117_0, J_lconst, i64_0, am_go dc_117_1, J_lstore_2, st2_0, st2_1, st2_s, kl_i, kl_l, kl_r, kl_n, am_go dc_117_2, J_iconst, c32_0, am_go dc_117_3, J_istore, st1_0, st1_1, st1_s, J_iload, K_il, ld_4, am_go dc_117_7, J_aload_0, K_al, ld_0, am_go dc_117_8, J_getfield, gf_r, fk_4_38_4, am_go dc_117_11, fk_4_56_1, am_go dc_117_14, J_iload_1, ld_1, am_go dc_117_15, J_aaload, am_go dc_117_16, JR_v, JR_0, JR_ite, ci1_r, am_go dc_117_19, J_icmp_ge, am_go dc_117_22, J_lload_2, K_ll, ld_2, am_go dc_117_23, am_go dc_117_24, fk_4_26_4, am_go dc_117_27, am_go dc_117_28, c32_4, am_go dc_117_29, J_imul, am_go dc_117_30, am_go dc_117_32, J_iadd, am_go dc_117_33, J_iaload, am_go dc_117_34, J_i2l, am_go dc_117_35, am_go dc_117_36, am_go dc_117_39, am_go dc_117_42, am_go dc_117_43, am_go dc_117_44, am_go dc_117_47, am_go dc_117_49, am_go dc_117_50, am_go dc_117_51, J_lmul, am_go dc_117_52, J_ladd, am_go dc_117_53, am_go dc_117_54, J_iinc, pinc_go, c32_1, am_go dc_117_57, J_goto, am_go dc_117_60, am_go dc_117_61, fk_4_97_4, am_go dc_117_64, J_ldc2, cj_4_161, am_go dc_117_67, J_ldiv, am_go dc_117_68, am_go dc_117_69, am_go dc_117_70, J_ret_l ret_117, lg_0, tg_0, lg_8, lg_6, lH_0, lH_1, lH_4, lH_5, lH_6, lH_7, lH_8, lw_1, lw_4, lw_5, lw_6, lw_7, lw_8, zI_add, zI_mul, zI_lt, zI_le, zI_eq, zI_neg, zI_pos, zI_ne0, zI_gt0, zB_0, lg_cmp_ge, lg_cmp_le, lg_cmp_gt, lg_cmp_lt, lg_cmp_eq, ail_r, abl_r, all_r, ais_r, abs_r, als_r, aal_r, aal_q, aln_r, vrf_s, vrf_n, z32, t0, t1, t3, t4, hsz, List.length_cons, List.length_nil, Nat.reduceAdd, Nat.reduceLT, Nat.reduceLeDiff, Nat.reduceEqDiff, ↓reduceIte, bind_s, if_true, if_false, not_true_eq_false, not_false_eq_true, Nat.zero_add]
/-- opening a box, by the table V of means -/
def oSt (T : mU × (Nat → Option Nat)) (ch : Nat → Int32) (nx : Nat → Nat → Nat) (V : (Nat → Nat) → Nat → Int64) (b r i : Nat) (v : Int64) : Int64 := v + (ch i).toInt64 * V (nx i) (rMx T r (4 * b + i))
def tV (S : Nat → Int32) (M : Nat → Int64) (dg : Nat → Nat) (r : Nat) : Int64 := M (r * 4 ^ wN (S 116) + pk dg)
theorem tS.rks {H : am_H} (hS : tS C H t T S) : ∃ R, T.1.2.2.1 5 = zI R ∧ 1 ≤ R ∧ R ≤ 21 ∧ ∀ b i, b < wN (S 116) → i < wN (S (18 * b + 3)) → T.1.1 6 (4 * b + i) = zI (wN (T.1.1 6 (4 * b + i))) ∧ wN (T.1.1 6 (4 * b + i)) < R := by
  obtain ⟨R, h1, h2, h3, h4, h5, h6⟩ := hS.2.2.2.2
  refine ⟨R, h1, h2, h3, fun b i hb hi => ?_⟩
  obtain ⟨q, q1, q2, q3⟩ := h6 b i hb hi
  rw [q2, wN_zI (by omega)]
  exact ⟨rfl, q1⟩
theorem idx_lt {k r : Nat} {S : Nat → Int32} {dg : Nat → Nat} (hd : dIn S dg) (h5 : wN (S 116) ≤ 5) (hr : r < 21) (hN : 21 * 4 ^ wN (S 116) ≤ k) : r * 4 ^ wN (S 116) + pk dg < k := by
  have h1 := pkm_lt hd h5
  have h2 : (r + 1) * 4 ^ wN (S 116) ≤ 21 * 4 ^ wN (S 116) := Nat.mul_le_mul_right _ (by omega)
  rw [Nat.add_mul, Nat.one_mul] at h2
  omega
theorem l_openMean_l {nd : Nat → Nat → Nat} (hS : ∀ u, tS C (lH h l (u, (t, m, a, N))) t T S) (hL : lOkk l (t, m, a, N)) (hN : 21 * 4 ^ wN (S 116) ≤ N) (hN2 : N < 1000000) (hb : b < wN (S 116)) (hr : r < 21) (hnd : ∀ i, i < wN (S (18 * b + 3)) → u.1 9 (4 * b + i) = zI (pk (nd i)) ∧ dIn S (nd i)) : ∀ (k i : Nat) (v : Int64) (v7 : Option Value), i + k = wN (S (18 * b + 3)) → am_I X (am_f X (d + 1)) 121 37 [some (.ref l), some (.int (zI b)), some (.int (zI r)), some (.long v), none, some (.int (zI (4 * b + wN (S (18 * b + 3))))), some (.int (zI (4 * b + i))), v7] [] (lH h l (u, (t, m, a, N)), z) = some (.inl (some (.long (fo (oSt T (fun i => u.1 8 (4 * b + i)) nd (tV S (u.2.1 3)) b r) i k v))), (lH h l (u, (t, m, a, N)), z)) := by
  have t0 := fun u => (hS u).iT.c0
  have t1 := fun u => (hS u).iT.c1
  have t3 := fun u => (hS u).iT.c3
  have t4 := fun u => (hS u).iT.c4
  have hsz := (hS u).sz
  have hm5 := (hS u).m5
  obtain ⟨R, -, -, hR21, hrk⟩ := (hS u).rks
  obtain ⟨hn, hn1, hn4⟩ := (hS u).2.1.n hb
  have hM := lM (h := h) (u := u) hL
  intro k
  induction k with
  | zero =>
    intro i v v7 hi
    have hi' : 4 * b + wN (S (18 * b + 3)) ≤ 4 * b + i := by omega
    rw [am_go dc_121_37]
    simp (disch := first | omega | exact Nat.le_of_ble_eq_true rfl | exact lH_ci | (refine lF_lt ?_; omega) | exact (hS _).iT.ci) only [own_121, am_go dc_121_0, J_aload_0, K_al, ld_0, am_go dc_121_1, J_getfield, gf_r, fk_4_9_4, am_go dc_121_4, J_iload_1, K_il, ld_1, am_go dc_121_5, J_iaload, am_go dc_121_6, J_ineg, am_go dc_121_7, J_i2l, am_go dc_121_8, am_go dc_121_9, fk_4_97_4, am_go dc_121_12, J_lmul, am_go dc_121_13, J_lstore_3, st2_0, st2_1, st2_s, kl_i, kl_l, kl_r, kl_n, am_go dc_121_14, am_go dc_121_15, J_iconst, c32_4, am_go dc_121_16, J_imul, am_go dc_121_17, am_go dc_121_18, fk_4_38_4, am_go dc_121_21, fk_4_56_1, am_go dc_121_24, am_go dc_121_25, J_aaload, am_go dc_121_26, JR_v, JR_0, JR_ite, ci1_r, am_go dc_121_29, J_iadd, am_go dc_121_30, J_istore, st1_0, st1_1, st1_s, am_go dc_121_32, am_go dc_121_33, am_go dc_121_34, am_go dc_121_35, J_iload, ld_6, am_go dc_121_39, ld_5, am_go dc_121_41, J_icmp_ge, am_go dc_121_44, am_go dc_121_45, am_go dc_121_48, fk_4_163_1, am_go dc_121_51, am_go dc_121_53, am_go dc_121_54, J_iload_2, ld_2, am_go dc_121_55, J_icmp_le, am_go dc_121_58, am_go dc_121_59, am_go dc_121_62, am_go dc_121_65, am_go dc_121_67, am_go dc_121_68, J_goto, am_go dc_121_71, am_go dc_121_72, am_go dc_121_74, J_lload_3, K_ll, ld_3, am_go dc_121_75, am_go dc_121_76, fk_4_26_4, am_go dc_121_79, am_go dc_121_81, am_go dc_121_82, am_go dc_121_83, am_go dc_121_84, fk_4_15_4, am_go dc_121_87, am_go dc_121_88, am_go dc_121_91, am_go dc_121_92, fk_4_29_4, am_go dc_121_95, am_go dc_121_97, am_go dc_121_98, ld_7, am_go dc_121_100, cv_4_150_1 own_121, am_go dc_121_103, J_laload, am_go dc_121_104, am_go dc_121_105, J_ladd, am_go dc_121_106, am_go dc_121_107, J_iinc, pinc_go, c32_1, am_go dc_121_110, am_go dc_121_113, am_go dc_121_114, J_ret_l ret_121, lg_1, lg_6, lg_0, tg_0, tg_6, lg_8, lg_3, lg_9, lH_0, lH_1, lH_4, lH_5, lH_6, lH_7, lH_8, lw_1, lw_4, lw_5, lw_6, lw_7, lw_8, zI_add, zI_mul, zI_lt, zI_le, zI_eq, zI_neg, zI_pos, zI_ne0, zI_gt0, zB_0, lg_cmp_ge, lg_cmp_le, lg_cmp_gt, lg_cmp_lt, lg_cmp_eq, ail_r, abl_r, all_r, ais_r, abs_r, als_r, aal_r, aal_q, aln_r, vrf_s, vrf_n, z32, t0, t1, t3, t4, hsz, hi', List.length_cons, List.length_nil, Nat.reduceAdd, Nat.reduceLT, Nat.reduceLeDiff, Nat.reduceEqDiff, ↓reduceIte, bind_s, if_true, if_false, not_true_eq_false, not_false_eq_true, Nat.zero_add]
    all_goals rfl
  | succ k ih =>
    intro i v v7 hi
    have hlt : ¬ 4 * b + wN (S (18 * b + 3)) ≤ 4 * b + i := by omega
    obtain ⟨e1, e2⟩ := hnd i (by omega)
    obtain ⟨e3, e4⟩ := hrk b i hb (by omega)
    have hix := fun r (hr : r < 21) => c_index (X := X) (d := d) (z := z) (dg := nd i) (r := r) (hS u) (by omega)
    have ih' := fun v7 => ih (i + 1) (oSt T (fun i => u.1 8 (4 * b + i)) nd (tV S (u.2.1 3)) b r i v) v7 (by omega)
    by_cases c : r < wN (T.1.1 6 (4 * b + i))
    · have hmx : rMx T r (4 * b + i) = wN (T.1.1 6 (4 * b + i)) := if_pos c
      have hle := idx_lt e2 hm5 (show wN (T.1.1 6 (4 * b + i)) < 21 by omega) hN
      have c' : ¬ wN (T.1.1 6 (4 * b + i)) ≤ r := by omega
      have hix' := hix (wN (T.1.1 6 (4 * b + i))) (by omega)
      refine Eq.trans ?_ (ih' (some (.int (zI (wN (T.1.1 6 (4 * b + i)))))))
      unfold oSt tV
      rw [hmx]
      generalize wN (T.1.1 6 (4 * b + i)) = q at *
      conv => lhs; rw [am_go dc_121_37]
      simp (disch := first | omega | exact Nat.le_of_ble_eq_true rfl | exact lH_ci | (refine lF_lt ?_; omega) | exact (hS _).iT.ci) only [own_121, am_go dc_121_0, J_aload_0, K_al, ld_0, am_go dc_121_1, J_getfield, gf_r, fk_4_9_4, am_go dc_121_4, J_iload_1, K_il, ld_1, am_go dc_121_5, J_iaload, am_go dc_121_6, J_ineg, am_go dc_121_7, J_i2l, am_go dc_121_8, am_go dc_121_9, fk_4_97_4, am_go dc_121_12, J_lmul, am_go dc_121_13, J_lstore_3, st2_0, st2_1, st2_s, kl_i, kl_l, kl_r, kl_n, am_go dc_121_14, am_go dc_121_15, J_iconst, c32_4, am_go dc_121_16, J_imul, am_go dc_121_17, am_go dc_121_18, fk_4_38_4, am_go dc_121_21, fk_4_56_1, am_go dc_121_24, am_go dc_121_25, J_aaload, am_go dc_121_26, JR_v, JR_0, JR_ite, ci1_r, am_go dc_121_29, J_iadd, am_go dc_121_30, J_istore, st1_0, st1_1, st1_s, am_go dc_121_32, am_go dc_121_33, am_go dc_121_34, am_go dc_121_35, J_iload, ld_6, am_go dc_121_39, ld_5, am_go dc_121_41, J_icmp_ge, am_go dc_121_44, am_go dc_121_45, am_go dc_121_48, fk_4_163_1, am_go dc_121_51, am_go dc_121_53, am_go dc_121_54, J_iload_2, ld_2, am_go dc_121_55, J_icmp_le, am_go dc_121_58, am_go dc_121_59, am_go dc_121_62, am_go dc_121_65, am_go dc_121_67, am_go dc_121_68, J_goto, am_go dc_121_71, am_go dc_121_72, am_go dc_121_74, J_lload_3, K_ll, ld_3, am_go dc_121_75, am_go dc_121_76, fk_4_26_4, am_go dc_121_79, am_go dc_121_81, am_go dc_121_82, am_go dc_121_83, am_go dc_121_84, fk_4_15_4, am_go dc_121_87, am_go dc_121_88, am_go dc_121_91, am_go dc_121_92, fk_4_29_4, am_go dc_121_95, am_go dc_121_97, am_go dc_121_98, ld_7, am_go dc_121_100, cv_4_150_1 own_121, am_go dc_121_103, J_laload, am_go dc_121_104, am_go dc_121_105, J_ladd, am_go dc_121_106, am_go dc_121_107, J_iinc, pinc_go, c32_1, am_go dc_121_110, am_go dc_121_113, am_go dc_121_114, J_ret_l ret_121, lg_1, lg_6, lg_0, tg_0, tg_6, lg_8, lg_3, lg_9, lH_0, lH_1, lH_4, lH_5, lH_6, lH_7, lH_8, lw_1, lw_4, lw_5, lw_6, lw_7, lw_8, zI_add, zI_mul, zI_lt, zI_le, zI_eq, zI_neg, zI_pos, zI_ne0, zI_gt0, zB_0, lg_cmp_ge, lg_cmp_le, lg_cmp_gt, lg_cmp_lt, lg_cmp_eq, ail_r, abl_r, all_r, ais_r, abs_r, als_r, aal_r, aal_q, aln_r, vrf_s, vrf_n, z32, t0, t1, t3, t4, hsz, hlt, e1, e3, c', hix', hM, Nat.add_assoc, List.length_cons, List.length_nil, Nat.reduceAdd, Nat.reduceLT, Nat.reduceLeDiff, Nat.reduceEqDiff, ↓reduceIte, bind_s, if_true, if_false, not_true_eq_false, not_false_eq_true, Nat.zero_add]
      all_goals rfl
    · have hmx : rMx T r (4 * b + i) = r := if_neg c
      have hle := idx_lt e2 hm5 hr hN
      have c' : wN (T.1.1 6 (4 * b + i)) ≤ r := by omega
      have hix' := hix r hr
      refine Eq.trans ?_ (ih' (some (.int (zI r))))
      unfold oSt tV
      rw [hmx]
      generalize wN (T.1.1 6 (4 * b + i)) = q at *
      conv => lhs; rw [am_go dc_121_37]
      simp (disch := first | omega | exact Nat.le_of_ble_eq_true rfl | exact lH_ci | (refine lF_lt ?_; omega) | exact (hS _).iT.ci) only [own_121, am_go dc_121_0, J_aload_0, K_al, ld_0, am_go dc_121_1, J_getfield, gf_r, fk_4_9_4, am_go dc_121_4, J_iload_1, K_il, ld_1, am_go dc_121_5, J_iaload, am_go dc_121_6, J_ineg, am_go dc_121_7, J_i2l, am_go dc_121_8, am_go dc_121_9, fk_4_97_4, am_go dc_121_12, J_lmul, am_go dc_121_13, J_lstore_3, st2_0, st2_1, st2_s, kl_i, kl_l, kl_r, kl_n, am_go dc_121_14, am_go dc_121_15, J_iconst, c32_4, am_go dc_121_16, J_imul, am_go dc_121_17, am_go dc_121_18, fk_4_38_4, am_go dc_121_21, fk_4_56_1, am_go dc_121_24, am_go dc_121_25, J_aaload, am_go dc_121_26, JR_v, JR_0, JR_ite, ci1_r, am_go dc_121_29, J_iadd, am_go dc_121_30, J_istore, st1_0, st1_1, st1_s, am_go dc_121_32, am_go dc_121_33, am_go dc_121_34, am_go dc_121_35, J_iload, ld_6, am_go dc_121_39, ld_5, am_go dc_121_41, J_icmp_ge, am_go dc_121_44, am_go dc_121_45, am_go dc_121_48, fk_4_163_1, am_go dc_121_51, am_go dc_121_53, am_go dc_121_54, J_iload_2, ld_2, am_go dc_121_55, J_icmp_le, am_go dc_121_58, am_go dc_121_59, am_go dc_121_62, am_go dc_121_65, am_go dc_121_67, am_go dc_121_68, J_goto, am_go dc_121_71, am_go dc_121_72, am_go dc_121_74, J_lload_3, K_ll, ld_3, am_go dc_121_75, am_go dc_121_76, fk_4_26_4, am_go dc_121_79, am_go dc_121_81, am_go dc_121_82, am_go dc_121_83, am_go dc_121_84, fk_4_15_4, am_go dc_121_87, am_go dc_121_88, am_go dc_121_91, am_go dc_121_92, fk_4_29_4, am_go dc_121_95, am_go dc_121_97, am_go dc_121_98, ld_7, am_go dc_121_100, cv_4_150_1 own_121, am_go dc_121_103, J_laload, am_go dc_121_104, am_go dc_121_105, J_ladd, am_go dc_121_106, am_go dc_121_107, J_iinc, pinc_go, c32_1, am_go dc_121_110, am_go dc_121_113, am_go dc_121_114, J_ret_l ret_121, lg_1, lg_6, lg_0, tg_0, tg_6, lg_8, lg_3, lg_9, lH_0, lH_1, lH_4, lH_5, lH_6, lH_7, lH_8, lw_1, lw_4, lw_5, lw_6, lw_7, lw_8, zI_add, zI_mul, zI_lt, zI_le, zI_eq, zI_neg, zI_pos, zI_ne0, zI_gt0, zB_0, lg_cmp_ge, lg_cmp_le, lg_cmp_gt, lg_cmp_lt, lg_cmp_eq, ail_r, abl_r, all_r, ais_r, abs_r, als_r, aal_r, aal_q, aln_r, vrf_s, vrf_n, z32, t0, t1, t3, t4, hsz, hlt, e1, e3, c', hix', hM, Nat.add_assoc, List.length_cons, List.length_nil, Nat.reduceAdd, Nat.reduceLT, Nat.reduceLeDiff, Nat.reduceEqDiff, ↓reduceIte, bind_s, if_true, if_false, not_true_eq_false, not_false_eq_true, Nat.zero_add]
      all_goals rfl
theorem l_openMean {nd : Nat → Nat → Nat} (hS : ∀ u, tS C (lH h l (u, (t, m, a, N))) t T S) (hL : lOkk l (t, m, a, N)) (hN : 21 * 4 ^ wN (S 116) ≤ N) (hN2 : N < 1000000) (hb : b < wN (S 116)) (hr : r < 21) (hnd : ∀ i, i < wN (S (18 * b + 3)) → u.1 9 (4 * b + i) = zI (pk (nd i)) ∧ dIn S (nd i)) : am_f X (d + 2) 121 [.ref l, .int (zI b), .int (zI r)] (lH h l (u, (t, m, a, N)), z) = some (.inl (some (.long (fo (oSt T (fun i => u.1 8 (4 * b + i)) nd (tV S (u.2.1 3)) b r) 0 (wN (S (18 * b + 3))) ((-u.1 1 b).toInt64 * u.2.2.2 6)))), (lH h l (u, (t, m, a, N)), z)) := by
  have t0 := fun u => (hS u).iT.c0
  have t1 := fun u => (hS u).iT.c1
  have t3 := fun u => (hS u).iT.c3
  have t4 := fun u => (hS u).iT.c4
  have hsz := (hS u).sz
  have hm5 := (hS u).m5
  obtain ⟨a', bb, ha, hB⟩ := (hS u).box hb
  have hn3 : wN (qRow S b 3) = wN (S (18 * b + 3)) := rfl
  rw [fU_121]
  refine Eq.trans ?_ (l_openMean_l (X := X) (d := d) hS hL hN hN2 hb hr hnd _ 0 _ none (Nat.zero_add _))
  simp (disch := first | omega | exact Nat.le_of_ble_eq_true rfl | exact lH_ci | (refine lF_lt ?_; omega) | exact (hS _).iT.ci) only [own_121, am_go dc_121_0, J_aload_0, K_al, ld_0, am_go dc_121_1, J_getfield, gf_r, fk_4_9_4, am_go dc_121_4, J_iload_1, K_il, ld_1, am_go dc_121_5, J_iaload, am_go dc_121_6, J_ineg, am_go dc_121_7, J_i2l, am_go dc_121_8, am_go dc_121_9, fk_4_97_4, am_go dc_121_12, J_lmul, am_go dc_121_13, J_lstore_3, st2_0, st2_1, st2_s, kl_i, kl_l, kl_r, kl_n, am_go dc_121_14, am_go dc_121_15, J_iconst, c32_4, am_go dc_121_16, J_imul, am_go dc_121_17, am_go dc_121_18, fk_4_38_4, am_go dc_121_21, fk_4_56_1, am_go dc_121_24, am_go dc_121_25, J_aaload, am_go dc_121_26, JR_v, JR_0, JR_ite, ci1_r, am_go dc_121_29, J_iadd, am_go dc_121_30, J_istore, st1_0, st1_1, st1_s, am_go dc_121_32, am_go dc_121_33, am_go dc_121_34, am_go dc_121_35, J_iload, ld_6, am_go dc_121_39, ld_5, am_go dc_121_41, J_icmp_ge, am_go dc_121_44, am_go dc_121_45, am_go dc_121_48, fk_4_163_1, am_go dc_121_51, am_go dc_121_53, am_go dc_121_54, J_iload_2, ld_2, am_go dc_121_55, J_icmp_le, am_go dc_121_58, am_go dc_121_59, am_go dc_121_62, am_go dc_121_65, am_go dc_121_67, am_go dc_121_68, J_goto, am_go dc_121_71, am_go dc_121_72, am_go dc_121_74, J_lload_3, K_ll, ld_3, am_go dc_121_75, am_go dc_121_76, fk_4_26_4, am_go dc_121_79, am_go dc_121_81, am_go dc_121_82, am_go dc_121_83, am_go dc_121_84, fk_4_15_4, am_go dc_121_87, am_go dc_121_88, am_go dc_121_91, am_go dc_121_92, fk_4_29_4, am_go dc_121_95, am_go dc_121_97, am_go dc_121_98, ld_7, am_go dc_121_100, cv_4_150_1 own_121, am_go dc_121_103, J_laload, am_go dc_121_104, am_go dc_121_105, J_ladd, am_go dc_121_106, am_go dc_121_107, J_iinc, pinc_go, c32_1, am_go dc_121_110, am_go dc_121_113, am_go dc_121_114, J_ret_l ret_121, lg_1, lg_6, lg_0, tg_0, tg_6, lg_8, lg_3, lg_9, lH_0, lH_1, lH_4, lH_5, lH_6, lH_7, lH_8, lw_1, lw_4, lw_5, lw_6, lw_7, lw_8, zI_add, zI_mul, zI_lt, zI_le, zI_eq, zI_neg, zI_pos, zI_ne0, zI_gt0, zB_0, lg_cmp_ge, lg_cmp_le, lg_cmp_gt, lg_cmp_lt, lg_cmp_eq, ail_r, abl_r, all_r, ais_r, abs_r, als_r, aal_r, aal_q, aln_r, vrf_s, vrf_n, z32, t0, t1, t3, t4, hsz, ha, vx_4_117 own_121 hB, hn3, Nat.mul_comm b 4, Nat.add_zero, List.length_cons, List.length_nil, Nat.reduceAdd, Nat.reduceLT, Nat.reduceLeDiff, Nat.reduceEqDiff, ↓reduceIte, bind_s, if_true, if_false, not_true_eq_false, not_false_eq_true, Nat.zero_add]
theorem l_peepMean (hS : ∀ u, tS C (lH h l (u, (t, m, a, N))) t T S) (hL : lOkk l (t, m, a, N)) (hN : 21 * 4 ^ wN (S 116) ≤ N) (hN2 : N < 1000000) (hb : b < wN (S 116)) (hr : r < 21) (hh : u.2.2.1 5 = zI (pk dg)) (hd : dIn S dg) : am_f X (d + 2) 123 [.ref l, .int (zI b), .int (zI r)] (lH h l (u, (t, m, a, N)), z) = some (.inl (some (.long (tV S (u.2.1 3) (cAp dg b true) r + tV S (u.2.1 3) (cAp dg b false) r - (S (18 * b + 4)).toInt64 * u.2.2.2 6))), (lH h l (u, (t, m, a, N)), z)) := by
  have t0 := fun u => (hS u).iT.c0
  have t1 := fun u => (hS u).iT.c1
  have t3 := fun u => (hS u).iT.c3
  have t4 := fun u => (hS u).iT.c4
  have hsz := (hS u).sz
  have hm5 := (hS u).m5
  obtain ⟨a', bb, ha, hB⟩ := (hS u).box hb
  have hM := lM (h := h) (u := u) hL
  have h4 : qRow S b 4 = S (18 * b + 4) := rfl
  have p1 := c_afterPeeping (X := X) (d := d) (z := z) (t := t) (H := lH h l (u, (t, m, a, N))) (g := true) hd.1 (show b < 5 by omega)
  have p2 := c_afterPeeping (X := X) (d := d) (z := z) (t := t) (H := lH h l (u, (t, m, a, N))) (g := false) hd.1 (show b < 5 by omega)
  rw [zB_t] at p1
  rw [zB_f] at p2
  have i1 := c_index (X := X) (d := d) (z := z) (dg := cAp dg b true) (r := r) (hS u) (by omega)
  have i2 := c_index (X := X) (d := d) (z := z) (dg := cAp dg b false) (r := r) (hS u) (by omega)
  have l1 := idx_lt (hd.ap (g := true) hm5 hb) hm5 hr hN
  have l2 := idx_lt (hd.ap (g := false) hm5 hb) hm5 hr hN
  unfold tV
  rw [fU_123]
  simp (disch := first | omega | exact Nat.le_of_ble_eq_true rfl | exact lH_ci | (refine lF_lt ?_; omega) | exact (hS _).iT.ci) only [own_123, am_go dc_123_0, J_aload_0, K_al, ld_0, am_go dc_123_1, J_getfield, gf_r, fk_4_15_4, am_go dc_123_4, am_go dc_123_5, fk_4_38_4, am_go dc_123_8, am_go dc_123_9, am_go dc_123_12, am_go dc_123_13, fk_4_90_4, am_go dc_123_16, J_iload_1, K_il, ld_1, am_go dc_123_17, J_iconst, c32_1, am_go dc_123_18, cv_4_166_1 own_123, JR_v, JR_0, JR_ite, ci1_r, am_go dc_123_21, J_iload_2, ld_2, am_go dc_123_22, cv_4_150_1 own_123, am_go dc_123_25, J_laload, am_go dc_123_26, am_go dc_123_27, am_go dc_123_30, am_go dc_123_31, am_go dc_123_34, am_go dc_123_35, am_go dc_123_38, am_go dc_123_39, am_go dc_123_42, am_go dc_123_43, c32_0, am_go dc_123_44, am_go dc_123_47, am_go dc_123_48, am_go dc_123_51, am_go dc_123_52, J_ladd, am_go dc_123_53, am_go dc_123_54, am_go dc_123_57, fk_4_56_1, am_go dc_123_60, am_go dc_123_61, J_aaload, am_go dc_123_62, am_go dc_123_65, J_i2l, am_go dc_123_66, am_go dc_123_67, fk_4_97_4, am_go dc_123_70, J_lmul, am_go dc_123_71, J_lsub, am_go dc_123_72, J_ret_l ret_123, lg_3, lg_0, lg_5, tg_0, lg_6, lH_0, lH_1, lH_4, lH_5, lH_6, lH_7, lH_8, lw_1, lw_4, lw_5, lw_6, lw_7, lw_8, zI_add, zI_mul, zI_lt, zI_le, zI_eq, zI_neg, zI_pos, zI_ne0, zI_gt0, zB_0, lg_cmp_ge, lg_cmp_le, lg_cmp_gt, lg_cmp_lt, lg_cmp_eq, ail_r, abl_r, all_r, ais_r, abs_r, als_r, aal_r, aal_q, aln_r, vrf_s, vrf_n, z32, t0, t1, t3, t4, hsz, hh, ha, vx_4_170 own_123 hB, h4, p1, p2, i1, i2, hM, List.length_cons, List.length_nil, Nat.reduceAdd, Nat.reduceLT, Nat.reduceLeDiff, Nat.reduceEqDiff, ↓reduceIte, bind_s, if_true, if_false, not_true_eq_false, not_false_eq_true, Nat.zero_add]
end PM
