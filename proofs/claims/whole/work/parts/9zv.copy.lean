/-! the face: copies, weights, tosses -/
def stB (s : Nat) (a w : Int32) : Bool := if a < 0 then false else if w < 0 then false else if zI s < a then false else if zI s - a < w then false else true
theorem nn_z {a : Int32} (h : ¬ a < 0) : a = zI (wN a) ∧ wN a < 2147483648 := by
  have h0 := Int32.not_lt.mp h
  have hq : qIs a 2147483648 = true := by
    unfold qIs
    rw [decide_eq_true h0]
    have : wN a < 2147483648 := by
      unfold wN
      have := Int32.toInt_lt a
      have e := Int32.toNatClampNeg
      have h3 : a.toInt.toNat < 2147483648 := by omega
      exact h3
    rw [decide_eq_true this]
    rfl
  exact qIs_get hq
theorem sub_z {s i : Nat} (hs : s ≤ 120) (hi : i < 2147483648) : (zI s - zI i).toInt = (s : Int) - i := by
  rw [Int32.toInt_sub, zI_toInt (by omega), zI_toInt hi]
  exact Int.bmod_eq_of_le (by omega) (by omega)
theorem stB_t {s : Nat} {a w : Int32} (hs : s ≤ 120) (h : stB s a w = true) : a = zI (wN a) ∧ w = zI (wN w) ∧ wN a + wN w ≤ s := by
  unfold stB at h
  by_cases c1 : a < 0
  · rw [if_pos c1] at h
    exact absurd h (by decide)
  · by_cases c2 : w < 0
    · rw [if_neg c1, if_pos c2] at h
      exact absurd h (by decide)
    · by_cases c3 : zI s < a
      · rw [if_neg c1, if_neg c2, if_pos c3] at h
        exact absurd h (by decide)
      · by_cases c4 : zI s - a < w
        · rw [if_neg c1, if_neg c2, if_neg c3, if_pos c4] at h
          exact absurd h (by decide)
        · obtain ⟨e1, l1⟩ := nn_z c1
          obtain ⟨e2, l2⟩ := nn_z c2
          refine ⟨e1, e2, ?_⟩
          have q := Int32.not_lt.mp c4
          rw [e1, e2, Int32.le_iff_toInt_le, sub_z hs l1, zI_toInt l2] at q
          omega
theorem stB_f {s : Nat} {a w : Int32} (hs : s ≤ 120) (h : stB s a w = false) : w < 0 ∨ a < 0 ∨ zI s - a < w := by
  unfold stB at h
  by_cases c1 : a < 0
  · exact Or.inr (Or.inl c1)
  · by_cases c2 : w < 0
    · exact Or.inl c2
    · by_cases c4 : zI s - a < w
      · exact Or.inr (Or.inr c4)
      · by_cases c3 : zI s < a
        · obtain ⟨e1, l1⟩ := nn_z c1
          obtain ⟨e2, l2⟩ := nn_z c2
          refine Or.inr (Or.inr ?_)
          rw [e1, zI_lt (by omega) l1] at c3
          rw [e1, e2, Int32.lt_iff_toInt_lt, sub_z hs l1, zI_toInt l2]
          omega
        · rw [if_neg c1, if_neg c2, if_neg c3, if_neg c4] at h
          exact absurd h (by decide)
theorem cp_v {e f i j n : Nat} {g : Nat → Int32} (hi : i + n ≤ 120) (hj : j + n ≤ 120) (q : Nat) : fo (q_cp e i f j n) 0 n g q = if 120 * f + j ≤ q ∧ q < 120 * f + j + n then g (120 * e + i + (q - (120 * f + j))) else g q := by
  by_cases c : j < i
  · have := fo_inv (f := q_cp e i f j n) (fun k G => k ≤ n → ∀ q, G q = if 120 * f + j ≤ q ∧ q < 120 * f + j + k then g (120 * e + i + (q - (120 * f + j))) else g q) n 0 g (fun _ q => by rw [if_neg (by omega)]) (fun k G _ hk ih hkn q => by
      have ih := ih (by omega)
      unfold q_cp
      rw [if_pos c]
      by_cases e1 : q = 120 * f + j + k
      · rw [e1, upd_s, ih, if_neg (by omega), if_pos (by omega), show 120 * f + j + k - (120 * f + j) = k by omega]
      · rw [upd_o e1, ih]
        by_cases e2 : 120 * f + j ≤ q ∧ q < 120 * f + j + k
        · rw [if_pos e2, if_pos (by omega)]
        · rw [if_neg e2, if_neg (by omega)])
    rw [Nat.zero_add] at this
    exact this (Nat.le_refl _) q
  · have := fo_inv (f := q_cp e i f j n) (fun k G => k ≤ n → ∀ q, G q = if 120 * f + j + (n - k) ≤ q ∧ q < 120 * f + j + n then g (120 * e + i + (q - (120 * f + j))) else g q) n 0 g (fun _ q => by rw [if_neg (by omega)]) (fun k G _ hk ih hkn q => by
      have ih := ih (by omega)
      unfold q_cp
      rw [if_neg c]
      by_cases e1 : q = 120 * f + j + (n - 1 - k)
      · rw [e1, upd_s, ih, if_neg (by omega), if_pos (by omega), show 120 * f + j + (n - 1 - k) - (120 * f + j) = n - 1 - k by omega]
      · rw [upd_o e1, ih]
        by_cases e2 : 120 * f + j + (n - k) ≤ q ∧ q < 120 * f + j + n
        · rw [if_pos e2, if_pos (by omega)]
        · rw [if_neg e2, if_neg (by omega)])
    rw [Nat.zero_add, Nat.sub_self, Nat.add_zero] at this
    exact this (Nat.le_refl _) q
section FM
variable {X : am_X} {o k : Nat} {H : am_H} {z : Nat × Nat} {u : mU}
theorem x_stretch {d e s : Nat} {a w : Int32} {D : mU × (Nat → Option Nat)} (hX : isX H o D) (he : e < 8) (hs : D.1.1 12 e = zI s) : am_f X (d + 1) 169 [.ref o, .int (zI e), .int a, .int w] (H, z) = some (.inl (some (.int (zB (stB s a w)))), (H, z)) := by
  unfold stB
  rw [fU_169]
  by_cases c1 : a < 0
  · simp (disch := first | omega | exact Nat.le_of_ble_eq_true rfl | exact hX.ci | exact hX.ci | exact hT.ci | exact hP.ci | (refine xF_lt ?_; omega) | (refine tF_lt ?_; omega) | (refine pF_lt ?_; omega)) only [own_169, am_go dc_169_0, J_iload_2, K_il, ld_2, am_go dc_169_1, J_if_lt, am_go dc_169_4, J_iload_3, ld_3, am_go dc_169_5, am_go dc_169_8, am_go dc_169_9, J_aload_0, K_al, ld_0, am_go dc_169_10, J_getfield, gf_r, fk_0_70_0, am_go dc_169_13, J_iload_1, ld_1, am_go dc_169_14, J_iaload, am_go dc_169_15, J_icmp_gt, am_go dc_169_18, am_go dc_169_19, am_go dc_169_20, am_go dc_169_23, am_go dc_169_24, am_go dc_169_25, am_go dc_169_26, J_isub, am_go dc_169_27, am_go dc_169_30, J_iconst, c32_1, am_go dc_169_31, J_goto, am_go dc_169_34, c32_0, am_go dc_169_35, J_ret_z0 ret_169, J_ret_z1 ret_169, J_ret_zB ret_169, xg_12, hX.c0, hX.c53, hX.c64, hX.c65, zI_add, zI_mul, zI_lt, zI_le, zI_eq, zI_neg, zI_pos, zI_ne0, zI_gt0, lg_cmp_ge, lg_cmp_le, lg_cmp_gt, lg_cmp_lt, lg_cmp_eq, ail_r, abl_r, all_r, ais_r, abs_r, als_r, aal_r, aal_q, aln_r, vrf_s, vrf_n, z32, hs, c1, List.length_cons, List.length_nil, Nat.reduceAdd, Nat.reduceLT, Nat.reduceLeDiff, Nat.reduceEqDiff, ↓reduceIte, bind_s, if_true, if_false, not_true_eq_false, not_false_eq_true, Nat.zero_add]
    rfl
  · by_cases c2 : w < 0
    · simp (disch := first | omega | exact Nat.le_of_ble_eq_true rfl | exact hX.ci | exact hX.ci | exact hT.ci | exact hP.ci | (refine xF_lt ?_; omega) | (refine tF_lt ?_; omega) | (refine pF_lt ?_; omega)) only [own_169, am_go dc_169_0, J_iload_2, K_il, ld_2, am_go dc_169_1, J_if_lt, am_go dc_169_4, J_iload_3, ld_3, am_go dc_169_5, am_go dc_169_8, am_go dc_169_9, J_aload_0, K_al, ld_0, am_go dc_169_10, J_getfield, gf_r, fk_0_70_0, am_go dc_169_13, J_iload_1, ld_1, am_go dc_169_14, J_iaload, am_go dc_169_15, J_icmp_gt, am_go dc_169_18, am_go dc_169_19, am_go dc_169_20, am_go dc_169_23, am_go dc_169_24, am_go dc_169_25, am_go dc_169_26, J_isub, am_go dc_169_27, am_go dc_169_30, J_iconst, c32_1, am_go dc_169_31, J_goto, am_go dc_169_34, c32_0, am_go dc_169_35, J_ret_z0 ret_169, J_ret_z1 ret_169, J_ret_zB ret_169, xg_12, hX.c0, hX.c53, hX.c64, hX.c65, zI_add, zI_mul, zI_lt, zI_le, zI_eq, zI_neg, zI_pos, zI_ne0, zI_gt0, lg_cmp_ge, lg_cmp_le, lg_cmp_gt, lg_cmp_lt, lg_cmp_eq, ail_r, abl_r, all_r, ais_r, abs_r, als_r, aal_r, aal_q, aln_r, vrf_s, vrf_n, z32, hs, c1, c2, List.length_cons, List.length_nil, Nat.reduceAdd, Nat.reduceLT, Nat.reduceLeDiff, Nat.reduceEqDiff, ↓reduceIte, bind_s, if_true, if_false, not_true_eq_false, not_false_eq_true, Nat.zero_add]
      rfl
    · by_cases c3 : zI s < a
      · simp (disch := first | omega | exact Nat.le_of_ble_eq_true rfl | exact hX.ci | exact hX.ci | exact hT.ci | exact hP.ci | (refine xF_lt ?_; omega) | (refine tF_lt ?_; omega) | (refine pF_lt ?_; omega)) only [own_169, am_go dc_169_0, J_iload_2, K_il, ld_2, am_go dc_169_1, J_if_lt, am_go dc_169_4, J_iload_3, ld_3, am_go dc_169_5, am_go dc_169_8, am_go dc_169_9, J_aload_0, K_al, ld_0, am_go dc_169_10, J_getfield, gf_r, fk_0_70_0, am_go dc_169_13, J_iload_1, ld_1, am_go dc_169_14, J_iaload, am_go dc_169_15, J_icmp_gt, am_go dc_169_18, am_go dc_169_19, am_go dc_169_20, am_go dc_169_23, am_go dc_169_24, am_go dc_169_25, am_go dc_169_26, J_isub, am_go dc_169_27, am_go dc_169_30, J_iconst, c32_1, am_go dc_169_31, J_goto, am_go dc_169_34, c32_0, am_go dc_169_35, J_ret_z0 ret_169, J_ret_z1 ret_169, J_ret_zB ret_169, xg_12, hX.c0, hX.c53, hX.c64, hX.c65, zI_add, zI_mul, zI_lt, zI_le, zI_eq, zI_neg, zI_pos, zI_ne0, zI_gt0, lg_cmp_ge, lg_cmp_le, lg_cmp_gt, lg_cmp_lt, lg_cmp_eq, ail_r, abl_r, all_r, ais_r, abs_r, als_r, aal_r, aal_q, aln_r, vrf_s, vrf_n, z32, hs, c1, c2, c3, List.length_cons, List.length_nil, Nat.reduceAdd, Nat.reduceLT, Nat.reduceLeDiff, Nat.reduceEqDiff, ↓reduceIte, bind_s, if_true, if_false, not_true_eq_false, not_false_eq_true, Nat.zero_add]
        rfl
      · by_cases c4 : zI s - a < w
        · simp (disch := first | omega | exact Nat.le_of_ble_eq_true rfl | exact hX.ci | exact hX.ci | exact hT.ci | exact hP.ci | (refine xF_lt ?_; omega) | (refine tF_lt ?_; omega) | (refine pF_lt ?_; omega)) only [own_169, am_go dc_169_0, J_iload_2, K_il, ld_2, am_go dc_169_1, J_if_lt, am_go dc_169_4, J_iload_3, ld_3, am_go dc_169_5, am_go dc_169_8, am_go dc_169_9, J_aload_0, K_al, ld_0, am_go dc_169_10, J_getfield, gf_r, fk_0_70_0, am_go dc_169_13, J_iload_1, ld_1, am_go dc_169_14, J_iaload, am_go dc_169_15, J_icmp_gt, am_go dc_169_18, am_go dc_169_19, am_go dc_169_20, am_go dc_169_23, am_go dc_169_24, am_go dc_169_25, am_go dc_169_26, J_isub, am_go dc_169_27, am_go dc_169_30, J_iconst, c32_1, am_go dc_169_31, J_goto, am_go dc_169_34, c32_0, am_go dc_169_35, J_ret_z0 ret_169, J_ret_z1 ret_169, J_ret_zB ret_169, xg_12, hX.c0, hX.c53, hX.c64, hX.c65, zI_add, zI_mul, zI_lt, zI_le, zI_eq, zI_neg, zI_pos, zI_ne0, zI_gt0, lg_cmp_ge, lg_cmp_le, lg_cmp_gt, lg_cmp_lt, lg_cmp_eq, ail_r, abl_r, all_r, ais_r, abs_r, als_r, aal_r, aal_q, aln_r, vrf_s, vrf_n, z32, hs, c1, c2, c3, c4, List.length_cons, List.length_nil, Nat.reduceAdd, Nat.reduceLT, Nat.reduceLeDiff, Nat.reduceEqDiff, ↓reduceIte, bind_s, if_true, if_false, not_true_eq_false, not_false_eq_true, Nat.zero_add]
          rfl
        · simp (disch := first | omega | exact Nat.le_of_ble_eq_true rfl | exact hX.ci | exact hX.ci | exact hT.ci | exact hP.ci | (refine xF_lt ?_; omega) | (refine tF_lt ?_; omega) | (refine pF_lt ?_; omega)) only [own_169, am_go dc_169_0, J_iload_2, K_il, ld_2, am_go dc_169_1, J_if_lt, am_go dc_169_4, J_iload_3, ld_3, am_go dc_169_5, am_go dc_169_8, am_go dc_169_9, J_aload_0, K_al, ld_0, am_go dc_169_10, J_getfield, gf_r, fk_0_70_0, am_go dc_169_13, J_iload_1, ld_1, am_go dc_169_14, J_iaload, am_go dc_169_15, J_icmp_gt, am_go dc_169_18, am_go dc_169_19, am_go dc_169_20, am_go dc_169_23, am_go dc_169_24, am_go dc_169_25, am_go dc_169_26, J_isub, am_go dc_169_27, am_go dc_169_30, J_iconst, c32_1, am_go dc_169_31, J_goto, am_go dc_169_34, c32_0, am_go dc_169_35, J_ret_z0 ret_169, J_ret_z1 ret_169, J_ret_zB ret_169, xg_12, hX.c0, hX.c53, hX.c64, hX.c65, zI_add, zI_mul, zI_lt, zI_le, zI_eq, zI_neg, zI_pos, zI_ne0, zI_gt0, lg_cmp_ge, lg_cmp_le, lg_cmp_gt, lg_cmp_lt, lg_cmp_eq, ail_r, abl_r, all_r, ais_r, abs_r, als_r, aal_r, aal_q, aln_r, vrf_s, vrf_n, z32, hs, c1, c2, c3, c4, List.length_cons, List.length_nil, Nat.reduceAdd, Nat.reduceLT, Nat.reduceLeDiff, Nat.reduceEqDiff, ↓reduceIte, bind_s, if_true, if_false, not_true_eq_false, not_false_eq_true, Nat.zero_add]
          rfl
theorem f_copy (hK : gK o k H z u) (hM : cM H (o + 66) u) (hF : mFr u) {x a1 y b1 w : Int32} : gR X o k 168 277 [.int x, .int a1, .int y, .int b1, .int w] H z u := by
  obtain ⟨C, D, T, P, TI, PI, lu, m, a, N, hX, hgT, hgI, hgE, hgL, hgS, hma, haa, hCC, hz0, hno, hup⟩ := g_up hK
  have hTN := hgT.1
  have hP := hgT.2.1
  have hpS := hgT.2.2.1
  have hI := hgT.2.2.2
  have hS := hTN.1
  have hT := hS.iT
  have hG := hI.1
  have hL := hI.pl
  have hq := hI.qw
  have hm5 := hG.m.2
  have hsz := hS.sz
  have hbl := hS.bell
  have ks : am_f X 999 7 [.int x] (H, z) = _ := x_isShelf (X := X) (d := 998)
  have kt : am_f X 999 7 [.int y] (H, z) = _ := x_isShelf (X := X) (d := 998)
  cases hx : qIs x 8 with
  | false =>
    rw [hx] at ks
    have cc : am_f X 1000 168 [.ref o, .int x, .int a1, .int y, .int b1, .int w] (H, z) = some (.inl (some (.int (-1))), (H, z)) := by
      show am_f X (999 + 1) 168 _ _ = _
      rw [fU_168]
      simp (disch := first | omega | exact Nat.le_of_ble_eq_true rfl | exact hX.ci | exact hT.ci | exact hP.ci | exact hX.ci | exact hT.ci | exact hP.ci | (refine xF_lt ?_; omega) | (refine tF_lt ?_; omega) | (refine pF_lt ?_; omega)) only [own_168, am_go dc_168_0, J_iload_1, K_il, ld_1, am_go dc_168_1, cs_0_73 own_168, JR_v, JR_0, JR_ite, am_go dc_168_4, J_if_eq, am_go dc_168_7, J_iload_3, ld_3, am_go dc_168_8, am_go dc_168_11, J_if_ne, am_go dc_168_14, J_iconst, i32_m1, am_go dc_168_15, J_ret_i ret_168, am_go dc_168_16, J_aload_0, K_al, ld_0, am_go dc_168_17, J_getfield, gf_r, fk_0_52_0, am_go dc_168_20, am_go dc_168_21, J_iaload, am_go dc_168_22, am_go dc_168_25, am_go dc_168_26, am_go dc_168_29, am_go dc_168_30, am_go dc_168_31, am_go dc_168_34, J_bipush, i8_m11, am_go dc_168_36, am_go dc_168_37, am_go dc_168_38, am_go dc_168_41, am_go dc_168_42, am_go dc_168_43, c32_2, am_go dc_168_44, J_icmp_ne, am_go dc_168_47, am_go dc_168_48, am_go dc_168_51, am_go dc_168_52, am_go dc_168_53, am_go dc_168_54, am_go dc_168_57, am_go dc_168_58, fk_0_67_0, am_go dc_168_61, am_go dc_168_62, am_go dc_168_63, am_go dc_168_64, am_go dc_168_67, am_go dc_168_68, am_go dc_168_69, J_icmp_eq, am_go dc_168_72, i8_m12, am_go dc_168_74, am_go dc_168_75, am_go dc_168_76, am_go dc_168_77, J_iload_2, ld_2, am_go dc_168_78, J_iload, ld_5, am_go dc_168_80, cv_0_297_0 own_168, ci1_r, am_go dc_168_83, am_go dc_168_86, am_go dc_168_87, am_go dc_168_88, ld_4, am_go dc_168_90, am_go dc_168_92, am_go dc_168_95, am_go dc_168_98, i8_m13, am_go dc_168_100, am_go dc_168_101, am_go dc_168_102, fk_0_64_0, am_go dc_168_105, am_go dc_168_106, J_aaload, am_go dc_168_107, am_go dc_168_108, am_go dc_168_109, am_go dc_168_112, am_go dc_168_113, am_go dc_168_114, am_go dc_168_116, am_go dc_168_118, ca_0_301 own_168, am_go dc_168_121, am_go dc_168_123, xg_8, xg_11, xg_10, hX.c0, hX.c53, hX.c54, hX.c55, hX.c64, hX.c65, hT.c0, hT.c1, hT.c2, hT.c3, hT.c4, hT.c5, hT.c6, hT.c7, hP.c0, hP.c1, hP.c2, hP.c3, hP.c4, zI_add, zI_mul, zI_lt, zI_le, zI_eq, zI_neg, zI_pos, zI_ne0, zI_gt0, zB_0, lg_cmp_ge, lg_cmp_le, lg_cmp_gt, lg_cmp_lt, lg_cmp_eq, ail_r, abl_r, all_r, ais_r, abs_r, als_r, aal_r, aal_q, aln_r, vrf_s, vrf_n, z32, ks, Bool.true_eq_false, Bool.false_eq_true, zB_t, zB_f, i8_m3, i8_m4, rwF_v, List.length_cons, List.length_nil, Nat.reduceAdd, Nat.reduceLT, Nat.reduceLeDiff, Nat.reduceEqDiff, ↓reduceIte, bind_s, if_true, if_false, not_true_eq_false, not_false_eq_true, Nat.zero_add]
    have cr : am_f X 1000 277 [.ref (o + 66), .int x, .int a1, .int y, .int b1, .int w] (mH H (o + 66) u, z) = _ := r_copy_n (X := X) (d := 997) (h := H) (z := z) hx
    exact gR_id hK hM cc cr mQ.rf hF
  | true =>
    obtain ⟨e1, e2⟩ := qIs_get hx
    generalize wN x = e at *
    subst e1
    rw [hx] at ks
    obtain ⟨⟨v5, v6, v7, c5, c6, ⟨s, hs2, hs⟩, v8⟩, vb⟩ := hgS e e2
    cases hy : qIs y 8 with
    | false =>
      rw [hy] at kt
      have cc : am_f X 1000 168 [.ref o, .int (zI e), .int a1, .int y, .int b1, .int w] (H, z) = some (.inl (some (.int (-1))), (H, z)) := by
        show am_f X (999 + 1) 168 _ _ = _
        rw [fU_168]
        simp (disch := first | omega | exact Nat.le_of_ble_eq_true rfl | exact hX.ci | exact hT.ci | exact hP.ci | exact hX.ci | exact hT.ci | exact hP.ci | (refine xF_lt ?_; omega) | (refine tF_lt ?_; omega) | (refine pF_lt ?_; omega)) only [own_168, am_go dc_168_0, J_iload_1, K_il, ld_1, am_go dc_168_1, cs_0_73 own_168, JR_v, JR_0, JR_ite, am_go dc_168_4, J_if_eq, am_go dc_168_7, J_iload_3, ld_3, am_go dc_168_8, am_go dc_168_11, J_if_ne, am_go dc_168_14, J_iconst, i32_m1, am_go dc_168_15, J_ret_i ret_168, am_go dc_168_16, J_aload_0, K_al, ld_0, am_go dc_168_17, J_getfield, gf_r, fk_0_52_0, am_go dc_168_20, am_go dc_168_21, J_iaload, am_go dc_168_22, am_go dc_168_25, am_go dc_168_26, am_go dc_168_29, am_go dc_168_30, am_go dc_168_31, am_go dc_168_34, J_bipush, i8_m11, am_go dc_168_36, am_go dc_168_37, am_go dc_168_38, am_go dc_168_41, am_go dc_168_42, am_go dc_168_43, c32_2, am_go dc_168_44, J_icmp_ne, am_go dc_168_47, am_go dc_168_48, am_go dc_168_51, am_go dc_168_52, am_go dc_168_53, am_go dc_168_54, am_go dc_168_57, am_go dc_168_58, fk_0_67_0, am_go dc_168_61, am_go dc_168_62, am_go dc_168_63, am_go dc_168_64, am_go dc_168_67, am_go dc_168_68, am_go dc_168_69, J_icmp_eq, am_go dc_168_72, i8_m12, am_go dc_168_74, am_go dc_168_75, am_go dc_168_76, am_go dc_168_77, J_iload_2, ld_2, am_go dc_168_78, J_iload, ld_5, am_go dc_168_80, cv_0_297_0 own_168, ci1_r, am_go dc_168_83, am_go dc_168_86, am_go dc_168_87, am_go dc_168_88, ld_4, am_go dc_168_90, am_go dc_168_92, am_go dc_168_95, am_go dc_168_98, i8_m13, am_go dc_168_100, am_go dc_168_101, am_go dc_168_102, fk_0_64_0, am_go dc_168_105, am_go dc_168_106, J_aaload, am_go dc_168_107, am_go dc_168_108, am_go dc_168_109, am_go dc_168_112, am_go dc_168_113, am_go dc_168_114, am_go dc_168_116, am_go dc_168_118, ca_0_301 own_168, am_go dc_168_121, am_go dc_168_123, xg_8, xg_11, xg_10, hX.c0, hX.c53, hX.c54, hX.c55, hX.c64, hX.c65, hT.c0, hT.c1, hT.c2, hT.c3, hT.c4, hT.c5, hT.c6, hT.c7, hP.c0, hP.c1, hP.c2, hP.c3, hP.c4, zI_add, zI_mul, zI_lt, zI_le, zI_eq, zI_neg, zI_pos, zI_ne0, zI_gt0, zB_0, lg_cmp_ge, lg_cmp_le, lg_cmp_gt, lg_cmp_lt, lg_cmp_eq, ail_r, abl_r, all_r, ais_r, abs_r, als_r, aal_r, aal_q, aln_r, vrf_s, vrf_n, z32, ks, kt, Bool.true_eq_false, Bool.false_eq_true, zB_t, zB_f, i8_m3, i8_m4, rwF_v, List.length_cons, List.length_nil, Nat.reduceAdd, Nat.reduceLT, Nat.reduceLeDiff, Nat.reduceEqDiff, ↓reduceIte, bind_s, if_true, if_false, not_true_eq_false, not_false_eq_true, Nat.zero_add]
      have cr : am_f X 1000 277 [.ref (o + 66), .int (zI e), .int a1, .int y, .int b1, .int w] (mH H (o + 66) u, z) = _ := r_copy_m (X := X) (d := 997) (h := H) (z := z) e2 hy
      exact gR_id hK hM cc cr mQ.rf hF
    | true =>
      obtain ⟨kk1, f2⟩ := qIs_get hy
      generalize wN y = f at *
      subst kk1
      rw [hy] at kt
      obtain ⟨⟨w5, w6, w7, d5, d6, ⟨t, ht2, ht⟩, w8'⟩, wb⟩ := hgS f f2
      by_cases c0 : u.1 5 e = 0 ∨ u.1 5 f = 0
      · have cr : am_f X 1000 277 [.ref (o + 66), .int (zI e), .int a1, .int (zI f), .int b1, .int w] (mH H (o + 66) u, z) = _ := r_copy_o (X := X) (d := 997) (h := H) (z := z) e2 f2 c0
        by_cases c1 : u.1 5 e = 0
        · have cc : am_f X 1000 168 [.ref o, .int (zI e), .int a1, .int (zI f), .int b1, .int w] (H, z) = some (.inl (some (.int (-11))), (H, z)) := by
            show am_f X (999 + 1) 168 _ _ = _
            rw [fU_168]
            simp (disch := first | omega | exact Nat.le_of_ble_eq_true rfl | exact hX.ci | exact hT.ci | exact hP.ci | exact hX.ci | exact hT.ci | exact hP.ci | (refine xF_lt ?_; omega) | (refine tF_lt ?_; omega) | (refine pF_lt ?_; omega)) only [own_168, am_go dc_168_0, J_iload_1, K_il, ld_1, am_go dc_168_1, cs_0_73 own_168, JR_v, JR_0, JR_ite, am_go dc_168_4, J_if_eq, am_go dc_168_7, J_iload_3, ld_3, am_go dc_168_8, am_go dc_168_11, J_if_ne, am_go dc_168_14, J_iconst, i32_m1, am_go dc_168_15, J_ret_i ret_168, am_go dc_168_16, J_aload_0, K_al, ld_0, am_go dc_168_17, J_getfield, gf_r, fk_0_52_0, am_go dc_168_20, am_go dc_168_21, J_iaload, am_go dc_168_22, am_go dc_168_25, am_go dc_168_26, am_go dc_168_29, am_go dc_168_30, am_go dc_168_31, am_go dc_168_34, J_bipush, i8_m11, am_go dc_168_36, am_go dc_168_37, am_go dc_168_38, am_go dc_168_41, am_go dc_168_42, am_go dc_168_43, c32_2, am_go dc_168_44, J_icmp_ne, am_go dc_168_47, am_go dc_168_48, am_go dc_168_51, am_go dc_168_52, am_go dc_168_53, am_go dc_168_54, am_go dc_168_57, am_go dc_168_58, fk_0_67_0, am_go dc_168_61, am_go dc_168_62, am_go dc_168_63, am_go dc_168_64, am_go dc_168_67, am_go dc_168_68, am_go dc_168_69, J_icmp_eq, am_go dc_168_72, i8_m12, am_go dc_168_74, am_go dc_168_75, am_go dc_168_76, am_go dc_168_77, J_iload_2, ld_2, am_go dc_168_78, J_iload, ld_5, am_go dc_168_80, cv_0_297_0 own_168, ci1_r, am_go dc_168_83, am_go dc_168_86, am_go dc_168_87, am_go dc_168_88, ld_4, am_go dc_168_90, am_go dc_168_92, am_go dc_168_95, am_go dc_168_98, i8_m13, am_go dc_168_100, am_go dc_168_101, am_go dc_168_102, fk_0_64_0, am_go dc_168_105, am_go dc_168_106, J_aaload, am_go dc_168_107, am_go dc_168_108, am_go dc_168_109, am_go dc_168_112, am_go dc_168_113, am_go dc_168_114, am_go dc_168_116, am_go dc_168_118, ca_0_301 own_168, am_go dc_168_121, am_go dc_168_123, xg_8, xg_11, xg_10, hX.c0, hX.c53, hX.c54, hX.c55, hX.c64, hX.c65, hT.c0, hT.c1, hT.c2, hT.c3, hT.c4, hT.c5, hT.c6, hT.c7, hP.c0, hP.c1, hP.c2, hP.c3, hP.c4, zI_add, zI_mul, zI_lt, zI_le, zI_eq, zI_neg, zI_pos, zI_ne0, zI_gt0, zB_0, lg_cmp_ge, lg_cmp_le, lg_cmp_gt, lg_cmp_lt, lg_cmp_eq, ail_r, abl_r, all_r, ais_r, abs_r, als_r, aal_r, aal_q, aln_r, vrf_s, vrf_n, z32, ks, kt, v5, c1, Bool.true_eq_false, Bool.false_eq_true, zB_t, zB_f, i8_m3, i8_m4, rwF_v, List.length_cons, List.length_nil, Nat.reduceAdd, Nat.reduceLT, Nat.reduceLeDiff, Nat.reduceEqDiff, ↓reduceIte, bind_s, if_true, if_false, not_true_eq_false, not_false_eq_true, Nat.zero_add]
          exact gR_id hK hM cc cr mQ.rf hF
        · have c2 := c0.resolve_left c1
          have cc : am_f X 1000 168 [.ref o, .int (zI e), .int a1, .int (zI f), .int b1, .int w] (H, z) = some (.inl (some (.int (-11))), (H, z)) := by
            show am_f X (999 + 1) 168 _ _ = _
            rw [fU_168]
            simp (disch := first | omega | exact Nat.le_of_ble_eq_true rfl | exact hX.ci | exact hT.ci | exact hP.ci | exact hX.ci | exact hT.ci | exact hP.ci | (refine xF_lt ?_; omega) | (refine tF_lt ?_; omega) | (refine pF_lt ?_; omega)) only [own_168, am_go dc_168_0, J_iload_1, K_il, ld_1, am_go dc_168_1, cs_0_73 own_168, JR_v, JR_0, JR_ite, am_go dc_168_4, J_if_eq, am_go dc_168_7, J_iload_3, ld_3, am_go dc_168_8, am_go dc_168_11, J_if_ne, am_go dc_168_14, J_iconst, i32_m1, am_go dc_168_15, J_ret_i ret_168, am_go dc_168_16, J_aload_0, K_al, ld_0, am_go dc_168_17, J_getfield, gf_r, fk_0_52_0, am_go dc_168_20, am_go dc_168_21, J_iaload, am_go dc_168_22, am_go dc_168_25, am_go dc_168_26, am_go dc_168_29, am_go dc_168_30, am_go dc_168_31, am_go dc_168_34, J_bipush, i8_m11, am_go dc_168_36, am_go dc_168_37, am_go dc_168_38, am_go dc_168_41, am_go dc_168_42, am_go dc_168_43, c32_2, am_go dc_168_44, J_icmp_ne, am_go dc_168_47, am_go dc_168_48, am_go dc_168_51, am_go dc_168_52, am_go dc_168_53, am_go dc_168_54, am_go dc_168_57, am_go dc_168_58, fk_0_67_0, am_go dc_168_61, am_go dc_168_62, am_go dc_168_63, am_go dc_168_64, am_go dc_168_67, am_go dc_168_68, am_go dc_168_69, J_icmp_eq, am_go dc_168_72, i8_m12, am_go dc_168_74, am_go dc_168_75, am_go dc_168_76, am_go dc_168_77, J_iload_2, ld_2, am_go dc_168_78, J_iload, ld_5, am_go dc_168_80, cv_0_297_0 own_168, ci1_r, am_go dc_168_83, am_go dc_168_86, am_go dc_168_87, am_go dc_168_88, ld_4, am_go dc_168_90, am_go dc_168_92, am_go dc_168_95, am_go dc_168_98, i8_m13, am_go dc_168_100, am_go dc_168_101, am_go dc_168_102, fk_0_64_0, am_go dc_168_105, am_go dc_168_106, J_aaload, am_go dc_168_107, am_go dc_168_108, am_go dc_168_109, am_go dc_168_112, am_go dc_168_113, am_go dc_168_114, am_go dc_168_116, am_go dc_168_118, ca_0_301 own_168, am_go dc_168_121, am_go dc_168_123, xg_8, xg_11, xg_10, hX.c0, hX.c53, hX.c54, hX.c55, hX.c64, hX.c65, hT.c0, hT.c1, hT.c2, hT.c3, hT.c4, hT.c5, hT.c6, hT.c7, hP.c0, hP.c1, hP.c2, hP.c3, hP.c4, zI_add, zI_mul, zI_lt, zI_le, zI_eq, zI_neg, zI_pos, zI_ne0, zI_gt0, zB_0, lg_cmp_ge, lg_cmp_le, lg_cmp_gt, lg_cmp_lt, lg_cmp_eq, ail_r, abl_r, all_r, ais_r, abs_r, als_r, aal_r, aal_q, aln_r, vrf_s, vrf_n, z32, ks, kt, v5, w5, c1, c2, Bool.true_eq_false, Bool.false_eq_true, zB_t, zB_f, i8_m3, i8_m4, rwF_v, List.length_cons, List.length_nil, Nat.reduceAdd, Nat.reduceLT, Nat.reduceLeDiff, Nat.reduceEqDiff, ↓reduceIte, bind_s, if_true, if_false, not_true_eq_false, not_false_eq_true, Nat.zero_add]
          exact gR_id hK hM cc cr mQ.rf hF
      · have n1 : ¬ u.1 5 e = 0 := fun q => c0 (Or.inl q)
        have n2 : ¬ u.1 5 f = 0 := fun q => c0 (Or.inr q)
        by_cases c1 : u.1 5 e = zI 2 ∧ u.1 5 f = zI 2 ∧ u.1 6 e = u.1 6 f
        · obtain ⟨k1, k2, k3⟩ := c1
          have z20 : ¬ zI 2 = 0 := by decide
          rw [k1] at v5
          rw [k2] at w5
          rw [k3] at v6
          have st1 : am_f X 999 169 [.ref o, .int (zI e), .int a1, .int w] (H, z) = _ := x_stretch (X := X) (d := 998) hX e2 (v7.trans hs)
          have st2 : am_f X 999 169 [.ref o, .int (zI f), .int b1, .int w] (H, z) = _ := x_stretch (X := X) (d := 998) hX f2 (w7.trans ht)
          cases s1 : stB s a1 w with
          | false =>
            rw [s1] at st1
            have cr : am_f X 1000 277 [.ref (o + 66), .int (zI e), .int a1, .int (zI f), .int b1, .int w] (mH H (o + 66) u, z) = _ := r_copy_q (X := X) (d := 997) (h := H) (z := z) e2 f2 k1 k2 k3 (by
              rw [hs]
              rcases stB_f hs2 s1 with q | q | q
              · exact Or.inl q
              · exact Or.inr (Or.inl q)
              · exact Or.inr (Or.inr (Or.inr (Or.inl q))))
            have cc : am_f X 1000 168 [.ref o, .int (zI e), .int a1, .int (zI f), .int b1, .int w] (H, z) = some (.inl (some (.int (-13))), (H, z)) := by
              show am_f X (999 + 1) 168 _ _ = _
              rw [fU_168]
              simp (disch := first | omega | exact Nat.le_of_ble_eq_true rfl | exact hX.ci | exact hT.ci | exact hP.ci | exact hX.ci | exact hT.ci | exact hP.ci | (refine xF_lt ?_; omega) | (refine tF_lt ?_; omega) | (refine pF_lt ?_; omega)) only [own_168, am_go dc_168_0, J_iload_1, K_il, ld_1, am_go dc_168_1, cs_0_73 own_168, JR_v, JR_0, JR_ite, am_go dc_168_4, J_if_eq, am_go dc_168_7, J_iload_3, ld_3, am_go dc_168_8, am_go dc_168_11, J_if_ne, am_go dc_168_14, J_iconst, i32_m1, am_go dc_168_15, J_ret_i ret_168, am_go dc_168_16, J_aload_0, K_al, ld_0, am_go dc_168_17, J_getfield, gf_r, fk_0_52_0, am_go dc_168_20, am_go dc_168_21, J_iaload, am_go dc_168_22, am_go dc_168_25, am_go dc_168_26, am_go dc_168_29, am_go dc_168_30, am_go dc_168_31, am_go dc_168_34, J_bipush, i8_m11, am_go dc_168_36, am_go dc_168_37, am_go dc_168_38, am_go dc_168_41, am_go dc_168_42, am_go dc_168_43, c32_2, am_go dc_168_44, J_icmp_ne, am_go dc_168_47, am_go dc_168_48, am_go dc_168_51, am_go dc_168_52, am_go dc_168_53, am_go dc_168_54, am_go dc_168_57, am_go dc_168_58, fk_0_67_0, am_go dc_168_61, am_go dc_168_62, am_go dc_168_63, am_go dc_168_64, am_go dc_168_67, am_go dc_168_68, am_go dc_168_69, J_icmp_eq, am_go dc_168_72, i8_m12, am_go dc_168_74, am_go dc_168_75, am_go dc_168_76, am_go dc_168_77, J_iload_2, ld_2, am_go dc_168_78, J_iload, ld_5, am_go dc_168_80, cv_0_297_0 own_168, ci1_r, am_go dc_168_83, am_go dc_168_86, am_go dc_168_87, am_go dc_168_88, ld_4, am_go dc_168_90, am_go dc_168_92, am_go dc_168_95, am_go dc_168_98, i8_m13, am_go dc_168_100, am_go dc_168_101, am_go dc_168_102, fk_0_64_0, am_go dc_168_105, am_go dc_168_106, J_aaload, am_go dc_168_107, am_go dc_168_108, am_go dc_168_109, am_go dc_168_112, am_go dc_168_113, am_go dc_168_114, am_go dc_168_116, am_go dc_168_118, ca_0_301 own_168, am_go dc_168_121, am_go dc_168_123, xg_8, xg_11, xg_10, hX.c0, hX.c53, hX.c54, hX.c55, hX.c64, hX.c65, hT.c0, hT.c1, hT.c2, hT.c3, hT.c4, hT.c5, hT.c6, hT.c7, hP.c0, hP.c1, hP.c2, hP.c3, hP.c4, zI_add, zI_mul, zI_lt, zI_le, zI_eq, zI_neg, zI_pos, zI_ne0, zI_gt0, zB_0, lg_cmp_ge, lg_cmp_le, lg_cmp_gt, lg_cmp_lt, lg_cmp_eq, ail_r, abl_r, all_r, ais_r, abs_r, als_r, aal_r, aal_q, aln_r, vrf_s, vrf_n, z32, ks, kt, v5, w5, v6, w6, z20, st1, Bool.true_eq_false, Bool.false_eq_true, zB_t, zB_f, i8_m3, i8_m4, rwF_v, List.length_cons, List.length_nil, Nat.reduceAdd, Nat.reduceLT, Nat.reduceLeDiff, Nat.reduceEqDiff, ↓reduceIte, bind_s, if_true, if_false, not_true_eq_false, not_false_eq_true, Nat.zero_add]
            exact gR_id hK hM cc cr mQ.rf hF
          | true =>
            rw [s1] at st1
            cases s2 : stB t b1 w with
            | false =>
              rw [s2] at st2
              have cr : am_f X 1000 277 [.ref (o + 66), .int (zI e), .int a1, .int (zI f), .int b1, .int w] (mH H (o + 66) u, z) = _ := r_copy_q (X := X) (d := 997) (h := H) (z := z) e2 f2 k1 k2 k3 (by
                rw [ht]
                rcases stB_f ht2 s2 with q | q | q
                · exact Or.inl q
                · exact Or.inr (Or.inr (Or.inl q))
                · exact Or.inr (Or.inr (Or.inr (Or.inr q))))
              have cc : am_f X 1000 168 [.ref o, .int (zI e), .int a1, .int (zI f), .int b1, .int w] (H, z) = some (.inl (some (.int (-13))), (H, z)) := by
                show am_f X (999 + 1) 168 _ _ = _
                rw [fU_168]
                simp (disch := first | omega | exact Nat.le_of_ble_eq_true rfl | exact hX.ci | exact hT.ci | exact hP.ci | exact hX.ci | exact hT.ci | exact hP.ci | (refine xF_lt ?_; omega) | (refine tF_lt ?_; omega) | (refine pF_lt ?_; omega)) only [own_168, am_go dc_168_0, J_iload_1, K_il, ld_1, am_go dc_168_1, cs_0_73 own_168, JR_v, JR_0, JR_ite, am_go dc_168_4, J_if_eq, am_go dc_168_7, J_iload_3, ld_3, am_go dc_168_8, am_go dc_168_11, J_if_ne, am_go dc_168_14, J_iconst, i32_m1, am_go dc_168_15, J_ret_i ret_168, am_go dc_168_16, J_aload_0, K_al, ld_0, am_go dc_168_17, J_getfield, gf_r, fk_0_52_0, am_go dc_168_20, am_go dc_168_21, J_iaload, am_go dc_168_22, am_go dc_168_25, am_go dc_168_26, am_go dc_168_29, am_go dc_168_30, am_go dc_168_31, am_go dc_168_34, J_bipush, i8_m11, am_go dc_168_36, am_go dc_168_37, am_go dc_168_38, am_go dc_168_41, am_go dc_168_42, am_go dc_168_43, c32_2, am_go dc_168_44, J_icmp_ne, am_go dc_168_47, am_go dc_168_48, am_go dc_168_51, am_go dc_168_52, am_go dc_168_53, am_go dc_168_54, am_go dc_168_57, am_go dc_168_58, fk_0_67_0, am_go dc_168_61, am_go dc_168_62, am_go dc_168_63, am_go dc_168_64, am_go dc_168_67, am_go dc_168_68, am_go dc_168_69, J_icmp_eq, am_go dc_168_72, i8_m12, am_go dc_168_74, am_go dc_168_75, am_go dc_168_76, am_go dc_168_77, J_iload_2, ld_2, am_go dc_168_78, J_iload, ld_5, am_go dc_168_80, cv_0_297_0 own_168, ci1_r, am_go dc_168_83, am_go dc_168_86, am_go dc_168_87, am_go dc_168_88, ld_4, am_go dc_168_90, am_go dc_168_92, am_go dc_168_95, am_go dc_168_98, i8_m13, am_go dc_168_100, am_go dc_168_101, am_go dc_168_102, fk_0_64_0, am_go dc_168_105, am_go dc_168_106, J_aaload, am_go dc_168_107, am_go dc_168_108, am_go dc_168_109, am_go dc_168_112, am_go dc_168_113, am_go dc_168_114, am_go dc_168_116, am_go dc_168_118, ca_0_301 own_168, am_go dc_168_121, am_go dc_168_123, xg_8, xg_11, xg_10, hX.c0, hX.c53, hX.c54, hX.c55, hX.c64, hX.c65, hT.c0, hT.c1, hT.c2, hT.c3, hT.c4, hT.c5, hT.c6, hT.c7, hP.c0, hP.c1, hP.c2, hP.c3, hP.c4, zI_add, zI_mul, zI_lt, zI_le, zI_eq, zI_neg, zI_pos, zI_ne0, zI_gt0, zB_0, lg_cmp_ge, lg_cmp_le, lg_cmp_gt, lg_cmp_lt, lg_cmp_eq, ail_r, abl_r, all_r, ais_r, abs_r, als_r, aal_r, aal_q, aln_r, vrf_s, vrf_n, z32, ks, kt, v5, w5, v6, w6, z20, st1, st2, Bool.true_eq_false, Bool.false_eq_true, zB_t, zB_f, i8_m3, i8_m4, rwF_v, List.length_cons, List.length_nil, Nat.reduceAdd, Nat.reduceLT, Nat.reduceLeDiff, Nat.reduceEqDiff, ↓reduceIte, bind_s, if_true, if_false, not_true_eq_false, not_false_eq_true, Nat.zero_add]
              exact gR_id hK hM cc cr mQ.rf hF
            | true =>
              rw [s2] at st2
              obtain ⟨a2, a3, a4⟩ := stB_t hs2 s1
              obtain ⟨b2, b3, b4⟩ := stB_t ht2 s2
              clear s1 s2
              generalize wN a1 = i at *
              generalize wN b1 = j at *
              generalize wN w = n at *
              subst a2
              subst a3
              subst b2
              obtain ⟨w8, hw8⟩ : ∃ w8, w8 = fo (q_cp e i f j n) 0 n (u.1 8) := ⟨_, rfl⟩
              have hw8v : ∀ q, w8 q = if 120 * f + j ≤ q ∧ q < 120 * f + j + n then u.1 8 (120 * e + i + (q - (120 * f + j))) else u.1 8 q := fun q => by
                rw [hw8]
                exact cp_v (by omega) (by omega) q
              obtain ⟨h, hH⟩ : ∃ h, xH h o D = H := ⟨H, hX.eq⟩
              subst hH
              have hcr : ∀ D', xH h o D' (o + 56 + e) = _ := fun D' => xH_is.cr e2
              have h55 : ∀ D', xH h o D' (o + 55) = _ := fun D' => xH_is.c55
              have hTx : ∀ D', isT (xH h o D') (o + 1) T := fun D' => hT.fr (fun x q1 q2 => by rw [xH_x (by unfold xK; omega), xH_x (by unfold xK; omega)])
              have t0 := fun D' => (hTx D').c0
              have t1 := fun D' => (hTx D').c1
              have frx : ∀ D' x, (x ≠ o ∧ (x < o + 53 ∨ o + 66 ≤ x)) → xH h o D' x = xH h o D x := fun D' x q => by
                rw [xH_x (by unfold xK; omega), xH_x (by unfold xK; omega)]
              have hcf : ∀ D', xH h o D' (o + 56 + f) = _ := fun D' => xH_is.cr f2
              have cc : am_f X 1000 168 [.ref o, .int (zI e), .int (zI i), .int (zI f), .int (zI j), .int (zI n)] (xH h o D, z) = some (.inl (some (.int (zI n))), (xH h o (mS D.1 (56 + f) (va_cpy (D.1.1 (56 + e)) (D.1.1 (56 + f)) i j n), D.2), z)) := by
                show am_f X (999 + 1) 168 _ _ = _
                rw [fU_168]
                simp (disch := first | omega | exact Nat.le_of_ble_eq_true rfl | exact hP.ci | exact hX.ci | exact hT.ci | exact hP.ci | (refine xF_lt ?_; omega) | (refine tF_lt ?_; omega) | (refine pF_lt ?_; omega) | exact xH_ci | (refine xF_lt ?_; omega)) only [own_168, am_go dc_168_0, J_iload_1, K_il, ld_1, am_go dc_168_1, cs_0_73 own_168, JR_v, JR_0, JR_ite, am_go dc_168_4, J_if_eq, am_go dc_168_7, J_iload_3, ld_3, am_go dc_168_8, am_go dc_168_11, J_if_ne, am_go dc_168_14, J_iconst, i32_m1, am_go dc_168_15, J_ret_i ret_168, am_go dc_168_16, J_aload_0, K_al, ld_0, am_go dc_168_17, J_getfield, gf_r, fk_0_52_0, am_go dc_168_20, am_go dc_168_21, J_iaload, am_go dc_168_22, am_go dc_168_25, am_go dc_168_26, am_go dc_168_29, am_go dc_168_30, am_go dc_168_31, am_go dc_168_34, J_bipush, i8_m11, am_go dc_168_36, am_go dc_168_37, am_go dc_168_38, am_go dc_168_41, am_go dc_168_42, am_go dc_168_43, c32_2, am_go dc_168_44, J_icmp_ne, am_go dc_168_47, am_go dc_168_48, am_go dc_168_51, am_go dc_168_52, am_go dc_168_53, am_go dc_168_54, am_go dc_168_57, am_go dc_168_58, fk_0_67_0, am_go dc_168_61, am_go dc_168_62, am_go dc_168_63, am_go dc_168_64, am_go dc_168_67, am_go dc_168_68, am_go dc_168_69, J_icmp_eq, am_go dc_168_72, i8_m12, am_go dc_168_74, am_go dc_168_75, am_go dc_168_76, am_go dc_168_77, J_iload_2, ld_2, am_go dc_168_78, J_iload, ld_5, am_go dc_168_80, cv_0_297_0 own_168, ci1_r, am_go dc_168_83, am_go dc_168_86, am_go dc_168_87, am_go dc_168_88, ld_4, am_go dc_168_90, am_go dc_168_92, am_go dc_168_95, am_go dc_168_98, i8_m13, am_go dc_168_100, am_go dc_168_101, am_go dc_168_102, fk_0_64_0, am_go dc_168_105, am_go dc_168_106, J_aaload, am_go dc_168_107, am_go dc_168_108, am_go dc_168_109, am_go dc_168_112, am_go dc_168_113, am_go dc_168_114, am_go dc_168_116, am_go dc_168_118, ca_0_301 own_168, am_go dc_168_121, am_go dc_168_123, xg_8, xg_11, xg_10, hP.c0, hP.c1, hP.c2, hP.c3, hP.c4, zI_add, zI_mul, zI_lt, zI_le, zI_eq, zI_neg, zI_pos, zI_ne0, zI_gt0, zB_0, lg_cmp_ge, lg_cmp_le, lg_cmp_gt, lg_cmp_lt, lg_cmp_eq, ail_r, abl_r, all_r, ais_r, abs_r, als_r, aal_r, aal_q, aln_r, vrf_s, vrf_n, z32, ks, kt, v5, w5, v6, w6, z20, st1, st2, hcf, cpy_r, xw_r f2, xH_0, xH_53, xH_54, xH_64, xH_65, xw_53, xw_54, xw_64, xw_65, hcr, h55, t0, t1, aas_r, J_aastoreN, J_aastore, mS_s, mS_o, mS_2, Bool.true_eq_false, Bool.false_eq_true, zB_t, zB_f, i8_m3, i8_m4, rwF_v, List.length_cons, List.length_nil, Nat.reduceAdd, Nat.reduceLT, Nat.reduceLeDiff, Nat.reduceEqDiff, ↓reduceIte, bind_s, if_true, if_false, not_true_eq_false, not_false_eq_true, Nat.zero_add]
              have fr1 : ∀ x, x < z.1 → (x ≠ o ∧ (x < o + 53 ∨ o + 66 ≤ x)) → xH h o (mS D.1 (56 + f) (va_cpy (D.1.1 (56 + e)) (D.1.1 (56 + f)) i j n), D.2) x = xH h o D x := fun x _ q => frx _ x q
              have hn1 : ∀ x, z.1 ≤ x → xH h o (mS D.1 (56 + f) (va_cpy (D.1.1 (56 + e)) (D.1.1 (56 + f)) i j n), D.2) x = none := fun x hx => by
                rw [frx _ x (by omega)]
                exact hno x hx
              have hC1 : ∀ x, C x → xH h o (mS D.1 (56 + f) (va_cpy (D.1.1 (56 + e)) (D.1.1 (56 + f)) i j n), D.2) x = xH h o D x := fun x hx => fr1 x (hCC x hx).2 (by have := hCC x hx; omega)
              obtain ⟨g1, g2⟩ := hup (xH h o (mS D.1 (56 + f) (va_cpy (D.1.1 (56 + e)) (D.1.1 (56 + f)) i j n), D.2)) (z) (C) (mS D.1 (56 + f) (va_cpy (D.1.1 (56 + e)) (D.1.1 (56 + f)) i j n), D.2) (T) (P) (TI) (PI) (lu) (mS u 8 w8) (fun x q1 q2 => fr1 x q1 (by omega)) (fun x q1 => fr1 x (by omega) (by omega)) xH_is (hgT.fr (fun x q1 q2 => fr1 x (by omega) (by omega)) hC1 (fun _ h => h)) (hgI.fr (fun x q1 q2 => fr1 x (by omega) (by omega)) hC1 (fun _ h => h)) (hgE.fr (fun x q1 q2 => fr1 x (by omega) (by omega))) (hgL.fr (fun x hx => fr1 x (by omega) (by omega))) (gS_set (hgS.fr hC1 (fun _ h => h)) f (fun e' h8 ne => by
                refine ⟨?_, ?_, ?_, ?_, rfl⟩ <;> simp (disch := omega) only [mS_s, mS_o, upd_s, upd_o, vu_s, vu_o]) (fun e' h8 ne => by
                refine ⟨rfl, rfl, rfl, rfl, rfl, fun i' hi' => ?_⟩
                show w8 _ = _
                rw [hw8v, if_neg (by omega)]) (by
                refine ⟨⟨?_, ?_, ?_, Or.inr (Or.inr k2), d6, ⟨t, ht2, ht⟩, fun i' hi' => ?_⟩, fun q' => ?_⟩
                · simp (disch := omega) only [mS_o]
                  exact w5.trans k2.symm
                · simp (disch := omega) only [mS_o]
                  exact w6
                · simp (disch := omega) only [mS_o]
                  exact w7
                · simp (disch := omega) only [mS_s]
                  rw [hw8v]
                  unfold va_cpy
                  by_cases q : j ≤ i' ∧ i' < j + n
                  · rw [if_pos q, if_pos (by omega), v8 _ (by omega), show 120 * e + (i + (i' - j)) = 120 * e + i + (120 * f + i' - (120 * f + j)) by omega]
                  · rw [if_neg q, if_neg (by omega)]
                    exact w8' i' hi'
                · exact absurd (k2.symm.trans q') (by decide))) (fun x hx => Or.inl hx) (Nat.le_refl _) (by omega) (by omega) hn1
              have cr : am_f X 1000 277 [.ref (o + 66), .int (zI e), .int (zI i), .int (zI f), .int (zI j), .int (zI n)] (mH (xH h o (mS D.1 (56 + f) (va_cpy (D.1.1 (56 + e)) (D.1.1 (56 + f)) i j n), D.2)) (o + 66) u, z) = _ := r_copy_y (X := X) (d := 997) (h := xH h o (mS D.1 (56 + f) (va_cpy (D.1.1 (56 + e)) (D.1.1 (56 + f)) i j n), D.2)) (z := z) e2 f2 k1 k2 k3 hs ht hs2 ht2 a4 b4
              rw [← hw8] at cr
              exact gR_mk hM cc g1 g2 cr mQ.rf (mFr_cg hF (fun j q1 q2 => if_neg (by omega)) rfl rfl (fun j _ => rfl))
        · have cr : am_f X 1000 277 [.ref (o + 66), .int (zI e), .int a1, .int (zI f), .int b1, .int w] (mH H (o + 66) u, z) = _ := r_copy_p (X := X) (d := 997) (h := H) (z := z) e2 f2 n1 n2 c1
          by_cases c2 : u.1 5 e = zI 2
          · by_cases c3 : u.1 5 f = zI 2
            · have c4 : ¬ u.1 6 e = u.1 6 f := fun q => c1 ⟨c2, c3, q⟩
              have z20 : ¬ zI 2 = 0 := by decide
              rw [c2] at v5
              rw [c3] at w5
              have cc : am_f X 1000 168 [.ref o, .int (zI e), .int a1, .int (zI f), .int b1, .int w] (H, z) = some (.inl (some (.int (-12))), (H, z)) := by
                show am_f X (999 + 1) 168 _ _ = _
                rw [fU_168]
                simp (disch := first | omega | exact Nat.le_of_ble_eq_true rfl | exact hX.ci | exact hT.ci | exact hP.ci | exact hX.ci | exact hT.ci | exact hP.ci | (refine xF_lt ?_; omega) | (refine tF_lt ?_; omega) | (refine pF_lt ?_; omega)) only [own_168, am_go dc_168_0, J_iload_1, K_il, ld_1, am_go dc_168_1, cs_0_73 own_168, JR_v, JR_0, JR_ite, am_go dc_168_4, J_if_eq, am_go dc_168_7, J_iload_3, ld_3, am_go dc_168_8, am_go dc_168_11, J_if_ne, am_go dc_168_14, J_iconst, i32_m1, am_go dc_168_15, J_ret_i ret_168, am_go dc_168_16, J_aload_0, K_al, ld_0, am_go dc_168_17, J_getfield, gf_r, fk_0_52_0, am_go dc_168_20, am_go dc_168_21, J_iaload, am_go dc_168_22, am_go dc_168_25, am_go dc_168_26, am_go dc_168_29, am_go dc_168_30, am_go dc_168_31, am_go dc_168_34, J_bipush, i8_m11, am_go dc_168_36, am_go dc_168_37, am_go dc_168_38, am_go dc_168_41, am_go dc_168_42, am_go dc_168_43, c32_2, am_go dc_168_44, J_icmp_ne, am_go dc_168_47, am_go dc_168_48, am_go dc_168_51, am_go dc_168_52, am_go dc_168_53, am_go dc_168_54, am_go dc_168_57, am_go dc_168_58, fk_0_67_0, am_go dc_168_61, am_go dc_168_62, am_go dc_168_63, am_go dc_168_64, am_go dc_168_67, am_go dc_168_68, am_go dc_168_69, J_icmp_eq, am_go dc_168_72, i8_m12, am_go dc_168_74, am_go dc_168_75, am_go dc_168_76, am_go dc_168_77, J_iload_2, ld_2, am_go dc_168_78, J_iload, ld_5, am_go dc_168_80, cv_0_297_0 own_168, ci1_r, am_go dc_168_83, am_go dc_168_86, am_go dc_168_87, am_go dc_168_88, ld_4, am_go dc_168_90, am_go dc_168_92, am_go dc_168_95, am_go dc_168_98, i8_m13, am_go dc_168_100, am_go dc_168_101, am_go dc_168_102, fk_0_64_0, am_go dc_168_105, am_go dc_168_106, J_aaload, am_go dc_168_107, am_go dc_168_108, am_go dc_168_109, am_go dc_168_112, am_go dc_168_113, am_go dc_168_114, am_go dc_168_116, am_go dc_168_118, ca_0_301 own_168, am_go dc_168_121, am_go dc_168_123, xg_8, xg_11, xg_10, hX.c0, hX.c53, hX.c54, hX.c55, hX.c64, hX.c65, hT.c0, hT.c1, hT.c2, hT.c3, hT.c4, hT.c5, hT.c6, hT.c7, hP.c0, hP.c1, hP.c2, hP.c3, hP.c4, zI_add, zI_mul, zI_lt, zI_le, zI_eq, zI_neg, zI_pos, zI_ne0, zI_gt0, zB_0, lg_cmp_ge, lg_cmp_le, lg_cmp_gt, lg_cmp_lt, lg_cmp_eq, ail_r, abl_r, all_r, ais_r, abs_r, als_r, aal_r, aal_q, aln_r, vrf_s, vrf_n, z32, ks, kt, v5, w5, v6, w6, z20, c4, Bool.true_eq_false, Bool.false_eq_true, zB_t, zB_f, i8_m3, i8_m4, rwF_v, List.length_cons, List.length_nil, Nat.reduceAdd, Nat.reduceLT, Nat.reduceLeDiff, Nat.reduceEqDiff, ↓reduceIte, bind_s, if_true, if_false, not_true_eq_false, not_false_eq_true, Nat.zero_add]
              exact gR_id hK hM cc cr mQ.rf hF
            · have z20 : ¬ zI 2 = 0 := by decide
              rw [c2] at v5
              have cc : am_f X 1000 168 [.ref o, .int (zI e), .int a1, .int (zI f), .int b1, .int w] (H, z) = some (.inl (some (.int (-12))), (H, z)) := by
                show am_f X (999 + 1) 168 _ _ = _
                rw [fU_168]
                simp (disch := first | omega | exact Nat.le_of_ble_eq_true rfl | exact hX.ci | exact hT.ci | exact hP.ci | exact hX.ci | exact hT.ci | exact hP.ci | (refine xF_lt ?_; omega) | (refine tF_lt ?_; omega) | (refine pF_lt ?_; omega)) only [own_168, am_go dc_168_0, J_iload_1, K_il, ld_1, am_go dc_168_1, cs_0_73 own_168, JR_v, JR_0, JR_ite, am_go dc_168_4, J_if_eq, am_go dc_168_7, J_iload_3, ld_3, am_go dc_168_8, am_go dc_168_11, J_if_ne, am_go dc_168_14, J_iconst, i32_m1, am_go dc_168_15, J_ret_i ret_168, am_go dc_168_16, J_aload_0, K_al, ld_0, am_go dc_168_17, J_getfield, gf_r, fk_0_52_0, am_go dc_168_20, am_go dc_168_21, J_iaload, am_go dc_168_22, am_go dc_168_25, am_go dc_168_26, am_go dc_168_29, am_go dc_168_30, am_go dc_168_31, am_go dc_168_34, J_bipush, i8_m11, am_go dc_168_36, am_go dc_168_37, am_go dc_168_38, am_go dc_168_41, am_go dc_168_42, am_go dc_168_43, c32_2, am_go dc_168_44, J_icmp_ne, am_go dc_168_47, am_go dc_168_48, am_go dc_168_51, am_go dc_168_52, am_go dc_168_53, am_go dc_168_54, am_go dc_168_57, am_go dc_168_58, fk_0_67_0, am_go dc_168_61, am_go dc_168_62, am_go dc_168_63, am_go dc_168_64, am_go dc_168_67, am_go dc_168_68, am_go dc_168_69, J_icmp_eq, am_go dc_168_72, i8_m12, am_go dc_168_74, am_go dc_168_75, am_go dc_168_76, am_go dc_168_77, J_iload_2, ld_2, am_go dc_168_78, J_iload, ld_5, am_go dc_168_80, cv_0_297_0 own_168, ci1_r, am_go dc_168_83, am_go dc_168_86, am_go dc_168_87, am_go dc_168_88, ld_4, am_go dc_168_90, am_go dc_168_92, am_go dc_168_95, am_go dc_168_98, i8_m13, am_go dc_168_100, am_go dc_168_101, am_go dc_168_102, fk_0_64_0, am_go dc_168_105, am_go dc_168_106, J_aaload, am_go dc_168_107, am_go dc_168_108, am_go dc_168_109, am_go dc_168_112, am_go dc_168_113, am_go dc_168_114, am_go dc_168_116, am_go dc_168_118, ca_0_301 own_168, am_go dc_168_121, am_go dc_168_123, xg_8, xg_11, xg_10, hX.c0, hX.c53, hX.c54, hX.c55, hX.c64, hX.c65, hT.c0, hT.c1, hT.c2, hT.c3, hT.c4, hT.c5, hT.c6, hT.c7, hP.c0, hP.c1, hP.c2, hP.c3, hP.c4, zI_add, zI_mul, zI_lt, zI_le, zI_eq, zI_neg, zI_pos, zI_ne0, zI_gt0, zB_0, lg_cmp_ge, lg_cmp_le, lg_cmp_gt, lg_cmp_lt, lg_cmp_eq, ail_r, abl_r, all_r, ais_r, abs_r, als_r, aal_r, aal_q, aln_r, vrf_s, vrf_n, z32, ks, kt, v5, w5, z20, n2, c3, Bool.true_eq_false, Bool.false_eq_true, zB_t, zB_f, i8_m3, i8_m4, rwF_v, List.length_cons, List.length_nil, Nat.reduceAdd, Nat.reduceLT, Nat.reduceLeDiff, Nat.reduceEqDiff, ↓reduceIte, bind_s, if_true, if_false, not_true_eq_false, not_false_eq_true, Nat.zero_add]
              exact gR_id hK hM cc cr mQ.rf hF
          · have cc : am_f X 1000 168 [.ref o, .int (zI e), .int a1, .int (zI f), .int b1, .int w] (H, z) = some (.inl (some (.int (-12))), (H, z)) := by
              show am_f X (999 + 1) 168 _ _ = _
              rw [fU_168]
              simp (disch := first | omega | exact Nat.le_of_ble_eq_true rfl | exact hX.ci | exact hT.ci | exact hP.ci | exact hX.ci | exact hT.ci | exact hP.ci | (refine xF_lt ?_; omega) | (refine tF_lt ?_; omega) | (refine pF_lt ?_; omega)) only [own_168, am_go dc_168_0, J_iload_1, K_il, ld_1, am_go dc_168_1, cs_0_73 own_168, JR_v, JR_0, JR_ite, am_go dc_168_4, J_if_eq, am_go dc_168_7, J_iload_3, ld_3, am_go dc_168_8, am_go dc_168_11, J_if_ne, am_go dc_168_14, J_iconst, i32_m1, am_go dc_168_15, J_ret_i ret_168, am_go dc_168_16, J_aload_0, K_al, ld_0, am_go dc_168_17, J_getfield, gf_r, fk_0_52_0, am_go dc_168_20, am_go dc_168_21, J_iaload, am_go dc_168_22, am_go dc_168_25, am_go dc_168_26, am_go dc_168_29, am_go dc_168_30, am_go dc_168_31, am_go dc_168_34, J_bipush, i8_m11, am_go dc_168_36, am_go dc_168_37, am_go dc_168_38, am_go dc_168_41, am_go dc_168_42, am_go dc_168_43, c32_2, am_go dc_168_44, J_icmp_ne, am_go dc_168_47, am_go dc_168_48, am_go dc_168_51, am_go dc_168_52, am_go dc_168_53, am_go dc_168_54, am_go dc_168_57, am_go dc_168_58, fk_0_67_0, am_go dc_168_61, am_go dc_168_62, am_go dc_168_63, am_go dc_168_64, am_go dc_168_67, am_go dc_168_68, am_go dc_168_69, J_icmp_eq, am_go dc_168_72, i8_m12, am_go dc_168_74, am_go dc_168_75, am_go dc_168_76, am_go dc_168_77, J_iload_2, ld_2, am_go dc_168_78, J_iload, ld_5, am_go dc_168_80, cv_0_297_0 own_168, ci1_r, am_go dc_168_83, am_go dc_168_86, am_go dc_168_87, am_go dc_168_88, ld_4, am_go dc_168_90, am_go dc_168_92, am_go dc_168_95, am_go dc_168_98, i8_m13, am_go dc_168_100, am_go dc_168_101, am_go dc_168_102, fk_0_64_0, am_go dc_168_105, am_go dc_168_106, J_aaload, am_go dc_168_107, am_go dc_168_108, am_go dc_168_109, am_go dc_168_112, am_go dc_168_113, am_go dc_168_114, am_go dc_168_116, am_go dc_168_118, ca_0_301 own_168, am_go dc_168_121, am_go dc_168_123, xg_8, xg_11, xg_10, hX.c0, hX.c53, hX.c54, hX.c55, hX.c64, hX.c65, hT.c0, hT.c1, hT.c2, hT.c3, hT.c4, hT.c5, hT.c6, hT.c7, hP.c0, hP.c1, hP.c2, hP.c3, hP.c4, zI_add, zI_mul, zI_lt, zI_le, zI_eq, zI_neg, zI_pos, zI_ne0, zI_gt0, zB_0, lg_cmp_ge, lg_cmp_le, lg_cmp_gt, lg_cmp_lt, lg_cmp_eq, ail_r, abl_r, all_r, ais_r, abs_r, als_r, aal_r, aal_q, aln_r, vrf_s, vrf_n, z32, ks, kt, v5, w5, n1, n2, c2, Bool.true_eq_false, Bool.false_eq_true, zB_t, zB_f, i8_m3, i8_m4, rwF_v, List.length_cons, List.length_nil, Nat.reduceAdd, Nat.reduceLT, Nat.reduceLeDiff, Nat.reduceEqDiff, ↓reduceIte, bind_s, if_true, if_false, not_true_eq_false, not_false_eq_true, Nat.zero_add]
            exact gR_id hK hM cc cr mQ.rf hF
end FM
