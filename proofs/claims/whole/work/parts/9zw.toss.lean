/-! the face: what throws -/
section FN
variable {rec : am_O} {lv : am_L} {st rest : List Value} {σ : am_S} {t pc nx tg : Nat}
variable {X : am_X} {o k : Nat} {H : am_H} {z : Nat × Nat} {u : mU}
theorem J_newx {k ci : Nat} (hk : am_kk (am_own t) k = some ci) (hc : (ci == 16 || ci == 17) = true) (ht : am_isT t pc = true) (hs : st.length ≤ 8) : am_J X rec t (some (.new k, nx, tg)) pc lv st σ = some (.inr ci, (σ.1, σ.2.1 + 1, σ.2.2 + 6)) := by
  rw [J_new, hk]
  have h13 : ¬ ci < 13 := by
    rw [Bool.or_eq_true, beq_iff_eq, beq_iff_eq] at hc
    omega
  unfold am_new
  simp only
  rw [if_neg h13, hc, ht, decide_eq_true hs]
  rfl
theorem nx_179 : am_J X rec 179 (some (.new 39, nx, tg)) 7 lv [] σ = some (.inr 16, (σ.1, σ.2.1 + 1, σ.2.2 + 6)) := J_newx (by decide +kernel) (by decide) (by decide +kernel) (by simp)
theorem nx_186 : am_J X rec 186 (some (.new 251, nx, tg)) 9 lv [] σ = some (.inr 17, (σ.1, σ.2.1 + 1, σ.2.2 + 6)) := J_newx (by decide +kernel) (by decide) (by decide +kernel) (by simp)
theorem nx_191a : am_J X rec 191 (some (.new 251, nx, tg)) 7 lv [] σ = some (.inr 17, (σ.1, σ.2.1 + 1, σ.2.2 + 6)) := J_newx (by decide +kernel) (by decide) (by decide +kernel) (by simp)
theorem nx_191b : am_J X rec 191 (some (.new 292, nx, tg)) 42 lv [] σ = some (.inr 16, (σ.1, σ.2.1 + 1, σ.2.2 + 6)) := J_newx (by decide +kernel) (by decide) (by decide +kernel) (by simp)
theorem hx_go {E h nx k : Nat} (h1 : am_hd t pc E = some h) (h2 : am_hk t h = some (nx, k)) (hk : k < lv.length) : am_K X rec t (am_hc t lv σ (am_hd t pc E)) = am_I X rec t nx ((am_kill lv k).set k none) [] σ := by
  rw [h1]
  unfold am_hc
  simp only
  rw [h2]
  simp only
  rw [if_pos hk]
  rfl
theorem hx_178 {l0 l1 l3 : Option Value} {x : Int32} : am_K X rec 178 (am_hc 178 [l0, l1, some (.int x), l3] σ (am_hd 178 18 16)) = am_I X rec 178 25 [l0, l1, some (.int x), none] [] σ := hx_go (h := 24) (nx := 25) (k := 3) (by decide +kernel) (by decide +kernel) (by simp)
theorem hx_185 {l0 l1 l2 l4 : Option Value} {x : Nat} : am_K X rec 185 (am_hc 185 [l0, l1, l2, some (.ref x), l4] σ (am_hd 185 5 17)) = am_I X rec 185 14 [l0, l1, l2, some (.ref x), none] [] σ := hx_go (h := 12) (nx := 14) (k := 4) (by decide +kernel) (by decide +kernel) (by simp)
theorem hx_190a {l0 l1 l2 l4 : Option Value} {x : Nat} : am_K X rec 190 (am_hc 190 [l0, l1, l2, some (.ref x), l4] σ (am_hd 190 5 17)) = am_I X rec 190 14 [l0, l1, l2, some (.ref x), none] [] σ := hx_go (h := 12) (nx := 14) (k := 4) (by decide +kernel) (by decide +kernel) (by simp)
theorem hx_190b {l0 l1 l2 l4 : Option Value} {x : Nat} : am_K X rec 190 (am_hc 190 [l0, l1, l2, some (.ref x), l4] σ (am_hd 190 5 16)) = am_I X rec 190 18 [l0, l1, l2, some (.ref x), none] [] σ := hx_go (h := 16) (nx := 18) (k := 4) (by decide +kernel) (by decide +kernel) (by simp)
theorem vx_0_313 {b : Nat × Nat × Nat × Nat} {id : Int32} {f g : Nat → Int32} {a on : Nat} (ho : am_own t = 0) (hB : isB H a b id f on g) (hr : rest.length ≤ 8) : am_J X rec t (some (.invokevirtual 313, nx, tg)) pc lv (.ref a :: rest) (H, z) = am_JR X rec t pc nx lv rest (rec 179 [.ref a] (H, z)) := by
  rcases hB.k with h | h | h | h | h | h
  · exact cv_0_313_6 ho (by rw [hB.ci, h]) hr
  · exact cv_0_313_7 ho (by rw [hB.ci, h]) hr
  · exact cv_0_313_8 ho (by rw [hB.ci, h]) hr
  · exact cv_0_313_9 ho (by rw [hB.ci, h]) hr
  · exact cv_0_313_10 ho (by rw [hB.ci, h]) hr
  · exact cv_0_313_11 ho (by rw [hB.ci, h]) hr
theorem b_fail {b : Nat × Nat × Nat × Nat} {id : Int32} {f g : Nat → Int32} {a on d : Nat} (hB : isB H a b id f on g) : am_f X (d + 3) 179 [.ref a] (H, z) = if bFails f = true then some (.inr 16, (H, (z.1 + 1, z.2 + 6))) else some (.inl none, (H, z)) := by
  rw [show d + 3 = d + 2 + 1 from rfl, fU_179]
  cases c : bFails f with
  | true =>
    simp (disch := first | omega | exact Nat.le_of_ble_eq_true rfl) only [own_179, am_go dc_179_0, J_aload_0, K_al, ld_0, am_go dc_179_1, cv_6_35_6 own_179, JR_v, JR_0, JR_ite, ci1_r, am_go dc_179_4, J_if_eq, am_go dc_179_7, am_go dc_179_10, J_dup_i, J_dup_r, am_go dc_179_11, J_ldc, am_go dc_179_13, am_go dc_179_16, am_go dc_179_17, J_ret_v ret_179, zI_add, zI_mul, zI_lt, zI_le, zI_eq, zI_neg, zI_pos, zI_ne0, zI_gt0, zB_0, lg_cmp_ge, lg_cmp_le, lg_cmp_gt, lg_cmp_lt, lg_cmp_eq, ail_r, abl_r, all_r, ais_r, abs_r, als_r, aal_r, aal_q, aln_r, vrf_s, vrf_n, z32, vx_6_35 own_179 hB, c, nx_179, Bool.true_eq_false, Bool.false_eq_true, zB_t, zB_f, i32_m1, i8_m3, i8_m4, rwF_v, List.length_cons, List.length_nil, Nat.reduceAdd, Nat.reduceLT, Nat.reduceLeDiff, Nat.reduceEqDiff, ↓reduceIte, bind_s, if_true, if_false, not_true_eq_false, not_false_eq_true, Nat.zero_add]
  | false =>
    simp (disch := first | omega | exact Nat.le_of_ble_eq_true rfl) only [own_179, am_go dc_179_0, J_aload_0, K_al, ld_0, am_go dc_179_1, cv_6_35_6 own_179, JR_v, JR_0, JR_ite, ci1_r, am_go dc_179_4, J_if_eq, am_go dc_179_7, am_go dc_179_10, J_dup_i, J_dup_r, am_go dc_179_11, J_ldc, am_go dc_179_13, am_go dc_179_16, am_go dc_179_17, J_ret_v ret_179, zI_add, zI_mul, zI_lt, zI_le, zI_eq, zI_neg, zI_pos, zI_ne0, zI_gt0, zB_0, lg_cmp_ge, lg_cmp_le, lg_cmp_gt, lg_cmp_lt, lg_cmp_eq, ail_r, abl_r, all_r, ais_r, abs_r, als_r, aal_r, aal_q, aln_r, vrf_s, vrf_n, z32, vx_6_35 own_179 hB, c, nx_179, Bool.true_eq_false, Bool.false_eq_true, zB_t, zB_f, i32_m1, i8_m3, i8_m4, rwF_v, List.length_cons, List.length_nil, Nat.reduceAdd, Nat.reduceLT, Nat.reduceLeDiff, Nat.reduceEqDiff, ↓reduceIte, bind_s, if_true, if_false, not_true_eq_false, not_false_eq_true, Nat.zero_add]
theorem x_ref_n {d : Nat} {x : Int32} (hx : qIs x 8 = false) : am_f X (d + 2) 171 [.ref o, .int x] (H, z) = some (.inl (some (.int (-1))), (H, z)) := by
  have ks : am_f X (d + 1) 7 [.int x] (H, z) = _ := x_isShelf (X := X) (d := d)
  rw [hx] at ks
  rw [fU_171]
  simp (disch := first | omega | exact Nat.le_of_ble_eq_true rfl) only [own_171, am_go dc_171_0, J_iload_1, K_il, ld_1, am_go dc_171_1, cs_0_73 own_171, JR_v, JR_0, JR_ite, am_go dc_171_4, J_if_ne, am_go dc_171_7, J_iconst, i32_m1, am_go dc_171_8, J_ret_i ret_171, am_go dc_171_9, J_aload_0, K_al, ld_0, am_go dc_171_10, J_getfield, gf_r, am_go dc_171_13, am_go dc_171_14, J_iaload, am_go dc_171_15, am_go dc_171_18, J_bipush, i8_m11, am_go dc_171_20, am_go dc_171_21, am_go dc_171_22, am_go dc_171_25, am_go dc_171_26, am_go dc_171_27, c32_1, am_go dc_171_28, J_icmp_ne, am_go dc_171_31, am_go dc_171_32, am_go dc_171_35, am_go dc_171_36, J_aaload, am_go dc_171_37, am_go dc_171_40, c32_0, am_go dc_171_41, J_goto, am_go dc_171_44, i8_m12, am_go dc_171_46, zI_add, zI_mul, zI_lt, zI_le, zI_eq, zI_neg, zI_pos, zI_ne0, zI_gt0, zB_0, lg_cmp_ge, lg_cmp_le, lg_cmp_gt, lg_cmp_lt, lg_cmp_eq, ail_r, abl_r, all_r, ais_r, abs_r, als_r, aal_r, aal_q, aln_r, vrf_s, vrf_n, z32, ks, Bool.true_eq_false, Bool.false_eq_true, zB_t, zB_f, i8_m3, i8_m4, rwF_v, List.length_cons, List.length_nil, Nat.reduceAdd, Nat.reduceLT, Nat.reduceLeDiff, Nat.reduceEqDiff, ↓reduceIte, bind_s, if_true, if_false, not_true_eq_false, not_false_eq_true, Nat.zero_add]
theorem x_ref {C : Nat → Prop} {d e : Nat} {D : mU × (Nat → Option Nat)} (hX : isX H o D) (he : e < 8) (hg : gSe D u e ∧ (u.1 5 e = zI 1 → gSb C H D u e)) : am_f X (d + 2) 171 [.ref o, .int (zI e)] (H, z) = some (.inl (some (.int (qWk u e))), (H, z)) := by
  have ks : am_f X (d + 1) 7 [.int (zI e)] (H, z) = _ := x_isShelf (X := X) (d := d)
  rw [qIs_zI he (by omega)] at ks
  obtain ⟨⟨v5, -, -, c5, -⟩, vb⟩ := hg
  have z10 : ¬ zI 1 = 0 := by decide
  have z20 : ¬ zI 2 = 0 := by decide
  have z21 : ¬ zI 2 = zI 1 := by decide
  unfold qWk
  rw [fU_171]
  rcases c5 with q | q | q
  · rw [q] at v5
    rw [q, if_pos (show zI 0 = 0 from rfl)]
    simp (disch := first | omega | exact Nat.le_of_ble_eq_true rfl | exact hX.ci | exact hX.ci | exact hT.ci | exact hP.ci | (refine xF_lt ?_; omega) | (refine tF_lt ?_; omega) | (refine pF_lt ?_; omega)) only [own_171, am_go dc_171_0, J_iload_1, K_il, ld_1, am_go dc_171_1, cs_0_73 own_171, JR_v, JR_0, JR_ite, am_go dc_171_4, J_if_ne, am_go dc_171_7, J_iconst, i32_m1, am_go dc_171_8, J_ret_i ret_171, am_go dc_171_9, J_aload_0, K_al, ld_0, am_go dc_171_10, J_getfield, gf_r, fk_0_52_0, am_go dc_171_13, am_go dc_171_14, J_iaload, am_go dc_171_15, am_go dc_171_18, J_bipush, i8_m11, am_go dc_171_20, am_go dc_171_21, am_go dc_171_22, am_go dc_171_25, am_go dc_171_26, am_go dc_171_27, c32_1, am_go dc_171_28, J_icmp_ne, am_go dc_171_31, am_go dc_171_32, fk_0_58_0, am_go dc_171_35, am_go dc_171_36, J_aaload, am_go dc_171_37, am_go dc_171_40, c32_0, am_go dc_171_41, J_goto, am_go dc_171_44, i8_m12, am_go dc_171_46, xg_8, xg_9, hX.c0, hX.c53, hX.c54, hX.c55, hX.c64, hX.c65, zI_add, zI_mul, zI_lt, zI_le, zI_eq, zI_neg, zI_pos, zI_ne0, zI_gt0, zB_0, lg_cmp_ge, lg_cmp_le, lg_cmp_gt, lg_cmp_lt, lg_cmp_eq, ail_r, abl_r, all_r, ais_r, abs_r, als_r, aal_r, aal_q, aln_r, vrf_s, vrf_n, z32, ks, v5, Bool.true_eq_false, Bool.false_eq_true, zB_t, zB_f, i8_m3, i8_m4, rwF_v, List.length_cons, List.length_nil, Nat.reduceAdd, Nat.reduceLT, Nat.reduceLeDiff, Nat.reduceEqDiff, ↓reduceIte, bind_s, if_true, if_false, not_true_eq_false, not_false_eq_true, Nat.zero_add]
  · obtain ⟨a, bb, id, f, on, g, h1, -⟩ := vb q
    rw [q] at v5
    rw [q, if_neg z10, if_pos rfl]
    simp (disch := first | omega | exact Nat.le_of_ble_eq_true rfl | exact hX.ci | exact hX.ci | exact hT.ci | exact hP.ci | (refine xF_lt ?_; omega) | (refine tF_lt ?_; omega) | (refine pF_lt ?_; omega)) only [own_171, am_go dc_171_0, J_iload_1, K_il, ld_1, am_go dc_171_1, cs_0_73 own_171, JR_v, JR_0, JR_ite, am_go dc_171_4, J_if_ne, am_go dc_171_7, J_iconst, i32_m1, am_go dc_171_8, J_ret_i ret_171, am_go dc_171_9, J_aload_0, K_al, ld_0, am_go dc_171_10, J_getfield, gf_r, fk_0_52_0, am_go dc_171_13, am_go dc_171_14, J_iaload, am_go dc_171_15, am_go dc_171_18, J_bipush, i8_m11, am_go dc_171_20, am_go dc_171_21, am_go dc_171_22, am_go dc_171_25, am_go dc_171_26, am_go dc_171_27, c32_1, am_go dc_171_28, J_icmp_ne, am_go dc_171_31, am_go dc_171_32, fk_0_58_0, am_go dc_171_35, am_go dc_171_36, J_aaload, am_go dc_171_37, am_go dc_171_40, c32_0, am_go dc_171_41, J_goto, am_go dc_171_44, i8_m12, am_go dc_171_46, xg_8, xg_9, hX.c0, hX.c53, hX.c54, hX.c55, hX.c64, hX.c65, zI_add, zI_mul, zI_lt, zI_le, zI_eq, zI_neg, zI_pos, zI_ne0, zI_gt0, zB_0, lg_cmp_ge, lg_cmp_le, lg_cmp_gt, lg_cmp_lt, lg_cmp_eq, ail_r, abl_r, all_r, ais_r, abs_r, als_r, aal_r, aal_q, aln_r, vrf_s, vrf_n, z32, ks, v5, z10, h1, J_ifnull_r, Bool.true_eq_false, Bool.false_eq_true, zB_t, zB_f, i8_m3, i8_m4, rwF_v, List.length_cons, List.length_nil, Nat.reduceAdd, Nat.reduceLT, Nat.reduceLeDiff, Nat.reduceEqDiff, ↓reduceIte, bind_s, if_true, if_false, not_true_eq_false, not_false_eq_true, Nat.zero_add]
  · rw [q] at v5
    rw [q, if_neg z20, if_neg z21]
    simp (disch := first | omega | exact Nat.le_of_ble_eq_true rfl | exact hX.ci | exact hX.ci | exact hT.ci | exact hP.ci | (refine xF_lt ?_; omega) | (refine tF_lt ?_; omega) | (refine pF_lt ?_; omega)) only [own_171, am_go dc_171_0, J_iload_1, K_il, ld_1, am_go dc_171_1, cs_0_73 own_171, JR_v, JR_0, JR_ite, am_go dc_171_4, J_if_ne, am_go dc_171_7, J_iconst, i32_m1, am_go dc_171_8, J_ret_i ret_171, am_go dc_171_9, J_aload_0, K_al, ld_0, am_go dc_171_10, J_getfield, gf_r, fk_0_52_0, am_go dc_171_13, am_go dc_171_14, J_iaload, am_go dc_171_15, am_go dc_171_18, J_bipush, i8_m11, am_go dc_171_20, am_go dc_171_21, am_go dc_171_22, am_go dc_171_25, am_go dc_171_26, am_go dc_171_27, c32_1, am_go dc_171_28, J_icmp_ne, am_go dc_171_31, am_go dc_171_32, fk_0_58_0, am_go dc_171_35, am_go dc_171_36, J_aaload, am_go dc_171_37, am_go dc_171_40, c32_0, am_go dc_171_41, J_goto, am_go dc_171_44, i8_m12, am_go dc_171_46, xg_8, xg_9, hX.c0, hX.c53, hX.c54, hX.c55, hX.c64, hX.c65, zI_add, zI_mul, zI_lt, zI_le, zI_eq, zI_neg, zI_pos, zI_ne0, zI_gt0, zB_0, lg_cmp_ge, lg_cmp_le, lg_cmp_gt, lg_cmp_lt, lg_cmp_eq, ail_r, abl_r, all_r, ais_r, abs_r, als_r, aal_r, aal_q, aln_r, vrf_s, vrf_n, z32, ks, v5, z20, z21, Bool.true_eq_false, Bool.false_eq_true, zB_t, zB_f, i8_m3, i8_m4, rwF_v, List.length_cons, List.length_nil, Nat.reduceAdd, Nat.reduceLT, Nat.reduceLeDiff, Nat.reduceEqDiff, ↓reduceIte, bind_s, if_true, if_false, not_true_eq_false, not_false_eq_true, Nat.zero_add]
theorem f_weight (hK : gK o k H z u) (hM : cM H (o + 66) u) (hF : mFr u) {x : Int32} : gR X o k 170 278 [.int x] H z u := by
  obtain ⟨C, D, T, P, TI, PI, lu, m, a, N, hX, hgT, hgI, hgE, hgL, hgS, hma, haa, hCC, hz0, hno, hup⟩ := g_up hK
  have hTN := hgT.1
  have hP := hgT.2.1
  have hpS := hgT.2.2.1
  have hI := hgT.2.2.2
  have hS := hTN.1
  have hT := hS.iT
  have hG := hI.1
  have hL := hI.pl
  have hq := hI.qw
  have hm5 := hG.m.2
  have hsz := hS.sz
  have hbl := hS.bell
  cases hx : qIs x 8 with
  | false =>
    have kr : am_f X 999 171 [.ref o, .int (x)] (H, z) = _ := x_ref_n (X := X) (d := 997) hx
    have m1 : ¬ (0 : Int32) ≤ -1 := by decide
    have cc : am_f X 1000 170 [.ref o, .int x] (H, z) = some (.inl (some (.int (-1))), (H, z)) := by
      show am_f X (999 + 1) 170 _ _ = _
      rw [fU_170]
      simp (disch := first | omega | exact Nat.le_of_ble_eq_true rfl | exact hX.ci | exact hT.ci | exact hP.ci | exact hX.ci | exact hT.ci | exact hP.ci | (refine xF_lt ?_; omega) | (refine tF_lt ?_; omega) | (refine pF_lt ?_; omega)) only [own_170, am_go dc_170_0, J_aload_0, K_al, ld_0, am_go dc_170_1, J_iload_1, K_il, ld_1, am_go dc_170_2, cv_0_307_0 own_170, JR_v, JR_0, JR_ite, ci1_r, am_go dc_170_5, J_istore_2, st1_0, st1_1, st1_s, kl_i, kl_l, kl_r, kl_n, am_go dc_170_6, J_iload_2, ld_2, am_go dc_170_7, J_if_ge, am_go dc_170_10, am_go dc_170_11, J_goto, am_go dc_170_14, am_go dc_170_15, J_getfield, gf_r, fk_0_58_0, am_go dc_170_18, am_go dc_170_19, J_aaload, am_go dc_170_20, am_go dc_170_23, J_ret_i ret_170, xg_9, hX.c0, hX.c53, hX.c54, hX.c55, hX.c64, hX.c65, hT.c0, hT.c1, hT.c2, hT.c3, hT.c4, hT.c5, hT.c6, hT.c7, hP.c0, hP.c1, hP.c2, hP.c3, hP.c4, zI_add, zI_mul, zI_lt, zI_le, zI_eq, zI_neg, zI_pos, zI_ne0, zI_gt0, zB_0, lg_cmp_ge, lg_cmp_le, lg_cmp_gt, lg_cmp_lt, lg_cmp_eq, ail_r, abl_r, all_r, ais_r, abs_r, als_r, aal_r, aal_q, aln_r, vrf_s, vrf_n, z32, kr, m1, Bool.true_eq_false, Bool.false_eq_true, zB_t, zB_f, i32_m1, i8_m3, i8_m4, rwF_v, List.length_cons, List.length_nil, Nat.reduceAdd, Nat.reduceLT, Nat.reduceLeDiff, Nat.reduceEqDiff, ↓reduceIte, bind_s, if_true, if_false, not_true_eq_false, not_false_eq_true, Nat.zero_add]
    have cr : am_f X 1000 278 [.ref (o + 66), .int x] (mH H (o + 66) u, z) = _ := r_weight_n (X := X) (d := 996) (h := H) (z := z) hx
    exact gR_id hK hM cc cr mQ.rf hF
  | true =>
    obtain ⟨e1, e2⟩ := qIs_get hx
    generalize wN x = e at *
    subst e1
    obtain ⟨⟨v5, v6, v7, c5, c6, ⟨s, hs2, hs⟩, v8⟩, vb⟩ := hgS e e2
    rcases c5 with q | q | q
    · have kr : am_f X 999 171 [.ref o, .int (zI e)] (H, z) = _ := x_ref (X := X) (d := 997) hX e2 (hgS e e2)
      have hwk : qWk u e = -11 := by
        unfold qWk
        rw [q]
        rfl
      rw [hwk] at kr
      have m1 : ¬ (0 : Int32) ≤ -11 := by decide
      have cc : am_f X 1000 170 [.ref o, .int (zI e)] (H, z) = some (.inl (some (.int (-11))), (H, z)) := by
        show am_f X (999 + 1) 170 _ _ = _
        rw [fU_170]
        simp (disch := first | omega | exact Nat.le_of_ble_eq_true rfl | exact hX.ci | exact hT.ci | exact hP.ci | exact hX.ci | exact hT.ci | exact hP.ci | (refine xF_lt ?_; omega) | (refine tF_lt ?_; omega) | (refine pF_lt ?_; omega)) only [own_170, am_go dc_170_0, J_aload_0, K_al, ld_0, am_go dc_170_1, J_iload_1, K_il, ld_1, am_go dc_170_2, cv_0_307_0 own_170, JR_v, JR_0, JR_ite, ci1_r, am_go dc_170_5, J_istore_2, st1_0, st1_1, st1_s, kl_i, kl_l, kl_r, kl_n, am_go dc_170_6, J_iload_2, ld_2, am_go dc_170_7, J_if_ge, am_go dc_170_10, am_go dc_170_11, J_goto, am_go dc_170_14, am_go dc_170_15, J_getfield, gf_r, fk_0_58_0, am_go dc_170_18, am_go dc_170_19, J_aaload, am_go dc_170_20, am_go dc_170_23, J_ret_i ret_170, xg_9, hX.c0, hX.c53, hX.c54, hX.c55, hX.c64, hX.c65, hT.c0, hT.c1, hT.c2, hT.c3, hT.c4, hT.c5, hT.c6, hT.c7, hP.c0, hP.c1, hP.c2, hP.c3, hP.c4, zI_add, zI_mul, zI_lt, zI_le, zI_eq, zI_neg, zI_pos, zI_ne0, zI_gt0, zB_0, lg_cmp_ge, lg_cmp_le, lg_cmp_gt, lg_cmp_lt, lg_cmp_eq, ail_r, abl_r, all_r, ais_r, abs_r, als_r, aal_r, aal_q, aln_r, vrf_s, vrf_n, z32, kr, m1, Bool.true_eq_false, Bool.false_eq_true, zB_t, zB_f, i32_m1, i8_m3, i8_m4, rwF_v, List.length_cons, List.length_nil, Nat.reduceAdd, Nat.reduceLT, Nat.reduceLeDiff, Nat.reduceEqDiff, ↓reduceIte, bind_s, if_true, if_false, not_true_eq_false, not_false_eq_true, Nat.zero_add]
      have cr : am_f X 1000 278 [.ref (o + 66), .int (zI e)] (mH H (o + 66) u, z) = _ := r_weight_y (X := X) (d := 996) (h := H) (z := z) e2
      rw [hwk, if_neg (by decide)] at cr
      exact gR_id hK hM cc cr mQ.rf hF
    · obtain ⟨a', bb, id, f, on, g, b1, b2, hB, b4, b5⟩ := vb q
      have kr : am_f X 999 171 [.ref o, .int (zI e)] (H, z) = _ := x_ref (X := X) (d := 997) hX e2 (hgS e e2)
      have hwk : qWk u e = zI 0 := by
        unfold qWk
        rw [q]
        rfl
      rw [hwk] at kr
      have m1 : (0 : Int32) ≤ zI 0 := by decide
      have cc : am_f X 1000 170 [.ref o, .int (zI e)] (H, z) = some (.inl (some (.int (bHeft f))), (H, z)) := by
        show am_f X (999 + 1) 170 _ _ = _
        rw [fU_170]
        simp (disch := first | omega | exact Nat.le_of_ble_eq_true rfl | exact hX.ci | exact hT.ci | exact hP.ci | exact hX.ci | exact hT.ci | exact hP.ci | (refine xF_lt ?_; omega) | (refine tF_lt ?_; omega) | (refine pF_lt ?_; omega)) only [own_170, am_go dc_170_0, J_aload_0, K_al, ld_0, am_go dc_170_1, J_iload_1, K_il, ld_1, am_go dc_170_2, cv_0_307_0 own_170, JR_v, JR_0, JR_ite, ci1_r, am_go dc_170_5, J_istore_2, st1_0, st1_1, st1_s, kl_i, kl_l, kl_r, kl_n, am_go dc_170_6, J_iload_2, ld_2, am_go dc_170_7, J_if_ge, am_go dc_170_10, am_go dc_170_11, J_goto, am_go dc_170_14, am_go dc_170_15, J_getfield, gf_r, fk_0_58_0, am_go dc_170_18, am_go dc_170_19, J_aaload, am_go dc_170_20, am_go dc_170_23, J_ret_i ret_170, xg_9, hX.c0, hX.c53, hX.c54, hX.c55, hX.c64, hX.c65, hT.c0, hT.c1, hT.c2, hT.c3, hT.c4, hT.c5, hT.c6, hT.c7, hP.c0, hP.c1, hP.c2, hP.c3, hP.c4, zI_add, zI_mul, zI_lt, zI_le, zI_eq, zI_neg, zI_pos, zI_ne0, zI_gt0, zB_0, lg_cmp_ge, lg_cmp_le, lg_cmp_gt, lg_cmp_lt, lg_cmp_eq, ail_r, abl_r, all_r, ais_r, abs_r, als_r, aal_r, aal_q, aln_r, vrf_s, vrf_n, z32, kr, m1, b1, vx_0_310 own_170 hB, Bool.true_eq_false, Bool.false_eq_true, zB_t, zB_f, i32_m1, i8_m3, i8_m4, rwF_v, List.length_cons, List.length_nil, Nat.reduceAdd, Nat.reduceLT, Nat.reduceLeDiff, Nat.reduceEqDiff, ↓reduceIte, bind_s, if_true, if_false, not_true_eq_false, not_false_eq_true, Nat.zero_add]
      have cr : am_f X 1000 278 [.ref (o + 66), .int (zI e)] (mH H (o + 66) u, z) = _ := r_weight_y (X := X) (d := 996) (h := H) (z := z) e2
      rw [hwk, if_pos (by decide), b4] at cr
      exact gR_id hK hM cc cr mQ.rf hF
    · have kr : am_f X 999 171 [.ref o, .int (zI e)] (H, z) = _ := x_ref (X := X) (d := 997) hX e2 (hgS e e2)
      have hwk : qWk u e = -12 := by
        unfold qWk
        rw [q]
        rfl
      rw [hwk] at kr
      have m1 : ¬ (0 : Int32) ≤ -12 := by decide
      have cc : am_f X 1000 170 [.ref o, .int (zI e)] (H, z) = some (.inl (some (.int (-12))), (H, z)) := by
        show am_f X (999 + 1) 170 _ _ = _
        rw [fU_170]
        simp (disch := first | omega | exact Nat.le_of_ble_eq_true rfl | exact hX.ci | exact hT.ci | exact hP.ci | exact hX.ci | exact hT.ci | exact hP.ci | (refine xF_lt ?_; omega) | (refine tF_lt ?_; omega) | (refine pF_lt ?_; omega)) only [own_170, am_go dc_170_0, J_aload_0, K_al, ld_0, am_go dc_170_1, J_iload_1, K_il, ld_1, am_go dc_170_2, cv_0_307_0 own_170, JR_v, JR_0, JR_ite, ci1_r, am_go dc_170_5, J_istore_2, st1_0, st1_1, st1_s, kl_i, kl_l, kl_r, kl_n, am_go dc_170_6, J_iload_2, ld_2, am_go dc_170_7, J_if_ge, am_go dc_170_10, am_go dc_170_11, J_goto, am_go dc_170_14, am_go dc_170_15, J_getfield, gf_r, fk_0_58_0, am_go dc_170_18, am_go dc_170_19, J_aaload, am_go dc_170_20, am_go dc_170_23, J_ret_i ret_170, xg_9, hX.c0, hX.c53, hX.c54, hX.c55, hX.c64, hX.c65, hT.c0, hT.c1, hT.c2, hT.c3, hT.c4, hT.c5, hT.c6, hT.c7, hP.c0, hP.c1, hP.c2, hP.c3, hP.c4, zI_add, zI_mul, zI_lt, zI_le, zI_eq, zI_neg, zI_pos, zI_ne0, zI_gt0, zB_0, lg_cmp_ge, lg_cmp_le, lg_cmp_gt, lg_cmp_lt, lg_cmp_eq, ail_r, abl_r, all_r, ais_r, abs_r, als_r, aal_r, aal_q, aln_r, vrf_s, vrf_n, z32, kr, m1, Bool.true_eq_false, Bool.false_eq_true, zB_t, zB_f, i32_m1, i8_m3, i8_m4, rwF_v, List.length_cons, List.length_nil, Nat.reduceAdd, Nat.reduceLT, Nat.reduceLeDiff, Nat.reduceEqDiff, ↓reduceIte, bind_s, if_true, if_false, not_true_eq_false, not_false_eq_true, Nat.zero_add]
      have cr : am_f X 1000 278 [.ref (o + 66), .int (zI e)] (mH H (o + 66) u, z) = _ := r_weight_y (X := X) (d := 996) (h := H) (z := z) e2
      rw [hwk, if_neg (by decide)] at cr
      exact gR_id hK hM cc cr mQ.rf hF
theorem f_toss (hK : gK o k H z u) (hM : cM H (o + 66) u) (hF : mFr u) {x : Int32} : gR X o k 178 280 [.int x] H z u := by
  obtain ⟨C, D, T, P, TI, PI, lu, m, a, N, hX, hgT, hgI, hgE, hgL, hgS, hma, haa, hCC, hz0, hno, hup⟩ := g_up hK
  have hTN := hgT.1
  have hP := hgT.2.1
  have hpS := hgT.2.2.1
  have hI := hgT.2.2.2
  have hS := hTN.1
  have hT := hS.iT
  have hG := hI.1
  have hL := hI.pl
  have hq := hI.qw
  have hm5 := hG.m.2
  have hsz := hS.sz
  have hbl := hS.bell
  cases hx : qIs x 8 with
  | false =>
    have kr : am_f X 999 171 [.ref o, .int (x)] (H, z) = _ := x_ref_n (X := X) (d := 997) hx
    have m1 : ¬ (0 : Int32) ≤ -1 := by decide
    have cc : am_f X 1000 178 [.ref o, .int x] (H, z) = some (.inl (some (.int (-1))), (H, z)) := by
      show am_f X (999 + 1) 178 _ _ = _
      rw [fU_178]
      simp (disch := first | omega | exact Nat.le_of_ble_eq_true rfl | exact hX.ci | exact hT.ci | exact hP.ci | exact hX.ci | exact hT.ci | exact hP.ci | (refine xF_lt ?_; omega) | (refine tF_lt ?_; omega) | (refine pF_lt ?_; omega)) only [own_178, am_go dc_178_0, J_aload_0, K_al, ld_0, am_go dc_178_1, J_iload_1, K_il, ld_1, am_go dc_178_2, cv_0_307_0 own_178, JR_v, JR_0, JR_ite, ci1_r, am_go dc_178_5, J_istore_2, st1_0, st1_1, st1_s, kl_i, kl_l, kl_r, kl_n, am_go dc_178_6, J_iload_2, ld_2, am_go dc_178_7, J_if_ge, am_go dc_178_10, am_go dc_178_11, J_ret_i ret_178, am_go dc_178_12, am_go dc_178_13, J_getfield, gf_r, fk_0_58_0, am_go dc_178_16, am_go dc_178_17, J_aaload, am_go dc_178_18, am_go dc_178_21, J_goto, am_go dc_178_24, J_astore_3, am_go dc_178_25, am_go dc_178_26, am_go dc_178_29, am_go dc_178_30, am_go dc_178_31, am_go dc_178_34, am_go dc_178_35, J_bipush, i8_m15, am_go dc_178_37, xg_9, hX.c0, hX.c53, hX.c54, hX.c55, hX.c64, hX.c65, hT.c0, hT.c1, hT.c2, hT.c3, hT.c4, hT.c5, hT.c6, hT.c7, hP.c0, hP.c1, hP.c2, hP.c3, hP.c4, zI_add, zI_mul, zI_lt, zI_le, zI_eq, zI_neg, zI_pos, zI_ne0, zI_gt0, zB_0, lg_cmp_ge, lg_cmp_le, lg_cmp_gt, lg_cmp_lt, lg_cmp_eq, ail_r, abl_r, all_r, ais_r, abs_r, als_r, aal_r, aal_q, aln_r, vrf_s, vrf_n, z32, kr, m1, Bool.true_eq_false, Bool.false_eq_true, zB_t, zB_f, i32_m1, i8_m3, i8_m4, rwF_v, List.length_cons, List.length_nil, Nat.reduceAdd, Nat.reduceLT, Nat.reduceLeDiff, Nat.reduceEqDiff, ↓reduceIte, bind_s, if_true, if_false, not_true_eq_false, not_false_eq_true, Nat.zero_add]
    have cr : am_f X 1000 280 [.ref (o + 66), .int x] (mH H (o + 66) u, z) = _ := r_toss_n (X := X) (d := 996) (h := H) (z := z) hx
    exact gR_id hK hM cc cr mQ.rf hF
  | true =>
    obtain ⟨e1, e2⟩ := qIs_get hx
    generalize wN x = e at *
    subst e1
    obtain ⟨⟨v5, v6, v7, c5, c6, ⟨s, hs2, hs⟩, v8⟩, vb⟩ := hgS e e2
    rcases c5 with q | q | q
    · have kr : am_f X 999 171 [.ref o, .int (zI e)] (H, z) = _ := x_ref (X := X) (d := 997) hX e2 (hgS e e2)
      have hwk : qWk u e = -11 := by
        unfold qWk
        rw [q]
        rfl
      rw [hwk] at kr
      have m1 : ¬ (0 : Int32) ≤ -11 := by decide
      have cc : am_f X 1000 178 [.ref o, .int (zI e)] (H, z) = some (.inl (some (.int (-11))), (H, z)) := by
        show am_f X (999 + 1) 178 _ _ = _
        rw [fU_178]
        simp (disch := first | omega | exact Nat.le_of_ble_eq_true rfl | exact hX.ci | exact hT.ci | exact hP.ci | exact hX.ci | exact hT.ci | exact hP.ci | (refine xF_lt ?_; omega) | (refine tF_lt ?_; omega) | (refine pF_lt ?_; omega)) only [own_178, am_go dc_178_0, J_aload_0, K_al, ld_0, am_go dc_178_1, J_iload_1, K_il, ld_1, am_go dc_178_2, cv_0_307_0 own_178, JR_v, JR_0, JR_ite, ci1_r, am_go dc_178_5, J_istore_2, st1_0, st1_1, st1_s, kl_i, kl_l, kl_r, kl_n, am_go dc_178_6, J_iload_2, ld_2, am_go dc_178_7, J_if_ge, am_go dc_178_10, am_go dc_178_11, J_ret_i ret_178, am_go dc_178_12, am_go dc_178_13, J_getfield, gf_r, fk_0_58_0, am_go dc_178_16, am_go dc_178_17, J_aaload, am_go dc_178_18, am_go dc_178_21, J_goto, am_go dc_178_24, J_astore_3, am_go dc_178_25, am_go dc_178_26, am_go dc_178_29, am_go dc_178_30, am_go dc_178_31, am_go dc_178_34, am_go dc_178_35, J_bipush, i8_m15, am_go dc_178_37, xg_9, hX.c0, hX.c53, hX.c54, hX.c55, hX.c64, hX.c65, hT.c0, hT.c1, hT.c2, hT.c3, hT.c4, hT.c5, hT.c6, hT.c7, hP.c0, hP.c1, hP.c2, hP.c3, hP.c4, zI_add, zI_mul, zI_lt, zI_le, zI_eq, zI_neg, zI_pos, zI_ne0, zI_gt0, zB_0, lg_cmp_ge, lg_cmp_le, lg_cmp_gt, lg_cmp_lt, lg_cmp_eq, ail_r, abl_r, all_r, ais_r, abs_r, als_r, aal_r, aal_q, aln_r, vrf_s, vrf_n, z32, kr, m1, Bool.true_eq_false, Bool.false_eq_true, zB_t, zB_f, i32_m1, i8_m3, i8_m4, rwF_v, List.length_cons, List.length_nil, Nat.reduceAdd, Nat.reduceLT, Nat.reduceLeDiff, Nat.reduceEqDiff, ↓reduceIte, bind_s, if_true, if_false, not_true_eq_false, not_false_eq_true, Nat.zero_add]
      have cr : am_f X 1000 280 [.ref (o + 66), .int (zI e)] (mH H (o + 66) u, z) = _ := r_toss_y (X := X) (d := 996) (h := H) (z := z) e2
      rw [hwk, if_neg (by decide)] at cr
      exact gR_id hK hM cc cr mQ.rf hF
    · obtain ⟨a', bb, id, f, on, g, b1, b2, hB, b4, b5⟩ := vb q
      by_cases c : bFails f = true
      · have kr : am_f X 999 171 [.ref o, .int (zI e)] (H, z) = _ := x_ref (X := X) (d := 997) hX e2 (hgS e e2)
        have hwk : qWk u e = zI 0 := by
          unfold qWk
          rw [q]
          rfl
        rw [hwk] at kr
        have m1 : (0 : Int32) ≤ zI 0 := by decide
        have cr : am_f X 1000 280 [.ref (o + 66), .int (zI e)] (mH H (o + 66) u, (z.1 + 1, z.2 + 6)) = _ := r_toss_y (X := X) (d := 996) (h := H) (z := (z.1 + 1, z.2 + 6)) e2
        rw [hwk, if_pos (by decide), b5] at cr
        have kf0 := b_fail (X := X) (z := z) (d := 996) hB
        rw [if_pos c] at cr kf0
        have kf : am_f X 999 179 [.ref a'] (H, z) = _ := kf0
        have cc : am_f X 1000 178 [.ref o, .int (zI e)] (H, z) = some (.inl (some (.int (bToss f id))), (H, (z.1 + 1, z.2 + 6))) := by
          show am_f X (999 + 1) 178 _ _ = _
          rw [fU_178]
          simp (disch := first | omega | exact Nat.le_of_ble_eq_true rfl | exact hX.ci | exact hT.ci | exact hP.ci | exact hX.ci | exact hT.ci | exact hP.ci | (refine xF_lt ?_; omega) | (refine tF_lt ?_; omega) | (refine pF_lt ?_; omega)) only [own_178, am_go dc_178_0, J_aload_0, K_al, ld_0, am_go dc_178_1, J_iload_1, K_il, ld_1, am_go dc_178_2, cv_0_307_0 own_178, JR_v, JR_0, JR_ite, ci1_r, am_go dc_178_5, J_istore_2, st1_0, st1_1, st1_s, kl_i, kl_l, kl_r, kl_n, am_go dc_178_6, J_iload_2, ld_2, am_go dc_178_7, J_if_ge, am_go dc_178_10, am_go dc_178_11, J_ret_i ret_178, am_go dc_178_12, am_go dc_178_13, J_getfield, gf_r, fk_0_58_0, am_go dc_178_16, am_go dc_178_17, J_aaload, am_go dc_178_18, am_go dc_178_21, J_goto, am_go dc_178_24, J_astore_3, am_go dc_178_25, am_go dc_178_26, am_go dc_178_29, am_go dc_178_30, am_go dc_178_31, am_go dc_178_34, am_go dc_178_35, J_bipush, i8_m15, am_go dc_178_37, xg_9, hX.c0, hX.c53, hX.c54, hX.c55, hX.c64, hX.c65, hT.c0, hT.c1, hT.c2, hT.c3, hT.c4, hT.c5, hT.c6, hT.c7, hP.c0, hP.c1, hP.c2, hP.c3, hP.c4, zI_add, zI_mul, zI_lt, zI_le, zI_eq, zI_neg, zI_pos, zI_ne0, zI_gt0, zB_0, lg_cmp_ge, lg_cmp_le, lg_cmp_gt, lg_cmp_lt, lg_cmp_eq, ail_r, abl_r, all_r, ais_r, abs_r, als_r, aal_r, aal_q, aln_r, vrf_s, vrf_n, z32, kr, m1, b1, vx_0_313 own_178 hB, kf, JR_x, hx_178, vx_0_316 own_178 hB, Bool.true_eq_false, Bool.false_eq_true, zB_t, zB_f, i32_m1, i8_m3, i8_m4, rwF_v, List.length_cons, List.length_nil, Nat.reduceAdd, Nat.reduceLT, Nat.reduceLeDiff, Nat.reduceEqDiff, ↓reduceIte, bind_s, if_true, if_false, not_true_eq_false, not_false_eq_true, Nat.zero_add]
        have fr1 : ∀ x, x < z.1 → x = x → H x = H x := fun _ _ _ => rfl
        have hn1 : ∀ x, z.1 + 1 ≤ x → H x = none := fun x hx => hno x (by omega)
        have hC1 : ∀ x, C x → H x = H x := fun x hx => fr1 x (hCC x hx).2 (by have := hCC x hx; omega)
        obtain ⟨g1, g2⟩ := hup (H) (z.1 + 1, z.2 + 6) (C) (D) (T) (P) (TI) (PI) (lu) (u) (fun x q1 q2 => fr1 x q1 (by omega)) (fun x q1 => fr1 x (by omega) (by omega)) (hX.fr (fun x hx => fr1 x (by unfold xK at hx; omega) (by unfold xK at hx; omega))) (hgT.fr (fun x q1 q2 => fr1 x (by omega) (by omega)) hC1 (fun _ h => h)) (hgI.fr (fun x q1 q2 => fr1 x (by omega) (by omega)) hC1 (fun _ h => h)) (hgE.fr (fun x q1 q2 => fr1 x (by omega) (by omega))) (hgL.fr (fun x hx => fr1 x (by omega) (by omega))) (hgS.fr hC1 (fun _ h => h)) (fun x hx => Or.inl hx) (Nat.le_succ _) (by show z.1 + 1 ≤ z.1 + 25; omega) (by show z.2 + 6 ≤ z.2 + 100; omega) hn1
        exact gR_mk hM cc g1 g2 cr mQ.rf hF
      · have kr : am_f X 999 171 [.ref o, .int (zI e)] (H, z) = _ := x_ref (X := X) (d := 997) hX e2 (hgS e e2)
        have hwk : qWk u e = zI 0 := by
          unfold qWk
          rw [q]
          rfl
        rw [hwk] at kr
        have m1 : (0 : Int32) ≤ zI 0 := by decide
        have cr : am_f X 1000 280 [.ref (o + 66), .int (zI e)] (mH H (o + 66) u, z) = _ := r_toss_y (X := X) (d := 996) (h := H) (z := z) e2
        rw [hwk, if_pos (by decide), b5] at cr
        have kf0 := b_fail (X := X) (z := z) (d := 996) hB
        rw [if_neg c] at cr kf0
        have kf : am_f X 999 179 [.ref a'] (H, z) = _ := kf0
        have cc : am_f X 1000 178 [.ref o, .int (zI e)] (H, z) = some (.inl (some (.int (-15))), (H, z)) := by
          show am_f X (999 + 1) 178 _ _ = _
          rw [fU_178]
          simp (disch := first | omega | exact Nat.le_of_ble_eq_true rfl | exact hX.ci | exact hT.ci | exact hP.ci | exact hX.ci | exact hT.ci | exact hP.ci | (refine xF_lt ?_; omega) | (refine tF_lt ?_; omega) | (refine pF_lt ?_; omega)) only [own_178, am_go dc_178_0, J_aload_0, K_al, ld_0, am_go dc_178_1, J_iload_1, K_il, ld_1, am_go dc_178_2, cv_0_307_0 own_178, JR_v, JR_0, JR_ite, ci1_r, am_go dc_178_5, J_istore_2, st1_0, st1_1, st1_s, kl_i, kl_l, kl_r, kl_n, am_go dc_178_6, J_iload_2, ld_2, am_go dc_178_7, J_if_ge, am_go dc_178_10, am_go dc_178_11, J_ret_i ret_178, am_go dc_178_12, am_go dc_178_13, J_getfield, gf_r, fk_0_58_0, am_go dc_178_16, am_go dc_178_17, J_aaload, am_go dc_178_18, am_go dc_178_21, J_goto, am_go dc_178_24, J_astore_3, am_go dc_178_25, am_go dc_178_26, am_go dc_178_29, am_go dc_178_30, am_go dc_178_31, am_go dc_178_34, am_go dc_178_35, J_bipush, i8_m15, am_go dc_178_37, xg_9, hX.c0, hX.c53, hX.c54, hX.c55, hX.c64, hX.c65, hT.c0, hT.c1, hT.c2, hT.c3, hT.c4, hT.c5, hT.c6, hT.c7, hP.c0, hP.c1, hP.c2, hP.c3, hP.c4, zI_add, zI_mul, zI_lt, zI_le, zI_eq, zI_neg, zI_pos, zI_ne0, zI_gt0, zB_0, lg_cmp_ge, lg_cmp_le, lg_cmp_gt, lg_cmp_lt, lg_cmp_eq, ail_r, abl_r, all_r, ais_r, abs_r, als_r, aal_r, aal_q, aln_r, vrf_s, vrf_n, z32, kr, m1, b1, vx_0_313 own_178 hB, kf, Bool.true_eq_false, Bool.false_eq_true, zB_t, zB_f, i32_m1, i8_m3, i8_m4, rwF_v, List.length_cons, List.length_nil, Nat.reduceAdd, Nat.reduceLT, Nat.reduceLeDiff, Nat.reduceEqDiff, ↓reduceIte, bind_s, if_true, if_false, not_true_eq_false, not_false_eq_true, Nat.zero_add]
        exact gR_id hK hM cc cr mQ.rf hF
    · have kr : am_f X 999 171 [.ref o, .int (zI e)] (H, z) = _ := x_ref (X := X) (d := 997) hX e2 (hgS e e2)
      have hwk : qWk u e = -12 := by
        unfold qWk
        rw [q]
        rfl
      rw [hwk] at kr
      have m1 : ¬ (0 : Int32) ≤ -12 := by decide
      have cc : am_f X 1000 178 [.ref o, .int (zI e)] (H, z) = some (.inl (some (.int (-12))), (H, z)) := by
        show am_f X (999 + 1) 178 _ _ = _
        rw [fU_178]
        simp (disch := first | omega | exact Nat.le_of_ble_eq_true rfl | exact hX.ci | exact hT.ci | exact hP.ci | exact hX.ci | exact hT.ci | exact hP.ci | (refine xF_lt ?_; omega) | (refine tF_lt ?_; omega) | (refine pF_lt ?_; omega)) only [own_178, am_go dc_178_0, J_aload_0, K_al, ld_0, am_go dc_178_1, J_iload_1, K_il, ld_1, am_go dc_178_2, cv_0_307_0 own_178, JR_v, JR_0, JR_ite, ci1_r, am_go dc_178_5, J_istore_2, st1_0, st1_1, st1_s, kl_i, kl_l, kl_r, kl_n, am_go dc_178_6, J_iload_2, ld_2, am_go dc_178_7, J_if_ge, am_go dc_178_10, am_go dc_178_11, J_ret_i ret_178, am_go dc_178_12, am_go dc_178_13, J_getfield, gf_r, fk_0_58_0, am_go dc_178_16, am_go dc_178_17, J_aaload, am_go dc_178_18, am_go dc_178_21, J_goto, am_go dc_178_24, J_astore_3, am_go dc_178_25, am_go dc_178_26, am_go dc_178_29, am_go dc_178_30, am_go dc_178_31, am_go dc_178_34, am_go dc_178_35, J_bipush, i8_m15, am_go dc_178_37, xg_9, hX.c0, hX.c53, hX.c54, hX.c55, hX.c64, hX.c65, hT.c0, hT.c1, hT.c2, hT.c3, hT.c4, hT.c5, hT.c6, hT.c7, hP.c0, hP.c1, hP.c2, hP.c3, hP.c4, zI_add, zI_mul, zI_lt, zI_le, zI_eq, zI_neg, zI_pos, zI_ne0, zI_gt0, zB_0, lg_cmp_ge, lg_cmp_le, lg_cmp_gt, lg_cmp_lt, lg_cmp_eq, ail_r, abl_r, all_r, ais_r, abs_r, als_r, aal_r, aal_q, aln_r, vrf_s, vrf_n, z32, kr, m1, Bool.true_eq_false, Bool.false_eq_true, zB_t, zB_f, i32_m1, i8_m3, i8_m4, rwF_v, List.length_cons, List.length_nil, Nat.reduceAdd, Nat.reduceLT, Nat.reduceLeDiff, Nat.reduceEqDiff, ↓reduceIte, bind_s, if_true, if_false, not_true_eq_false, not_false_eq_true, Nat.zero_add]
      have cr : am_f X 1000 280 [.ref (o + 66), .int (zI e)] (mH H (o + 66) u, z) = _ := r_toss_y (X := X) (d := 996) (h := H) (z := z) e2
      rw [hwk, if_neg (by decide)] at cr
      exact gR_id hK hM cc cr mQ.rf hF
end FN
