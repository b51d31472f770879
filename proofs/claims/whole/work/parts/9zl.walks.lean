/-! the face: streets -/
section FE
variable {X : am_X} {o k : Nat} {H : am_H} {z : Nat × Nat} {u : mU}
theorem g_walk {v : mU} (h : gK o k H z v) : ∃ C D T P Q wu sA sN mA mN, isX H o D ∧ tSN C H (o + 1) T (v.1 1) ∧ isP H (o + 9) P ∧ pS P (v.1 1) ∧ rI (v.1 1) ∧ gS C H D v ∧ stOk C H (o + 49) (o + 1) sA sN mA mN T (v.1 1) wu z ∧ rOk T (v.1 1) Q ∧ wH H (o + 49) (wu, (o + 1, sA, sN, mA, mN)) = H ∧ (∀ x, o + 53 ≤ x → x < o + 66 → x < z.1 ∧ wK (o + 49) x ∧ x ≠ sA ∧ x ≠ mA) ∧
    ∀ h' u' sA' sN' mA' mN' z' n, stOk C h' (o + 49) (o + 1) sA' sN' mA' mN' T (v.1 1) u' z' → n ≤ wNb (wN (v.1 1 116)) → (∀ x, x < z.1 → wK (o + 49) x → x ≠ sA → x ≠ mA → wH h' (o + 49) (u', (o + 1, sA', sN', mA', mN')) x = H x) → stGr (v.1 1) n sA sA' sN sN' mA mA' mN mN' z z' → gK o (k + 1) (wH h' (o + 49) (u', (o + 1, sA', sN', mA', mN'))) z' v ∧ (∀ x, o + 66 ≤ x → x < o + 86 → wH h' (o + 49) (u', (o + 1, sA', sN', mA', mN')) x = H x) := by
  obtain ⟨C, D, T, P, TI, PI, lu, m, a, N, wu, sA, sN, mA, mN, h1, h2, h3, h4, h5, h6, h7, h8, h9, h10, h11, h12⟩ := h
  obtain ⟨Q, hr⟩ := h2.1.1.rk
  obtain ⟨a0, ⟨a1, a1'⟩, ⟨a2, a2'⟩, ⟨a3, a3'⟩, ⟨a4, a4'⟩, a5, a6⟩ := h9
  have hm5 := h2.2.2.2.1.m.2
  refine ⟨C, D, T, P, Q, wu, sA, sN, mA, mN, h1, h2.1, h2.2.1, h2.2.2.1, h2.2.2.2, h7, ⟨h2.1.1, fun x hx => ?_, h6.1.1, h6.2.1, h6.2.2, fun x hx => ?_, by omega, a3', a4', fun x hx => ?_⟩, hr, h6.1.2, fun x q1 q2 => ⟨by omega, ⟨by omega, by omega⟩, by omega, by omega⟩, ?_⟩
  · rcases hx with q | q
    · exact ⟨⟨by omega, by omega⟩, by omega, by omega⟩
    · have := a6 x q
      exact ⟨⟨by omega, by omega⟩, by omega, by omega⟩
  · rw [h6.1.2]
    exact h12 x hx
  · rcases hx with q | q
    · omega
    · have := a6 x q
      omega
  · intro h' u' sA' sN' mA' mN' z' n p1 pn p3 p4
    have fr : ∀ x, x < z.1 → (x < o + 49 ∨ o + 53 ≤ x) → x ≠ sA → x ≠ mA → wH h' (o + 49) (u', (o + 1, sA', sN', mA', mN')) x = H x := fun x q1 q2 q3 q4 => p3 x q1 ⟨by omega, by omega⟩ q3 q4
    have hC : ∀ x, C x → wH h' (o + 49) (u', (o + 1, sA', sN', mA', mN')) x = H x := fun x hx => by
      have := a6 x hx
      exact fr x (by omega) (by omega) (by omega) (by omega)
    have had := p4.ad
    have hz : z.1 ≤ z'.1 := by
      obtain ⟨z1, qa, qb⟩ := p4
      have q1 : z.1 ≤ z1.1 := by
        rcases qa with q | q
        · rw [q.2.2]
          exact Nat.le_refl _
        · rw [q.2.2.2]
          show z.1 ≤ z.1 + 1
          omega
      rcases qb with q | q
      · rw [q.2.2]
        exact q1
      · rw [q.2.2.2]
        show z.1 ≤ z1.1 + 1
        omega
    obtain ⟨-, s2, s3, s4, s4', s5, s6, s7, s8, s9⟩ := p1
    have s3' : sA' ≠ mA' := s3.2.2
    refine ⟨⟨C, D, T, P, TI, PI, lu, m, a, N, u', sA', sN', mA', mN', h1.fr (fun x hx => fr x (by unfold xK at hx; omega) (by unfold xK at hx; omega) (by unfold xK at hx; omega) (by unfold xK at hx; omega)), h2.fr (fun x q1 q2 => fr x (by omega) (by omega) (by omega) (by omega)) hC (fun _ h => h), h3.fr (fun x q1 q2 => fr x (by omega) (by omega) (by omega) (by omega)) hC (fun _ h => h), h4.fr (fun x q1 q2 => fr x (by omega) (by omega) (by omega) (by omega)), h5.fr (fun x hx => fr x (by omega) (by omega) (by omega) (by omega)), ⟨cW_is s3, s4, s4'⟩, h7.fr hC (fun _ h => h), h8.fr (fr _ (by omega) (by omega) (by omega) (by omega)), ⟨by omega, ⟨by omega, by omega⟩, ⟨by omega, by omega⟩, ⟨by omega, s7⟩, ⟨by omega, s8⟩, by omega, fun x hx => ?_⟩, gB.st hm5 pn h10 p4, fun x hx => ?_, s5⟩, fun x q1 q2 => fr x (by omega) (by omega) (by omega) (by omega)⟩
    · have := a6 x hx
      have := (s2 x (Or.inr hx)).2
      omega
    · rw [fr x (by omega) (by omega) (by omega) (by omega)]
      exact h11 x hx
theorem x_isShelf {d : Nat} {x : Int32} {σ : am_S} : am_f X (d + 1) 7 [.int x] σ = some (.inl (some (.int (zB (qIs x 8)))), σ) := by
  rw [qIs_lt (by omega), fU_7]
  simp (disch := first | omega | exact Nat.le_of_ble_eq_true rfl) only [own_7, am_go dc_7_0, J_iload_0, K_il, ld_0, am_go dc_7_1, J_if_lt, am_go dc_7_4, am_go dc_7_5, J_bipush, c8_8, am_go dc_7_7, J_icmp_ge, am_go dc_7_10, J_iconst, c32_1, am_go dc_7_11, J_goto, am_go dc_7_14, c32_0, am_go dc_7_15, J_ret_z0 ret_7, J_ret_z1 ret_7, J_ret_zB ret_7, zI_add, zI_mul, zI_lt, zI_le, zI_eq, zI_neg, zI_pos, zI_ne0, zI_gt0, zB_0, lg_cmp_ge, lg_cmp_le, lg_cmp_gt, lg_cmp_lt, lg_cmp_eq, ail_r, abl_r, all_r, ais_r, abs_r, als_r, aal_r, aal_q, aln_r, vrf_s, vrf_n, z32, Bool.true_eq_false, Bool.false_eq_true, zB_t, zB_f, i32_m1, i8_m3, i8_m4, rwF_v, List.length_cons, List.length_nil, Nat.reduceAdd, Nat.reduceLT, Nat.reduceLeDiff, Nat.reduceEqDiff, ↓reduceIte, bind_s, if_true, if_false, not_true_eq_false, not_false_eq_true, Nat.zero_add]
  repeat' split
  all_goals rfl
theorem x_isByte {d e : Nat} {D : mU × (Nat → Option Nat)} (hX : isX H o D) (he : e < 8) : am_f X (d + 1) 8 [.ref o, .int (zI e)] (H, z) = some (.inl (some (.int (zB (decide (D.1.1 8 e = zI 2) && decide (D.1.1 11 e = 0))))), (H, z)) := by
  rw [fU_8]
  by_cases c1 : D.1.1 8 e = zI 2
  · by_cases c2 : D.1.1 11 e = 0
    · rw [decide_eq_true c1, decide_eq_true c2]
      simp (disch := first | omega | exact Nat.le_of_ble_eq_true rfl | exact hX.ci | exact hX.ci | exact hT.ci | exact hP.ci | (refine xF_lt ?_; omega) | (refine tF_lt ?_; omega) | (refine pF_lt ?_; omega)) only [own_8, am_go dc_8_0, J_aload_0, K_al, ld_0, am_go dc_8_1, J_getfield, gf_r, fk_0_52_0, am_go dc_8_4, J_iload_1, K_il, ld_1, am_go dc_8_5, J_iaload, am_go dc_8_6, J_iconst, c32_2, am_go dc_8_7, J_icmp_ne, am_go dc_8_10, am_go dc_8_11, fk_0_67_0, am_go dc_8_14, am_go dc_8_15, am_go dc_8_16, J_if_ne, am_go dc_8_19, c32_1, am_go dc_8_20, J_goto, am_go dc_8_23, c32_0, am_go dc_8_24, J_ret_z0 ret_8, J_ret_z1 ret_8, J_ret_zB ret_8, xg_8, xg_11, hX.c0, hX.c53, hX.c64, zI_add, zI_mul, zI_lt, zI_le, zI_eq, zI_neg, zI_pos, zI_ne0, zI_gt0, zB_0, lg_cmp_ge, lg_cmp_le, lg_cmp_gt, lg_cmp_lt, lg_cmp_eq, ail_r, abl_r, all_r, ais_r, abs_r, als_r, aal_r, aal_q, aln_r, vrf_s, vrf_n, z32, c1, c2, Bool.true_eq_false, Bool.false_eq_true, zB_t, zB_f, i32_m1, i8_m3, i8_m4, rwF_v, List.length_cons, List.length_nil, Nat.reduceAdd, Nat.reduceLT, Nat.reduceLeDiff, Nat.reduceEqDiff, ↓reduceIte, bind_s, if_true, if_false, not_true_eq_false, not_false_eq_true, Nat.zero_add]
      rfl
    · rw [decide_eq_true c1, decide_eq_false c2]
      simp (disch := first | omega | exact Nat.le_of_ble_eq_true rfl | exact hX.ci | exact hX.ci | exact hT.ci | exact hP.ci | (refine xF_lt ?_; omega) | (refine tF_lt ?_; omega) | (refine pF_lt ?_; omega)) only [own_8, am_go dc_8_0, J_aload_0, K_al, ld_0, am_go dc_8_1, J_getfield, gf_r, fk_0_52_0, am_go dc_8_4, J_iload_1, K_il, ld_1, am_go dc_8_5, J_iaload, am_go dc_8_6, J_iconst, c32_2, am_go dc_8_7, J_icmp_ne, am_go dc_8_10, am_go dc_8_11, fk_0_67_0, am_go dc_8_14, am_go dc_8_15, am_go dc_8_16, J_if_ne, am_go dc_8_19, c32_1, am_go dc_8_20, J_goto, am_go dc_8_23, c32_0, am_go dc_8_24, J_ret_z0 ret_8, J_ret_z1 ret_8, J_ret_zB ret_8, xg_8, xg_11, hX.c0, hX.c53, hX.c64, zI_add, zI_mul, zI_lt, zI_le, zI_eq, zI_neg, zI_pos, zI_ne0, zI_gt0, zB_0, lg_cmp_ge, lg_cmp_le, lg_cmp_gt, lg_cmp_lt, lg_cmp_eq, ail_r, abl_r, all_r, ais_r, abs_r, als_r, aal_r, aal_q, aln_r, vrf_s, vrf_n, z32, c1, c2, Bool.true_eq_false, Bool.false_eq_true, zB_t, zB_f, i32_m1, i8_m3, i8_m4, rwF_v, List.length_cons, List.length_nil, Nat.reduceAdd, Nat.reduceLT, Nat.reduceLeDiff, Nat.reduceEqDiff, ↓reduceIte, bind_s, if_true, if_false, not_true_eq_false, not_false_eq_true, Nat.zero_add]
      rfl
  · rw [decide_eq_false c1, Bool.false_and]
    simp (disch := first | omega | exact Nat.le_of_ble_eq_true rfl | exact hX.ci | exact hX.ci | exact hT.ci | exact hP.ci | (refine xF_lt ?_; omega) | (refine tF_lt ?_; omega) | (refine pF_lt ?_; omega)) only [own_8, am_go dc_8_0, J_aload_0, K_al, ld_0, am_go dc_8_1, J_getfield, gf_r, fk_0_52_0, am_go dc_8_4, J_iload_1, K_il, ld_1, am_go dc_8_5, J_iaload, am_go dc_8_6, J_iconst, c32_2, am_go dc_8_7, J_icmp_ne, am_go dc_8_10, am_go dc_8_11, fk_0_67_0, am_go dc_8_14, am_go dc_8_15, am_go dc_8_16, J_if_ne, am_go dc_8_19, c32_1, am_go dc_8_20, J_goto, am_go dc_8_23, c32_0, am_go dc_8_24, J_ret_z0 ret_8, J_ret_z1 ret_8, J_ret_zB ret_8, xg_8, xg_11, hX.c0, hX.c53, hX.c64, zI_add, zI_mul, zI_lt, zI_le, zI_eq, zI_neg, zI_pos, zI_ne0, zI_gt0, zB_0, lg_cmp_ge, lg_cmp_le, lg_cmp_gt, lg_cmp_lt, lg_cmp_eq, ail_r, abl_r, all_r, ais_r, abs_r, als_r, aal_r, aal_q, aln_r, vrf_s, vrf_n, z32, c1, Bool.true_eq_false, Bool.false_eq_true, zB_t, zB_f, i32_m1, i8_m3, i8_m4, rwF_v, List.length_cons, List.length_nil, Nat.reduceAdd, Nat.reduceLT, Nat.reduceLeDiff, Nat.reduceEqDiff, ↓reduceIte, bind_s, if_true, if_false, not_true_eq_false, not_false_eq_true, Nat.zero_add]
theorem x_order {d e s : Nat} {C : Nat → Prop} {D T : mU × (Nat → Option Nat)} {S el : Nat → Int32} (hX : isX H o D) (hS : tS C H (o + 1) T S) (he : e < 8) (hs : D.1.1 12 e = zI s) (hs2 : s ≤ 120) (hel : ∀ i, i < 120 → D.1.1 (56 + e) i = el i) : am_f X (d + 2) 144 [.ref o, .int (zI e)] (H, z) = some (.inl (some (.int (zB (qIsO el (wN (S 116)) s 0 (zI 0))))), (H, z)) := by
  have hT := hS.iT
  have hm5 := hS.m5
  have hcr := hX.cr he
  have lp : ∀ (k i : Nat) (x : Int32) (v4 : Option Value), i + k = s → am_I X (am_f X (d + 1)) 144 4 [some (.ref o), some (.int (zI e)), some (.int x), some (.int (zI i)), v4] [] (H, z) = some (.inl (some (.int (zB (qIsO el (wN (S 116)) k i x)))), (H, z)) := by
    intro k
    induction k with
    | zero =>
      intro i x v4 hi
      have hi' : s ≤ i := by omega
      rw [am_go dc_144_4]
      simp (disch := first | omega | exact Nat.le_of_ble_eq_true rfl | exact hX.ci | exact hT.ci | exact hX.ci | exact hT.ci | exact hP.ci | (refine xF_lt ?_; omega) | (refine tF_lt ?_; omega) | (refine pF_lt ?_; omega)) only [own_144, am_go dc_144_0, J_iconst, c32_0, am_go dc_144_1, J_istore_2, st1_0, st1_1, st1_s, kl_i, kl_l, kl_r, kl_n, am_go dc_144_2, am_go dc_144_3, J_istore_3, J_iload_3, K_il, ld_3, am_go dc_144_5, J_aload_0, K_al, ld_0, am_go dc_144_6, J_getfield, gf_r, fk_0_70_0, am_go dc_144_9, J_iload_1, ld_1, am_go dc_144_10, J_iaload, am_go dc_144_11, J_icmp_ge, am_go dc_144_14, am_go dc_144_15, fk_0_64_0, am_go dc_144_18, am_go dc_144_19, J_aaload, am_go dc_144_20, am_go dc_144_21, am_go dc_144_22, J_istore, am_go dc_144_24, am_go dc_144_25, fk_0_12_0, am_go dc_144_28, J_iload, ld_4, am_go dc_144_30, cv_0_94_1 own_144, JR_v, JR_0, JR_ite, ci1_r, am_go dc_144_33, J_if_eq, am_go dc_144_36, J_iload_2, ld_2, am_go dc_144_37, c32_1, am_go dc_144_38, am_go dc_144_40, J_ishl, am_go dc_144_41, J_iand, am_go dc_144_42, am_go dc_144_45, am_go dc_144_46, J_ret_z0 ret_144, J_ret_z1 ret_144, J_ret_zB ret_144, am_go dc_144_47, am_go dc_144_48, am_go dc_144_49, am_go dc_144_51, am_go dc_144_52, J_ior, am_go dc_144_53, am_go dc_144_54, J_iinc, pinc_go, am_go dc_144_57, J_goto, am_go dc_144_60, am_go dc_144_61, xg_12, xg_10, xg_0, hX.c0, hX.c53, hX.c54, hX.c55, hX.c64, hX.c65, hT.c0, hT.c1, hT.c2, hT.c3, hT.c4, hT.c5, hT.c6, hT.c7, zI_add, zI_mul, zI_lt, zI_le, zI_eq, zI_neg, zI_pos, zI_ne0, zI_gt0, zB_0, lg_cmp_ge, lg_cmp_le, lg_cmp_gt, lg_cmp_lt, lg_cmp_eq, ail_r, abl_r, all_r, ais_r, abs_r, als_r, aal_r, aal_q, aln_r, vrf_s, vrf_n, z32, hs, hi', hcr, Bool.true_eq_false, Bool.false_eq_true, zB_t, zB_f, i32_m1, i8_m3, i8_m4, rwF_v, List.length_cons, List.length_nil, Nat.reduceAdd, Nat.reduceLT, Nat.reduceLeDiff, Nat.reduceEqDiff, ↓reduceIte, bind_s, if_true, if_false, not_true_eq_false, not_false_eq_true, Nat.zero_add]
      rfl
    | succ k ih =>
      intro i x v4 hi
      have hlt : ¬ s ≤ i := by omega
      have hli := hel i (by omega)
      have kh : am_f X (d + 1) 32 [.ref (o + 1), .int (el i)] (H, z) = _ := c_has (X := X) (d := d) (z := z) hS
      have e0 : qIsO el (wN (S 116)) (k + 1) i x = (qIs (el i) (wN (S 116)) && (!bt x (wN (el i)) && qIsO el (wN (S 116)) k (i + 1) (x ||| (zI 1 <<< (zI (wN (el i)) &&& 31))))) := rfl
      rw [e0]
      cases hx : qIs (el i) (wN (S 116)) with
      | false =>
        rw [hx] at kh
        rw [Bool.false_and, am_go dc_144_4]
        simp (disch := first | omega | exact Nat.le_of_ble_eq_true rfl | exact hX.ci | exact hT.ci | exact hX.ci | exact hT.ci | exact hP.ci | (refine xF_lt ?_; omega) | (refine tF_lt ?_; omega) | (refine pF_lt ?_; omega)) only [own_144, am_go dc_144_0, J_iconst, c32_0, am_go dc_144_1, J_istore_2, st1_0, st1_1, st1_s, kl_i, kl_l, kl_r, kl_n, am_go dc_144_2, am_go dc_144_3, J_istore_3, J_iload_3, K_il, ld_3, am_go dc_144_5, J_aload_0, K_al, ld_0, am_go dc_144_6, J_getfield, gf_r, fk_0_70_0, am_go dc_144_9, J_iload_1, ld_1, am_go dc_144_10, J_iaload, am_go dc_144_11, J_icmp_ge, am_go dc_144_14, am_go dc_144_15, fk_0_64_0, am_go dc_144_18, am_go dc_144_19, J_aaload, am_go dc_144_20, am_go dc_144_21, am_go dc_144_22, J_istore, am_go dc_144_24, am_go dc_144_25, fk_0_12_0, am_go dc_144_28, J_iload, ld_4, am_go dc_144_30, cv_0_94_1 own_144, JR_v, JR_0, JR_ite, ci1_r, am_go dc_144_33, J_if_eq, am_go dc_144_36, J_iload_2, ld_2, am_go dc_144_37, c32_1, am_go dc_144_38, am_go dc_144_40, J_ishl, am_go dc_144_41, J_iand, am_go dc_144_42, am_go dc_144_45, am_go dc_144_46, J_ret_z0 ret_144, J_ret_z1 ret_144, J_ret_zB ret_144, am_go dc_144_47, am_go dc_144_48, am_go dc_144_49, am_go dc_144_51, am_go dc_144_52, J_ior, am_go dc_144_53, am_go dc_144_54, J_iinc, pinc_go, am_go dc_144_57, J_goto, am_go dc_144_60, am_go dc_144_61, xg_12, xg_10, xg_0, hX.c0, hX.c53, hX.c54, hX.c55, hX.c64, hX.c65, hT.c0, hT.c1, hT.c2, hT.c3, hT.c4, hT.c5, hT.c6, hT.c7, zI_add, zI_mul, zI_lt, zI_le, zI_eq, zI_neg, zI_pos, zI_ne0, zI_gt0, zB_0, lg_cmp_ge, lg_cmp_le, lg_cmp_gt, lg_cmp_lt, lg_cmp_eq, ail_r, abl_r, all_r, ais_r, abs_r, als_r, aal_r, aal_q, aln_r, vrf_s, vrf_n, z32, hs, hlt, hcr, hli, kh, Bool.true_eq_false, Bool.false_eq_true, zB_t, zB_f, i32_m1, i8_m3, i8_m4, rwF_v, List.length_cons, List.length_nil, Nat.reduceAdd, Nat.reduceLT, Nat.reduceLeDiff, Nat.reduceEqDiff, ↓reduceIte, bind_s, if_true, if_false, not_true_eq_false, not_false_eq_true, Nat.zero_add]
      | true =>
        rw [hx] at kh
        obtain ⟨e1, e2⟩ := qIs_get hx
        rw [Bool.true_and]
        cases hb : bt x (wN (el i)) with
        | true =>
          have hbz : ¬ (x &&& (zI 1 <<< (el i &&& 31)) = 0) := by
            rw [e1, bt_0, hb]
            simp
          rw [Bool.not_true, Bool.false_and, am_go dc_144_4]
          simp (disch := first | omega | exact Nat.le_of_ble_eq_true rfl | exact hX.ci | exact hT.ci | exact hX.ci | exact hT.ci | exact hP.ci | (refine xF_lt ?_; omega) | (refine tF_lt ?_; omega) | (refine pF_lt ?_; omega)) only [own_144, am_go dc_144_0, J_iconst, c32_0, am_go dc_144_1, J_istore_2, st1_0, st1_1, st1_s, kl_i, kl_l, kl_r, kl_n, am_go dc_144_2, am_go dc_144_3, J_istore_3, J_iload_3, K_il, ld_3, am_go dc_144_5, J_aload_0, K_al, ld_0, am_go dc_144_6, J_getfield, gf_r, fk_0_70_0, am_go dc_144_9, J_iload_1, ld_1, am_go dc_144_10, J_iaload, am_go dc_144_11, J_icmp_ge, am_go dc_144_14, am_go dc_144_15, fk_0_64_0, am_go dc_144_18, am_go dc_144_19, J_aaload, am_go dc_144_20, am_go dc_144_21, am_go dc_144_22, J_istore, am_go dc_144_24, am_go dc_144_25, fk_0_12_0, am_go dc_144_28, J_iload, ld_4, am_go dc_144_30, cv_0_94_1 own_144, JR_v, JR_0, JR_ite, ci1_r, am_go dc_144_33, J_if_eq, am_go dc_144_36, J_iload_2, ld_2, am_go dc_144_37, c32_1, am_go dc_144_38, am_go dc_144_40, J_ishl, am_go dc_144_41, J_iand, am_go dc_144_42, am_go dc_144_45, am_go dc_144_46, J_ret_z0 ret_144, J_ret_z1 ret_144, J_ret_zB ret_144, am_go dc_144_47, am_go dc_144_48, am_go dc_144_49, am_go dc_144_51, am_go dc_144_52, J_ior, am_go dc_144_53, am_go dc_144_54, J_iinc, pinc_go, am_go dc_144_57, J_goto, am_go dc_144_60, am_go dc_144_61, xg_12, xg_10, xg_0, hX.c0, hX.c53, hX.c54, hX.c55, hX.c64, hX.c65, hT.c0, hT.c1, hT.c2, hT.c3, hT.c4, hT.c5, hT.c6, hT.c7, zI_add, zI_mul, zI_lt, zI_le, zI_eq, zI_neg, zI_pos, zI_ne0, zI_gt0, zB_0, lg_cmp_ge, lg_cmp_le, lg_cmp_gt, lg_cmp_lt, lg_cmp_eq, ail_r, abl_r, all_r, ais_r, abs_r, als_r, aal_r, aal_q, aln_r, vrf_s, vrf_n, z32, hs, hlt, hcr, hli, kh, hbz, Bool.true_eq_false, Bool.false_eq_true, zB_t, zB_f, i32_m1, i8_m3, i8_m4, rwF_v, List.length_cons, List.length_nil, Nat.reduceAdd, Nat.reduceLT, Nat.reduceLeDiff, Nat.reduceEqDiff, ↓reduceIte, bind_s, if_true, if_false, not_true_eq_false, not_false_eq_true, Nat.zero_add]
        | false =>
          have hbz : x &&& (zI 1 <<< (el i &&& 31)) = 0 := by
            rw [e1, bt_0, hb]
          rw [Bool.not_false, Bool.true_and, ← e1, ← ih (i + 1) _ (some (.int (el i))) (by omega), am_go dc_144_4]
          simp (disch := first | omega | exact Nat.le_of_ble_eq_true rfl | exact hX.ci | exact hT.ci | exact hX.ci | exact hT.ci | exact hP.ci | (refine xF_lt ?_; omega) | (refine tF_lt ?_; omega) | (refine pF_lt ?_; omega)) only [own_144, am_go dc_144_0, J_iconst, c32_0, am_go dc_144_1, J_istore_2, st1_0, st1_1, st1_s, kl_i, kl_l, kl_r, kl_n, am_go dc_144_2, am_go dc_144_3, J_istore_3, J_iload_3, K_il, ld_3, am_go dc_144_5, J_aload_0, K_al, ld_0, am_go dc_144_6, J_getfield, gf_r, fk_0_70_0, am_go dc_144_9, J_iload_1, ld_1, am_go dc_144_10, J_iaload, am_go dc_144_11, J_icmp_ge, am_go dc_144_14, am_go dc_144_15, fk_0_64_0, am_go dc_144_18, am_go dc_144_19, J_aaload, am_go dc_144_20, am_go dc_144_21, am_go dc_144_22, J_istore, am_go dc_144_24, am_go dc_144_25, fk_0_12_0, am_go dc_144_28, J_iload, ld_4, am_go dc_144_30, cv_0_94_1 own_144, JR_v, JR_0, JR_ite, ci1_r, am_go dc_144_33, J_if_eq, am_go dc_144_36, J_iload_2, ld_2, am_go dc_144_37, c32_1, am_go dc_144_38, am_go dc_144_40, J_ishl, am_go dc_144_41, J_iand, am_go dc_144_42, am_go dc_144_45, am_go dc_144_46, J_ret_z0 ret_144, J_ret_z1 ret_144, J_ret_zB ret_144, am_go dc_144_47, am_go dc_144_48, am_go dc_144_49, am_go dc_144_51, am_go dc_144_52, J_ior, am_go dc_144_53, am_go dc_144_54, J_iinc, pinc_go, am_go dc_144_57, J_goto, am_go dc_144_60, am_go dc_144_61, xg_12, xg_10, xg_0, hX.c0, hX.c53, hX.c54, hX.c55, hX.c64, hX.c65, hT.c0, hT.c1, hT.c2, hT.c3, hT.c4, hT.c5, hT.c6, hT.c7, zI_add, zI_mul, zI_lt, zI_le, zI_eq, zI_neg, zI_pos, zI_ne0, zI_gt0, zB_0, lg_cmp_ge, lg_cmp_le, lg_cmp_gt, lg_cmp_lt, lg_cmp_eq, ail_r, abl_r, all_r, ais_r, abs_r, als_r, aal_r, aal_q, aln_r, vrf_s, vrf_n, z32, hs, hlt, hcr, hli, kh, hbz, Bool.true_eq_false, Bool.false_eq_true, zB_t, zB_f, i32_m1, i8_m3, i8_m4, rwF_v, List.length_cons, List.length_nil, Nat.reduceAdd, Nat.reduceLT, Nat.reduceLeDiff, Nat.reduceEqDiff, ↓reduceIte, bind_s, if_true, if_false, not_true_eq_false, not_false_eq_true, Nat.zero_add]
  rw [← lp s 0 (zI 0) none (Nat.zero_add _), fU_144]
  simp (disch := first | omega | exact Nat.le_of_ble_eq_true rfl | exact hX.ci | exact hT.ci | exact hX.ci | exact hT.ci | exact hP.ci | (refine xF_lt ?_; omega) | (refine tF_lt ?_; omega) | (refine pF_lt ?_; omega)) only [own_144, am_go dc_144_0, J_iconst, c32_0, am_go dc_144_1, J_istore_2, st1_0, st1_1, st1_s, kl_i, kl_l, kl_r, kl_n, am_go dc_144_2, am_go dc_144_3, J_istore_3, J_iload_3, K_il, ld_3, am_go dc_144_5, J_aload_0, K_al, ld_0, am_go dc_144_6, J_getfield, gf_r, fk_0_70_0, am_go dc_144_9, J_iload_1, ld_1, am_go dc_144_10, J_iaload, am_go dc_144_11, J_icmp_ge, am_go dc_144_14, am_go dc_144_15, fk_0_64_0, am_go dc_144_18, am_go dc_144_19, J_aaload, am_go dc_144_20, am_go dc_144_21, am_go dc_144_22, J_istore, am_go dc_144_24, am_go dc_144_25, fk_0_12_0, am_go dc_144_28, J_iload, ld_4, am_go dc_144_30, cv_0_94_1 own_144, JR_v, JR_0, JR_ite, ci1_r, am_go dc_144_33, J_if_eq, am_go dc_144_36, J_iload_2, ld_2, am_go dc_144_37, c32_1, am_go dc_144_38, am_go dc_144_40, J_ishl, am_go dc_144_41, J_iand, am_go dc_144_42, am_go dc_144_45, am_go dc_144_46, J_ret_z0 ret_144, J_ret_z1 ret_144, J_ret_zB ret_144, am_go dc_144_47, am_go dc_144_48, am_go dc_144_49, am_go dc_144_51, am_go dc_144_52, J_ior, am_go dc_144_53, am_go dc_144_54, J_iinc, pinc_go, am_go dc_144_57, J_goto, am_go dc_144_60, am_go dc_144_61, xg_12, xg_10, xg_0, hX.c0, hX.c53, hX.c54, hX.c55, hX.c64, hX.c65, hT.c0, hT.c1, hT.c2, hT.c3, hT.c4, hT.c5, hT.c6, hT.c7, zI_add, zI_mul, zI_lt, zI_le, zI_eq, zI_neg, zI_pos, zI_ne0, zI_gt0, zB_0, lg_cmp_ge, lg_cmp_le, lg_cmp_gt, lg_cmp_lt, lg_cmp_eq, ail_r, abl_r, all_r, ais_r, abs_r, als_r, aal_r, aal_q, aln_r, vrf_s, vrf_n, z32, Bool.true_eq_false, Bool.false_eq_true, zB_t, zB_f, i32_m1, i8_m3, i8_m4, rwF_v, List.length_cons, List.length_nil, Nat.reduceAdd, Nat.reduceLT, Nat.reduceLeDiff, Nat.reduceEqDiff, ↓reduceIte, bind_s, if_true, if_false, not_true_eq_false, not_false_eq_true, Nat.zero_add]
/-- an order: boxes, each once -/
theorem isO_inv {el : Nat → Int32} {m : Nat} (hm : m ≤ 5) : ∀ (k i : Nat) (x : Int32), qIsO el m k i x = true → (∀ j, i ≤ j → j < i + k → qIs (el j) m = true ∧ bt x (wN (el j)) = false) ∧ (∀ j j', i ≤ j → j < j' → j' < i + k → wN (el j) ≠ wN (el j'))
  | 0, i, x, _ => ⟨fun j h1 h2 => by omega, fun j j' h1 h2 h3 => by omega⟩
  | k + 1, i, x, h => by
    unfold qIsO at h
    simp only [Bool.and_eq_true, Bool.not_eq_true'] at h
    obtain ⟨h1, h2, h3⟩ := h
    obtain ⟨e1, e2⟩ := qIs_get h1
    obtain ⟨a1, a2⟩ := isO_inv hm k (i + 1) _ h3
    have key : ∀ j, i + 1 ≤ j → j < i + 1 + k → bt x (wN (el j)) = false ∧ wN (el i) ≠ wN (el j) := fun j q1 q2 => by
      obtain ⟨b1, b2⟩ := a1 j q1 q2
      obtain ⟨-, b3⟩ := qIs_get b1
      rw [bt_or (by omega) (by omega), Bool.or_eq_false_iff, decide_eq_false_iff_not] at b2
      exact b2
    refine ⟨fun j q1 q2 => ?_, fun j j' q1 q2 q3 => ?_⟩
    · by_cases e : j = i
      · subst e
        exact ⟨h1, h2⟩
      · exact ⟨(a1 j (by omega) (by omega)).1, (key j (by omega) (by omega)).1⟩
    · by_cases e : j = i
      · subst e
        exact (key j' (by omega) (by omega)).2
      · exact a2 j j' (by omega) q2 (by omega)
def nbt (x : Int32) (r : Nat) : Nat := if bt x r = true then 1 else 0
theorem nbt_le {x : Int32} {r : Nat} : nbt x r ≤ 1 := by
  unfold nbt
  split <;> omega
theorem isO_le {el : Nat → Int32} {m : Nat} (hm : m ≤ 5) : ∀ (k i : Nat) (x : Int32), qIsO el m k i x = true → (∀ r, m ≤ r → r < 5 → bt x r = false) → k + (nbt x 0 + nbt x 1 + nbt x 2 + nbt x 3 + nbt x 4) ≤ m
  | 0, i, x, _, hz => by
    have z : ∀ r, m ≤ r → r < 5 → nbt x r = 0 := fun r h1 h2 => by
      unfold nbt
      rw [hz r h1 h2]
      rfl
    have l0 := nbt_le (x := x) (r := 0)
    have l1 := nbt_le (x := x) (r := 1)
    have l2 := nbt_le (x := x) (r := 2)
    have l3 := nbt_le (x := x) (r := 3)
    have l4 := nbt_le (x := x) (r := 4)
    have z0 := z 0
    have z1 := z 1
    have z2 := z 2
    have z3 := z 3
    have z4 := z 4
    omega
  | k + 1, i, x, h, hz => by
    unfold qIsO at h
    simp only [Bool.and_eq_true, Bool.not_eq_true'] at h
    obtain ⟨h1, h2, h3⟩ := h
    obtain ⟨e1, e2⟩ := qIs_get h1
    generalize wN (el i) = b at *
    have := isO_le hm k (i + 1) _ h3 (fun r q1 q2 => by rw [bt_or (by omega) (by omega), hz r q1 q2, decide_eq_false (by omega)]; rfl)
    have o : ∀ r, r < 5 → nbt (x ||| (zI 1 <<< (zI b &&& 31))) r = nbt x r + (if r = b then 1 else 0) := fun r hr => by
      unfold nbt
      rw [bt_or (by omega) (by omega)]
      by_cases e : b = r
      · subst e
        rw [h2]
        simp
      · rw [decide_eq_false e, Bool.or_false, if_neg (show ¬ r = b from fun q => e q.symm)]
        rfl
    rw [o 0 (by omega), o 1 (by omega), o 2 (by omega), o 3 (by omega), o 4 (by omega)] at this
    rcases (by omega : b = 0 ∨ b = 1 ∨ b = 2 ∨ b = 3 ∨ b = 4) with rfl | rfl | rfl | rfl | rfl <;> simp at this <;> omega
end FE
