/-! the face: shelves written -/
section FK
variable {X : am_X} {o k : Nat} {H : am_H} {z : Nat × Nat} {u : mU}
theorem vu_s {f : Nat → Option Nat} {k : Nat} {v : Option Nat} : va_up f k v k = v := by simp [va_up]
theorem vu_o {f : Nat → Option Nat} {j k : Nat} {v : Option Nat} (h : j ≠ k) : va_up f k v j = f j := by simp [va_up, h]
theorem gS_set {C : Nat → Prop} {D D' : mU × (Nat → Option Nat)} {v v' : mU} (h : gS C H D v) (e : Nat) (hD : ∀ e', e' < 8 → e' ≠ e → D'.1.1 8 e' = D.1.1 8 e' ∧ D'.1.1 11 e' = D.1.1 11 e' ∧ D'.1.1 12 e' = D.1.1 12 e' ∧ D'.1.1 (56 + e') = D.1.1 (56 + e') ∧ D'.2 e' = D.2 e') (hv : ∀ e', e' < 8 → e' ≠ e → v'.1 5 e' = v.1 5 e' ∧ v'.1 6 e' = v.1 6 e' ∧ v'.1 7 e' = v.1 7 e' ∧ v'.1 9 e' = v.1 9 e' ∧ v'.1 10 e' = v.1 10 e' ∧ ∀ i, i < 120 → v'.1 8 (120 * e' + i) = v.1 8 (120 * e' + i)) (he : gSe D' v' e ∧ (v'.1 5 e = zI 1 → gSb C H D' v' e)) : gS C H D' v' := by
  intro e' h8
  by_cases c : e' = e
  · rw [c]
    exact he
  · obtain ⟨d1, d2, d3, d4, d5⟩ := hD e' h8 c
    obtain ⟨w1, w2, w3, w4, w5, w6⟩ := hv e' h8 c
    obtain ⟨⟨g1, g2, g3, g4, g5, g6, g7⟩, g8⟩ := h e' h8
    refine ⟨⟨?_, ?_, ?_, ?_, ?_, ?_, fun i hi => ?_⟩, fun q => ?_⟩
    · rw [d1, w1]; exact g1
    · rw [d2, w2]; exact g2
    · rw [d3, w3]; exact g3
    · rw [w1]; exact g4
    · rw [w2]; exact g5
    · rw [w3]; exact g6
    · rw [d4, w6 i hi]; exact g7 i hi
    · rw [w1] at q
      unfold gSb
      rw [d5, w4, w5]
      exact g8 q
theorem heft_q {S : Nat → Int32} {b : Nat} : bHeft (qRow S b) = qWo S b := by
  unfold bHeft qWo
  show (if S (18 * b) = zI 1 then S (18 * b + 1) + S (18 * b + 2) + S (18 * b + 4) else if S (18 * b) = zI 2 then zI 2 * (S (18 * b + 1) + S (18 * b + 2)) else if S (18 * b) = zI 3 then S (18 * b + 1) + S (18 * b + 2) + zI 10 else if S (18 * b) = zI 4 then S (18 * b + 1) + S (18 * b + 2) + zI 10 + zI 5 else if S (18 * b) = zI 5 then S (18 * b + 1) + S (18 * b + 2) - S (18 * b + 2) + S (18 * b + 4) else S (18 * b + 1) + S (18 * b + 2)) = _
  rw [Int32.add_assoc (S (18 * b + 1) + S (18 * b + 2)) (zI 10) (zI 5), show zI 10 + zI 5 = zI 15 from rfl, Int32.add_sub_cancel]
theorem toss_q {S : Nat → Int32} {b s : Nat} (hs : S (18 * b + 3) = zI s) (h1 : 1 ≤ s) (h4 : s ≤ 4) (hb : b < 5) : (if bFails (qRow S b) = true then bToss (qRow S b) (zI b) else -15) = qTo S b := by
  have e3 : qRow S b 3 = zI s := hs
  have e0 : qRow S b 0 = S (18 * b) := rfl
  have e4 : qRow S b 4 = S (18 * b + 4) := rfl
  unfold bFails bToss qTo
  rw [e0, e3, e4, wN_zI (by omega), hs, zI_add]
  by_cases c2 : S (18 * b) = zI 2
  · rw [if_pos c2, decide_eq_true c2]
    rfl
  · rw [if_neg c2, decide_eq_false c2]
    by_cases c1 : s = 1
    · rw [if_pos (show zI s = zI 1 by rw [c1]), decide_eq_false (show ¬ 1 < s by omega)]
      rfl
    · rw [if_neg (show ¬ zI s = zI 1 from fun q => c1 (by rwa [zI_eq (by omega) (by omega)] at q)), decide_eq_true (show 1 < s by omega)]
      rfl

theorem f_keep (hK : gK o k H z u) (hM : cM H (o + 66) u) (hF : mFr u) {x y w : Int32} : gR X o k 164 272 [.int x, .int y, .int w] H z u := by
  obtain ⟨C, D, T, P, TI, PI, lu, m, a, N, hX, hgT, hgI, hgE, hgL, hgS, hma, haa, hCC, hz0, hno, hup⟩ := g_up hK
  have hTN := hgT.1
  have hP := hgT.2.1
  have hpS := hgT.2.2.1
  have hI := hgT.2.2.2
  have hS := hTN.1
  have hT := hS.iT
  have hG := hI.1
  have hL := hI.pl
  have hq := hI.qw
  have hm5 := hG.m.2
  have hsz := hS.sz
  have hbl := hS.bell
  have ks : am_f X 999 7 [.int x] (H, z) = _ := x_isShelf (X := X) (d := 998)
  cases hx : qIs x 8 with
  | false =>
    rw [hx] at ks
    have cc : am_f X 1000 164 [.ref o, .int x, .int y, .int w] (H, z) = some (.inl (some (.int (-1))), (H, z)) := by
      show am_f X (999 + 1) 164 _ _ = _
      rw [fU_164]
      simp (disch := first | omega | exact Nat.le_of_ble_eq_true rfl | exact hX.ci | exact hT.ci | exact hP.ci | exact hX.ci | exact hT.ci | exact hP.ci | (refine xF_lt ?_; omega) | (refine tF_lt ?_; omega) | (refine pF_lt ?_; omega)) only [own_164, am_go dc_164_0, J_iload_1, K_il, ld_1, am_go dc_164_1, cs_0_73 own_164, JR_v, JR_0, JR_ite, am_go dc_164_4, J_if_eq, am_go dc_164_7, J_iload_2, ld_2, am_go dc_164_8, J_if_lt, am_go dc_164_11, am_go dc_164_12, J_iconst, c32_1, am_go dc_164_13, J_icmp_gt, am_go dc_164_16, am_go dc_164_17, am_go dc_164_18, J_icmp_ne, am_go dc_164_21, J_aload_0, K_al, ld_0, am_go dc_164_22, J_getfield, gf_r, fk_0_12_0, am_go dc_164_25, J_iload_3, ld_3, am_go dc_164_26, cv_0_94_1 own_164, ci1_r, am_go dc_164_29, J_if_ne, am_go dc_164_32, i32_m1, am_go dc_164_33, J_ret_i ret_164, am_go dc_164_34, am_go dc_164_35, fk_0_52_0, am_go dc_164_38, am_go dc_164_39, am_go dc_164_40, am_go dc_164_43, c32_0, am_go dc_164_44, J_goto, am_go dc_164_47, am_go dc_164_48, J_iastore, am_go dc_164_49, am_go dc_164_50, fk_0_58_0, am_go dc_164_53, am_go dc_164_54, am_go dc_164_55, am_go dc_164_58, J_null, am_go dc_164_59, am_go dc_164_62, am_go dc_164_63, am_go dc_164_66, fk_0_97_1, am_go dc_164_69, am_go dc_164_70, J_aaload, am_go dc_164_71, am_go dc_164_72, am_go dc_164_73, xg_0, xg_8, xg_9, tg_0, hX.c0, hX.c53, hX.c54, hX.c55, hX.c64, hX.c65, hT.c0, hT.c1, hT.c2, hT.c3, hT.c4, hT.c5, hT.c6, hT.c7, hP.c0, hP.c1, hP.c2, hP.c3, hP.c4, zI_add, zI_mul, zI_lt, zI_le, zI_eq, zI_neg, zI_pos, zI_ne0, zI_gt0, zB_0, lg_cmp_ge, lg_cmp_le, lg_cmp_gt, lg_cmp_lt, lg_cmp_eq, ail_r, abl_r, all_r, ais_r, abs_r, als_r, aal_r, aal_q, aln_r, vrf_s, vrf_n, z32, ks, Bool.true_eq_false, Bool.false_eq_true, zB_t, zB_f, i8_m3, i8_m4, rwF_v, List.length_cons, List.length_nil, Nat.reduceAdd, Nat.reduceLT, Nat.reduceLeDiff, Nat.reduceEqDiff, ↓reduceIte, bind_s, if_true, if_false, not_true_eq_false, not_false_eq_true, Nat.zero_add]
    have cr : am_f X 1000 272 [.ref (o + 66), .int x, .int y, .int w] (mH H (o + 66) u, z) = _ := r_keep_n (X := X) (d := 997) (h := H) (z := z) hx
    exact gR_id hK hM cc cr mQ.rf hF
  | true =>
    obtain ⟨e1, e2⟩ := qIs_get hx
    generalize wN x = e at *
    subst e1
    rw [hx] at ks
    obtain ⟨⟨v5, v6, v7, c5, c6, ⟨s, hs2, hs⟩, v8⟩, vb⟩ := hgS e e2
    cases hy : qIs y 2 with
    | false =>
      have cr : am_f X 1000 272 [.ref (o + 66), .int (zI e), .int y, .int w] (mH H (o + 66) u, z) = _ := r_keep_m (X := X) (d := 997) (h := H) (z := z) e2 hy
      rcases qIs_b (n := 1) (by omega) hy with q | ⟨q1, q2⟩
      · have cc : am_f X 1000 164 [.ref o, .int (zI e), .int y, .int w] (H, z) = some (.inl (some (.int (-1))), (H, z)) := by
          show am_f X (999 + 1) 164 _ _ = _
          rw [fU_164]
          simp (disch := first | omega | exact Nat.le_of_ble_eq_true rfl | exact hX.ci | exact hT.ci | exact hP.ci | exact hX.ci | exact hT.ci | exact hP.ci | (refine xF_lt ?_; omega) | (refine tF_lt ?_; omega) | (refine pF_lt ?_; omega)) only [own_164, am_go dc_164_0, J_iload_1, K_il, ld_1, am_go dc_164_1, cs_0_73 own_164, JR_v, JR_0, JR_ite, am_go dc_164_4, J_if_eq, am_go dc_164_7, J_iload_2, ld_2, am_go dc_164_8, J_if_lt, am_go dc_164_11, am_go dc_164_12, J_iconst, c32_1, am_go dc_164_13, J_icmp_gt, am_go dc_164_16, am_go dc_164_17, am_go dc_164_18, J_icmp_ne, am_go dc_164_21, J_aload_0, K_al, ld_0, am_go dc_164_22, J_getfield, gf_r, fk_0_12_0, am_go dc_164_25, J_iload_3, ld_3, am_go dc_164_26, cv_0_94_1 own_164, ci1_r, am_go dc_164_29, J_if_ne, am_go dc_164_32, i32_m1, am_go dc_164_33, J_ret_i ret_164, am_go dc_164_34, am_go dc_164_35, fk_0_52_0, am_go dc_164_38, am_go dc_164_39, am_go dc_164_40, am_go dc_164_43, c32_0, am_go dc_164_44, J_goto, am_go dc_164_47, am_go dc_164_48, J_iastore, am_go dc_164_49, am_go dc_164_50, fk_0_58_0, am_go dc_164_53, am_go dc_164_54, am_go dc_164_55, am_go dc_164_58, J_null, am_go dc_164_59, am_go dc_164_62, am_go dc_164_63, am_go dc_164_66, fk_0_97_1, am_go dc_164_69, am_go dc_164_70, J_aaload, am_go dc_164_71, am_go dc_164_72, am_go dc_164_73, xg_0, xg_8, xg_9, tg_0, hX.c0, hX.c53, hX.c54, hX.c55, hX.c64, hX.c65, hT.c0, hT.c1, hT.c2, hT.c3, hT.c4, hT.c5, hT.c6, hT.c7, hP.c0, hP.c1, hP.c2, hP.c3, hP.c4, zI_add, zI_mul, zI_lt, zI_le, zI_eq, zI_neg, zI_pos, zI_ne0, zI_gt0, zB_0, lg_cmp_ge, lg_cmp_le, lg_cmp_gt, lg_cmp_lt, lg_cmp_eq, ail_r, abl_r, all_r, ais_r, abs_r, als_r, aal_r, aal_q, aln_r, vrf_s, vrf_n, z32, ks, q, Bool.true_eq_false, Bool.false_eq_true, zB_t, zB_f, i8_m3, i8_m4, rwF_v, List.length_cons, List.length_nil, Nat.reduceAdd, Nat.reduceLT, Nat.reduceLeDiff, Nat.reduceEqDiff, ↓reduceIte, bind_s, if_true, if_false, not_true_eq_false, not_false_eq_true, Nat.zero_add]
        exact gR_id hK hM cc cr mQ.rf hF
      · have q3 : zI 1 < y := Int32.not_le.mp q2
        have cc : am_f X 1000 164 [.ref o, .int (zI e), .int y, .int w] (H, z) = some (.inl (some (.int (-1))), (H, z)) := by
          show am_f X (999 + 1) 164 _ _ = _
          rw [fU_164]
          simp (disch := first | omega | exact Nat.le_of_ble_eq_true rfl | exact hX.ci | exact hT.ci | exact hP.ci | exact hX.ci | exact hT.ci | exact hP.ci | (refine xF_lt ?_; omega) | (refine tF_lt ?_; omega) | (refine pF_lt ?_; omega)) only [own_164, am_go dc_164_0, J_iload_1, K_il, ld_1, am_go dc_164_1, cs_0_73 own_164, JR_v, JR_0, JR_ite, am_go dc_164_4, J_if_eq, am_go dc_164_7, J_iload_2, ld_2, am_go dc_164_8, J_if_lt, am_go dc_164_11, am_go dc_164_12, J_iconst, c32_1, am_go dc_164_13, J_icmp_gt, am_go dc_164_16, am_go dc_164_17, am_go dc_164_18, J_icmp_ne, am_go dc_164_21, J_aload_0, K_al, ld_0, am_go dc_164_22, J_getfield, gf_r, fk_0_12_0, am_go dc_164_25, J_iload_3, ld_3, am_go dc_164_26, cv_0_94_1 own_164, ci1_r, am_go dc_164_29, J_if_ne, am_go dc_164_32, i32_m1, am_go dc_164_33, J_ret_i ret_164, am_go dc_164_34, am_go dc_164_35, fk_0_52_0, am_go dc_164_38, am_go dc_164_39, am_go dc_164_40, am_go dc_164_43, c32_0, am_go dc_164_44, J_goto, am_go dc_164_47, am_go dc_164_48, J_iastore, am_go dc_164_49, am_go dc_164_50, fk_0_58_0, am_go dc_164_53, am_go dc_164_54, am_go dc_164_55, am_go dc_164_58, J_null, am_go dc_164_59, am_go dc_164_62, am_go dc_164_63, am_go dc_164_66, fk_0_97_1, am_go dc_164_69, am_go dc_164_70, J_aaload, am_go dc_164_71, am_go dc_164_72, am_go dc_164_73, xg_0, xg_8, xg_9, tg_0, hX.c0, hX.c53, hX.c54, hX.c55, hX.c64, hX.c65, hT.c0, hT.c1, hT.c2, hT.c3, hT.c4, hT.c5, hT.c6, hT.c7, hP.c0, hP.c1, hP.c2, hP.c3, hP.c4, zI_add, zI_mul, zI_lt, zI_le, zI_eq, zI_neg, zI_pos, zI_ne0, zI_gt0, zB_0, lg_cmp_ge, lg_cmp_le, lg_cmp_gt, lg_cmp_lt, lg_cmp_eq, ail_r, abl_r, all_r, ais_r, abs_r, als_r, aal_r, aal_q, aln_r, vrf_s, vrf_n, z32, ks, q1, q3, Bool.true_eq_false, Bool.false_eq_true, zB_t, zB_f, i8_m3, i8_m4, rwF_v, List.length_cons, List.length_nil, Nat.reduceAdd, Nat.reduceLT, Nat.reduceLeDiff, Nat.reduceEqDiff, ↓reduceIte, bind_s, if_true, if_false, not_true_eq_false, not_false_eq_true, Nat.zero_add]
        exact gR_id hK hM cc cr mQ.rf hF
    | true =>
      obtain ⟨gg1, gg2⟩ := qIs_get hy
      generalize wN y = c at *
      subst gg1
      rcases (by omega : c = 0 ∨ c = 1) with rfl | rfl
      · obtain ⟨h, hH⟩ : ∃ h, xH h o D = H := ⟨H, hX.eq⟩
        subst hH
        have hcr : ∀ D', xH h o D' (o + 56 + e) = _ := fun D' => xH_is.cr e2
        have h55 : ∀ D', xH h o D' (o + 55) = _ := fun D' => xH_is.c55
        have hTx : ∀ D', isT (xH h o D') (o + 1) T := fun D' => hT.fr (fun x q1 q2 => by rw [xH_x (by unfold xK; omega), xH_x (by unfold xK; omega)])
        have t0 := fun D' => (hTx D').c0
        have t1 := fun D' => (hTx D').c1
        have frx : ∀ D' x, (x ≠ o ∧ (x < o + 53 ∨ o + 66 ≤ x)) → xH h o D' x = xH h o D x := fun D' x q => by
          rw [xH_x (by unfold xK; omega), xH_x (by unfold xK; omega)]
        have cc : am_f X 1000 164 [.ref o, .int (zI e), .int (zI 0), .int w] (xH h o D, z) = some (.inl (some (.int (zI 0))), (xH h o (mS D.1 8 (upd (D.1.1 8) e (zI 0)), va_up D.2 e none), z)) := by
          show am_f X (999 + 1) 164 _ _ = _
          rw [fU_164]
          simp (disch := first | omega | exact Nat.le_of_ble_eq_true rfl | exact hP.ci | exact hX.ci | exact hT.ci | exact hP.ci | (refine xF_lt ?_; omega) | (refine tF_lt ?_; omega) | (refine pF_lt ?_; omega) | exact xH_ci | (refine xF_lt ?_; omega)) only [own_164, am_go dc_164_0, J_iload_1, K_il, ld_1, am_go dc_164_1, cs_0_73 own_164, JR_v, JR_0, JR_ite, am_go dc_164_4, J_if_eq, am_go dc_164_7, J_iload_2, ld_2, am_go dc_164_8, J_if_lt, am_go dc_164_11, am_go dc_164_12, J_iconst, c32_1, am_go dc_164_13, J_icmp_gt, am_go dc_164_16, am_go dc_164_17, am_go dc_164_18, J_icmp_ne, am_go dc_164_21, J_aload_0, K_al, ld_0, am_go dc_164_22, J_getfield, gf_r, fk_0_12_0, am_go dc_164_25, J_iload_3, ld_3, am_go dc_164_26, cv_0_94_1 own_164, ci1_r, am_go dc_164_29, J_if_ne, am_go dc_164_32, i32_m1, am_go dc_164_33, J_ret_i ret_164, am_go dc_164_34, am_go dc_164_35, fk_0_52_0, am_go dc_164_38, am_go dc_164_39, am_go dc_164_40, am_go dc_164_43, c32_0, am_go dc_164_44, J_goto, am_go dc_164_47, am_go dc_164_48, J_iastore, am_go dc_164_49, am_go dc_164_50, fk_0_58_0, am_go dc_164_53, am_go dc_164_54, am_go dc_164_55, am_go dc_164_58, J_null, am_go dc_164_59, am_go dc_164_62, am_go dc_164_63, am_go dc_164_66, fk_0_97_1, am_go dc_164_69, am_go dc_164_70, J_aaload, am_go dc_164_71, am_go dc_164_72, am_go dc_164_73, xg_0, xg_8, xg_9, tg_0, hP.c0, hP.c1, hP.c2, hP.c3, hP.c4, zI_add, zI_mul, zI_lt, zI_le, zI_eq, zI_neg, zI_pos, zI_ne0, zI_gt0, zB_0, lg_cmp_ge, lg_cmp_le, lg_cmp_gt, lg_cmp_lt, lg_cmp_eq, ail_r, abl_r, all_r, ais_r, abs_r, als_r, aal_r, aal_q, aln_r, vrf_s, vrf_n, z32, ks, xH_0, xH_53, xH_54, xH_64, xH_65, xw_53, xw_54, xw_64, xw_65, hcr, h55, t0, t1, aas_r, J_aastoreN, J_aastore, mS_s, mS_o, mS_2, Bool.true_eq_false, Bool.false_eq_true, zB_t, zB_f, i8_m3, i8_m4, rwF_v, List.length_cons, List.length_nil, Nat.reduceAdd, Nat.reduceLT, Nat.reduceLeDiff, Nat.reduceEqDiff, ↓reduceIte, bind_s, if_true, if_false, not_true_eq_false, not_false_eq_true, Nat.zero_add]
        have fr1 : ∀ x, x < z.1 → (x ≠ o ∧ (x < o + 53 ∨ o + 66 ≤ x)) → xH h o (mS D.1 8 (upd (D.1.1 8) e (zI 0)), va_up D.2 e none) x = xH h o D x := fun x _ q => frx _ x q
        have hn1 : ∀ x, z.1 ≤ x → xH h o (mS D.1 8 (upd (D.1.1 8) e (zI 0)), va_up D.2 e none) x = none := fun x hx => by
          rw [frx _ x (by omega)]
          exact hno x hx
        have hC1 : ∀ x, C x → xH h o (mS D.1 8 (upd (D.1.1 8) e (zI 0)), va_up D.2 e none) x = xH h o D x := fun x hx => fr1 x (hCC x hx).2 (by have := hCC x hx; omega)
        obtain ⟨g1, g2⟩ := hup (xH h o (mS D.1 8 (upd (D.1.1 8) e (zI 0)), va_up D.2 e none)) (z) (C) (mS D.1 8 (upd (D.1.1 8) e (zI 0)), va_up D.2 e none) (T) (P) (TI) (PI) (lu) (mS u 5 (upd (u.1 5) e (zI 0))) (fun x q1 q2 => fr1 x q1 (by omega)) (fun x q1 => fr1 x (by omega) (by omega)) xH_is (hgT.fr (fun x q1 q2 => fr1 x (by omega) (by omega)) hC1 (fun _ h => h)) (hgI.fr (fun x q1 q2 => fr1 x (by omega) (by omega)) hC1 (fun _ h => h)) (hgE.fr (fun x q1 q2 => fr1 x (by omega) (by omega))) (hgL.fr (fun x hx => fr1 x (by omega) (by omega))) (gS_set (hgS.fr hC1 (fun _ h => h)) e (fun e' h8 ne => ⟨upd_o ne, rfl, rfl, mS_o (by omega), vu_o ne⟩) (fun e' h8 ne => ⟨upd_o ne, rfl, rfl, rfl, rfl, fun _ _ => rfl⟩) (by
          refine ⟨⟨?_, v6, v7, Or.inl upd_s, c6, ⟨s, hs2, hs⟩, fun i hi => (congrFun (mS_o (by omega)) i).trans (v8 i hi)⟩, fun q => ?_⟩
          · show upd (D.1.1 8) e (zI 0) e = upd (u.1 5) e (zI 0) e
            rw [upd_s, upd_s]
          · exact absurd ((show upd (u.1 5) e (zI 0) e = zI 0 from upd_s).symm.trans q) (by decide))) (fun x hx => Or.inl hx) (Nat.le_refl _) (by omega) (by omega) hn1
        have cr : am_f X 1000 272 [.ref (o + 66), .int (zI e), .int (zI 0), .int w] (mH (xH h o (mS D.1 8 (upd (D.1.1 8) e (zI 0)), va_up D.2 e none)) (o + 66) u, z) = _ := r_keep_0 (X := X) (d := 997) (h := xH h o (mS D.1 8 (upd (D.1.1 8) e (zI 0)), va_up D.2 e none)) (z := z) e2
        exact gR_mk hM cc g1 g2 cr mQ.rf (mFr_cg hF (fun j q1 q2 => if_neg (by omega)) rfl rfl (fun j _ => rfl))
      · have kh : am_f X 999 32 [.ref (o + 1), .int (w)] (H, z) = _ := c_has (X := X) (d := 998) (z := z) hS
        cases hw : qIs w (wN (u.1 1 116)) with
        | false =>
          rw [hw] at kh
          have cc : am_f X 1000 164 [.ref o, .int (zI e), .int (zI 1), .int w] (H, z) = some (.inl (some (.int (-1))), (H, z)) := by
            show am_f X (999 + 1) 164 _ _ = _
            rw [fU_164]
            simp (disch := first | omega | exact Nat.le_of_ble_eq_true rfl | exact hX.ci | exact hT.ci | exact hP.ci | exact hX.ci | exact hT.ci | exact hP.ci | (refine xF_lt ?_; omega) | (refine tF_lt ?_; omega) | (refine pF_lt ?_; omega)) only [own_164, am_go dc_164_0, J_iload_1, K_il, ld_1, am_go dc_164_1, cs_0_73 own_164, JR_v, JR_0, JR_ite, am_go dc_164_4, J_if_eq, am_go dc_164_7, J_iload_2, ld_2, am_go dc_164_8, J_if_lt, am_go dc_164_11, am_go dc_164_12, J_iconst, c32_1, am_go dc_164_13, J_icmp_gt, am_go dc_164_16, am_go dc_164_17, am_go dc_164_18, J_icmp_ne, am_go dc_164_21, J_aload_0, K_al, ld_0, am_go dc_164_22, J_getfield, gf_r, fk_0_12_0, am_go dc_164_25, J_iload_3, ld_3, am_go dc_164_26, cv_0_94_1 own_164, ci1_r, am_go dc_164_29, J_if_ne, am_go dc_164_32, i32_m1, am_go dc_164_33, J_ret_i ret_164, am_go dc_164_34, am_go dc_164_35, fk_0_52_0, am_go dc_164_38, am_go dc_164_39, am_go dc_164_40, am_go dc_164_43, c32_0, am_go dc_164_44, J_goto, am_go dc_164_47, am_go dc_164_48, J_iastore, am_go dc_164_49, am_go dc_164_50, fk_0_58_0, am_go dc_164_53, am_go dc_164_54, am_go dc_164_55, am_go dc_164_58, J_null, am_go dc_164_59, am_go dc_164_62, am_go dc_164_63, am_go dc_164_66, fk_0_97_1, am_go dc_164_69, am_go dc_164_70, J_aaload, am_go dc_164_71, am_go dc_164_72, am_go dc_164_73, xg_0, xg_8, xg_9, tg_0, hX.c0, hX.c53, hX.c54, hX.c55, hX.c64, hX.c65, hT.c0, hT.c1, hT.c2, hT.c3, hT.c4, hT.c5, hT.c6, hT.c7, hP.c0, hP.c1, hP.c2, hP.c3, hP.c4, zI_add, zI_mul, zI_lt, zI_le, zI_eq, zI_neg, zI_pos, zI_ne0, zI_gt0, zB_0, lg_cmp_ge, lg_cmp_le, lg_cmp_gt, lg_cmp_lt, lg_cmp_eq, ail_r, abl_r, all_r, ais_r, abs_r, als_r, aal_r, aal_q, aln_r, vrf_s, vrf_n, z32, ks, kh, Bool.true_eq_false, Bool.false_eq_true, zB_t, zB_f, i8_m3, i8_m4, rwF_v, List.length_cons, List.length_nil, Nat.reduceAdd, Nat.reduceLT, Nat.reduceLeDiff, Nat.reduceEqDiff, ↓reduceIte, bind_s, if_true, if_false, not_true_eq_false, not_false_eq_true, Nat.zero_add]
          have cr : am_f X 1000 272 [.ref (o + 66), .int (zI e), .int (zI 1), .int w] (mH H (o + 66) u, z) = _ := r_keep_o (X := X) (d := 997) (h := H) (z := z) hq e2 hw
          exact gR_id hK hM cc cr mQ.rf hF
        | true =>
          obtain ⟨k1, k2⟩ := qIs_get hw
          generalize wN w = b at *
          subst k1
          rw [hw] at kh
          have hb5 : b < 5 := by omega
          obtain ⟨h, hH⟩ : ∃ h, xH h o D = H := ⟨H, hX.eq⟩
          subst hH
          have hcr : ∀ D', xH h o D' (o + 56 + e) = _ := fun D' => xH_is.cr e2
          have h55 : ∀ D', xH h o D' (o + 55) = _ := fun D' => xH_is.c55
          have hTx : ∀ D', isT (xH h o D') (o + 1) T := fun D' => hT.fr (fun x q1 q2 => by rw [xH_x (by unfold xK; omega), xH_x (by unfold xK; omega)])
          have t0 := fun D' => (hTx D').c0
          have t1 := fun D' => (hTx D').c1
          have frx : ∀ D' x, (x ≠ o ∧ (x < o + 53 ∨ o + 66 ≤ x)) → xH h o D' x = xH h o D x := fun D' x q => by
            rw [xH_x (by unfold xK; omega), xH_x (by unfold xK; omega)]
          obtain ⟨a', bb, ha', hIn, hB⟩ := hS.2.2.1.2.2 b k2
          have hbx : ∀ D', am_box (xH h o D' a') = true := fun D' => by
            have := hCC a' hIn.1
            rw [frx D' a' (by omega)]
            exact hB.bx
          have hkd := (hG.2.2 b k2).1.1.z (by omega)
          have hn := hG.n k2
          have cc : am_f X 1000 164 [.ref o, .int (zI e), .int (zI 1), .int (zI b)] (xH h o D, z) = some (.inl (some (.int (zI 0))), (xH h o (mS D.1 8 (upd (D.1.1 8) e (zI 1)), va_up D.2 e (some a')), z)) := by
            show am_f X (999 + 1) 164 _ _ = _
            rw [fU_164]
            simp (disch := first | omega | exact Nat.le_of_ble_eq_true rfl | exact hP.ci | exact hX.ci | exact hT.ci | exact hP.ci | (refine xF_lt ?_; omega) | (refine tF_lt ?_; omega) | (refine pF_lt ?_; omega) | exact xH_ci | (refine xF_lt ?_; omega)) only [own_164, am_go dc_164_0, J_iload_1, K_il, ld_1, am_go dc_164_1, cs_0_73 own_164, JR_v, JR_0, JR_ite, am_go dc_164_4, J_if_eq, am_go dc_164_7, J_iload_2, ld_2, am_go dc_164_8, J_if_lt, am_go dc_164_11, am_go dc_164_12, J_iconst, c32_1, am_go dc_164_13, J_icmp_gt, am_go dc_164_16, am_go dc_164_17, am_go dc_164_18, J_icmp_ne, am_go dc_164_21, J_aload_0, K_al, ld_0, am_go dc_164_22, J_getfield, gf_r, fk_0_12_0, am_go dc_164_25, J_iload_3, ld_3, am_go dc_164_26, cv_0_94_1 own_164, ci1_r, am_go dc_164_29, J_if_ne, am_go dc_164_32, i32_m1, am_go dc_164_33, J_ret_i ret_164, am_go dc_164_34, am_go dc_164_35, fk_0_52_0, am_go dc_164_38, am_go dc_164_39, am_go dc_164_40, am_go dc_164_43, c32_0, am_go dc_164_44, J_goto, am_go dc_164_47, am_go dc_164_48, J_iastore, am_go dc_164_49, am_go dc_164_50, fk_0_58_0, am_go dc_164_53, am_go dc_164_54, am_go dc_164_55, am_go dc_164_58, J_null, am_go dc_164_59, am_go dc_164_62, am_go dc_164_63, am_go dc_164_66, fk_0_97_1, am_go dc_164_69, am_go dc_164_70, J_aaload, am_go dc_164_71, am_go dc_164_72, am_go dc_164_73, xg_0, xg_8, xg_9, tg_0, hP.c0, hP.c1, hP.c2, hP.c3, hP.c4, zI_add, zI_mul, zI_lt, zI_le, zI_eq, zI_neg, zI_pos, zI_ne0, zI_gt0, zB_0, lg_cmp_ge, lg_cmp_le, lg_cmp_gt, lg_cmp_lt, lg_cmp_eq, ail_r, abl_r, all_r, ais_r, abs_r, als_r, aal_r, aal_q, aln_r, vrf_s, vrf_n, z32, ks, kh, ha', hbx, xH_0, xH_53, xH_54, xH_64, xH_65, xw_53, xw_54, xw_64, xw_65, hcr, h55, t0, t1, aas_r, J_aastoreN, J_aastore, mS_s, mS_o, mS_2, Bool.true_eq_false, Bool.false_eq_true, zB_t, zB_f, i8_m3, i8_m4, rwF_v, List.length_cons, List.length_nil, Nat.reduceAdd, Nat.reduceLT, Nat.reduceLeDiff, Nat.reduceEqDiff, ↓reduceIte, bind_s, if_true, if_false, not_true_eq_false, not_false_eq_true, Nat.zero_add]
          have fr1 : ∀ x, x < z.1 → (x ≠ o ∧ (x < o + 53 ∨ o + 66 ≤ x)) → xH h o (mS D.1 8 (upd (D.1.1 8) e (zI 1)), va_up D.2 e (some a')) x = xH h o D x := fun x _ q => frx _ x q
          have hn1 : ∀ x, z.1 ≤ x → xH h o (mS D.1 8 (upd (D.1.1 8) e (zI 1)), va_up D.2 e (some a')) x = none := fun x hx => by
            rw [frx _ x (by omega)]
            exact hno x hx
          have hC1 : ∀ x, C x → xH h o (mS D.1 8 (upd (D.1.1 8) e (zI 1)), va_up D.2 e (some a')) x = xH h o D x := fun x hx => fr1 x (hCC x hx).2 (by have := hCC x hx; omega)
          obtain ⟨g1, g2⟩ := hup (xH h o (mS D.1 8 (upd (D.1.1 8) e (zI 1)), va_up D.2 e (some a'))) (z) (C) (mS D.1 8 (upd (D.1.1 8) e (zI 1)), va_up D.2 e (some a')) (T) (P) (TI) (PI) (lu) (mS (mS (mS u 5 (upd (u.1 5) e (zI 1))) 9 (upd (u.1 9) e (qWo (u.1 1) b))) 10 (upd (u.1 10) e (qTo (u.1 1) b))) (fun x q1 q2 => fr1 x q1 (by omega)) (fun x q1 => fr1 x (by omega) (by omega)) xH_is (hgT.fr (fun x q1 q2 => fr1 x (by omega) (by omega)) hC1 (fun _ h => h)) (hgI.fr (fun x q1 q2 => fr1 x (by omega) (by omega)) hC1 (fun _ h => h)) (hgE.fr (fun x q1 q2 => fr1 x (by omega) (by omega))) (hgL.fr (fun x hx => fr1 x (by omega) (by omega))) (gS_set (hgS.fr hC1 (fun _ h => h)) e (fun e' h8 ne => ⟨upd_o ne, rfl, rfl, mS_o (by omega), vu_o ne⟩) (fun e' h8 ne => ⟨upd_o ne, rfl, rfl, upd_o ne, upd_o ne, fun _ _ => rfl⟩) (by
            refine ⟨⟨?_, v6, v7, Or.inr (Or.inl upd_s), c6, ⟨s, hs2, hs⟩, fun i hi => (congrFun (mS_o (by omega)) i).trans (v8 i hi)⟩, fun q => ?_⟩
            · show upd (D.1.1 8) e (zI 1) e = upd (u.1 5) e (zI 1) e
              rw [upd_s, upd_s]
            · refine ⟨a', bb, zI b, qRow (u.1 1) b, qON (u.1 1) b, qOG (u.1 1) b, vu_s, hIn, hB.fr (hC1 _ hIn.1) (hC1 _ hIn.2.1) (hC1 _ hIn.2.2.1) (fun q => hC1 _ (hIn.2.2.2 q)), ?_, ?_⟩
              · show upd (u.1 9) e (qWo (u.1 1) b) e = _
                rw [upd_s, heft_q]
              · show upd (u.1 10) e (qTo (u.1 1) b) e = _
                rw [upd_s, toss_q hn.1 hn.2.1 hn.2.2 hb5])) (fun x hx => Or.inl hx) (Nat.le_refl _) (by omega) (by omega) hn1
          have cr : am_f X 1000 272 [.ref (o + 66), .int (zI e), .int (zI 1), .int (zI b)] (mH (xH h o (mS D.1 8 (upd (D.1.1 8) e (zI 1)), va_up D.2 e (some a'))) (o + 66) u, z) = _ := r_keep_1 (X := X) (d := 996) (h := xH h o (mS D.1 8 (upd (D.1.1 8) e (zI 1)), va_up D.2 e (some a'))) (z := z) hq e2 k2 hkd.1 hkd.2
          exact gR_mk hM cc g1 g2 cr mQ.rf (mFr_cg hF (fun j q1 q2 => (if_neg (by omega)).trans ((if_neg (by omega)).trans (if_neg (by omega)))) rfl rfl (fun j _ => rfl))
end FK
