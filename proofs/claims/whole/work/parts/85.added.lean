/-! Reader: a statement added -/
section RB
variable {X : am_X} {C : Nat → Prop} {h : am_H} {e r d : Nat} {u : mU} {T : mU × (Nat → Option Nat)} {S : Nat → Int32} {z : Nat × Nat} {D : pD}
theorem aEn_d {g m : Int32} {K : Nat} {O : Nat → Int32} (h1 : ¬ g = zI 60) (h2 : ¬ g = zI 62) (h3 : ¬ g = zI 64) : aEn S g m K O = true := by
  unfold aEn
  rw [if_neg h1, if_neg h2, if_neg h3]
theorem sOk_a (hG : qG S) (hD : pDok D) (he : eDat u D) : sOk S D = (!decide (5 ≤ wN (S 116)) && (decide (u.2.2.1 7 ≤ zI 9) && ((decide (1 ≤ D.2.2.1) && (decide (D.2.2.1 ≤ 4) && (aSt (u.1 9) (u.1 10) D.2.2.1 0 && decide (fo (fun i v => v + u.1 10 i) 0 D.2.2.1 (zI 0) = zI 100)))) && aEn S (u.2.2.1 11) (u.2.2.1 12) D.2.2.2.2.2.2.2.1 (u.1 14)))) := by
  obtain ⟨d1, d2, d3, d4, d5, d6, d7⟩ := hD
  obtain ⟨e1, e2, e3, e4, e5, e6, e7, e8⟩ := he
  have hm := hG.m
  unfold sOk
  have a1 : decide (S 116 = zI 5) = decide (5 ≤ wN (S 116)) := by
    have : (S 116 = zI 5) = (5 ≤ wN (S 116)) := by
      rw [hm.1, zI_eq (by have := hm.2; omega) (by omega), wN_zI (by have := hm.2; omega)]
      exact propext ⟨fun q => by omega, fun q => by have := hm.2; omega⟩
    simp only [this]
  have a2 : sStp D.2.2.1 D.2.2.2.1 D.2.2.2.2.1 = (decide (1 ≤ D.2.2.1) && (decide (D.2.2.1 ≤ 4) && (aSt (u.1 9) (u.1 10) D.2.2.1 0 && decide (fo (fun i v => v + u.1 10 i) 0 D.2.2.1 (zI 0) = zI 100)))) := by
    unfold sStp
    by_cases k4 : D.2.2.1 ≤ 4
    · rw [sStL_a D.2.2.1 0 0 (fun j _ hj => (d4 j (by omega)).2) (by omega) (by omega), aSt_cg (W' := u.1 9) (C' := u.1 10) D.2.2.1 0 (fun j hj => ⟨(e4 j (by omega) (by omega)).1.symm, (e4 j (by omega) (by omega)).2.symm⟩), fo_congr (g := fun i v => v + u.1 10 i) D.2.2.1 0 (zI 0) (fun j _ hj a => by rw [(e4 j (by omega) (by omega)).2])]
    · rw [decide_eq_false k4, Bool.false_and, Bool.false_and]
  rw [a1, a2, e2]
  congr 1
  congr 1
  congr 1
  -- the ending
  by_cases g0 : D.2.2.2.2.2.1 = zI 0
  · rw [g0, e5, if_pos g0, aEn_d (by decide) (by decide) (by decide)]
    rfl
  · rw [e5, if_neg g0]
    obtain ⟨q1, q2, q3, q4, q5, q6⟩ := sKd_eq (g := D.2.2.2.2.2.1)
    by_cases s2 : D.2.2.2.2.2.1 = zI 33
    · rw [q2 s2, s2, aEn_d (by decide) (by decide) (by decide)]
      rfl
    · have hm12 := e6 g0 s2
      rw [hm12]
      by_cases s1 : D.2.2.2.2.2.1 = zI 63
      · rw [q1 s1, s1, aEn_d (by decide) (by decide) (by decide)]
        rfl
      by_cases s3 : D.2.2.2.2.2.1 = zI 60
      · rw [q3 s3, s3]
        unfold aEn
        rw [if_pos rfl]
        simp
      by_cases s4 : D.2.2.2.2.2.1 = zI 62
      · rw [q4 s4, s4]
        unfold aEn sOth
        rw [if_neg (by decide), if_pos rfl]
        simp only [show decide (4 = 3) = false from rfl, show decide (4 = 4) = true from rfl, show decide (4 = 5) = false from rfl, decide_true, Bool.not_false, Bool.true_or, Bool.true_and, Bool.not_true, Bool.false_or, Bool.and_true, Bool.and_assoc]
        cases c1 : qIs D.2.2.2.2.2.2.1 (wN (S 116)) with
        | false => rfl
        | true =>
          by_cases c4 : zI D.2.2.2.2.2.2.2.1 = S (18 * wN D.2.2.2.2.2.2.1 + 3)
          · unfold qIs at c1
            simp only [Bool.and_eq_true, decide_eq_true_eq] at c1
            obtain ⟨n1, n2, n3⟩ := hG.n c1.2
            have hon : D.2.2.2.2.2.2.2.1 ≤ 4 := by
              have c5 := c4
              rw [n1, zI_eq (by omega) (by omega)] at c5
              omega
            rw [sOtL_a D.2.2.2.2.2.2.2.1 0 0 (fun j _ hj => d7 j (by omega)) (by omega) (by omega), fo_congr (g := fun i v => v + u.1 14 i) D.2.2.2.2.2.2.2.1 0 (zI 0) (fun j _ hj a => by rw [e8 j (by omega) (by omega)])]
          · rw [decide_eq_false c4]
            simp only [Bool.false_and]
      by_cases s5 : D.2.2.2.2.2.1 = zI 64
      · rw [q5 s5, s5]
        unfold aEn
        rw [if_neg (by decide), if_neg (by decide), if_pos rfl]
        simp only [show decide (5 = 3) = false from rfl, show decide (5 = 4) = false from rfl, show decide (5 = 5) = true from rfl, decide_true, Bool.not_false, Bool.true_or, Bool.true_and, Bool.not_true, Bool.false_or]
      · rw [q6 s1 s2 s3 s4 s5, aEn_d s3 s4 s5]
        rfl
theorem isB.co {H : am_H} {a on on' : Nat} {b : Nat × Nat × Nat × Nat} {id : Int32} {f g g' : Nat → Int32} (hB : isB H a b id f on g) (h4 : b.1 = 4 → on' = on ∧ ∀ i, i < on → g' i = g i) : isB H a b id f on' g' := by
  obtain ⟨h1, h2, h3, h4', h5, h6, h7⟩ := hB
  refine ⟨h1, h2, h3, h4', h5, h6, fun e => ?_⟩
  obtain ⟨k1, e', k2, k3⟩ := h7 e
  obtain ⟨q1, q2⟩ := h4 e
  subst q1
  exact ⟨k1, e', k2, fun i hi => by rw [q2 i hi]; exact k3 i hi⟩
theorem e_add_n (hSN : tSN C (eH h e (u, r)) (e + 2) T S) (hD : pDok D) (he : eDat u D) (h5 : ¬ u.2.2.1 5 = zI 108) (hn : ¬ sOk S D = true) : am_f X (d + 5) 28 [.ref e] (eH h e (u, r), z) = some (.inl (some (.int (zI 0))), (eH h e (u, r), z)) := by
  have hS := hSN.1
  have hT := hS.iT
  have hsz := hS.sz
  have hm5 := hS.m5
  rw [sOk_a hS.2.1 hD he] at hn
  have k1 : am_f X (d + 4) 29 [.ref e] (eH h e (u, r), z) = _ := e_sok (X := X) (h := h) (e := e) (r := r) (d := d + 2) (z := z) he.2.2.1 (by have := hD.2.2.1; omega)
  have k2 : am_f X (d + 4) 31 [.ref e] (eH h e (u, r), z) = _ := e_eok (X := X) (d := d + 1) (z := z) hS rfl rfl he.2.2.2.2.2.2.1 (by have := hD.2.2.2.2.2.1; omega)
  generalize (decide (1 ≤ D.2.2.1) && (decide (D.2.2.1 ≤ 4) && (aSt (u.1 9) (u.1 10) D.2.2.1 0 && decide (fo (fun i v => v + u.1 10 i) 0 D.2.2.1 (zI 0) = zI 100)))) = B1 at hn k1
  generalize aEn S (u.2.2.1 11) (u.2.2.1 12) D.2.2.2.2.2.2.2.1 (u.1 14) = B2 at hn k2
  rw [fU_28]
  by_cases c1 : 5 ≤ wN (S 116)
  · simp (disch := first | omega | exact Nat.le_of_ble_eq_true rfl | exact eH_ci | exact hT.ci | (refine eF_lt ?_; omega)) only [own_28, am_go dc_28_0, J_aload_0, K_al, ld_0, am_go dc_28_1, J_getfield, gf_r, fk_3_67_3, am_go dc_28_4, J_bipush, c8_108, am_go dc_28_6, J_icmp_ne, am_go dc_28_9, am_go dc_28_10, fk_3_73_3, am_go dc_28_13, c8_99, am_go dc_28_15, J_icmp_le, am_go dc_28_18, J_iconst, c32_0, am_go dc_28_19, J_ret_z0 ret_28, J_ret_z1 ret_28, J_ret_zB ret_28, am_go dc_28_20, am_go dc_28_21, fk_3_18_3, am_go dc_28_24, am_go dc_28_25, am_go dc_28_28, J_putfield_i, J_putfield_l, J_putfield_r, ini_28, pk_3_104_1, am_go dc_28_31, c32_1, am_go dc_28_32, am_go dc_28_33, am_go dc_28_34, am_go dc_28_37, fk_3_107_1, am_go dc_28_40, c32_5, am_go dc_28_41, J_icmp_ge, am_go dc_28_44, am_go dc_28_45, fk_3_83_3, am_go dc_28_48, c8_9, am_go dc_28_50, J_icmp_gt, am_go dc_28_53, am_go dc_28_54, cv_3_110_3 own_28, JR_v, JR_0, JR_ite, ci1_r, am_go dc_28_57, J_if_eq, am_go dc_28_60, am_go dc_28_61, cv_3_113_3 own_28, am_go dc_28_64, J_if_ne, am_go dc_28_67, am_go dc_28_68, am_go dc_28_69, am_go dc_28_70, am_go dc_28_73, am_go dc_28_74, cv_3_116_3 own_28, am_go dc_28_77, cv_3_120_1 own_28, am_go dc_28_80, am_go dc_28_81, eg_5, eg_12, eg_4, tp_2, pf_i pk_3_104_1 rfl, tg_1, eg_7, eH_0, eH_10, eH_11, eH_12, ew_10, ew_11, ew_12, hT.c0, hT.c1, hT.c2, hT.c3, hT.c4, hT.c5, hT.c6, hT.c7, zI_add, zI_mul, zI_lt, zI_le, zI_eq, zI_neg, zI_pos, zI_ne0, zI_gt0, zB_0, lg_cmp_ge, lg_cmp_le, lg_cmp_gt, lg_cmp_lt, lg_cmp_eq, ail_r, abl_r, all_r, ais_r, abs_r, als_r, aal_r, aal_q, aln_r, vrf_s, vrf_n, z32, hsz, h5, zB_t, zB_f, c1, List.length_cons, List.length_nil, Nat.reduceAdd, Nat.reduceLT, Nat.reduceLeDiff, Nat.reduceEqDiff, ↓reduceIte, bind_s, if_true, if_false, not_true_eq_false, not_false_eq_true, Nat.zero_add]
  · by_cases c2 : zI 9 < u.2.2.1 7
    · simp (disch := first | omega | exact Nat.le_of_ble_eq_true rfl | exact eH_ci | exact hT.ci | (refine eF_lt ?_; omega)) only [own_28, am_go dc_28_0, J_aload_0, K_al, ld_0, am_go dc_28_1, J_getfield, gf_r, fk_3_67_3, am_go dc_28_4, J_bipush, c8_108, am_go dc_28_6, J_icmp_ne, am_go dc_28_9, am_go dc_28_10, fk_3_73_3, am_go dc_28_13, c8_99, am_go dc_28_15, J_icmp_le, am_go dc_28_18, J_iconst, c32_0, am_go dc_28_19, J_ret_z0 ret_28, J_ret_z1 ret_28, J_ret_zB ret_28, am_go dc_28_20, am_go dc_28_21, fk_3_18_3, am_go dc_28_24, am_go dc_28_25, am_go dc_28_28, J_putfield_i, J_putfield_l, J_putfield_r, ini_28, pk_3_104_1, am_go dc_28_31, c32_1, am_go dc_28_32, am_go dc_28_33, am_go dc_28_34, am_go dc_28_37, fk_3_107_1, am_go dc_28_40, c32_5, am_go dc_28_41, J_icmp_ge, am_go dc_28_44, am_go dc_28_45, fk_3_83_3, am_go dc_28_48, c8_9, am_go dc_28_50, J_icmp_gt, am_go dc_28_53, am_go dc_28_54, cv_3_110_3 own_28, JR_v, JR_0, JR_ite, ci1_r, am_go dc_28_57, J_if_eq, am_go dc_28_60, am_go dc_28_61, cv_3_113_3 own_28, am_go dc_28_64, J_if_ne, am_go dc_28_67, am_go dc_28_68, am_go dc_28_69, am_go dc_28_70, am_go dc_28_73, am_go dc_28_74, cv_3_116_3 own_28, am_go dc_28_77, cv_3_120_1 own_28, am_go dc_28_80, am_go dc_28_81, eg_5, eg_12, eg_4, tp_2, pf_i pk_3_104_1 rfl, tg_1, eg_7, eH_0, eH_10, eH_11, eH_12, ew_10, ew_11, ew_12, hT.c0, hT.c1, hT.c2, hT.c3, hT.c4, hT.c5, hT.c6, hT.c7, zI_add, zI_mul, zI_lt, zI_le, zI_eq, zI_neg, zI_pos, zI_ne0, zI_gt0, zB_0, lg_cmp_ge, lg_cmp_le, lg_cmp_gt, lg_cmp_lt, lg_cmp_eq, ail_r, abl_r, all_r, ais_r, abs_r, als_r, aal_r, aal_q, aln_r, vrf_s, vrf_n, z32, hsz, h5, zB_t, zB_f, c1, c2, List.length_cons, List.length_nil, Nat.reduceAdd, Nat.reduceLT, Nat.reduceLeDiff, Nat.reduceEqDiff, ↓reduceIte, bind_s, if_true, if_false, not_true_eq_false, not_false_eq_true, Nat.zero_add]
    · rw [decide_eq_false c1, decide_eq_true (Int32.not_lt.mp c2)] at hn
      cases B1 with
      | false =>
        simp (disch := first | omega | exact Nat.le_of_ble_eq_true rfl | exact eH_ci | exact hT.ci | (refine eF_lt ?_; omega)) only [own_28, am_go dc_28_0, J_aload_0, K_al, ld_0, am_go dc_28_1, J_getfield, gf_r, fk_3_67_3, am_go dc_28_4, J_bipush, c8_108, am_go dc_28_6, J_icmp_ne, am_go dc_28_9, am_go dc_28_10, fk_3_73_3, am_go dc_28_13, c8_99, am_go dc_28_15, J_icmp_le, am_go dc_28_18, J_iconst, c32_0, am_go dc_28_19, J_ret_z0 ret_28, J_ret_z1 ret_28, J_ret_zB ret_28, am_go dc_28_20, am_go dc_28_21, fk_3_18_3, am_go dc_28_24, am_go dc_28_25, am_go dc_28_28, J_putfield_i, J_putfield_l, J_putfield_r, ini_28, pk_3_104_1, am_go dc_28_31, c32_1, am_go dc_28_32, am_go dc_28_33, am_go dc_28_34, am_go dc_28_37, fk_3_107_1, am_go dc_28_40, c32_5, am_go dc_28_41, J_icmp_ge, am_go dc_28_44, am_go dc_28_45, fk_3_83_3, am_go dc_28_48, c8_9, am_go dc_28_50, J_icmp_gt, am_go dc_28_53, am_go dc_28_54, cv_3_110_3 own_28, JR_v, JR_0, JR_ite, ci1_r, am_go dc_28_57, J_if_eq, am_go dc_28_60, am_go dc_28_61, cv_3_113_3 own_28, am_go dc_28_64, J_if_ne, am_go dc_28_67, am_go dc_28_68, am_go dc_28_69, am_go dc_28_70, am_go dc_28_73, am_go dc_28_74, cv_3_116_3 own_28, am_go dc_28_77, cv_3_120_1 own_28, am_go dc_28_80, am_go dc_28_81, eg_5, eg_12, eg_4, tp_2, pf_i pk_3_104_1 rfl, tg_1, eg_7, eH_0, eH_10, eH_11, eH_12, ew_10, ew_11, ew_12, hT.c0, hT.c1, hT.c2, hT.c3, hT.c4, hT.c5, hT.c6, hT.c7, zI_add, zI_mul, zI_lt, zI_le, zI_eq, zI_neg, zI_pos, zI_ne0, zI_gt0, zB_0, lg_cmp_ge, lg_cmp_le, lg_cmp_gt, lg_cmp_lt, lg_cmp_eq, ail_r, abl_r, all_r, ais_r, abs_r, als_r, aal_r, aal_q, aln_r, vrf_s, vrf_n, z32, hsz, h5, zB_t, zB_f, c1, c2, k1, List.length_cons, List.length_nil, Nat.reduceAdd, Nat.reduceLT, Nat.reduceLeDiff, Nat.reduceEqDiff, ↓reduceIte, bind_s, if_true, if_false, not_true_eq_false, not_false_eq_true, Nat.zero_add]
      | true =>
        cases B2 with
        | false =>
          simp (disch := first | omega | exact Nat.le_of_ble_eq_true rfl | exact eH_ci | exact hT.ci | (refine eF_lt ?_; omega)) only [own_28, am_go dc_28_0, J_aload_0, K_al, ld_0, am_go dc_28_1, J_getfield, gf_r, fk_3_67_3, am_go dc_28_4, J_bipush, c8_108, am_go dc_28_6, J_icmp_ne, am_go dc_28_9, am_go dc_28_10, fk_3_73_3, am_go dc_28_13, c8_99, am_go dc_28_15, J_icmp_le, am_go dc_28_18, J_iconst, c32_0, am_go dc_28_19, J_ret_z0 ret_28, J_ret_z1 ret_28, J_ret_zB ret_28, am_go dc_28_20, am_go dc_28_21, fk_3_18_3, am_go dc_28_24, am_go dc_28_25, am_go dc_28_28, J_putfield_i, J_putfield_l, J_putfield_r, ini_28, pk_3_104_1, am_go dc_28_31, c32_1, am_go dc_28_32, am_go dc_28_33, am_go dc_28_34, am_go dc_28_37, fk_3_107_1, am_go dc_28_40, c32_5, am_go dc_28_41, J_icmp_ge, am_go dc_28_44, am_go dc_28_45, fk_3_83_3, am_go dc_28_48, c8_9, am_go dc_28_50, J_icmp_gt, am_go dc_28_53, am_go dc_28_54, cv_3_110_3 own_28, JR_v, JR_0, JR_ite, ci1_r, am_go dc_28_57, J_if_eq, am_go dc_28_60, am_go dc_28_61, cv_3_113_3 own_28, am_go dc_28_64, J_if_ne, am_go dc_28_67, am_go dc_28_68, am_go dc_28_69, am_go dc_28_70, am_go dc_28_73, am_go dc_28_74, cv_3_116_3 own_28, am_go dc_28_77, cv_3_120_1 own_28, am_go dc_28_80, am_go dc_28_81, eg_5, eg_12, eg_4, tp_2, pf_i pk_3_104_1 rfl, tg_1, eg_7, eH_0, eH_10, eH_11, eH_12, ew_10, ew_11, ew_12, hT.c0, hT.c1, hT.c2, hT.c3, hT.c4, hT.c5, hT.c6, hT.c7, zI_add, zI_mul, zI_lt, zI_le, zI_eq, zI_neg, zI_pos, zI_ne0, zI_gt0, zB_0, lg_cmp_ge, lg_cmp_le, lg_cmp_gt, lg_cmp_lt, lg_cmp_eq, ail_r, abl_r, all_r, ais_r, abs_r, als_r, aal_r, aal_q, aln_r, vrf_s, vrf_n, z32, hsz, h5, zB_t, zB_f, c1, c2, k1, k2, List.length_cons, List.length_nil, Nat.reduceAdd, Nat.reduceLT, Nat.reduceLeDiff, Nat.reduceEqDiff, ↓reduceIte, bind_s, if_true, if_false, not_true_eq_false, not_false_eq_true, Nat.zero_add]
        | true => exact absurd rfl hn
theorem e_add_y (hSN : tSN C (eH (tH h (e + 2) T) e (u, r)) (e + 2) T S) (hC : ∀ x, C x → x < e ∨ e + 13 ≤ x) (hez : e + 13 ≤ z.1) (hD : pDok D) (he : eDat u D) (h5 : ¬ u.2.2.1 5 = zI 108) (ok : sOk S D = true) (hz : ∀ x, z.1 ≤ x → eH (tH h (e + 2) T) e (u, r) x = none) : ∃ h' T' z', am_f X (d + 5) 28 [.ref e] (eH (tH h (e + 2) T) e (u, r), z) = some (.inl (some (.int (zI 1))), (eH (tH h' (e + 2) T') e (u, r), z')) ∧ (∀ x, x < z.1 → x < e + 2 ∨ e + 10 ≤ x → h' x = h x) ∧ z.1 ≤ z'.1 ∧ z'.1 ≤ z.1 + 4 ∧ z'.2 ≤ z.2 + 19 ∧ (∀ x, z'.1 ≤ x → eH (tH h' (e + 2) T') e (u, r) x = none) ∧ tSN (fun x => C x ∨ (z.1 ≤ x ∧ x < z'.1)) (eH (tH h' (e + 2) T') e (u, r)) (e + 2) T' (sMk S D) := by
  obtain ⟨hS, -, hnl⟩ := hSN
  have hT := hS.iT
  have hsz := hS.sz
  have hm5 := hS.m5
  have hG := hS.2.1
  have hw := sOk_wf hG hD ok
  have hG' := qG_mk hG hD ok
  have hm116 : sMk S D 116 = zI (wN (S 116) + 1) := by rw [mk_hi hw (by omega), if_pos rfl]
  have ok' := ok
  rw [sOk_a hG hD he] at ok'
  simp only [Bool.and_eq_true, Bool.not_eq_true', decide_eq_false_iff_not, decide_eq_true_eq] at ok'
  obtain ⟨o1, o2, ⟨o3, o4, o5, o6⟩, o7⟩ := ok'
  have c2 : ¬ zI 9 < u.2.2.1 7 := Int32.not_lt.mpr o2
  have k1 : am_f X (d + 4) 29 [.ref e] (eH (tH h (e + 2) T) e (u, r), z) = some (.inl (some (.int (zI 1))), (eH (tH h (e + 2) T) e (u, r), z)) := by
    have := e_sok (X := X) (h := tH h (e + 2) T) (e := e) (r := r) (d := d + 2) (z := z) he.2.2.1 (by have := hD.2.2.1; omega)
    rw [decide_eq_true o3, decide_eq_true o4, o5, decide_eq_true o6] at this
    exact this
  have k2 : am_f X (d + 4) 31 [.ref e] (eH (tH h (e + 2) T) e (u, r), z) = some (.inl (some (.int (zI 1))), (eH (tH h (e + 2) T) e (u, r), z)) := by
    have := e_eok (X := X) (d := d + 1) (z := z) hS rfl rfl he.2.2.2.2.2.2.1 (by have := hD.2.2.2.2.2.1; omega)
    rw [o7] at this
    exact this
  obtain ⟨e1, e2, e3, e4, e5, e6, e7, e8⟩ := he
  obtain ⟨w1, w2, w3, w4⟩ := hw
  obtain ⟨r0, r1, r2, r3, r4, r5, r6⟩ := mk_row (S := S) (D := D) ⟨w1, w2, w3, w4⟩
  have hold : ∀ c j, c < wN (S 116) → j < 14 → j ≠ 5 → sMk S D (18 * c + j) = S (18 * c + j) := fun c j hc hj h5 => by
    rw [mk_old ⟨w1, w2, w3, w4⟩ hc (by omega)]
    by_cases q : sKd D.2.2.2.2.2.1 = 4 ∧ c = wN D.2.2.2.2.2.2.1
    · rw [if_pos q, if_neg h5, if_neg (by omega)]
    · rw [if_neg q]
  have hgk : sKd (u.2.2.1 11) = sKd D.2.2.2.2.2.1 := by
    rw [e5]
    by_cases q : D.2.2.2.2.2.1 = zI 0
    · rw [if_pos q, q]
      decide
    · rw [if_neg q]
  have hko : sKd D.2.2.2.2.2.1 = 4 → qON (sMk S D) (wN (S 116)) = D.2.2.2.2.2.2.2.1 ∧ ∀ i, i < D.2.2.2.2.2.2.2.1 → qOG (sMk S D) (wN (S 116)) i = D.2.2.2.2.2.2.2.2 i := fun k => by
    obtain ⟨v1, v2, v3, v4, v5, v6⟩ := w4 k
    have l4 : wN (sMk S D (18 * wN (S 116) + 4)) = wN D.2.2.2.2.2.2.1 := by rw [r4, if_neg (by omega)]
    refine ⟨?_, fun i hi => ?_⟩
    · unfold qON
      rw [l4, hold _ 3 v2 (by omega) (by omega), v3]
    · unfold qOG
      rw [l4, mk_old ⟨w1, w2, w3, w4⟩ v2 (by omega), if_pos ⟨k, rfl⟩, if_neg (by omega), if_pos (by omega)]
      rw [show 14 + i - 14 = i by omega]
  obtain ⟨h1, z1, m1, m2, m3, m4, m5, m6, bb, m7, m8⟩ := e_make (X := X) (d := d) (m := wN (S 116)) (K := D.2.2.1) (on := qON (sMk S D) (wN (S 116))) (f := qRow (sMk S D) (wN (S 116))) (g' := qOG (sMk S D) (wN (S 116))) hT hsz e3 w2 w3 rfl (by rw [hgk]; exact r0) (by rw [e1]; exact r1) (by rw [e2]; exact r2) r3 (fun q => by rw [hgk] at q; exact r4.trans (if_pos q)) (fun q1 q2 => by
      rw [hgk] at q1 q2
      rw [e6 (sKd_0 q1) (sKd_2 q2)]
      exact r4.trans (if_neg (by omega))) (fun i hi => by rw [(e4 i hi (by omega)).1]; exact (r6 i hi).1) (fun i hi => by rw [(e4 i hi (by omega)).2]; exact (r6 i hi).2) (fun k => by
      rw [hgk] at k
      obtain ⟨v1, v2⟩ := hko k
      have v3 := w4 k
      rw [v1, e7]
      exact ⟨rfl, v3.2.2.2.1, fun i hi => by rw [v2 i hi, e8 i hi (by omega)]⟩) hz
  -- Told stands as it stood
  have hT1 : isT h1 (e + 2) T := (tH_is (h := h) (t := e + 2) (D := T)).fr (fun x x1 x2 => m2 x (by omega))
  have hh1 : tH h1 (e + 2) T = h1 := ov_eq hT1
  have hTe : isT (eH h1 e (u, r)) (e + 2) T := hT1.fr (fun x x1 x2 => eH_x ⟨by omega, by omega, by omega, by omega⟩)
  have htt : eH h1 e (u, r) = tH (eH h1 e (u, r)) (e + 2) T := by
    rw [← te_c, hh1]
  have hR := hS.2.2.2.2
  have hw0 : T.1.1 4 0 = 0 := by
    obtain ⟨R, -, -, -, q, -⟩ := hR
    exact q
  have hlive : ∀ x ee, C x → eH (tH h (e + 2) T) e (u, r) x = some ee → eH h1 e (u, r) x = eH (tH h (e + 2) T) e (u, r) x := fun x ee hx hs => by
    have hxe := hC x hx
    have hxz : x < z.1 := by
      rcases Nat.lt_or_ge x z.1 with q | q
      · exact q
      · rw [hz x q] at hs
        exact absurd hs (by simp)
    have ex : eX e x := ⟨by omega, by omega, by omega, by omega⟩
    rw [eH_x ex, eH_x ex]
    exact m2 x hxz
  have hbs : ∀ b, b < wN (S 116) + 1 → ∃ a' bb, va_up T.2 (wN (S 116)) (some (z.1 + 2)) b = some a' ∧ bIn (fun x => C x ∨ (z.1 ≤ x ∧ x < z1.1)) a' bb ∧ isB (eH h1 e (u, r)) a' bb (zI b) (qRow (sMk S D) b) (qON (sMk S D) b) (qOG (sMk S D) b) := fun b hb => by
    by_cases eb : b = wN (S 116)
    · subst eb
      have ex : ∀ x, z.1 ≤ x → eX e x := fun x hx => ⟨by omega, by omega, by omega, by omega⟩
      exact ⟨z.1 + 2, bb, va_up_self _ _ _, ⟨Or.inr m7.1, Or.inr m7.2.1, Or.inr m7.2.2.1, fun q => Or.inr (m7.2.2.2 q)⟩, m8.fr (eH_x (ex _ m7.1.1)) (eH_x (ex _ m7.2.1.1)) (eH_x (ex _ m7.2.2.1.1)) (fun q => eH_x (ex _ (m7.2.2.2 q).1))⟩
    · have hb' : b < wN (S 116) := by omega
      obtain ⟨a', bb', g1, g2, g3⟩ := hS.2.2.1.2.2 b hb'
      refine ⟨a', bb', (va_up_ne _ _ eb).trans g1, ⟨Or.inl g2.1, Or.inl g2.2.1, Or.inl g2.2.2.1, fun q => Or.inl (g2.2.2.2 q)⟩, ?_⟩
      obtain ⟨w, wa, -⟩ := g3.2.2.2.2.1
      obtain ⟨v, va, -⟩ := g3.2.2.2.2.2.1
      have g3' : isB (eH h1 e (u, r)) a' bb' (zI b) (qRow S b) (qON S b) (qOG S b) := g3.fr (hlive _ _ g2.1 g3.at) (hlive _ _ g2.2.1 wa) (hlive _ _ g2.2.2.1 va) (fun q => by
        obtain ⟨-, uu, ua, -⟩ := g3.2.2.2.2.2.2 q
        exact hlive _ _ (g2.2.2.2 q) ua)
      have g3'' : isB (eH h1 e (u, r)) a' bb' (zI b) (qRow (sMk S D) b) (qON S b) (qOG S b) := g3'.cg (fun j hj h5 => hold b j hb' hj h5) (fun _ _ _ => rfl)
      refine g3''.co (fun q => ?_)
      have k4 : S (18 * b) = zI 4 := by
        have := g3.1.2
        rw [q] at this
        exact this
      obtain ⟨t1, t2, t3⟩ := (hG.2.2 b hb').2.2.2.2.1 k4
      have l4 : sMk S D (18 * b + 4) = S (18 * b + 4) := hold b 4 hb' (by omega) (by omega)
      have hon := (hG.n (show wN (S (18 * b + 4)) < wN (S 116) by omega)).2.2
      refine ⟨?_, fun i hi => ?_⟩
      · unfold qON
        rw [l4, hold _ 3 (by omega) (by omega) (by omega)]
      · have hi' : i < wN (S (18 * wN (S (18 * b + 4)) + 3)) := hi
        unfold qOG
        rw [l4, mk_old ⟨w1, w2, w3, w4⟩ (by omega) (by omega)]
        by_cases qq : sKd D.2.2.2.2.2.1 = 4 ∧ wN (S (18 * b + 4)) = wN D.2.2.2.2.2.2.1
        · have := (w4 qq.1).2.2.2.2.2
          rw [← qq.2, t3, zI_neg (by omega)] at this
          exact this.elim
        · rw [if_neg qq]
  obtain ⟨T', a1, a2⟩ := c_add (X := X) (h := eH h1 e (u, r)) (t := e + 2) (T := T) (d := d) (z := z1) (a := z.1 + 2) (m := wN (S 116)) (C := fun x => C x ∨ (z.1 ≤ x ∧ x < z1.1)) hG' hm116 w1 hsz (by rw [mk_hi ⟨w1, w2, w3, w4⟩ (by omega), if_neg (by omega), if_neg (by omega)]; exact hS.bell) hw0 (fun x hx => by
    rcases hx with hx | hx
    · have := hC x hx; omega
    · omega) hbs hnl
  rw [← htt, ← te_c] at a1
  rw [← te_c] at a2
  have hci : am_ci1 ((eH h1 e (u, r), z1).1 (e + 2)) = some 1 := hTe.ci
  refine ⟨h1, T', z1, ?_, fun x x1 x2 => by rw [m2 x x1, tH_x (by omega)], by omega, m4, m5, fun x hx => ?_, a2⟩
  · rw [fU_28]
    simp (disch := first | omega | exact Nat.le_of_ble_eq_true rfl | exact eH_ci | exact hT.ci | (refine eF_lt ?_; omega) | exact hci) only [own_28, am_go dc_28_0, J_aload_0, K_al, ld_0, am_go dc_28_1, J_getfield, gf_r, fk_3_67_3, am_go dc_28_4, J_bipush, c8_108, am_go dc_28_6, J_icmp_ne, am_go dc_28_9, am_go dc_28_10, fk_3_73_3, am_go dc_28_13, c8_99, am_go dc_28_15, J_icmp_le, am_go dc_28_18, J_iconst, c32_0, am_go dc_28_19, J_ret_z0 ret_28, J_ret_z1 ret_28, J_ret_zB ret_28, am_go dc_28_20, am_go dc_28_21, fk_3_18_3, am_go dc_28_24, am_go dc_28_25, am_go dc_28_28, J_putfield_i, J_putfield_l, J_putfield_r, ini_28, pk_3_104_1, am_go dc_28_31, c32_1, am_go dc_28_32, am_go dc_28_33, am_go dc_28_34, am_go dc_28_37, fk_3_107_1, am_go dc_28_40, c32_5, am_go dc_28_41, J_icmp_ge, am_go dc_28_44, am_go dc_28_45, fk_3_83_3, am_go dc_28_48, c8_9, am_go dc_28_50, J_icmp_gt, am_go dc_28_53, am_go dc_28_54, cv_3_110_3 own_28, JR_v, JR_0, JR_ite, ci1_r, am_go dc_28_57, J_if_eq, am_go dc_28_60, am_go dc_28_61, cv_3_113_3 own_28, am_go dc_28_64, J_if_ne, am_go dc_28_67, am_go dc_28_68, am_go dc_28_69, am_go dc_28_70, am_go dc_28_73, am_go dc_28_74, cv_3_116_3 own_28, am_go dc_28_77, cv_3_120_1 own_28, am_go dc_28_80, am_go dc_28_81, eg_5, eg_12, eg_4, tp_2, pf_i pk_3_104_1 rfl, tg_1, eg_7, eH_0, eH_10, eH_11, eH_12, ew_10, ew_11, ew_12, hT.c0, hT.c1, hT.c2, hT.c3, hT.c4, hT.c5, hT.c6, hT.c7, zI_add, zI_mul, zI_lt, zI_le, zI_eq, zI_neg, zI_pos, zI_ne0, zI_gt0, zB_0, lg_cmp_ge, lg_cmp_le, lg_cmp_gt, lg_cmp_lt, lg_cmp_eq, ail_r, abl_r, all_r, ais_r, abs_r, als_r, aal_r, aal_q, aln_r, vrf_s, vrf_n, z32, hsz, h5, o1, c2, k1, k2, m1, a1, List.length_cons, List.length_nil, Nat.reduceAdd, Nat.reduceLT, Nat.reduceLeDiff, Nat.reduceEqDiff, ↓reduceIte, bind_s, if_true, if_false, not_true_eq_false, not_false_eq_true, Nat.zero_add]
  · rw [eH_x ⟨by omega, by omega, by omega, by omega⟩, tH_x (by omega)]
    exact m6 x hx
theorem e_add_l {x : Nat} (hT : isT (eH (tH h (e + 2) T) e (u, r)) (e + 2) T) (h5 : u.2.2.1 5 = zI 108) (h12 : u.2.2.1 12 = zI x) (hx : x ≤ 999) : am_f X (d + 5) 28 [.ref e] (eH (tH h (e + 2) T) e (u, r), z) = if x ≤ 99 then some (.inl (some (.int (zI 1))), (eH (tH h (e + 2) (mI T.1 2 (zI x), T.2)) e (u, r), z)) else some (.inl (some (.int (zI 0))), (eH (tH h (e + 2) T) e (u, r), z)) := by
  rw [fU_28]
  by_cases c : x ≤ 99
  · rw [if_pos c]
    have hup : am_up (eH (tH h (e + 2) T) e (u, r)) (e + 2) (.inr (1, (tF (e + 2) T).set 2 (.int (zI x)))) = eH (tH h (e + 2) (mI T.1 2 (zI x), T.2)) e (u, r) := by
      rw [te_c, tp_2, ← te_c]
    simp (disch := first | omega | exact Nat.le_of_ble_eq_true rfl | exact eH_ci | exact hT.ci | (refine eF_lt ?_; omega) | (refine tF_lt ?_; omega)) only [own_28, am_go dc_28_0, J_aload_0, K_al, ld_0, am_go dc_28_1, J_getfield, gf_r, fk_3_67_3, am_go dc_28_4, J_bipush, c8_108, am_go dc_28_6, J_icmp_ne, am_go dc_28_9, am_go dc_28_10, fk_3_73_3, am_go dc_28_13, c8_99, am_go dc_28_15, J_icmp_le, am_go dc_28_18, J_iconst, c32_0, am_go dc_28_19, J_ret_z0 ret_28, J_ret_z1 ret_28, J_ret_zB ret_28, am_go dc_28_20, am_go dc_28_21, fk_3_18_3, am_go dc_28_24, am_go dc_28_25, am_go dc_28_28, J_putfield_i, J_putfield_l, J_putfield_r, ini_28, pk_3_104_1, am_go dc_28_31, c32_1, am_go dc_28_32, am_go dc_28_33, am_go dc_28_34, am_go dc_28_37, fk_3_107_1, am_go dc_28_40, c32_5, am_go dc_28_41, J_icmp_ge, am_go dc_28_44, am_go dc_28_45, fk_3_83_3, am_go dc_28_48, c8_9, am_go dc_28_50, J_icmp_gt, am_go dc_28_53, am_go dc_28_54, cv_3_110_3 own_28, JR_v, JR_0, JR_ite, ci1_r, am_go dc_28_57, J_if_eq, am_go dc_28_60, am_go dc_28_61, cv_3_113_3 own_28, am_go dc_28_64, J_if_ne, am_go dc_28_67, am_go dc_28_68, am_go dc_28_69, am_go dc_28_70, am_go dc_28_73, am_go dc_28_74, cv_3_116_3 own_28, am_go dc_28_77, cv_3_120_1 own_28, am_go dc_28_80, am_go dc_28_81, eg_5, eg_12, eg_4, tp_2, pf_i pk_3_104_1 rfl, tg_1, eg_7, eH_0, eH_10, eH_11, eH_12, ew_10, ew_11, ew_12, hT.c0, hT.c1, hT.c2, hT.c3, hT.c4, hT.c5, hT.c6, hT.c7, zI_add, zI_mul, zI_lt, zI_le, zI_eq, zI_neg, zI_pos, zI_ne0, zI_gt0, zB_0, lg_cmp_ge, lg_cmp_le, lg_cmp_gt, lg_cmp_lt, lg_cmp_eq, ail_r, abl_r, all_r, ais_r, abs_r, als_r, aal_r, aal_q, aln_r, vrf_s, vrf_n, z32, h5, h12, c, hup, List.length_cons, List.length_nil, Nat.reduceAdd, Nat.reduceLT, Nat.reduceLeDiff, Nat.reduceEqDiff, ↓reduceIte, bind_s, if_true, if_false, not_true_eq_false, not_false_eq_true, Nat.zero_add]
  · rw [if_neg c]
    simp (disch := first | omega | exact Nat.le_of_ble_eq_true rfl | exact eH_ci | exact hT.ci | (refine eF_lt ?_; omega)) only [own_28, am_go dc_28_0, J_aload_0, K_al, ld_0, am_go dc_28_1, J_getfield, gf_r, fk_3_67_3, am_go dc_28_4, J_bipush, c8_108, am_go dc_28_6, J_icmp_ne, am_go dc_28_9, am_go dc_28_10, fk_3_73_3, am_go dc_28_13, c8_99, am_go dc_28_15, J_icmp_le, am_go dc_28_18, J_iconst, c32_0, am_go dc_28_19, J_ret_z0 ret_28, J_ret_z1 ret_28, J_ret_zB ret_28, am_go dc_28_20, am_go dc_28_21, fk_3_18_3, am_go dc_28_24, am_go dc_28_25, am_go dc_28_28, J_putfield_i, J_putfield_l, J_putfield_r, ini_28, pk_3_104_1, am_go dc_28_31, c32_1, am_go dc_28_32, am_go dc_28_33, am_go dc_28_34, am_go dc_28_37, fk_3_107_1, am_go dc_28_40, c32_5, am_go dc_28_41, J_icmp_ge, am_go dc_28_44, am_go dc_28_45, fk_3_83_3, am_go dc_28_48, c8_9, am_go dc_28_50, J_icmp_gt, am_go dc_28_53, am_go dc_28_54, cv_3_110_3 own_28, JR_v, JR_0, JR_ite, ci1_r, am_go dc_28_57, J_if_eq, am_go dc_28_60, am_go dc_28_61, cv_3_113_3 own_28, am_go dc_28_64, J_if_ne, am_go dc_28_67, am_go dc_28_68, am_go dc_28_69, am_go dc_28_70, am_go dc_28_73, am_go dc_28_74, cv_3_116_3 own_28, am_go dc_28_77, cv_3_120_1 own_28, am_go dc_28_80, am_go dc_28_81, eg_5, eg_12, eg_4, tp_2, pf_i pk_3_104_1 rfl, tg_1, eg_7, eH_0, eH_10, eH_11, eH_12, ew_10, ew_11, ew_12, hT.c0, hT.c1, hT.c2, hT.c3, hT.c4, hT.c5, hT.c6, hT.c7, zI_add, zI_mul, zI_lt, zI_le, zI_eq, zI_neg, zI_pos, zI_ne0, zI_gt0, zB_0, lg_cmp_ge, lg_cmp_le, lg_cmp_gt, lg_cmp_lt, lg_cmp_eq, ail_r, abl_r, all_r, ais_r, abs_r, als_r, aal_r, aal_q, aln_r, vrf_s, vrf_n, z32, h5, h12, c, List.length_cons, List.length_nil, Nat.reduceAdd, Nat.reduceLT, Nat.reduceLeDiff, Nat.reduceEqDiff, ↓reduceIte, bind_s, if_true, if_false, not_true_eq_false, not_false_eq_true, Nat.zero_add]
end RB
