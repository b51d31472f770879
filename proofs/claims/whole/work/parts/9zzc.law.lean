/-! the law -/
section LX
variable {X : am_X} {o k b L i : Nat} {H : am_H} {z : Nat × Nat} {u : mU} {xs : Nat → Int32} {v5 v6 v7 : Option Value}
theorem sub_6 {L i : Nat} (hL : L ≤ 3072) (hi : i ≤ 3078) : (zI L - zI 6 < zI i) = (L < i + 6) := by
  rw [Int32.lt_iff_toInt_lt, Int32.toInt_sub, zI_toInt (show L < 2147483648 by omega), zI_toInt (show 6 < 2147483648 by omega), zI_toInt (show i < 2147483648 by omega), Int.bmod_eq_of_le (by omega) (by omega)]
  apply propext
  omega
theorem lw_end (hHb : H b = none) (hXb : X.1 b = some (L, xs)) (hL : L ≤ 3072) (hi : i ≤ 3078) (hx : L < i + 6) : am_I X (am_f X 1000) 281 23 [some (.ref b), some (.ref o), some (.ref (o + 66)), some (.ref (o + 86)), some (.int (zI i)), v5, v6, v7] [] (H, z) = some (.inl (some (.int 1)), (H, z)) := by
  have hs := sub_6 hL hi
  rw [am_go dc_281_23]
  simp (disch := first | omega | exact Nat.le_of_ble_eq_true rfl) only [own_281, J_iload, K_il, ld_4, am_go dc_281_25, J_aload_0, K_al, ld_0, am_go dc_281_26, J_alen, am_go dc_281_27, J_bipush, c8_6, am_go dc_281_29, J_isub, am_go dc_281_30, J_icmp_gt, am_go dc_281_33, am_go dc_281_34, am_go dc_281_36, J_iaload, am_go dc_281_37, c8_63, am_go dc_281_39, J_iand, am_go dc_281_1268, J_iconst, c32_1, am_go dc_281_1269, J_ret_z0 ret_281, J_ret_z1 ret_281, J_ret_zB ret_281, zI_add, zI_mul, zI_lt, zI_le, zI_eq, zI_neg, zI_pos, zI_ne0, zI_gt0, zB_0, lg_cmp_ge, lg_cmp_le, lg_cmp_gt, lg_cmp_lt, lg_cmp_eq, ail_r, abl_r, all_r, ais_r, abs_r, als_r, aal_r, aal_q, aln_r, vrf_s, vrf_n, z32, hHb, hXb, aln_x, hs, hx, ail_x, eq_self, ne_eq, Bool.true_eq_false, Bool.false_eq_true, zB_t, zB_f, i32_m1, i8_m3, i8_m4, List.length_cons, List.length_nil, Nat.reduceAdd, Nat.reduceLT, Nat.reduceLeDiff, Nat.reduceEqDiff, ↓reduceIte, bind_s, if_true, if_false, not_true_eq_false, not_false_eq_true, Nat.zero_add]
  rfl
theorem lw_head (hHb : H b = none) (hXb : X.1 b = some (L, xs)) (hL : L ≤ 3072) (hi : i ≤ 3078) (hx : i + 6 ≤ L) : am_I X (am_f X 1000) 281 23 [some (.ref b), some (.ref o), some (.ref (o + 66)), some (.ref (o + 86)), some (.int (zI i)), v5, v6, v7] [] (H, z) = am_I X (am_f X 1000) 281 40 [some (.ref b), some (.ref o), some (.ref (o + 66)), some (.ref (o + 86)), some (.int (zI i)), v5, v6, v7] [.int (xs i &&& zI 63)] (H, z) := by
  have hs := sub_6 hL hi
  have hx' : ¬ L < i + 6 := by omega
  rw [am_go dc_281_23]
  simp (disch := first | omega | exact Nat.le_of_ble_eq_true rfl) only [own_281, J_iload, K_il, ld_4, am_go dc_281_25, J_aload_0, K_al, ld_0, am_go dc_281_26, J_alen, am_go dc_281_27, J_bipush, c8_6, am_go dc_281_29, J_isub, am_go dc_281_30, J_icmp_gt, am_go dc_281_33, am_go dc_281_34, am_go dc_281_36, J_iaload, am_go dc_281_37, c8_63, am_go dc_281_39, J_iand, zI_add, zI_mul, zI_lt, zI_le, zI_eq, zI_neg, zI_pos, zI_ne0, zI_gt0, zB_0, lg_cmp_ge, lg_cmp_le, lg_cmp_gt, lg_cmp_lt, lg_cmp_eq, ail_r, abl_r, all_r, ais_r, abs_r, als_r, aal_r, aal_q, aln_r, vrf_s, vrf_n, z32, hHb, hXb, aln_x, hs, hx', ail_x, eq_self, ne_eq, Bool.true_eq_false, Bool.false_eq_true, zB_t, zB_f, i32_m1, i8_m3, i8_m4, List.length_cons, List.length_nil, Nat.reduceAdd, Nat.reduceLT, Nat.reduceLeDiff, Nat.reduceEqDiff, ↓reduceIte, bind_s, if_true, if_false, not_true_eq_false, not_false_eq_true, Nat.zero_add]
theorem lw_tail : am_I X (am_f X 1000) 281 1262 [some (.ref b), some (.ref o), some (.ref (o + 66)), some (.ref (o + 86)), some (.int (zI i)), v5, v6, v7] [] (H, z) = am_I X (am_f X 1000) 281 23 [some (.ref b), some (.ref o), some (.ref (o + 66)), some (.ref (o + 86)), some (.int (zI (i + 6))), v5, v6, v7] [] (H, z) := by
  rw [am_go dc_281_1262]
  simp (disch := first | omega | exact Nat.le_of_ble_eq_true rfl) only [own_281, J_iinc, pinc_go, ld_4, c32_6, st1_0, st1_1, st1_s, kl_i, kl_l, kl_r, kl_n, am_go dc_281_1265, J_goto, zI_add, zI_mul, zI_lt, zI_le, zI_eq, zI_neg, zI_pos, zI_ne0, zI_gt0, zB_0, lg_cmp_ge, lg_cmp_le, lg_cmp_gt, lg_cmp_lt, lg_cmp_eq, ail_r, abl_r, all_r, ais_r, abs_r, als_r, aal_r, aal_q, aln_r, vrf_s, vrf_n, z32, eq_self, ne_eq, Bool.true_eq_false, Bool.false_eq_true, zB_t, zB_f, i32_m1, i8_m3, i8_m4, List.length_cons, List.length_nil, Nat.reduceAdd, Nat.reduceLT, Nat.reduceLeDiff, Nat.reduceEqDiff, ↓reduceIte, bind_s, if_true, if_false, not_true_eq_false, not_false_eq_true, Nat.zero_add]
theorem law_l (hXb : X.1 b = some (L, xs)) (hX5 : X.1 X.2 = some (5, am_five)) (hXo : X.2 < o) (hb : b < o) (hL : L ≤ 3072) : ∀ (n i k : Nat) (H : am_H) (z : Nat × Nat) (u : mU) (v5 v6 v7 : Option Value), gK o k H z u → cM H (o + 66) u → mFr u → L < i + 6 + 6 * n → i ≤ 3078 → k + n ≤ 520 → ∃ σe : am_S, am_I X (am_f X 1000) 281 23 [some (.ref b), some (.ref o), some (.ref (o + 66)), some (.ref (o + 86)), some (.int (zI i)), v5, v6, v7] [] (H, z) = some (.inl (some (.int 1)), σe) ∧ σe.2.1 ≤ o + 13400 ∧ σe.2.2 ≤ 2252000 := by
  intro n
  induction n with
  | zero =>
    intro i k H z u v5 v6 v7 hK hM hF h1 h2 h3
    have := hK.room
    exact ⟨(H, z), lw_end (hK.lo b hb) hXb hL h2 (by omega), by show z.1 ≤ _; omega, by show z.2 ≤ _; omega⟩
  | succ n ih =>
    intro i k H z u v5 v6 v7 hK hM hF h1 h2 h3
    by_cases c : i + 6 ≤ L
    · rw [lw_head (hK.lo b hb) hXb hL h2 c]
      cases hx : qIs (xs i &&& zI 63) 35 with
      | false =>
        obtain ⟨σe, e3, q⟩ := ih (i + 6) k H z u v5 v6 v7 hK hM hF (by omega) (by omega) (by omega)
        refine ⟨σe, ?_, q⟩
        rw [am_go dc_281_40, sd_281_40 hx, lw_tail]
        exact e3
      | true =>
      obtain ⟨e1, e2⟩ := qIs_get hx
      generalize wN (xs i &&& zI 63) = d at e1 e2
      rcases (by omega : d = 0 ∨ d = 1 ∨ d = 2 ∨ d = 3 ∨ d = 4 ∨ d = 5 ∨ d = 6 ∨ d = 7 ∨ d = 8 ∨ d = 9 ∨ d = 10 ∨ d = 11 ∨ d = 12 ∨ d = 13 ∨ d = 14 ∨ d = 15 ∨ d = 16 ∨ d = 17 ∨ d = 18 ∨ d = 19 ∨ d = 20 ∨ d = 21 ∨ d = 22 ∨ d = 23 ∨ d = 24 ∨ d = 25 ∨ d = 26 ∨ d = 27 ∨ d = 28 ∨ d = 29 ∨ d = 30 ∨ d = 31 ∨ d = 32 ∨ d = 33 ∨ d = 34) with rfl | rfl | rfl | rfl | rfl | rfl | rfl | rfl | rfl | rfl | rfl | rfl | rfl | rfl | rfl | rfl | rfl | rfl | rfl | rfl | rfl | rfl | rfl | rfl | rfl | rfl | rfl | rfl | rfl | rfl | rfl | rfl | rfl | rfl | rfl
      · obtain ⟨H2, z2, u2, w5, w6, w7, e, g1, g2, g3⟩ := lc_text (X := X) (v5 := v5) (v6 := v6) (v7 := v7) hK hM hF hXb hb c hL
        obtain ⟨σe, e3, q⟩ := ih (i + 6) (k + 1) H2 z2 u2 w5 w6 w7 g1 g2 g3 (by omega) (by omega) (by omega)
        refine ⟨σe, ?_, q⟩
        rw [am_go dc_281_40, e1, sw_281_40_0, e, lw_tail]
        exact e3
      · obtain ⟨H2, z2, u2, w5, w6, w7, e, g1, g2, g3⟩ := lc_box (X := X) (v5 := v5) (v6 := v6) (v7 := v7) hK hM hF hXb hb c hL
        obtain ⟨σe, e3, q⟩ := ih (i + 6) (k + 1) H2 z2 u2 w5 w6 w7 g1 g2 g3 (by omega) (by omega) (by omega)
        refine ⟨σe, ?_, q⟩
        rw [am_go dc_281_40, e1, sw_281_40_1, e, lw_tail]
        exact e3
      · obtain ⟨H2, z2, u2, w5, w6, w7, e, g1, g2, g3⟩ := lc_step (X := X) (v5 := v5) (v6 := v6) (v7 := v7) hK hM hF hXb hb c hL
        obtain ⟨σe, e3, q⟩ := ih (i + 6) (k + 1) H2 z2 u2 w5 w6 w7 g1 g2 g3 (by omega) (by omega) (by omega)
        refine ⟨σe, ?_, q⟩
        rw [am_go dc_281_40, e1, sw_281_40_2, e, lw_tail]
        exact e3
      · obtain ⟨H2, z2, u2, w5, w6, w7, e, g1, g2, g3⟩ := lc_price (X := X) (v5 := v5) (v6 := v6) (v7 := v7) hK hM hF hXb hb c hL
        obtain ⟨σe, e3, q⟩ := ih (i + 6) (k + 1) H2 z2 u2 w5 w6 w7 g1 g2 g3 (by omega) (by omega) (by omega)
        refine ⟨σe, ?_, q⟩
        rw [am_go dc_281_40, e1, sw_281_40_3, e, lw_tail]
        exact e3
      · obtain ⟨H2, z2, u2, w5, w6, w7, e, g1, g2, g3⟩ := lc_bell (X := X) (v5 := v5) (v6 := v6) (v7 := v7) hK hM hF hXb hb c hL
        obtain ⟨σe, e3, q⟩ := ih (i + 6) (k + 1) H2 z2 u2 w5 w6 w7 g1 g2 g3 (by omega) (by omega) (by omega)
        refine ⟨σe, ?_, q⟩
        rw [am_go dc_281_40, e1, sw_281_40_4, e, lw_tail]
        exact e3
      · obtain ⟨H2, z2, u2, w5, w6, w7, e, g1, g2, g3⟩ := lc_is (X := X) (v5 := v5) (v6 := v6) (v7 := v7) hK hM hF hXb hb c hL
        obtain ⟨σe, e3, q⟩ := ih (i + 6) (k + 1) H2 z2 u2 w5 w6 w7 g1 g2 g3 (by omega) (by omega) (by omega)
        refine ⟨σe, ?_, q⟩
        rw [am_go dc_281_40, e1, sw_281_40_5, e, lw_tail]
        exact e3
      · obtain ⟨H2, z2, u2, w5, w6, w7, e, g1, g2, g3⟩ := lc_may (X := X) (v5 := v5) (v6 := v6) (v7 := v7) hK hM hF hXb hb c hL
        obtain ⟨σe, e3, q⟩ := ih (i + 6) (k + 1) H2 z2 u2 w5 w6 w7 g1 g2 g3 (by omega) (by omega) (by omega)
        refine ⟨σe, ?_, q⟩
        rw [am_go dc_281_40, e1, sw_281_40_6, e, lw_tail]
        exact e3
      · obtain ⟨H2, z2, u2, w5, w6, w7, e, g1, g2, g3⟩ := lc_open (X := X) (v5 := v5) (v6 := v6) (v7 := v7) hK hM hF hXb hb c hL
        obtain ⟨σe, e3, q⟩ := ih (i + 6) (k + 1) H2 z2 u2 w5 w6 w7 g1 g2 g3 (by omega) (by omega) (by omega)
        refine ⟨σe, ?_, q⟩
        rw [am_go dc_281_40, e1, sw_281_40_7, e, lw_tail]
        exact e3
      · obtain ⟨H2, z2, u2, w5, w6, w7, e, g1, g2, g3⟩ := lc_peep (X := X) (v5 := v5) (v6 := v6) (v7 := v7) hK hM hF hXb hb c hL
        obtain ⟨σe, e3, q⟩ := ih (i + 6) (k + 1) H2 z2 u2 w5 w6 w7 g1 g2 g3 (by omega) (by omega) (by omega)
        refine ⟨σe, ?_, q⟩
        rw [am_go dc_281_40, e1, sw_281_40_8, e, lw_tail]
        exact e3
      · obtain ⟨H2, z2, u2, w5, w6, w7, e, g1, g2, g3⟩ := lc_undo (X := X) (v5 := v5) (v6 := v6) (v7 := v7) hK hM hF hXb hb c hL
        obtain ⟨σe, e3, q⟩ := ih (i + 6) (k + 1) H2 z2 u2 w5 w6 w7 g1 g2 g3 (by omega) (by omega) (by omega)
        refine ⟨σe, ?_, q⟩
        rw [am_go dc_281_40, e1, sw_281_40_9, e, lw_tail]
        exact e3
      · obtain ⟨H2, z2, u2, w5, w6, w7, e, g1, g2, g3⟩ := lc_at (X := X) (v5 := v5) (v6 := v6) (v7 := v7) hK hM hF hXb hb c hL
        obtain ⟨σe, e3, q⟩ := ih (i + 6) (k + 1) H2 z2 u2 w5 w6 w7 g1 g2 g3 (by omega) (by omega) (by omega)
        refine ⟨σe, ?_, q⟩
        rw [am_go dc_281_40, e1, sw_281_40_10, e, lw_tail]
        exact e3
      · obtain ⟨H2, z2, u2, w5, w6, w7, e, g1, g2, g3⟩ := lc_mass (X := X) (v5 := v5) (v6 := v6) (v7 := v7) hK hM hF hXb hb c hL
        obtain ⟨σe, e3, q⟩ := ih (i + 6) (k + 1) H2 z2 u2 w5 w6 w7 g1 g2 g3 (by omega) (by omega) (by omega)
        refine ⟨σe, ?_, q⟩
        rw [am_go dc_281_40, e1, sw_281_40_11, e, lw_tail]
        exact e3
      · obtain ⟨H2, z2, u2, w5, w6, w7, e, g1, g2, g3⟩ := lc_number (X := X) (v5 := v5) (v6 := v6) (v7 := v7) hK hM hF hXb hb c hL
        obtain ⟨σe, e3, q⟩ := ih (i + 6) (k + 1) H2 z2 u2 w5 w6 w7 g1 g2 g3 (by omega) (by omega) (by omega)
        refine ⟨σe, ?_, q⟩
        rw [am_go dc_281_40, e1, sw_281_40_12, e, lw_tail]
        exact e3
      · obtain ⟨H2, z2, u2, w5, w6, w7, e, g1, g2, g3⟩ := lc_rule (X := X) (v5 := v5) (v6 := v6) (v7 := v7) hK hM hF hXb hb c hL
        obtain ⟨σe, e3, q⟩ := ih (i + 6) (k + 1) H2 z2 u2 w5 w6 w7 g1 g2 g3 (by omega) (by omega) (by omega)
        refine ⟨σe, ?_, q⟩
        rw [am_go dc_281_40, e1, sw_281_40_13, e, lw_tail]
        exact e3
      · obtain ⟨H2, z2, u2, w5, w6, w7, e, g1, g2, g3⟩ := lc_ruleMean (X := X) (v5 := v5) (v6 := v6) (v7 := v7) hK hM hF hXb hb c hL
        obtain ⟨σe, e3, q⟩ := ih (i + 6) (k + 1) H2 z2 u2 w5 w6 w7 g1 g2 g3 (by omega) (by omega) (by omega)
        refine ⟨σe, ?_, q⟩
        rw [am_go dc_281_40, e1, sw_281_40_14, e, lw_tail]
        exact e3
      · obtain ⟨H2, z2, u2, w5, w6, w7, e, g1, g2, g3⟩ := lc_best (X := X) (v5 := v5) (v6 := v6) (v7 := v7) hK hM hF hXb hb c hL
        obtain ⟨σe, e3, q⟩ := ih (i + 6) (k + 1) H2 z2 u2 w5 w6 w7 g1 g2 g3 (by omega) (by omega) (by omega)
        refine ⟨σe, ?_, q⟩
        rw [am_go dc_281_40, e1, sw_281_40_15, e, lw_tail]
        exact e3
      · obtain ⟨H2, z2, u2, w5, w6, w7, e, g1, g2, g3⟩ := lc_bestMean (X := X) (v5 := v5) (v6 := v6) (v7 := v7) hK hM hF hXb hb c hL
        obtain ⟨σe, e3, q⟩ := ih (i + 6) (k + 1) H2 z2 u2 w5 w6 w7 g1 g2 g3 (by omega) (by omega) (by omega)
        refine ⟨σe, ?_, q⟩
        rw [am_go dc_281_40, e1, sw_281_40_16, e, lw_tail]
        exact e3
      · obtain ⟨H2, z2, u2, w5, w6, w7, e, g1, g2, g3⟩ := lc_loss (X := X) (v5 := v5) (v6 := v6) (v7 := v7) hK hM hF hXb hb c hL
        obtain ⟨σe, e3, q⟩ := ih (i + 6) (k + 1) H2 z2 u2 w5 w6 w7 g1 g2 g3 (by omega) (by omega) (by omega)
        refine ⟨σe, ?_, q⟩
        rw [am_go dc_281_40, e1, sw_281_40_17, e, lw_tail]
        exact e3
      · obtain ⟨H2, z2, u2, w5, w6, w7, e, g1, g2, g3⟩ := lc_breach (X := X) (v5 := v5) (v6 := v6) (v7 := v7) hK hM hF hXb hb c hL hX5 hXo
        obtain ⟨σe, e3, q⟩ := ih (i + 6) (k + 1) H2 z2 u2 w5 w6 w7 g1 g2 g3 (by omega) (by omega) (by omega)
        refine ⟨σe, ?_, q⟩
        rw [am_go dc_281_40, e1, sw_281_40_18, e, lw_tail]
        exact e3
      · obtain ⟨H2, z2, u2, w5, w6, w7, e, g1, g2, g3⟩ := lc_likely (X := X) (v5 := v5) (v6 := v6) (v7 := v7) hK hM hF hXb hb c hL
        obtain ⟨σe, e3, q⟩ := ih (i + 6) (k + 1) H2 z2 u2 w5 w6 w7 g1 g2 g3 (by omega) (by omega) (by omega)
        refine ⟨σe, ?_, q⟩
        rw [am_go dc_281_40, e1, sw_281_40_19, e, lw_tail]
        exact e3
      · obtain ⟨H2, z2, u2, w5, w6, w7, e, g1, g2, g3⟩ := lc_edge (X := X) (v5 := v5) (v6 := v6) (v7 := v7) hK hM hF hXb hb c hL
        obtain ⟨σe, e3, q⟩ := ih (i + 6) (k + 1) H2 z2 u2 w5 w6 w7 g1 g2 g3 (by omega) (by omega) (by omega)
        refine ⟨σe, ?_, q⟩
        rw [am_go dc_281_40, e1, sw_281_40_20, e, lw_tail]
        exact e3
      · obtain ⟨H2, z2, u2, w5, w6, w7, e, g1, g2, g3⟩ := lc_setPrice (X := X) (v5 := v5) (v6 := v6) (v7 := v7) hK hM hF hXb hb c hL
        obtain ⟨σe, e3, q⟩ := ih (i + 6) (k + 1) H2 z2 u2 w5 w6 w7 g1 g2 g3 (by omega) (by omega) (by omega)
        refine ⟨σe, ?_, q⟩
        rw [am_go dc_281_40, e1, sw_281_40_21, e, lw_tail]
        exact e3
      · obtain ⟨H2, z2, u2, w5, w6, w7, e, g1, g2, g3⟩ := lc_street (X := X) (v5 := v5) (v6 := v6) (v7 := v7) hK hM hF hXb hb c hL
        obtain ⟨σe, e3, q⟩ := ih (i + 6) (k + 1) H2 z2 u2 w5 w6 w7 g1 g2 g3 (by omega) (by omega) (by omega)
        refine ⟨σe, ?_, q⟩
        rw [am_go dc_281_40, e1, sw_281_40_22, e, lw_tail]
        exact e3
      · obtain ⟨H2, z2, u2, w5, w6, w7, e, g1, g2, g3⟩ := lc_bestStreet (X := X) (v5 := v5) (v6 := v6) (v7 := v7) hK hM hF hXb hb c hL
        obtain ⟨σe, e3, q⟩ := ih (i + 6) (k + 1) H2 z2 u2 w5 w6 w7 g1 g2 g3 (by omega) (by omega) (by omega)
        refine ⟨σe, ?_, q⟩
        rw [am_go dc_281_40, e1, sw_281_40_23, e, lw_tail]
        exact e3
      · obtain ⟨H2, z2, u2, w5, w6, w7, e, g1, g2, g3⟩ := lc_run (X := X) (v5 := v5) (v6 := v6) (v7 := v7) hK hM hF hXb hb c hL
        obtain ⟨σe, e3, q⟩ := ih (i + 6) (k + 1) H2 z2 u2 w5 w6 w7 g1 g2 g3 (by omega) (by omega) (by omega)
        refine ⟨σe, ?_, q⟩
        rw [am_go dc_281_40, e1, sw_281_40_24, e, lw_tail]
        exact e3
      · obtain ⟨H2, z2, u2, w5, w6, w7, e, g1, g2, g3⟩ := lc_image (X := X) (v5 := v5) (v6 := v6) (v7 := v7) hK hM hF hXb hb c hL
        obtain ⟨σe, e3, q⟩ := ih (i + 6) (k + 1) H2 z2 u2 w5 w6 w7 g1 g2 g3 (by omega) (by omega) (by omega)
        refine ⟨σe, ?_, q⟩
        rw [am_go dc_281_40, e1, sw_281_40_25, e, lw_tail]
        exact e3
      · obtain ⟨H2, z2, u2, w5, w6, w7, e, g1, g2, g3⟩ := lc_restore (X := X) (v5 := v5) (v6 := v6) (v7 := v7) hK hM hF hXb hb c hL
        obtain ⟨σe, e3, q⟩ := ih (i + 6) (k + 1) H2 z2 u2 w5 w6 w7 g1 g2 g3 (by omega) (by omega) (by omega)
        refine ⟨σe, ?_, q⟩
        rw [am_go dc_281_40, e1, sw_281_40_26, e, lw_tail]
        exact e3
      · obtain ⟨H2, z2, u2, w5, w6, w7, e, g1, g2, g3⟩ := lc_count (X := X) (v5 := v5) (v6 := v6) (v7 := v7) hK hM hF hXb hb c hL
        obtain ⟨σe, e3, q⟩ := ih (i + 6) (k + 1) H2 z2 u2 w5 w6 w7 g1 g2 g3 (by omega) (by omega) (by omega)
        refine ⟨σe, ?_, q⟩
        rw [am_go dc_281_40, e1, sw_281_40_27, e, lw_tail]
        exact e3
      · obtain ⟨H2, z2, u2, w5, w6, w7, e, g1, g2, g3⟩ := lc_keep (X := X) (v5 := v5) (v6 := v6) (v7 := v7) hK hM hF hXb hb c hL
        obtain ⟨σe, e3, q⟩ := ih (i + 6) (k + 1) H2 z2 u2 w5 w6 w7 g1 g2 g3 (by omega) (by omega) (by omega)
        refine ⟨σe, ?_, q⟩
        rw [am_go dc_281_40, e1, sw_281_40_28, e, lw_tail]
        exact e3
      · obtain ⟨H2, z2, u2, w5, w6, w7, e, g1, g2, g3⟩ := lc_row (X := X) (v5 := v5) (v6 := v6) (v7 := v7) hK hM hF hXb hb c hL
        obtain ⟨σe, e3, q⟩ := ih (i + 6) (k + 1) H2 z2 u2 w5 w6 w7 g1 g2 g3 (by omega) (by omega) (by omega)
        refine ⟨σe, ?_, q⟩
        rw [am_go dc_281_40, e1, sw_281_40_29, e, lw_tail]
        exact e3
      · obtain ⟨H2, z2, u2, w5, w6, w7, e, g1, g2, g3⟩ := lc_put (X := X) (v5 := v5) (v6 := v6) (v7 := v7) hK hM hF hXb hb c hL
        obtain ⟨σe, e3, q⟩ := ih (i + 6) (k + 1) H2 z2 u2 w5 w6 w7 g1 g2 g3 (by omega) (by omega) (by omega)
        refine ⟨σe, ?_, q⟩
        rw [am_go dc_281_40, e1, sw_281_40_30, e, lw_tail]
        exact e3
      · obtain ⟨H2, z2, u2, w5, w6, w7, e, g1, g2, g3⟩ := lc_element (X := X) (v5 := v5) (v6 := v6) (v7 := v7) hK hM hF hXb hb c hL
        obtain ⟨σe, e3, q⟩ := ih (i + 6) (k + 1) H2 z2 u2 w5 w6 w7 g1 g2 g3 (by omega) (by omega) (by omega)
        refine ⟨σe, ?_, q⟩
        rw [am_go dc_281_40, e1, sw_281_40_31, e, lw_tail]
        exact e3
      · obtain ⟨H2, z2, u2, w5, w6, w7, e, g1, g2, g3⟩ := lc_copy (X := X) (v5 := v5) (v6 := v6) (v7 := v7) hK hM hF hXb hb c hL
        obtain ⟨σe, e3, q⟩ := ih (i + 6) (k + 1) H2 z2 u2 w5 w6 w7 g1 g2 g3 (by omega) (by omega) (by omega)
        refine ⟨σe, ?_, q⟩
        rw [am_go dc_281_40, e1, sw_281_40_32, e, lw_tail]
        exact e3
      · obtain ⟨H2, z2, u2, w5, w6, w7, e, g1, g2, g3⟩ := lc_weight (X := X) (v5 := v5) (v6 := v6) (v7 := v7) hK hM hF hXb hb c hL
        obtain ⟨σe, e3, q⟩ := ih (i + 6) (k + 1) H2 z2 u2 w5 w6 w7 g1 g2 g3 (by omega) (by omega) (by omega)
        refine ⟨σe, ?_, q⟩
        rw [am_go dc_281_40, e1, sw_281_40_33, e, lw_tail]
        exact e3
      · obtain ⟨H2, z2, u2, w5, w6, w7, e, g1, g2, g3⟩ := lc_toss (X := X) (v5 := v5) (v6 := v6) (v7 := v7) hK hM hF hXb hb c hL
        obtain ⟨σe, e3, q⟩ := ih (i + 6) (k + 1) H2 z2 u2 w5 w6 w7 g1 g2 g3 (by omega) (by omega) (by omega)
        refine ⟨σe, ?_, q⟩
        rw [am_go dc_281_40, e1, sw_281_40_34, e, lw_tail]
        exact e3
    · have := hK.room
      exact ⟨(H, z), lw_end (hK.lo b hb) hXb hL h2 (by omega), by show z.1 ≤ _; omega, by show z.2 ≤ _; omega⟩
theorem am_law : am_Law := by
  intro b L xs fa n0 hL hne hb hfa
  generalize hX : am_xx b L xs fa = X
  have hXb : X.1 b = some (L, xs) := by
    rw [← hX]
    exact if_pos rfl
  have hX2 : X.2 = fa := by
    rw [← hX]
    rfl
  have hX5 : X.1 X.2 = some (5, am_five) := by
    rw [hX2, ← hX]
    exact (if_neg hne).trans (if_pos rfl)
  obtain ⟨H1, k1, x1, x2, x3, x4, x5, x6, x7, x8, x9, x10⟩ := x_init (X := X) (d := 997) (h := fun _ => none) (o := n0) (s := 13)
  have k1' : am_f X 1000 0 [.ref n0] (am_up (fun _ => none) n0 (.inr (0, am_df 0)), (n0 + 1, 13)) = _ := k1
  have k2 : am_f X 1000 192 [.ref (n0 + 66)] (am_up H1 (n0 + 66) (.inr (12, am_df 12)), (n0 + 67, 1694)) = _ := r_init (X := X) (d := 999) (h := H1) (o := n0 + 66) (s := 1694)
  have df0 : (am_df 0).length = 13 := rfl
  have df12 : (am_df 12).length = 37 := rfl
  generalize hH : am_up (mH H1 (n0 + 66) mU0) (n0 + 86) (.inl (.long, 1, .inr (.inl (fun _ => 0)))) = H
  have fr : ∀ x, x < n0 + 66 ∨ n0 + 87 ≤ x → H x = H1 x := fun x hx => by
    rw [← hH, up_x (by omega), mH_x (by omega)]
  have hK : gK n0 0 H (n0 + 87, 87454) mU0 := g_start (x1.fr (fun x hx => fr x (by unfold xK at hx; omega))) (x2.fr (fun x q1 q2 => fr x (by omega))) (x3.fr (fun x q1 q2 => fr x (by omega))) (x4.fr (fun x q1 q2 => fr x (by omega))) (x5.fr (fun x q1 q2 => fr x (by omega))) (x6.fr (fun x q1 q2 => fr x (by omega))) (x7.fr (fun x q1 q2 => fr x (by omega))) (x8.fr (fun x hx => fr x (by
    rcases hx with q | q | q
    · unfold lK at q
      omega
    · have : x = n0 + 42 := q
      omega
    · have : x = n0 + 43 := q
      omega))) (x9.fr (fun x hx => fr x (by
    rcases hx with q | q | q
    · unfold wK at q
      omega
    · have : x = n0 + 51 := q
      omega
    · have : x = n0 + 52 := q
      omega))) ⟨_, by rw [← hH]; exact up_r⟩ (fun x hx => by rw [fr x (by omega), x10 x (by omega)]) (fun x hx => by rw [fr x (by omega), x10 x (by omega)]) (by omega)
  have hM : cM H (n0 + 66) mU0 := cM.fr cM_is (fun x q1 q2 => by rw [← hH]; exact up_x (by omega))
  obtain ⟨σe, e, q1, q2⟩ := law_l (X := X) (o := n0) hXb hX5 (by rw [hX2]; exact hfa) hb hL 512 0 0 H (n0 + 87, 87454) mU0 none none none hK hM (Or.inr rfl) (by omega) (by omega) (by omega)
  refine ⟨σe, ?_, by omega, by omega⟩
  refine Eq.trans ?_ e
  show am_I X (am_f X 1000) 281 0 [some (.ref b), none, none, none, none, none, none, none] [] (fun _ => none, n0, 0) = _
  rw [am_go dc_281_0]
  simp (disch := first | omega | exact Nat.le_of_ble_eq_true rfl | exact up_r) only [own_281, am_go dc_281_3, J_dup_i, J_dup_r, am_go dc_281_4, cn_13_20 own_281, JR_0, am_go dc_281_7, J_astore_1, st1_0, st1_1, st1_s, kl_i, kl_l, kl_r, kl_n, am_go dc_281_8, am_go dc_281_11, am_go dc_281_12, cn_13_23 own_281, am_go dc_281_15, J_astore_2, am_go dc_281_16, J_iconst, c32_1, am_go dc_281_17, am_go dc_281_19, J_astore_3, am_go dc_281_20, c32_0, am_go dc_281_21, J_istore, zI_add, zI_mul, zI_lt, zI_le, zI_eq, zI_neg, zI_pos, zI_ne0, zI_gt0, zB_0, lg_cmp_ge, lg_cmp_le, lg_cmp_gt, lg_cmp_lt, lg_cmp_eq, ail_r, abl_r, all_r, ais_r, abs_r, als_r, aal_r, aal_q, aln_r, vrf_s, vrf_n, z32, k1', k2, hH, df0, df12, J_newc (t := 281) (k := 8) (ci := 0) (by decide +kernel), J_newc (t := 281) (k := 21) (ci := 12) (by decide +kernel), J_nal, Nat.add_assoc, eq_self, ne_eq, Bool.true_eq_false, Bool.false_eq_true, zB_t, zB_f, i32_m1, i8_m3, i8_m4, List.length_cons, List.length_nil, Nat.reduceAdd, Nat.reduceLT, Nat.reduceLeDiff, Nat.reduceEqDiff, ↓reduceIte, bind_s, if_true, if_false, not_true_eq_false, not_false_eq_true, Nat.zero_add]
theorem i_vc : Claimed_1_1 ∧ Claimed_1_2 := am_claims am_law
end LX
