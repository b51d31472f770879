/-! the face: texts -/
section FI
variable {X : am_X} {o k : Nat} {H : am_H} {z : Nat × Nat} {u : mU}
theorem sMk_v {S : Nat → Int32} {D : pD} : sMk S D 116 = zI (wN (S 116) + 1) ∧ (∀ b, b < 5 → sMk S D (90 + b) = zI 0) ∧ sMk S D 115 = zI 0 := by
  unfold sMk
  rw [fo_updr]
  refine ⟨?_, fun b hb => ?_, upd_s⟩
  · rw [upd_o (by omega)]
    unfold updr
    rw [if_neg (by omega), upd_s]
  · rw [upd_o (by omega)]
    unfold updr
    rw [if_pos (by omega)]
theorem sLp_pl {F n : Nat} {s : Nat → Int32} : ∀ (f p c : Nat) (S : Nat → Int32), S 116 = zI (wN (S 116)) → wN (S 116) ≤ 5 → (sLp F s n f p c S).1 = none → (∀ j, j ≠ 117 → (sLp F s n f p c S).2.2 j = S j) ∨ (wN (S 116) < wN ((sLp F s n f p c S).2.2 116) ∧ (∀ b, b < 5 → (sLp F s n f p c S).2.2 (90 + b) = zI 0) ∧ (sLp F s n f p c S).2.2 115 = zI 0)
  | 0, p, c, S, _, _, _ => Or.inl (fun _ _ => rfl)
  | f + 1, p, c, S, h1, h2, h3 => by
    unfold sLp at h3 ⊢
    by_cases c1 : p < n
    · rw [if_pos c1] at h3 ⊢
      by_cases c2 : s p = zI 98
      · rw [if_pos c2] at h3 ⊢
        by_cases c3 : sOk S (pSt F s p).2.2 = true
        · rw [if_pos c3] at h3 ⊢
          have hm : wN (S 116) ≠ 5 := fun e => by
            unfold sOk at c3
            rw [Bool.and_eq_true, Bool.not_eq_true', decide_eq_false_iff_not] at c3
            exact c3.1 (by rw [h1, e])
          obtain ⟨v1, v2, v3⟩ := sMk_v (S := S) (D := (pSt F s p).2.2)
          have w1 : wN (sMk S (pSt F s p).2.2 116) = wN (S 116) + 1 := by
            rw [v1, wN_zI (by omega)]
          rcases sLp_pl f _ _ _ (by rw [w1]; exact v1) (by omega) h3 with q | ⟨q1, q2⟩
          · refine Or.inr ⟨?_, fun b hb => ?_, ?_⟩
            · rw [q 116 (by omega), w1]
              omega
            · rw [q _ (by omega)]
              exact v2 b hb
            · rw [q _ (by omega)]
              exact v3
          · refine Or.inr ⟨?_, q2⟩
            omega
        · rw [if_neg c3] at h3
          exact absurd h3 (by simp)
      · rw [if_neg c2] at h3 ⊢
        by_cases c3 : (pSt F s p).2.2.2.2.2.2.2.2.1 ≤ zI 99
        · rw [if_pos c3] at h3 ⊢
          have w1 : upd S 117 (pSt F s p).2.2.2.2.2.2.2.2.1 116 = S 116 := upd_o (by omega)
          rcases sLp_pl f _ _ _ (by rw [w1]; exact h1) (by rw [w1]; exact h2) h3 with q | ⟨q1, q2⟩
          · exact Or.inl (fun j hj => (q j hj).trans (upd_o hj))
          · rw [w1] at q1
            exact Or.inr ⟨q1, q2⟩
        · rw [if_neg c3] at h3
          exact absurd h3 (by simp)
    · rw [if_neg c1]
      exact Or.inl (fun _ _ => rfl)
theorem tTx_f {F n : Nat} {s S : Nat → Int32} (h : (tTx F s n S).2.2 = false) : (tTx F s n S).2.1 = S := by
  unfold tTx at *
  cases e : pFm F s n F 0 with
  | some q => rfl
  | none =>
    rw [e] at h
    simp only at h ⊢
    cases e2 : (sLp F s n F 0 0 S).1 with
    | some q => rfl
    | none =>
      rw [e2] at h
      exact absurd h (by simp)
theorem tTx_t {F n : Nat} {s S : Nat → Int32} (hS : S 116 = zI (wN (S 116))) (h5 : wN (S 116) ≤ 5) (h : (tTx F s n S).2.2 = true) : (∀ j, j ≠ 117 → (tTx F s n S).2.1 j = S j) ∨ (wN (S 116) < wN ((tTx F s n S).2.1 116) ∧ (∀ b, b < 5 → (tTx F s n S).2.1 (90 + b) = zI 0) ∧ (tTx F s n S).2.1 115 = zI 0) := by
  unfold tTx at *
  cases e : pFm F s n F 0 with
  | some q =>
    rw [e] at h
    exact absurd h (by simp)
  | none =>
    rw [e] at h
    simp only at h ⊢
    cases e2 : (sLp F s n F 0 0 S).1 with
    | some q =>
      rw [e2] at h
      exact absurd h (by simp)
    | none => exact sLp_pl _ _ _ _ hS h5 e2
theorem rI_z {S : Nat → Int32} (hG : qG S) (h0 : ∀ b, b < 5 → S (90 + b) = zI 0) (ha : S 115 = zI 0) : rI S := by
  refine ⟨hG, 0, by omega, ha, fun b hb => ?_⟩
  rw [h0 b hb]
  exact ⟨⟨0, h0 b hb, by omega⟩, fun _ => rfl, fun _ => ⟨fun q => absurd q (by decide), fun q => by rw [wN_zI (by omega)] at q; omega⟩⟩
theorem pS_z {P : mU} {S : Nat → Int32} (h0 : ∀ b, b < 5 → S (90 + b) = zI 0) (ha : S 115 = zI 0) : pS (pCl P) S := by
  refine ⟨fun b hb => ?_, ha.symm, ⟨0, ha, by omega⟩, fun j hj => ?_⟩
  · rw [h0 b hb]
    refine ⟨?_, fun q => by rw [wN_zI (by omega)] at q; omega⟩
    show updr (P.1 0) 0 5 (fun _ => zI 0) b = _
    unfold updr
    rw [if_pos (by omega)]
    rfl
  · rw [ha, wN_zI (by omega)] at hj
    omega
theorem f_text (hK : gK o k H z u) (hM : cM H (o + 66) u) (hF : mFr u) {x : Int32} : gR X o k 6 194 [.int x] H z u := by
  obtain ⟨C, D, T, P, TI, PI, lu, m, a, N, hX, hgT, hgI, hgE, hgL, hgS, hma, haa, hCC, hz0, hno, hup⟩ := g_up hK
  have hTN := hgT.1
  have hP := hgT.2.1
  have hpS := hgT.2.2.1
  have hI := hgT.2.2.2
  have hS := hTN.1
  have hT := hS.iT
  have hG := hI.1
  have hL := hI.pl
  have hq := hI.qw
  have hm5 := hG.m.2
  have hsz := hS.sz
  have hbl := hS.bell
  have ks : am_f X 999 7 [.int x] (H, z) = _ := x_isShelf (X := X) (d := 998)
  cases hx : qIs x 8 with
  | false =>
    rw [hx] at ks
    have cc : am_f X 1000 6 [.ref o, .int x] (H, z) = some (.inl (some (.int (-1))), (H, z)) := by
      show am_f X (999 + 1) 6 _ _ = _
      rw [fU_6]
      simp (disch := first | omega | exact Nat.le_of_ble_eq_true rfl | exact hX.ci | exact hT.ci | exact hP.ci | exact hX.ci | exact hT.ci | exact hP.ci | (refine xF_lt ?_; omega) | (refine tF_lt ?_; omega) | (refine pF_lt ?_; omega)) only [own_6, am_go dc_6_0, J_iload_1, K_il, ld_1, am_go dc_6_1, cs_0_73 own_6, JR_v, JR_0, JR_ite, am_go dc_6_4, J_if_ne, am_go dc_6_7, J_iconst, i32_m1, am_go dc_6_8, J_ret_i ret_6, am_go dc_6_9, J_aload_0, K_al, ld_0, am_go dc_6_10, J_getfield, gf_r, fk_0_52_0, am_go dc_6_13, am_go dc_6_14, J_iaload, am_go dc_6_15, am_go dc_6_18, J_bipush, i8_m11, am_go dc_6_20, am_go dc_6_21, am_go dc_6_22, am_go dc_6_23, cv_0_77_0 own_6, ci1_r, am_go dc_6_26, am_go dc_6_29, i8_m12, am_go dc_6_31, am_go dc_6_32, am_go dc_6_33, fk_0_12_0, am_go dc_6_36, fk_0_80_1, am_go dc_6_39, J_istore_2, st1_0, st1_1, st1_s, kl_i, kl_l, kl_r, kl_n, am_go dc_6_40, am_go dc_6_41, fk_0_32_0, am_go dc_6_44, am_go dc_6_45, fk_0_64_0, am_go dc_6_48, am_go dc_6_49, J_aaload, am_go dc_6_50, am_go dc_6_51, fk_0_70_0, am_go dc_6_54, am_go dc_6_55, am_go dc_6_56, am_go dc_6_57, am_go dc_6_60, cv_0_84_3 own_6, am_go dc_6_63, J_istore_3, am_go dc_6_64, J_iload_3, ld_3, am_go dc_6_65, J_if_le, am_go dc_6_68, am_go dc_6_69, fk_0_41_0, am_go dc_6_72, cv_0_88_4 own_6, am_go dc_6_75, am_go dc_6_76, am_go dc_6_79, am_go dc_6_82, J_iload_2, ld_2, am_go dc_6_83, J_icmp_le, am_go dc_6_86, am_go dc_6_87, fk_0_19_0, am_go dc_6_90, cv_0_91_2 own_6, am_go dc_6_93, am_go dc_6_94, xg_8, xg_0, tg_1, xg_5, xg_10, xg_12, xg_6, xg_1, hX.c0, hX.c53, hX.c54, hX.c55, hX.c64, hX.c65, hT.c0, hT.c1, hT.c2, hT.c3, hT.c4, hT.c5, hT.c6, hT.c7, hP.c0, hP.c1, hP.c2, hP.c3, hP.c4, zI_add, zI_mul, zI_lt, zI_le, zI_eq, zI_neg, zI_pos, zI_ne0, zI_gt0, zB_0, lg_cmp_ge, lg_cmp_le, lg_cmp_gt, lg_cmp_lt, lg_cmp_eq, ail_r, abl_r, all_r, ais_r, abs_r, als_r, aal_r, aal_q, aln_r, vrf_s, vrf_n, z32, ks, Bool.true_eq_false, Bool.false_eq_true, zB_t, zB_f, i8_m3, i8_m4, rwF_v, List.length_cons, List.length_nil, Nat.reduceAdd, Nat.reduceLT, Nat.reduceLeDiff, Nat.reduceEqDiff, ↓reduceIte, bind_s, if_true, if_false, not_true_eq_false, not_false_eq_true, Nat.zero_add]
    have cr : am_f X 1000 194 [.ref (o + 66), .int x] (mH H (o + 66) u, z) = _ := r_text_n (X := X) (d := 996) (h := H) (z := z) hx
    exact gR_id hK hM cc cr mQ.rf hF
  | true =>
    obtain ⟨e1, e2⟩ := qIs_get hx
    generalize wN x = e at *
    subst e1
    rw [hx] at ks
    have kb : am_f X 999 8 [.ref o, .int (zI e)] (H, z) = _ := x_isByte (X := X) (d := 998) hX e2
    obtain ⟨⟨v5, v6, v7, c5, c6, ⟨s, hs2, hs⟩, v8⟩, -⟩ := hgS e e2
    rw [v5, v6] at kb
    by_cases c1 : u.1 5 e = zI 2 ∧ u.1 6 e = 0
    · have hwr : qWr u e (zI 0) = 0 := by
        unfold qWr
        rw [c1.1, c1.2]
        rfl
      have zne2 : ¬ zI 2 = 0 := by decide
      rw [c1.1, c1.2, decide_eq_true rfl, decide_eq_true rfl, Bool.and_self] at kb
      have hsg : sg (D.1.1 (56 + e)) s = mBy u e s := by
        funext q
        unfold mBy sg
        by_cases c : q < s
        · rw [if_pos c, if_pos c, v8 q (by omega)]
        · rw [if_neg c, if_neg c]
      obtain ⟨eu, r0, TD, hE, hTD, hw0⟩ := hgE
      obtain ⟨H', z', T', kr0, fr, ⟨zz1, zz2, zz3⟩, hno', ⟨eu', hE'⟩, ⟨TD', hTD', hw0'⟩, hTN', ht, hf, hmm⟩ := e_read (X := X) (d := 992) (F := 200) (n := s) (S := u.1 1) (r := o + 56 + e) (s := D.1.1 (56 + e)) (z := z) (by omega) hs2 hE hTD hw0 hTN (hX.cr e2) (by omega) (by omega) (by omega) (fun x hx => by have := hCC x hx; omega) (fun x hx => (hCC x hx).2) hno (by omega) (by omega)
      rw [hsg] at kr0 hTN' ht hf hmm
      have kr : am_f X 999 9 [.ref (o + 27), .ref (o + 56 + e), .int (zI s), .ref (o + 1)] (H, z) = _ := kr0
      have frp : ∀ x, x < z.1 → ((x < o + 1 ∨ o + 9 ≤ x) ∧ (x < o + 27 ∨ o + 40 ≤ x)) → H' x = H x := fun x q1 q2 => fr x q1 (by omega) (by omega)
      have hX' : isX H' o D := hX.fr (fun x hx => frp x (by unfold xK at hx; omega) (by unfold xK at hx; omega))
      cases tb : (tTx 200 (mBy u e s) s (u.1 1)).2.2 with
      | false =>
        obtain ⟨u2, cr0, ct1, ct2, ct3, -, -⟩ := r_text_y (X := X) (d := 994) (F := 200) (h := H') (o := o + 66) (z := z') (u := u) (e := e) (n := s) (by omega) (by omega) hG hI.hw e2 hwr hs hs2
        obtain ⟨hTT, hneg⟩ := hf tb
        rw [hTT] at hTN'
        rw [tTx_f tb] at hTN' ct2
        rw [if_neg (by rw [tb]; exact Bool.false_ne_true)] at ct3
        have hT1 := hTN'.1.iT
        have hle : (tTx 200 (mBy u e s) s (u.1 1)).1 ≤ 0 := Int32.le_of_lt hneg
        have cc : am_f X 1000 6 [.ref o, .int (zI e)] (H, z) = some (.inl (some (.int (tTx 200 (mBy u e s) s (u.1 1)).1)), (H', z')) := by
          show am_f X (999 + 1) 6 _ _ = _
          rw [fU_6]
          simp (disch := first | omega | exact Nat.le_of_ble_eq_true rfl | exact hX.ci | exact hT.ci | exact hP.ci | exact hX.ci | exact hT.ci | exact hP.ci | (refine xF_lt ?_; omega) | (refine tF_lt ?_; omega) | (refine pF_lt ?_; omega) | exact hE.ci | exact hX'.ci | exact hT1.ci) only [own_6, am_go dc_6_0, J_iload_1, K_il, ld_1, am_go dc_6_1, cs_0_73 own_6, JR_v, JR_0, JR_ite, am_go dc_6_4, J_if_ne, am_go dc_6_7, J_iconst, i32_m1, am_go dc_6_8, J_ret_i ret_6, am_go dc_6_9, J_aload_0, K_al, ld_0, am_go dc_6_10, J_getfield, gf_r, fk_0_52_0, am_go dc_6_13, am_go dc_6_14, J_iaload, am_go dc_6_15, am_go dc_6_18, J_bipush, i8_m11, am_go dc_6_20, am_go dc_6_21, am_go dc_6_22, am_go dc_6_23, cv_0_77_0 own_6, ci1_r, am_go dc_6_26, am_go dc_6_29, i8_m12, am_go dc_6_31, am_go dc_6_32, am_go dc_6_33, fk_0_12_0, am_go dc_6_36, fk_0_80_1, am_go dc_6_39, J_istore_2, st1_0, st1_1, st1_s, kl_i, kl_l, kl_r, kl_n, am_go dc_6_40, am_go dc_6_41, fk_0_32_0, am_go dc_6_44, am_go dc_6_45, fk_0_64_0, am_go dc_6_48, am_go dc_6_49, J_aaload, am_go dc_6_50, am_go dc_6_51, fk_0_70_0, am_go dc_6_54, am_go dc_6_55, am_go dc_6_56, am_go dc_6_57, am_go dc_6_60, cv_0_84_3 own_6, am_go dc_6_63, J_istore_3, am_go dc_6_64, J_iload_3, ld_3, am_go dc_6_65, J_if_le, am_go dc_6_68, am_go dc_6_69, fk_0_41_0, am_go dc_6_72, cv_0_88_4 own_6, am_go dc_6_75, am_go dc_6_76, am_go dc_6_79, am_go dc_6_82, J_iload_2, ld_2, am_go dc_6_83, J_icmp_le, am_go dc_6_86, am_go dc_6_87, fk_0_19_0, am_go dc_6_90, cv_0_91_2 own_6, am_go dc_6_93, am_go dc_6_94, xg_8, xg_0, tg_1, xg_5, xg_10, xg_12, xg_6, xg_1, hX.c0, hX.c53, hX.c54, hX.c55, hX.c64, hX.c65, hT.c0, hT.c1, hT.c2, hT.c3, hT.c4, hT.c5, hT.c6, hT.c7, hP.c0, hP.c1, hP.c2, hP.c3, hP.c4, zI_add, zI_mul, zI_lt, zI_le, zI_eq, zI_neg, zI_pos, zI_ne0, zI_gt0, zB_0, lg_cmp_ge, lg_cmp_le, lg_cmp_gt, lg_cmp_lt, lg_cmp_eq, ail_r, abl_r, all_r, ais_r, abs_r, als_r, aal_r, aal_q, aln_r, vrf_s, vrf_n, z32, ks, v5, c1.1, kb, hsz, v7, hs, kr, hX'.c0, hT1.c0, hle, zne2, Nat.le_refl, Bool.true_eq_false, Bool.false_eq_true, zB_t, zB_f, i8_m3, i8_m4, rwF_v, List.length_cons, List.length_nil, Nat.reduceAdd, Nat.reduceLT, Nat.reduceLeDiff, Nat.reduceEqDiff, ↓reduceIte, bind_s, if_true, if_false, not_true_eq_false, not_false_eq_true, Nat.zero_add]
        have fr1 := frp
        have hn1 := hno'
        have hC1 : ∀ x, C x → H' x = H x := fun x hx => fr1 x (hCC x hx).2 (by have := hCC x hx; omega)
        obtain ⟨g1, g2⟩ := hup (H') (z') (fun x => C x ∨ (z.1 ≤ x ∧ x < z'.1)) (D) (T) (P) (TI) (PI) (lu) (u) (fun x q1 q2 => fr1 x q1 (by omega)) (fun x q1 => fr1 x (by omega) (by omega)) (hX.fr (fun x hx => fr1 x (by unfold xK at hx; omega) (by unfold xK at hx; omega))) ⟨hTN', hP.fr (fun x q1 q2 => fr1 x (by omega) (by omega)), hpS, hI⟩ (hgI.fr (fun x q1 q2 => fr1 x (by omega) (by omega)) hC1 (fun _ h => Or.inl h)) ⟨eu', _, TD', hE', hTD', hw0'⟩ (hgL.fr (fun x hx => fr1 x (by omega) (by omega))) (hgS.fr hC1 (fun _ h => Or.inl h)) (fun x hx => hx) zz1 (by omega) (by omega) hn1
        exact gR_mk hM cc g1 g2 cr0 ⟨fun j hj => by
          rcases hj with hj | hj | hj
          · subst hj
            exact ct2
          · exact (ct1.1 j (by omega) (by omega) (by omega) (by omega) (by omega)).trans (rfl)
          · exact (ct1.1 j (by omega) (by omega) (by omega) (by omega) (by omega)).trans (rfl), ct1.2.2 10 (by omega)⟩ (mFr_cg hF (fun j q1 q2 => ct1.1 j (by omega) (by omega) (by omega) (by omega) (by omega)) ct1.2.1 ct3 (fun j _ => by rw [ct2]))
      | true =>
        have hpl := tTx_t hG.m.1 hm5 tb
        obtain ⟨c, hc1, hc2⟩ := ht tb
        have hgt : ¬ zI (c + 1) ≤ 0 := by
          rw [show (0 : Int32) = zI 0 from rfl, zI_le (by omega) (by omega)]
          omega
        have cL2 := hgL.no (H' := H') (fun x hx => frp x (by omega) (by omega))
        obtain ⟨H1, kf0, f1, cL1⟩ := l_forget (X := X) (d := 998) (z := z') cL2
        have kf : am_f X 999 45 [.ref (o + 40)] (H', z') = _ := kf0
        have lci : am_ci1 ((H', z').1 (o + 40)) = some 4 := by
          have := lH_ci (h := H') (l := o + 40) (D := (lu, (o + 1, m, a, N))) (z := z')
          rw [cL2.2] at this
          exact this
        have hX1 : isX H1 o D := hX'.fr (fun x hx => f1 x (by unfold xK at hx; omega))
        have hTN1 : tSN (fun x => C x ∨ (z.1 ≤ x ∧ x < z'.1)) H1 (o + 1) T' (tTx 200 (mBy u e s) s (u.1 1)).2.1 := hTN'.fr (fun x q1 q2 => f1 x (by omega)) (fun x hx => f1 x (by rcases hx with hx | hx; (have := hCC x hx; omega); omega)) (fun _ h => h)
        have hP1 : isP H1 (o + 9) P := hP.fr (fun x q1 q2 => by
          rw [f1 x (by omega)]
          exact frp x (by omega) (by omega))
        have hT1 := hTN1.1.iT
        have hsz1 := hTN1.1.sz
        have hm51 := hTN1.1.m5
        have fr0 : ∀ x, x < z.1 → ((x < o + 1 ∨ o + 9 ≤ x) ∧ (x < o + 27 ∨ o + 41 ≤ x)) → H1 x = H x := fun x q1 q2 => by
          rw [f1 x (by omega), frp x q1 (by omega)]
        rw [hc1] at kr
        obtain ⟨u2, cr0, ct1, ct2, ct3, -, -⟩ := r_text_y (X := X) (d := 994) (F := 200) (h := H1) (o := o + 66) (z := z') (u := u) (e := e) (n := s) (by omega) (by omega) hG hI.hw e2 hwr hs hs2
        rw [if_pos tb] at ct3
        rw [hc1] at cr0
        generalize hS' : (tTx 200 (mBy u e s) s (u.1 1)).2.1 = S' at *
        rcases hpl with q | q
        · have hle : wN (S' 116) ≤ wN (u.1 1 116) := by
            rw [q 116 (by omega)]
            exact Nat.le_refl _
          have cc : am_f X 1000 6 [.ref o, .int (zI e)] (H, z) = some (.inl (some (.int (zI (c + 1)))), (H1, z')) := by
            show am_f X (999 + 1) 6 _ _ = _
            rw [fU_6]
            simp (disch := first | omega | exact Nat.le_of_ble_eq_true rfl | exact hX.ci | exact hT.ci | exact hP.ci | exact hX.ci | exact hT.ci | exact hP.ci | (refine xF_lt ?_; omega) | (refine tF_lt ?_; omega) | (refine pF_lt ?_; omega) | exact hE.ci | exact lci | exact hX'.ci | exact hX1.ci | exact hP1.ci | exact hT1.ci) only [own_6, am_go dc_6_0, J_iload_1, K_il, ld_1, am_go dc_6_1, cs_0_73 own_6, JR_v, JR_0, JR_ite, am_go dc_6_4, J_if_ne, am_go dc_6_7, J_iconst, i32_m1, am_go dc_6_8, J_ret_i ret_6, am_go dc_6_9, J_aload_0, K_al, ld_0, am_go dc_6_10, J_getfield, gf_r, fk_0_52_0, am_go dc_6_13, am_go dc_6_14, J_iaload, am_go dc_6_15, am_go dc_6_18, J_bipush, i8_m11, am_go dc_6_20, am_go dc_6_21, am_go dc_6_22, am_go dc_6_23, cv_0_77_0 own_6, ci1_r, am_go dc_6_26, am_go dc_6_29, i8_m12, am_go dc_6_31, am_go dc_6_32, am_go dc_6_33, fk_0_12_0, am_go dc_6_36, fk_0_80_1, am_go dc_6_39, J_istore_2, st1_0, st1_1, st1_s, kl_i, kl_l, kl_r, kl_n, am_go dc_6_40, am_go dc_6_41, fk_0_32_0, am_go dc_6_44, am_go dc_6_45, fk_0_64_0, am_go dc_6_48, am_go dc_6_49, J_aaload, am_go dc_6_50, am_go dc_6_51, fk_0_70_0, am_go dc_6_54, am_go dc_6_55, am_go dc_6_56, am_go dc_6_57, am_go dc_6_60, cv_0_84_3 own_6, am_go dc_6_63, J_istore_3, am_go dc_6_64, J_iload_3, ld_3, am_go dc_6_65, J_if_le, am_go dc_6_68, am_go dc_6_69, fk_0_41_0, am_go dc_6_72, cv_0_88_4 own_6, am_go dc_6_75, am_go dc_6_76, am_go dc_6_79, am_go dc_6_82, J_iload_2, ld_2, am_go dc_6_83, J_icmp_le, am_go dc_6_86, am_go dc_6_87, fk_0_19_0, am_go dc_6_90, cv_0_91_2 own_6, am_go dc_6_93, am_go dc_6_94, xg_8, xg_0, tg_1, xg_5, xg_10, xg_12, xg_6, xg_1, hX.c0, hX.c53, hX.c54, hX.c55, hX.c64, hX.c65, hT.c0, hT.c1, hT.c2, hT.c3, hT.c4, hT.c5, hT.c6, hT.c7, hP.c0, hP.c1, hP.c2, hP.c3, hP.c4, zI_add, zI_mul, zI_lt, zI_le, zI_eq, zI_neg, zI_pos, zI_ne0, zI_gt0, zB_0, lg_cmp_ge, lg_cmp_le, lg_cmp_gt, lg_cmp_lt, lg_cmp_eq, ail_r, abl_r, all_r, ais_r, abs_r, als_r, aal_r, aal_q, aln_r, vrf_s, vrf_n, z32, ks, v5, c1.1, kb, hsz, v7, hs, kr, hX'.c0, hT1.c0, hgt, zne2, kf, hX1.c0, hsz1, hle, Bool.true_eq_false, Bool.false_eq_true, zB_t, zB_f, i8_m3, i8_m4, rwF_v, List.length_cons, List.length_nil, Nat.reduceAdd, Nat.reduceLT, Nat.reduceLeDiff, Nat.reduceEqDiff, ↓reduceIte, bind_s, if_true, if_false, not_true_eq_false, not_false_eq_true, Nat.zero_add]
          have fr1 : ∀ x, x < z.1 → ((x < o + 1 ∨ o + 9 ≤ x) ∧ (x < o + 27 ∨ o + 41 ≤ x)) → H1 x = H x := fr0
          have fr3 : ∀ x, x ≠ o + 40 → True → H1 x = H' x := fun x q1 _ => f1 x q1
          have hTN2 := hTN1
          have cL3 := cL1
          have hn1 : ∀ x, z'.1 ≤ x → H1 x = none := fun x hx => by
            rw [f1 x (by omega)]
            exact hno' x hx
          have hC1 : ∀ x, C x → H1 x = H x := fun x hx => fr1 x (hCC x hx).2 (by have := hCC x hx; omega)
          obtain ⟨g1, g2⟩ := hup (H1) (z') (fun x => C x ∨ (z.1 ≤ x ∧ x < z'.1)) (D) (T') (P) (TI) (PI) (mI lu 2 (zI 0)) (mS u 1 S') (fun x q1 q2 => fr1 x q1 (by omega)) (fun x q1 => fr1 x (by omega) (by omega)) (hX.fr (fun x hx => fr1 x (by unfold xK at hx; omega) (by unfold xK at hx; omega))) ⟨hTN2, hP1, pS_cg (fun j q1 q2 => q j (by omega)) hpS, ⟨hTN1.1.2.1, by
            obtain ⟨-, a', h10, ha', hk⟩ := hI
            exact ⟨a', h10, (q 115 (by omega)).trans ha', hOk_cg a' _ _ (fun j hj => q j (by omega)) hk⟩⟩⟩ (hgI.fr (fun x q1 q2 => fr1 x (by omega) (by omega)) hC1 (fun _ h => Or.inl h)) (gE.fr (H := H') ⟨eu', _, TD', hE', hTD', hw0'⟩ (fun x q1 q2 => fr3 x (by omega) trivial)) ⟨cL3, hgL.2.1, Or.inl rfl⟩ (hgS.fr hC1 (fun _ h => Or.inl h)) (fun x hx => hx) zz1 (by omega) (by omega) hn1
          exact gR_mk hM cc g1 g2 cr0 ⟨fun j hj => by
            rcases hj with hj | hj | hj
            · subst hj
              exact ct2
            · exact (ct1.1 j (by omega) (by omega) (by omega) (by omega) (by omega)).trans ((if_neg (by omega)).symm)
            · exact (ct1.1 j (by omega) (by omega) (by omega) (by omega) (by omega)).trans ((if_neg (by omega)).symm), ct1.2.2 10 (by omega)⟩ (Or.inr ct3)
        · have hle : ¬ wN (S' 116) ≤ wN (u.1 1 116) := by omega
          have kcl : am_f X 999 46 [.ref (o + 9)] (H1, z') = some (.inl none, (pH H1 (o + 9) (pCl P), z')) := by
            have := p_clear (X := X) (d := 997) (h := H1) (p := o + 9) (P := P) (z := z')
            rw [show pH H1 (o + 9) P = H1 from ov_eq hP1] at this
            exact this
          have cc : am_f X 1000 6 [.ref o, .int (zI e)] (H, z) = some (.inl (some (.int (zI (c + 1)))), (pH H1 (o + 9) (pCl P), z')) := by
            show am_f X (999 + 1) 6 _ _ = _
            rw [fU_6]
            simp (disch := first | omega | exact Nat.le_of_ble_eq_true rfl | exact hX.ci | exact hT.ci | exact hP.ci | exact hX.ci | exact hT.ci | exact hP.ci | (refine xF_lt ?_; omega) | (refine tF_lt ?_; omega) | (refine pF_lt ?_; omega) | exact hE.ci | exact lci | exact hX'.ci | exact hX1.ci | exact hP1.ci | exact hT1.ci) only [own_6, am_go dc_6_0, J_iload_1, K_il, ld_1, am_go dc_6_1, cs_0_73 own_6, JR_v, JR_0, JR_ite, am_go dc_6_4, J_if_ne, am_go dc_6_7, J_iconst, i32_m1, am_go dc_6_8, J_ret_i ret_6, am_go dc_6_9, J_aload_0, K_al, ld_0, am_go dc_6_10, J_getfield, gf_r, fk_0_52_0, am_go dc_6_13, am_go dc_6_14, J_iaload, am_go dc_6_15, am_go dc_6_18, J_bipush, i8_m11, am_go dc_6_20, am_go dc_6_21, am_go dc_6_22, am_go dc_6_23, cv_0_77_0 own_6, ci1_r, am_go dc_6_26, am_go dc_6_29, i8_m12, am_go dc_6_31, am_go dc_6_32, am_go dc_6_33, fk_0_12_0, am_go dc_6_36, fk_0_80_1, am_go dc_6_39, J_istore_2, st1_0, st1_1, st1_s, kl_i, kl_l, kl_r, kl_n, am_go dc_6_40, am_go dc_6_41, fk_0_32_0, am_go dc_6_44, am_go dc_6_45, fk_0_64_0, am_go dc_6_48, am_go dc_6_49, J_aaload, am_go dc_6_50, am_go dc_6_51, fk_0_70_0, am_go dc_6_54, am_go dc_6_55, am_go dc_6_56, am_go dc_6_57, am_go dc_6_60, cv_0_84_3 own_6, am_go dc_6_63, J_istore_3, am_go dc_6_64, J_iload_3, ld_3, am_go dc_6_65, J_if_le, am_go dc_6_68, am_go dc_6_69, fk_0_41_0, am_go dc_6_72, cv_0_88_4 own_6, am_go dc_6_75, am_go dc_6_76, am_go dc_6_79, am_go dc_6_82, J_iload_2, ld_2, am_go dc_6_83, J_icmp_le, am_go dc_6_86, am_go dc_6_87, fk_0_19_0, am_go dc_6_90, cv_0_91_2 own_6, am_go dc_6_93, am_go dc_6_94, xg_8, xg_0, tg_1, xg_5, xg_10, xg_12, xg_6, xg_1, hX.c0, hX.c53, hX.c54, hX.c55, hX.c64, hX.c65, hT.c0, hT.c1, hT.c2, hT.c3, hT.c4, hT.c5, hT.c6, hT.c7, hP.c0, hP.c1, hP.c2, hP.c3, hP.c4, zI_add, zI_mul, zI_lt, zI_le, zI_eq, zI_neg, zI_pos, zI_ne0, zI_gt0, zB_0, lg_cmp_ge, lg_cmp_le, lg_cmp_gt, lg_cmp_lt, lg_cmp_eq, ail_r, abl_r, all_r, ais_r, abs_r, als_r, aal_r, aal_q, aln_r, vrf_s, vrf_n, z32, ks, v5, c1.1, kb, hsz, v7, hs, kr, hX'.c0, hT1.c0, hgt, zne2, kf, hX1.c0, hsz1, hle, kcl, Bool.true_eq_false, Bool.false_eq_true, zB_t, zB_f, i8_m3, i8_m4, rwF_v, List.length_cons, List.length_nil, Nat.reduceAdd, Nat.reduceLT, Nat.reduceLeDiff, Nat.reduceEqDiff, ↓reduceIte, bind_s, if_true, if_false, not_true_eq_false, not_false_eq_true, Nat.zero_add]
          have fr1 : ∀ x, x < z.1 → ((x < o + 1 ∨ o + 9 ≤ x) ∧ (x < o + 9 ∨ o + 14 ≤ x) ∧ (x < o + 27 ∨ o + 41 ≤ x)) → pH H1 (o + 9) (pCl P) x = H x := fun x q1 q2 => by
            rw [pH_x (by omega)]
            exact fr0 x q1 (by omega)
          have fr3 : ∀ x, x ≠ o + 40 → (x < o + 9 ∨ o + 14 ≤ x) → pH H1 (o + 9) (pCl P) x = H' x := fun x q1 q2 => by
            rw [pH_x (by omega)]
            exact f1 x q1
          have hTN2 := hTN1.fr (H' := pH H1 (o + 9) (pCl P)) (fun x q1 q2 => pH_x (by omega)) (fun x hx => pH_x (by rcases hx with hx | hx; (have := hCC x hx; omega); omega)) (fun _ h => h)
          have cL3 := cL1.fr (H' := pH H1 (o + 9) (pCl P)) (fun x hx => pH_x (by
            rcases hx with hx | hx | hx
            · unfold lK at hx
              omega
            · have : x = m := hx
              omega
            · have : x = a := hx
              omega))
          have hn1 : ∀ x, z'.1 ≤ x → pH H1 (o + 9) (pCl P) x = none := fun x hx => by
            rw [pH_x (by omega), f1 x (by omega)]
            exact hno' x hx
          have hC1 : ∀ x, C x → pH H1 (o + 9) (pCl P) x = H x := fun x hx => fr1 x (hCC x hx).2 (by have := hCC x hx; omega)
          obtain ⟨g1, g2⟩ := hup (pH H1 (o + 9) (pCl P)) (z') (fun x => C x ∨ (z.1 ≤ x ∧ x < z'.1)) (D) (T') (pCl P) (TI) (PI) (mI lu 2 (zI 0)) (mS u 1 S') (fun x q1 q2 => fr1 x q1 (by omega)) (fun x q1 => fr1 x (by omega) (by omega)) (hX.fr (fun x hx => fr1 x (by unfold xK at hx; omega) (by unfold xK at hx; omega))) ⟨hTN2, pH_is, pS_z q.2.1 q.2.2, rI_z hTN1.1.2.1 q.2.1 q.2.2⟩ (hgI.fr (fun x q1 q2 => fr1 x (by omega) (by omega)) hC1 (fun _ h => Or.inl h)) (gE.fr (H := H') ⟨eu', _, TD', hE', hTD', hw0'⟩ (fun x q1 q2 => fr3 x (by omega) (by omega))) ⟨cL3, hgL.2.1, Or.inl rfl⟩ (hgS.fr hC1 (fun _ h => Or.inl h)) (fun x hx => hx) zz1 (by omega) (by omega) hn1
          obtain ⟨u2, cr1, ct1, ct2, ct3, -, -⟩ := r_text_y (X := X) (d := 994) (F := 200) (h := pH H1 (o + 9) (pCl P)) (o := o + 66) (z := z') (u := u) (e := e) (n := s) (by omega) (by omega) hG hI.hw e2 hwr hs hs2
          rw [if_pos tb] at ct3
          rw [hc1] at cr1
          rw [hS'] at ct2
          exact gR_mk hM cc g1 g2 cr1 ⟨fun j hj => by
            rcases hj with hj | hj | hj
            · subst hj
              exact ct2
            · exact (ct1.1 j (by omega) (by omega) (by omega) (by omega) (by omega)).trans ((if_neg (by omega)).symm)
            · exact (ct1.1 j (by omega) (by omega) (by omega) (by omega) (by omega)).trans ((if_neg (by omega)).symm), ct1.2.2 10 (by omega)⟩ (Or.inr ct3)
    · have kf : (decide (u.1 5 e = zI 2) && decide (u.1 6 e = 0)) = false := by
        cases h : (decide (u.1 5 e = zI 2) && decide (u.1 6 e = 0)) with
        | false => rfl
        | true =>
          rw [Bool.and_eq_true, decide_eq_true_eq, decide_eq_true_eq] at h
          exact absurd h c1
      rw [kf] at kb
      by_cases c0 : u.1 5 e = 0
      · have hwr : qWr u e (zI 0) = -11 := by
          unfold qWr
          rw [if_pos c0]
        have cc : am_f X 1000 6 [.ref o, .int (zI e)] (H, z) = some (.inl (some (.int (-11))), (H, z)) := by
          show am_f X (999 + 1) 6 _ _ = _
          rw [fU_6]
          simp (disch := first | omega | exact Nat.le_of_ble_eq_true rfl | exact hX.ci | exact hT.ci | exact hP.ci | exact hX.ci | exact hT.ci | exact hP.ci | (refine xF_lt ?_; omega) | (refine tF_lt ?_; omega) | (refine pF_lt ?_; omega)) only [own_6, am_go dc_6_0, J_iload_1, K_il, ld_1, am_go dc_6_1, cs_0_73 own_6, JR_v, JR_0, JR_ite, am_go dc_6_4, J_if_ne, am_go dc_6_7, J_iconst, i32_m1, am_go dc_6_8, J_ret_i ret_6, am_go dc_6_9, J_aload_0, K_al, ld_0, am_go dc_6_10, J_getfield, gf_r, fk_0_52_0, am_go dc_6_13, am_go dc_6_14, J_iaload, am_go dc_6_15, am_go dc_6_18, J_bipush, i8_m11, am_go dc_6_20, am_go dc_6_21, am_go dc_6_22, am_go dc_6_23, cv_0_77_0 own_6, ci1_r, am_go dc_6_26, am_go dc_6_29, i8_m12, am_go dc_6_31, am_go dc_6_32, am_go dc_6_33, fk_0_12_0, am_go dc_6_36, fk_0_80_1, am_go dc_6_39, J_istore_2, st1_0, st1_1, st1_s, kl_i, kl_l, kl_r, kl_n, am_go dc_6_40, am_go dc_6_41, fk_0_32_0, am_go dc_6_44, am_go dc_6_45, fk_0_64_0, am_go dc_6_48, am_go dc_6_49, J_aaload, am_go dc_6_50, am_go dc_6_51, fk_0_70_0, am_go dc_6_54, am_go dc_6_55, am_go dc_6_56, am_go dc_6_57, am_go dc_6_60, cv_0_84_3 own_6, am_go dc_6_63, J_istore_3, am_go dc_6_64, J_iload_3, ld_3, am_go dc_6_65, J_if_le, am_go dc_6_68, am_go dc_6_69, fk_0_41_0, am_go dc_6_72, cv_0_88_4 own_6, am_go dc_6_75, am_go dc_6_76, am_go dc_6_79, am_go dc_6_82, J_iload_2, ld_2, am_go dc_6_83, J_icmp_le, am_go dc_6_86, am_go dc_6_87, fk_0_19_0, am_go dc_6_90, cv_0_91_2 own_6, am_go dc_6_93, am_go dc_6_94, xg_8, xg_0, tg_1, xg_5, xg_10, xg_12, xg_6, xg_1, hX.c0, hX.c53, hX.c54, hX.c55, hX.c64, hX.c65, hT.c0, hT.c1, hT.c2, hT.c3, hT.c4, hT.c5, hT.c6, hT.c7, hP.c0, hP.c1, hP.c2, hP.c3, hP.c4, zI_add, zI_mul, zI_lt, zI_le, zI_eq, zI_neg, zI_pos, zI_ne0, zI_gt0, zB_0, lg_cmp_ge, lg_cmp_le, lg_cmp_gt, lg_cmp_lt, lg_cmp_eq, ail_r, abl_r, all_r, ais_r, abs_r, als_r, aal_r, aal_q, aln_r, vrf_s, vrf_n, z32, ks, v5, c0, Bool.true_eq_false, Bool.false_eq_true, zB_t, zB_f, i8_m3, i8_m4, rwF_v, List.length_cons, List.length_nil, Nat.reduceAdd, Nat.reduceLT, Nat.reduceLeDiff, Nat.reduceEqDiff, ↓reduceIte, bind_s, if_true, if_false, not_true_eq_false, not_false_eq_true, Nat.zero_add]
        have cr : am_f X 1000 194 [.ref (o + 66), .int (zI e)] (mH H (o + 66) u, z) = _ := r_text_m (X := X) (d := 996) (h := H) (z := z) e2 (by rw [hwr]; decide)
        rw [hwr] at cr
        exact gR_id hK hM cc cr mQ.rf hF
      · have hwr : qWr u e (zI 0) = -12 := by
          unfold qWr
          rw [if_neg c0]
          by_cases q : u.1 5 e = zI 2
          · rw [if_pos q, if_neg (by decide), if_neg (show ¬ u.1 6 e = zI 0 from fun h => c1 ⟨q, h⟩)]
          · rw [if_neg q]
        have cc : am_f X 1000 6 [.ref o, .int (zI e)] (H, z) = some (.inl (some (.int (-12))), (H, z)) := by
          show am_f X (999 + 1) 6 _ _ = _
          rw [fU_6]
          simp (disch := first | omega | exact Nat.le_of_ble_eq_true rfl | exact hX.ci | exact hT.ci | exact hP.ci | exact hX.ci | exact hT.ci | exact hP.ci | (refine xF_lt ?_; omega) | (refine tF_lt ?_; omega) | (refine pF_lt ?_; omega)) only [own_6, am_go dc_6_0, J_iload_1, K_il, ld_1, am_go dc_6_1, cs_0_73 own_6, JR_v, JR_0, JR_ite, am_go dc_6_4, J_if_ne, am_go dc_6_7, J_iconst, i32_m1, am_go dc_6_8, J_ret_i ret_6, am_go dc_6_9, J_aload_0, K_al, ld_0, am_go dc_6_10, J_getfield, gf_r, fk_0_52_0, am_go dc_6_13, am_go dc_6_14, J_iaload, am_go dc_6_15, am_go dc_6_18, J_bipush, i8_m11, am_go dc_6_20, am_go dc_6_21, am_go dc_6_22, am_go dc_6_23, cv_0_77_0 own_6, ci1_r, am_go dc_6_26, am_go dc_6_29, i8_m12, am_go dc_6_31, am_go dc_6_32, am_go dc_6_33, fk_0_12_0, am_go dc_6_36, fk_0_80_1, am_go dc_6_39, J_istore_2, st1_0, st1_1, st1_s, kl_i, kl_l, kl_r, kl_n, am_go dc_6_40, am_go dc_6_41, fk_0_32_0, am_go dc_6_44, am_go dc_6_45, fk_0_64_0, am_go dc_6_48, am_go dc_6_49, J_aaload, am_go dc_6_50, am_go dc_6_51, fk_0_70_0, am_go dc_6_54, am_go dc_6_55, am_go dc_6_56, am_go dc_6_57, am_go dc_6_60, cv_0_84_3 own_6, am_go dc_6_63, J_istore_3, am_go dc_6_64, J_iload_3, ld_3, am_go dc_6_65, J_if_le, am_go dc_6_68, am_go dc_6_69, fk_0_41_0, am_go dc_6_72, cv_0_88_4 own_6, am_go dc_6_75, am_go dc_6_76, am_go dc_6_79, am_go dc_6_82, J_iload_2, ld_2, am_go dc_6_83, J_icmp_le, am_go dc_6_86, am_go dc_6_87, fk_0_19_0, am_go dc_6_90, cv_0_91_2 own_6, am_go dc_6_93, am_go dc_6_94, xg_8, xg_0, tg_1, xg_5, xg_10, xg_12, xg_6, xg_1, hX.c0, hX.c53, hX.c54, hX.c55, hX.c64, hX.c65, hT.c0, hT.c1, hT.c2, hT.c3, hT.c4, hT.c5, hT.c6, hT.c7, hP.c0, hP.c1, hP.c2, hP.c3, hP.c4, zI_add, zI_mul, zI_lt, zI_le, zI_eq, zI_neg, zI_pos, zI_ne0, zI_gt0, zB_0, lg_cmp_ge, lg_cmp_le, lg_cmp_gt, lg_cmp_lt, lg_cmp_eq, ail_r, abl_r, all_r, ais_r, abs_r, als_r, aal_r, aal_q, aln_r, vrf_s, vrf_n, z32, ks, v5, c0, kb, Bool.true_eq_false, Bool.false_eq_true, zB_t, zB_f, i8_m3, i8_m4, rwF_v, List.length_cons, List.length_nil, Nat.reduceAdd, Nat.reduceLT, Nat.reduceLeDiff, Nat.reduceEqDiff, ↓reduceIte, bind_s, if_true, if_false, not_true_eq_false, not_false_eq_true, Nat.zero_add]
        have cr : am_f X 1000 194 [.ref (o + 66), .int (zI e)] (mH H (o + 66) u, z) = _ := r_text_m (X := X) (d := 996) (h := H) (z := z) e2 (by rw [hwr]; decide)
        rw [hwr] at cr
        exact gR_id hK hM cc cr mQ.rf hF
end FI
