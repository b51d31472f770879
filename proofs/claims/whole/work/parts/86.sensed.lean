/-! Reader: form, sense -/
def fV (x : Option Nat) : Int32 := match x with
  | some q => zI q
  | none => -4
def sV (x : Option Nat) (c : Nat) : Int32 := match x with
  | some q => -2000 - zI q
  | none => zI c
theorem nb_x {p : Int32} {n : Nat} {ch ch' w w' : Nat → Int32} (hc : ∀ i, i < n → ch i = ch' i) (hw : ∀ i, i < n → w i = w' i) : nbT p n ch w = nbT p n ch' w' ∧ nbF p n ch w = nbF p n ch' w' := by
  have : nbR p n ch w = nbR p n ch' w' := by
    unfold nbR
    refine fo_congr n 0 _ (fun j _ hj s => ?_)
    unfold q_nb
    rw [hc j (by omega), hw j (by omega)]
  unfold nbT nbF nbC
  rw [this]
  exact ⟨rfl, rfl⟩
section RF
variable {X : am_X} {h : am_H} {e r d n : Nat} {u : mU} {z : Nat × Nat} {s : Nat → Int32}
theorem e_form_l {F : Nat} (hF : n < F) (hB : eBy h e r s) (hn : n ≤ 120) : ∀ (f p i : Nat) (u : mU), eSt u n true p → p ≤ n → n < p + f → i ≤ p → (i = 0 ∨ p < n) → ∃ u', am_I X (am_f X (d + 4)) 10 12 [some (.ref e), some (.int (zI i))] [] (eH h e (u, r), z) = some (.inl (some (.int (fV (pFm F (sg s n) n f p)))), (eH h e (u', r), z)) ∧ ∃ b q, eSt u' n b q ∧ (pFm F (sg s n) n f p = none → b = true) := by
  intro f
  induction f with
  | zero => intro p i u hS hp hf; omega
  | succ f ih =>
    intro p i u hS hp hf hi hip
    obtain ⟨u1, n1, s1, -, -⟩ := e_stmt (X := X) (d := d) (z := z) hF hS hB hn hp
    have hk := pSt_k (F := F) (s := sg s n) (n := n) (fun q hq => sg_D hq) (fun q c hc hq => sg_c hc hq) hp
    obtain ⟨hA, hA2, hb⟩ := hS
    have g0 : am_I X (am_f X (d + 4)) 10 12 [some (.ref e), some (.int (zI i))] [] (eH h e (u, r), z) = am_I X (am_f X (d + 4)) 10 39 [some (.ref e), some (.int (zI i))] [] (eH h e (u1, r), z) := by
      rw [am_go dc_10_12]
      by_cases c0 : i = 0
      · subst c0
        simp (disch := first | omega | exact Nat.le_of_ble_eq_true rfl | exact eH_ci | (refine eF_lt ?_; omega)) only [own_10, am_go dc_10_0, J_aload_0, K_al, ld_0, am_go dc_10_1, J_iconst, c32_0, am_go dc_10_2, J_putfield_i, J_putfield_l, J_putfield_r, ini_10, pk_3_46_3, am_go dc_10_5, am_go dc_10_6, am_go dc_10_7, pk_3_49_3, am_go dc_10_10, am_go dc_10_11, J_istore_1, st1_0, st1_1, st1_s, kl_i, kl_l, kl_r, kl_n, J_iload_1, K_il, ld_1, am_go dc_10_13, J_if_eq, am_go dc_10_16, am_go dc_10_17, am_go dc_10_18, J_getfield, gf_r, fk_3_31_3, am_go dc_10_21, J_icmp_ge, am_go dc_10_24, am_go dc_10_25, fk_3_46_3, am_go dc_10_28, am_go dc_10_29, am_go dc_10_32, am_go dc_10_35, am_go dc_10_36, cv_3_53_3 own_10, JR_v, JR_0, JR_ite, ci1_r, am_go dc_10_40, fk_3_49_3, am_go dc_10_43, am_go dc_10_46, am_go dc_10_47, am_go dc_10_50, J_ret_i ret_10, am_go dc_10_51, J_iinc, pinc_go, c32_1, am_go dc_10_54, J_goto, am_go dc_10_57, J_bipush, i8_m4, am_go dc_10_59, ep_2, pf_i pk_3_46_3 rfl, ep_3, pf_z0 pk_3_49_3 rfl, pf_z1 pk_3_49_3 rfl, pf_zB pk_3_49_3 rfl, eg_1, eg_2, eg_3, eH_0, eH_10, eH_11, eH_12, ew_10, ew_11, ew_12, zI_add, zI_mul, zI_lt, zI_le, zI_eq, zI_neg, zI_pos, zI_ne0, zI_gt0, zB_0, lg_cmp_ge, lg_cmp_le, lg_cmp_gt, lg_cmp_lt, lg_cmp_eq, ail_r, abl_r, all_r, ais_r, abs_r, als_r, aal_r, aal_q, aln_r, vrf_s, vrf_n, z32, hA, hA2, hb, n1, List.length_cons, List.length_nil, Nat.reduceAdd, Nat.reduceLT, Nat.reduceLeDiff, Nat.reduceEqDiff, ↓reduceIte, bind_s, if_true, if_false, not_true_eq_false, not_false_eq_true, Nat.zero_add]
      · have c1 : ¬ n ≤ i := by omega
        have c2 : ¬ n ≤ p := by omega
        simp (disch := first | omega | exact Nat.le_of_ble_eq_true rfl | exact eH_ci | (refine eF_lt ?_; omega)) only [own_10, am_go dc_10_0, J_aload_0, K_al, ld_0, am_go dc_10_1, J_iconst, c32_0, am_go dc_10_2, J_putfield_i, J_putfield_l, J_putfield_r, ini_10, pk_3_46_3, am_go dc_10_5, am_go dc_10_6, am_go dc_10_7, pk_3_49_3, am_go dc_10_10, am_go dc_10_11, J_istore_1, st1_0, st1_1, st1_s, kl_i, kl_l, kl_r, kl_n, J_iload_1, K_il, ld_1, am_go dc_10_13, J_if_eq, am_go dc_10_16, am_go dc_10_17, am_go dc_10_18, J_getfield, gf_r, fk_3_31_3, am_go dc_10_21, J_icmp_ge, am_go dc_10_24, am_go dc_10_25, fk_3_46_3, am_go dc_10_28, am_go dc_10_29, am_go dc_10_32, am_go dc_10_35, am_go dc_10_36, cv_3_53_3 own_10, JR_v, JR_0, JR_ite, ci1_r, am_go dc_10_40, fk_3_49_3, am_go dc_10_43, am_go dc_10_46, am_go dc_10_47, am_go dc_10_50, J_ret_i ret_10, am_go dc_10_51, J_iinc, pinc_go, c32_1, am_go dc_10_54, J_goto, am_go dc_10_57, J_bipush, i8_m4, am_go dc_10_59, ep_2, pf_i pk_3_46_3 rfl, ep_3, pf_z0 pk_3_49_3 rfl, pf_z1 pk_3_49_3 rfl, pf_zB pk_3_49_3 rfl, eg_1, eg_2, eg_3, eH_0, eH_10, eH_11, eH_12, ew_10, ew_11, ew_12, zI_add, zI_mul, zI_lt, zI_le, zI_eq, zI_neg, zI_pos, zI_ne0, zI_gt0, zB_0, lg_cmp_ge, lg_cmp_le, lg_cmp_gt, lg_cmp_lt, lg_cmp_eq, ail_r, abl_r, all_r, ais_r, abs_r, als_r, aal_r, aal_q, aln_r, vrf_s, vrf_n, z32, hA, hA2, hb, n1, c0, c1, c2, List.length_cons, List.length_nil, Nat.reduceAdd, Nat.reduceLT, Nat.reduceLeDiff, Nat.reduceEqDiff, ↓reduceIte, bind_s, if_true, if_false, not_true_eq_false, not_false_eq_true, Nat.zero_add]
    obtain ⟨t1, t2, t3⟩ := s1
    unfold pFm
    cases hk1 : (pSt F (sg s n) p).1 with
    | false =>
      rw [hk1] at t3
      rw [if_neg (by simp)]
      refine ⟨u1, g0.trans ?_, false, _, ⟨t1, t2, t3⟩, fun q => by cases q⟩
      rw [eOk_f] at t3
      rw [am_go dc_10_39]
      simp (disch := first | omega | exact Nat.le_of_ble_eq_true rfl | exact eH_ci | (refine eF_lt ?_; omega)) only [own_10, am_go dc_10_0, J_aload_0, K_al, ld_0, am_go dc_10_1, J_iconst, c32_0, am_go dc_10_2, J_putfield_i, J_putfield_l, J_putfield_r, ini_10, pk_3_46_3, am_go dc_10_5, am_go dc_10_6, am_go dc_10_7, pk_3_49_3, am_go dc_10_10, am_go dc_10_11, J_istore_1, st1_0, st1_1, st1_s, kl_i, kl_l, kl_r, kl_n, J_iload_1, K_il, ld_1, am_go dc_10_13, J_if_eq, am_go dc_10_16, am_go dc_10_17, am_go dc_10_18, J_getfield, gf_r, fk_3_31_3, am_go dc_10_21, J_icmp_ge, am_go dc_10_24, am_go dc_10_25, fk_3_46_3, am_go dc_10_28, am_go dc_10_29, am_go dc_10_32, am_go dc_10_35, am_go dc_10_36, cv_3_53_3 own_10, JR_v, JR_0, JR_ite, ci1_r, am_go dc_10_40, fk_3_49_3, am_go dc_10_43, am_go dc_10_46, am_go dc_10_47, am_go dc_10_50, J_ret_i ret_10, am_go dc_10_51, J_iinc, pinc_go, c32_1, am_go dc_10_54, J_goto, am_go dc_10_57, J_bipush, i8_m4, am_go dc_10_59, ep_2, pf_i pk_3_46_3 rfl, ep_3, pf_z0 pk_3_49_3 rfl, pf_z1 pk_3_49_3 rfl, pf_zB pk_3_49_3 rfl, eg_1, eg_2, eg_3, eH_0, eH_10, eH_11, eH_12, ew_10, ew_11, ew_12, zI_add, zI_mul, zI_lt, zI_le, zI_eq, zI_neg, zI_pos, zI_ne0, zI_gt0, zB_0, lg_cmp_ge, lg_cmp_le, lg_cmp_gt, lg_cmp_lt, lg_cmp_eq, ail_r, abl_r, all_r, ais_r, abs_r, als_r, aal_r, aal_q, aln_r, vrf_s, vrf_n, z32, t1, t2, t3, List.length_cons, List.length_nil, Nat.reduceAdd, Nat.reduceLT, Nat.reduceLeDiff, Nat.reduceEqDiff, ↓reduceIte, bind_s, if_true, if_false, not_true_eq_false, not_false_eq_true, Nat.zero_add]
      all_goals rfl
    | true =>
      rw [hk1] at t3
      obtain ⟨k1, k2⟩ := hk.2.2 hk1
      have k3 := hk.2.1
      rw [if_pos rfl]
      have g1 : am_I X (am_f X (d + 4)) 10 39 [some (.ref e), some (.int (zI i))] [] (eH h e (u1, r), z) = am_I X (am_f X (d + 4)) 10 12 [some (.ref e), some (.int (zI (i + 1)))] [] (eH h e (u1, r), z) := by
        have t3' := t3
        rw [eOk_t] at t3'
        rw [am_go dc_10_39]
        simp (disch := first | omega | exact Nat.le_of_ble_eq_true rfl | exact eH_ci | (refine eF_lt ?_; omega)) only [own_10, am_go dc_10_0, J_aload_0, K_al, ld_0, am_go dc_10_1, J_iconst, c32_0, am_go dc_10_2, J_putfield_i, J_putfield_l, J_putfield_r, ini_10, pk_3_46_3, am_go dc_10_5, am_go dc_10_6, am_go dc_10_7, pk_3_49_3, am_go dc_10_10, am_go dc_10_11, J_istore_1, st1_0, st1_1, st1_s, kl_i, kl_l, kl_r, kl_n, J_iload_1, K_il, ld_1, am_go dc_10_13, J_if_eq, am_go dc_10_16, am_go dc_10_17, am_go dc_10_18, J_getfield, gf_r, fk_3_31_3, am_go dc_10_21, J_icmp_ge, am_go dc_10_24, am_go dc_10_25, fk_3_46_3, am_go dc_10_28, am_go dc_10_29, am_go dc_10_32, am_go dc_10_35, am_go dc_10_36, cv_3_53_3 own_10, JR_v, JR_0, JR_ite, ci1_r, am_go dc_10_40, fk_3_49_3, am_go dc_10_43, am_go dc_10_46, am_go dc_10_47, am_go dc_10_50, J_ret_i ret_10, am_go dc_10_51, J_iinc, pinc_go, c32_1, am_go dc_10_54, J_goto, am_go dc_10_57, J_bipush, i8_m4, am_go dc_10_59, ep_2, pf_i pk_3_46_3 rfl, ep_3, pf_z0 pk_3_49_3 rfl, pf_z1 pk_3_49_3 rfl, pf_zB pk_3_49_3 rfl, eg_1, eg_2, eg_3, eH_0, eH_10, eH_11, eH_12, ew_10, ew_11, ew_12, zI_add, zI_mul, zI_lt, zI_le, zI_eq, zI_neg, zI_pos, zI_ne0, zI_gt0, zB_0, lg_cmp_ge, lg_cmp_le, lg_cmp_gt, lg_cmp_lt, lg_cmp_eq, ail_r, abl_r, all_r, ais_r, abs_r, als_r, aal_r, aal_q, aln_r, vrf_s, vrf_n, z32, t1, t3', List.length_cons, List.length_nil, Nat.reduceAdd, Nat.reduceLT, Nat.reduceLeDiff, Nat.reduceEqDiff, ↓reduceIte, bind_s, if_true, if_false, not_true_eq_false, not_false_eq_true, Nat.zero_add]
      by_cases c : (pSt F (sg s n) p).2.1 < n
      · rw [if_pos c]
        obtain ⟨u', w1, w2⟩ := ih (pSt F (sg s n) p).2.1 (i + 1) u1 ⟨t1, t2, t3⟩ k3 (by omega) (by omega) (Or.inr c)
        exact ⟨u', (g0.trans g1).trans w1, w2⟩
      · rw [if_neg c]
        refine ⟨u1, (g0.trans g1).trans ?_, true, _, ⟨t1, t2, t3⟩, fun _ => rfl⟩
        have c0 : ¬ i + 1 = 0 := by omega
        have c2 : n ≤ (pSt F (sg s n) p).2.1 := by omega
        rw [am_go dc_10_12]
        by_cases c1 : n ≤ i + 1
        · simp (disch := first | omega | exact Nat.le_of_ble_eq_true rfl | exact eH_ci | (refine eF_lt ?_; omega)) only [own_10, am_go dc_10_0, J_aload_0, K_al, ld_0, am_go dc_10_1, J_iconst, c32_0, am_go dc_10_2, J_putfield_i, J_putfield_l, J_putfield_r, ini_10, pk_3_46_3, am_go dc_10_5, am_go dc_10_6, am_go dc_10_7, pk_3_49_3, am_go dc_10_10, am_go dc_10_11, J_istore_1, st1_0, st1_1, st1_s, kl_i, kl_l, kl_r, kl_n, J_iload_1, K_il, ld_1, am_go dc_10_13, J_if_eq, am_go dc_10_16, am_go dc_10_17, am_go dc_10_18, J_getfield, gf_r, fk_3_31_3, am_go dc_10_21, J_icmp_ge, am_go dc_10_24, am_go dc_10_25, fk_3_46_3, am_go dc_10_28, am_go dc_10_29, am_go dc_10_32, am_go dc_10_35, am_go dc_10_36, cv_3_53_3 own_10, JR_v, JR_0, JR_ite, ci1_r, am_go dc_10_40, fk_3_49_3, am_go dc_10_43, am_go dc_10_46, am_go dc_10_47, am_go dc_10_50, J_ret_i ret_10, am_go dc_10_51, J_iinc, pinc_go, c32_1, am_go dc_10_54, J_goto, am_go dc_10_57, J_bipush, i8_m4, am_go dc_10_59, ep_2, pf_i pk_3_46_3 rfl, ep_3, pf_z0 pk_3_49_3 rfl, pf_z1 pk_3_49_3 rfl, pf_zB pk_3_49_3 rfl, eg_1, eg_2, eg_3, eH_0, eH_10, eH_11, eH_12, ew_10, ew_11, ew_12, zI_add, zI_mul, zI_lt, zI_le, zI_eq, zI_neg, zI_pos, zI_ne0, zI_gt0, zB_0, lg_cmp_ge, lg_cmp_le, lg_cmp_gt, lg_cmp_lt, lg_cmp_eq, ail_r, abl_r, all_r, ais_r, abs_r, als_r, aal_r, aal_q, aln_r, vrf_s, vrf_n, z32, t1, t2, c0, c1, c2, List.length_cons, List.length_nil, Nat.reduceAdd, Nat.reduceLT, Nat.reduceLeDiff, Nat.reduceEqDiff, ↓reduceIte, bind_s, if_true, if_false, not_true_eq_false, not_false_eq_true, Nat.zero_add]
          all_goals rfl
        · simp (disch := first | omega | exact Nat.le_of_ble_eq_true rfl | exact eH_ci | (refine eF_lt ?_; omega)) only [own_10, am_go dc_10_0, J_aload_0, K_al, ld_0, am_go dc_10_1, J_iconst, c32_0, am_go dc_10_2, J_putfield_i, J_putfield_l, J_putfield_r, ini_10, pk_3_46_3, am_go dc_10_5, am_go dc_10_6, am_go dc_10_7, pk_3_49_3, am_go dc_10_10, am_go dc_10_11, J_istore_1, st1_0, st1_1, st1_s, kl_i, kl_l, kl_r, kl_n, J_iload_1, K_il, ld_1, am_go dc_10_13, J_if_eq, am_go dc_10_16, am_go dc_10_17, am_go dc_10_18, J_getfield, gf_r, fk_3_31_3, am_go dc_10_21, J_icmp_ge, am_go dc_10_24, am_go dc_10_25, fk_3_46_3, am_go dc_10_28, am_go dc_10_29, am_go dc_10_32, am_go dc_10_35, am_go dc_10_36, cv_3_53_3 own_10, JR_v, JR_0, JR_ite, ci1_r, am_go dc_10_40, fk_3_49_3, am_go dc_10_43, am_go dc_10_46, am_go dc_10_47, am_go dc_10_50, J_ret_i ret_10, am_go dc_10_51, J_iinc, pinc_go, c32_1, am_go dc_10_54, J_goto, am_go dc_10_57, J_bipush, i8_m4, am_go dc_10_59, ep_2, pf_i pk_3_46_3 rfl, ep_3, pf_z0 pk_3_49_3 rfl, pf_z1 pk_3_49_3 rfl, pf_zB pk_3_49_3 rfl, eg_1, eg_2, eg_3, eH_0, eH_10, eH_11, eH_12, ew_10, ew_11, ew_12, zI_add, zI_mul, zI_lt, zI_le, zI_eq, zI_neg, zI_pos, zI_ne0, zI_gt0, zB_0, lg_cmp_ge, lg_cmp_le, lg_cmp_gt, lg_cmp_lt, lg_cmp_eq, ail_r, abl_r, all_r, ais_r, abs_r, als_r, aal_r, aal_q, aln_r, vrf_s, vrf_n, z32, t1, t2, c0, c1, c2, List.length_cons, List.length_nil, Nat.reduceAdd, Nat.reduceLT, Nat.reduceLeDiff, Nat.reduceEqDiff, ↓reduceIte, bind_s, if_true, if_false, not_true_eq_false, not_false_eq_true, Nat.zero_add]
          all_goals rfl
theorem e_form {F : Nat} (hF : n < F) (hA : u.2.2.1 1 = zI n) (hB : eBy h e r s) (hn : n ≤ 120) : ∃ u', am_f X (d + 5) 10 [.ref e] (eH h e (u, r), z) = some (.inl (some (.int (fV (pFm F (sg s n) n F 0)))), (eH h e (u', r), z)) ∧ ∃ b q, eSt u' n b q ∧ (pFm F (sg s n) n F 0 = none → b = true) := by
  obtain ⟨u', w1, w2⟩ := e_form_l (X := X) (d := d) (z := z) hF hB hn F 0 0 (mI (mI u 2 (zI 0)) 3 (zI 0)) ⟨hA, rfl, rfl⟩ (by omega) (by omega) (by omega) (Or.inl rfl)
  refine ⟨u', Eq.trans ?_ w1, w2⟩
  rw [fU_10]
  simp (disch := first | omega | exact Nat.le_of_ble_eq_true rfl | exact eH_ci | (refine eF_lt ?_; omega)) only [own_10, am_go dc_10_0, J_aload_0, K_al, ld_0, am_go dc_10_1, J_iconst, c32_0, am_go dc_10_2, J_putfield_i, J_putfield_l, J_putfield_r, ini_10, pk_3_46_3, am_go dc_10_5, am_go dc_10_6, am_go dc_10_7, pk_3_49_3, am_go dc_10_10, am_go dc_10_11, J_istore_1, st1_0, st1_1, st1_s, kl_i, kl_l, kl_r, kl_n, ep_2, pf_i pk_3_46_3 rfl, ep_3, pf_z0 pk_3_49_3 rfl, pf_z1 pk_3_49_3 rfl, pf_zB pk_3_49_3 rfl, eg_1, eg_2, eg_3, eH_0, eH_10, eH_11, eH_12, ew_10, ew_11, ew_12, zI_add, zI_mul, zI_lt, zI_le, zI_eq, zI_neg, zI_pos, zI_ne0, zI_gt0, zB_0, lg_cmp_ge, lg_cmp_le, lg_cmp_gt, lg_cmp_lt, lg_cmp_eq, ail_r, abl_r, all_r, ais_r, abs_r, als_r, aal_r, aal_q, aln_r, vrf_s, vrf_n, z32, mS_s, mS_o, mS_2, mI_1, mI_2, mI_s, mI_o, mI_I, mS_S, List.length_cons, List.length_nil, Nat.reduceAdd, Nat.reduceLT, Nat.reduceLeDiff, Nat.reduceEqDiff, ↓reduceIte, bind_s, if_true, if_false, not_true_eq_false, not_false_eq_true, Nat.zero_add]
theorem eBy_mk {T : mU × (Nat → Option Nat)} (hr1 : r < e ∨ e + 13 ≤ r) (hr : h r = some (.inl (.int, 120, .inl s))) : eBy (tH h (e + 2) T) e r s := fun u => by
  rw [eH_x ⟨by omega, by omega, by omega, by omega⟩, tH_x (by omega)]
  exact hr
theorem tSN.eu {C : Nat → Prop} {T : mU × (Nat → Option Nat)} {S : Nat → Int32} {u' : mU} {r' : Nat} (hS : tSN C (eH h e (u, r)) (e + 2) T S) (hC : ∀ x, C x → x < e ∨ e + 13 ≤ x) : tSN C (eH h e (u', r')) (e + 2) T S :=
  hS.fr (fun x x1 x2 => by rw [eH_x ⟨by omega, by omega, by omega, by omega⟩, eH_x ⟨by omega, by omega, by omega, by omega⟩]) (fun x hx => by
    have := hC x hx
    rw [eH_x ⟨by omega, by omega, by omega, by omega⟩, eH_x ⟨by omega, by omega, by omega, by omega⟩]) (fun _ hx => hx)
theorem tSN.bell {C : Nat → Prop} {T : mU × (Nat → Option Nat)} {S : Nat → Int32} {a t : Nat} (hS : tSN C (tH h t T) t T S) (hC : ∀ x, C x → x < t ∨ t + 8 ≤ x) (ha : a ≤ 99) : tSN C (tH h t (mI T.1 2 (zI a), T.2)) t (mI T.1 2 (zI a), T.2) (upd S 117 (zI a)) := by
  obtain ⟨⟨h1, h2, ⟨h3, h4, h5⟩, h6, h7⟩, h8, h9⟩ := hS
  have o : ∀ j, j ≠ 117 → upd S 117 (zI a) j = S j := fun j hj => upd_o hj
  have o6 : upd S 117 (zI a) 116 = S 116 := o _ (by omega)
  have hm := h2.m
  have ob : ∀ b k, b < wN (S 116) → k < 18 → upd S 117 (zI a) (18 * b + k) = S (18 * b + k) := fun b k hb hk => o _ (by omega)
  have ob0 : ∀ b, b < wN (S 116) → upd S 117 (zI a) (18 * b) = S (18 * b) := fun b hb => o _ (by omega)
  refine ⟨⟨tH_is, qG_bell h2 ha, ⟨?_, ?_, fun b hb => ?_⟩, ⟨fun b hb => ?_, fun b i hb hi => ?_⟩, ?_⟩, fun b hb => ?_, fun b hb => ?_⟩
  · rw [o6]; exact h3
  · rw [upd_s]; exact mI_s
  · rw [o6] at hb
    obtain ⟨a', bb, g1, g2, g3⟩ := h5 b hb
    refine ⟨a', bb, g1, g2, ?_⟩
    have f1 : ∀ x, C x → tH h t (mI T.1 2 (zI a), T.2) x = tH h t T x := fun x hx => by rw [tH_x (hC x hx), tH_x (hC x hx)]
    have g3' := g3.fr (f1 _ g2.1) (f1 _ g2.2.1) (f1 _ g2.2.2.1) (fun q => f1 _ (g2.2.2.2 q))
    have g4 := g3'.cg (f' := qRow (upd S 117 (zI a)) b) (g' := qOG S b) (fun j hj _ => ob b j hb (by omega)) (fun _ _ _ => rfl)
    refine g4.co (fun q => ?_)
    have k4 : S (18 * b) = zI 4 := by
      have := g3.1.2
      rw [q] at this
      exact this
    obtain ⟨t1, t2, t3⟩ := (h2.2.2 b hb).2.2.2.2.1 k4
    have hL : wN (S (18 * b + 4)) < wN (S 116) := by omega
    have hon := (h2.n hL).2.2
    refine ⟨?_, fun i hi => ?_⟩
    · unfold qON
      rw [ob b 4 hb (by omega), ob _ 3 hL (by omega)]
    · have hi' : i < wN (S (18 * wN (S (18 * b + 4)) + 3)) := hi
      unfold qOG
      rw [ob b 4 hb (by omega), ob _ (14 + i) hL (by omega)]
  · rw [o6] at hb
    rw [ob b 5 hb (by omega)]
    exact h6.1 b hb
  · rw [o6] at hb
    rw [ob b 3 hb (by omega)] at hi
    have := (h2.n hb).2.2
    rw [ob b 5 hb (by omega), ob b (14 + i) hb (by omega)]
    exact h6.2 b i hb hi
  · obtain ⟨R, r1, r2, r3, r4, r5, r6⟩ := h7
    refine ⟨R, r1, r2, r3, r4, r5, fun b i hb hi => ?_⟩
    rw [o6] at hb
    rw [ob b 3 hb (by omega)] at hi
    have := (h2.n hb).2.2
    rw [ob b (6 + i) hb (by omega)]
    exact r6 b i hb hi
  · rw [o6] at hb
    have hn := (h2.n hb).2.2
    have := h8 b hb
    unfold tNb at this ⊢
    have w : ∀ i, i < wN (S (18 * b + 3)) → qWt (upd S 117 (zI a)) b i = qWt S b i := fun i hi => ob b (6 + i) hb (by omega)
    have e1 := nb_x (p := S (18 * b + 1)) (n := wN (S (18 * b + 3))) (ch := fun i => upd S 117 (zI a) (18 * b + (10 + i))) (ch' := fun i => S (18 * b + (10 + i))) (fun i hi => ob b (10 + i) hb (by omega)) w
    have e2 := nb_x (p := S (18 * b + 1)) (n := wN (S (18 * b + 3))) (ch := fun i => upd S 117 (zI a) (18 * b + (14 + i))) (ch' := fun i => S (18 * b + (14 + i))) (fun i hi => ob b (14 + i) hb (by omega)) w
    rw [ob b 1 hb (by omega), ob b 3 hb (by omega), ob b 5 hb (by omega), e1.1, e1.2, e2.1, e2.2]
    exact this
  · rw [o6] at hb
    exact h9 b hb
end RF
section RG
variable {X : am_X} {e r d n : Nat} {s : Nat → Int32}
theorem e_sense_l {F : Nat} (hF : n < F) (hn : n ≤ 120) (hr1 : r < e ∨ e + 13 ≤ r) : ∀ (f p c : Nat) (h : am_H) (T : mU × (Nat → Option Nat)) (S : Nat → Int32) (C : Nat → Prop) (u : mU) (z : Nat × Nat) (v3 : Option Value), h r = some (.inl (.int, 120, .inl s)) → r < z.1 → eSt u n true p → p ≤ n → n < p + f → c ≤ p → tSN C (eH (tH h (e + 2) T) e (u, r)) (e + 2) T S → (∀ x, C x → x < e ∨ e + 13 ≤ x) → e + 13 ≤ z.1 → (∀ x, z.1 ≤ x → eH (tH h (e + 2) T) e (u, r) x = none) → (p < n → ∃ f', pFm F (sg s n) n f' p = none) → ∃ h' T' u' z' C' S', am_I X (am_f X (d + 5)) 27 9 [some (.ref e), some (.int (zI c)), some (.int (zI c)), v3] [] (eH (tH h (e + 2) T) e (u, r), z) = some (.inl (some (.int (sV (sLp F (sg s n) n f p c S).1 (sLp F (sg s n) n f p c S).2.1))), (eH (tH h' (e + 2) T') e (u', r), z')) ∧ (∀ x, x < z.1 → x < e + 2 ∨ e + 10 ≤ x → h' x = h x) ∧ (z.1 ≤ z'.1 ∧ wN (S 116) ≤ wN (S' 116) ∧ z'.1 ≤ z.1 + 4 * (wN (S' 116) - wN (S 116)) ∧ z'.2 ≤ z.2 + 19 * (wN (S' 116) - wN (S 116))) ∧ (∀ x, z'.1 ≤ x → eH (tH h' (e + 2) T') e (u', r) x = none) ∧ tSN C' (eH (tH h' (e + 2) T') e (u', r)) (e + 2) T' S' ∧ (∀ x, C' x → C x ∨ (z.1 ≤ x ∧ x < z'.1)) ∧ ((sLp F (sg s n) n f p c S).1 = none → S' = (sLp F (sg s n) n f p c S).2.2 ∧ (sLp F (sg s n) n f p c S).2.1 ≤ n ∧ c ≤ (sLp F (sg s n) n f p c S).2.1 ∧ (p < n → c < (sLp F (sg s n) n f p c S).2.1)) := by
  intro f
  induction f with
  | zero => intro p c h T S C u z v3 _ _ hS hp hf; omega
  | succ f ih =>
    intro p c h T S C u z v3 hr hrz hS hp hf hc hSN hC hez hz hpf
    have hB : eBy (tH h (e + 2) T) e r s := eBy_mk hr1 hr
    unfold sLp
    by_cases c1 : p < n
    · rw [if_pos c1]
      -- the statement is of good form
      have hok : (pSt F (sg s n) p).1 = true ∧ ((pSt F (sg s n) p).2.1 < n → ∃ f', pFm F (sg s n) n f' (pSt F (sg s n) p).2.1 = none) := by
        obtain ⟨f', hf'⟩ := hpf c1
        cases f' with
        | zero => exact absurd hf' (by unfold pFm; simp)
        | succ f' =>
          unfold pFm at hf'
          by_cases k : (pSt F (sg s n) p).1 = true
          · rw [if_pos k] at hf'
            refine ⟨k, fun q => ⟨f', ?_⟩⟩
            rw [if_pos q] at hf'
            exact hf'
          · rw [if_neg k] at hf'
            exact absurd hf' (by simp)
      obtain ⟨u1, n1, s1, l1, w1⟩ := e_stmt (X := X) (d := d + 1) (z := z) hF hS hB hn hp
      have hk := pSt_k (F := F) (s := sg s n) (n := n) (fun q hq => sg_D hq) (fun q c hc hq => sg_c hc hq) hp
      obtain ⟨k1, k2⟩ := hk.2.2 hok.1
      have k3 := hk.2.1
      rw [hok.1] at s1
      obtain ⟨hA, hA2, hb⟩ := hS
      have cn : ¬ n ≤ c := by omega
      have pn : ¬ n ≤ p := by omega
      have hSN1 : tSN C (eH (tH h (e + 2) T) e (u1, r)) (e + 2) T S := hSN.eu hC
      have hz1 : ∀ x, z.1 ≤ x → eH (tH h (e + 2) T) e (u1, r) x = none := fun x hx => by
        have := hz x hx
        rw [eH_x ⟨by omega, by omega, by omega, by omega⟩] at this ⊢
        exact this
      have g0 : am_I X (am_f X (d + 5)) 27 9 [some (.ref e), some (.int (zI c)), some (.int (zI c)), v3] [] (eH (tH h (e + 2) T) e (u, r), z) = am_I X (am_f X (d + 5)) 27 37 [some (.ref e), some (.int (zI c)), some (.int (zI c)), some (.int (zI p))] [] (eH (tH h (e + 2) T) e (u1, r), z) := by
        rw [am_go dc_27_9]
        simp (disch := first | omega | exact Nat.le_of_ble_eq_true rfl | exact eH_ci | (refine eF_lt ?_; omega)) only [own_27, am_go dc_27_0, J_iconst, c32_0, am_go dc_27_1, J_istore_1, st1_0, st1_1, st1_s, kl_i, kl_l, kl_r, kl_n, am_go dc_27_2, J_aload_0, K_al, ld_0, am_go dc_27_3, am_go dc_27_4, J_putfield_i, J_putfield_l, J_putfield_r, ini_27, pk_3_46_3, am_go dc_27_7, am_go dc_27_8, J_istore_2, J_iload_2, K_il, ld_2, am_go dc_27_10, am_go dc_27_11, J_getfield, gf_r, fk_3_31_3, am_go dc_27_14, J_icmp_ge, am_go dc_27_17, am_go dc_27_18, fk_3_46_3, am_go dc_27_21, am_go dc_27_22, am_go dc_27_25, am_go dc_27_28, am_go dc_27_29, am_go dc_27_32, J_istore_3, am_go dc_27_33, am_go dc_27_34, cv_3_53_3 own_27, JR_v, JR_0, JR_ite, ci1_r, am_go dc_27_38, cv_3_56_3 own_27, am_go dc_27_41, J_if_ne, am_go dc_27_44, J_sipush, i16_m2000, am_go dc_27_47, J_iload_3, ld_3, am_go dc_27_48, J_isub, am_go dc_27_49, J_ret_i ret_27, am_go dc_27_50, J_iinc, pinc_go, ld_1, c32_1, am_go dc_27_53, am_go dc_27_56, J_goto, am_go dc_27_59, J_iload_1, am_go dc_27_60, ep_2, pf_i pk_3_46_3 rfl, eg_1, eg_2, eH_0, eH_10, eH_11, eH_12, ew_10, ew_11, ew_12, zI_add, zI_mul, zI_lt, zI_le, zI_eq, zI_neg, zI_pos, zI_ne0, zI_gt0, zB_0, lg_cmp_ge, lg_cmp_le, lg_cmp_gt, lg_cmp_lt, lg_cmp_eq, ail_r, abl_r, all_r, ais_r, abs_r, als_r, aal_r, aal_q, aln_r, vrf_s, vrf_n, z32, hA, hA2, hb, n1, cn, pn, List.length_cons, List.length_nil, Nat.reduceAdd, Nat.reduceLT, Nat.reduceLeDiff, Nat.reduceEqDiff, ↓reduceIte, bind_s, if_true, if_false, not_true_eq_false, not_false_eq_true, Nat.zero_add]
      have gn : ∀ (h' : am_H) (z' : Nat × Nat), am_f X (d + 5) 28 [.ref e] (eH (tH h (e + 2) T) e (u1, r), z) = some (.inl (some (.int (zI 0))), (h', z')) → am_I X (am_f X (d + 5)) 27 37 [some (.ref e), some (.int (zI c)), some (.int (zI c)), some (.int (zI p))] [] (eH (tH h (e + 2) T) e (u1, r), z) = some (.inl (some (.int (-2000 - zI p))), (h', z')) := fun h' z' ha => by
        rw [am_go dc_27_37]
        simp (disch := first | omega | exact Nat.le_of_ble_eq_true rfl | exact eH_ci | (refine eF_lt ?_; omega)) only [own_27, am_go dc_27_0, J_iconst, c32_0, am_go dc_27_1, J_istore_1, st1_0, st1_1, st1_s, kl_i, kl_l, kl_r, kl_n, am_go dc_27_2, J_aload_0, K_al, ld_0, am_go dc_27_3, am_go dc_27_4, J_putfield_i, J_putfield_l, J_putfield_r, ini_27, pk_3_46_3, am_go dc_27_7, am_go dc_27_8, J_istore_2, J_iload_2, K_il, ld_2, am_go dc_27_10, am_go dc_27_11, J_getfield, gf_r, fk_3_31_3, am_go dc_27_14, J_icmp_ge, am_go dc_27_17, am_go dc_27_18, fk_3_46_3, am_go dc_27_21, am_go dc_27_22, am_go dc_27_25, am_go dc_27_28, am_go dc_27_29, am_go dc_27_32, J_istore_3, am_go dc_27_33, am_go dc_27_34, cv_3_53_3 own_27, JR_v, JR_0, JR_ite, ci1_r, am_go dc_27_38, cv_3_56_3 own_27, am_go dc_27_41, J_if_ne, am_go dc_27_44, J_sipush, i16_m2000, am_go dc_27_47, J_iload_3, ld_3, am_go dc_27_48, J_isub, am_go dc_27_49, J_ret_i ret_27, am_go dc_27_50, J_iinc, pinc_go, ld_1, c32_1, am_go dc_27_53, am_go dc_27_56, J_goto, am_go dc_27_59, J_iload_1, am_go dc_27_60, ep_2, pf_i pk_3_46_3 rfl, eg_1, eg_2, eH_0, eH_10, eH_11, eH_12, ew_10, ew_11, ew_12, zI_add, zI_mul, zI_lt, zI_le, zI_eq, zI_neg, zI_pos, zI_ne0, zI_gt0, zB_0, lg_cmp_ge, lg_cmp_le, lg_cmp_gt, lg_cmp_lt, lg_cmp_eq, ail_r, abl_r, all_r, ais_r, abs_r, als_r, aal_r, aal_q, aln_r, vrf_s, vrf_n, z32, ha, List.length_cons, List.length_nil, Nat.reduceAdd, Nat.reduceLT, Nat.reduceLeDiff, Nat.reduceEqDiff, ↓reduceIte, bind_s, if_true, if_false, not_true_eq_false, not_false_eq_true, Nat.zero_add]
      have gy : ∀ (h' : am_H) (z' : Nat × Nat), am_f X (d + 5) 28 [.ref e] (eH (tH h (e + 2) T) e (u1, r), z) = some (.inl (some (.int (zI 1))), (h', z')) → am_I X (am_f X (d + 5)) 27 37 [some (.ref e), some (.int (zI c)), some (.int (zI c)), some (.int (zI p))] [] (eH (tH h (e + 2) T) e (u1, r), z) = am_I X (am_f X (d + 5)) 27 9 [some (.ref e), some (.int (zI (c + 1))), some (.int (zI (c + 1))), some (.int (zI p))] [] (h', z') := fun h' z' ha => by
        rw [am_go dc_27_37]
        simp (disch := first | omega | exact Nat.le_of_ble_eq_true rfl | exact eH_ci | (refine eF_lt ?_; omega)) only [own_27, am_go dc_27_0, J_iconst, c32_0, am_go dc_27_1, J_istore_1, st1_0, st1_1, st1_s, kl_i, kl_l, kl_r, kl_n, am_go dc_27_2, J_aload_0, K_al, ld_0, am_go dc_27_3, am_go dc_27_4, J_putfield_i, J_putfield_l, J_putfield_r, ini_27, pk_3_46_3, am_go dc_27_7, am_go dc_27_8, J_istore_2, J_iload_2, K_il, ld_2, am_go dc_27_10, am_go dc_27_11, J_getfield, gf_r, fk_3_31_3, am_go dc_27_14, J_icmp_ge, am_go dc_27_17, am_go dc_27_18, fk_3_46_3, am_go dc_27_21, am_go dc_27_22, am_go dc_27_25, am_go dc_27_28, am_go dc_27_29, am_go dc_27_32, J_istore_3, am_go dc_27_33, am_go dc_27_34, cv_3_53_3 own_27, JR_v, JR_0, JR_ite, ci1_r, am_go dc_27_38, cv_3_56_3 own_27, am_go dc_27_41, J_if_ne, am_go dc_27_44, J_sipush, i16_m2000, am_go dc_27_47, J_iload_3, ld_3, am_go dc_27_48, J_isub, am_go dc_27_49, J_ret_i ret_27, am_go dc_27_50, J_iinc, pinc_go, ld_1, c32_1, am_go dc_27_53, am_go dc_27_56, J_goto, am_go dc_27_59, J_iload_1, am_go dc_27_60, ep_2, pf_i pk_3_46_3 rfl, eg_1, eg_2, eH_0, eH_10, eH_11, eH_12, ew_10, ew_11, ew_12, zI_add, zI_mul, zI_lt, zI_le, zI_eq, zI_neg, zI_pos, zI_ne0, zI_gt0, zB_0, lg_cmp_ge, lg_cmp_le, lg_cmp_gt, lg_cmp_lt, lg_cmp_eq, ail_r, abl_r, all_r, ais_r, abs_r, als_r, aal_r, aal_q, aln_r, vrf_s, vrf_n, z32, ha, List.length_cons, List.length_nil, Nat.reduceAdd, Nat.reduceLT, Nat.reduceLeDiff, Nat.reduceEqDiff, ↓reduceIte, bind_s, if_true, if_false, not_true_eq_false, not_false_eq_true, Nat.zero_add]
      obtain ⟨w2, w3⟩ := w1 hok.1
      by_cases c2 : sg s n p = zI 98
      · rw [if_pos c2]
        have h108 : ¬ sg s n p = zI 108 := by rw [c2]; decide
        have h5 : ¬ u1.2.2.1 5 = zI 108 := by rw [l1]; exact h108
        have hDat := w3 h108
        have hDok := (pSt_ok (F := F) (s := sg s n) (n := n) (fun q hq => sg_D hq) (fun q c hc hq => sg_c hc hq) hn hp hok.1).1 c2
        by_cases c3 : sOk S (pSt F (sg s n) p).2.2 = true
        · rw [if_pos c3]
          obtain ⟨h2, T2, z2, a1, a2, a3, a4, a5, a6, a7⟩ := e_add_y (X := X) (d := d) (z := z) hSN1 hC hez hDok hDat h5 c3 hz1
          have hwf := sOk_wf hSN.1.2.1 hDok c3
          have m2 : wN (sMk S (pSt F (sg s n) p).2.2 116) = wN (S 116) + 1 := by
            rw [mk_hi hwf (by omega), if_pos rfl, wN_zI (by have := hwf.1; omega)]
          obtain ⟨h', T', u', z', C', S', b1, b2, b3, b4, b5, b6, b7⟩ := ih (pSt F (sg s n) p).2.1 (c + 1) h2 T2 (sMk S (pSt F (sg s n) p).2.2) (fun x => C x ∨ (z.1 ≤ x ∧ x < z2.1)) u1 z2 (some (.int (zI p))) (by rw [a2 r hrz (by omega)]; exact hr) (by omega) s1 k3 (by omega) (by omega) a7 (fun x hx => by
            rcases hx with hx | hx
            · exact hC x hx
            · omega) (by omega) a6 hok.2
          refine ⟨h', T', u', z', C', S', (g0.trans (gy _ _ a1)).trans b1, fun x x1 x2 => by rw [b2 x (by omega) x2, a2 x x1 x2], ?_, b4, b5, fun x hx => ?_, fun q => ?_⟩
          · rw [m2] at b3
            omega
          · rcases b6 x hx with (q | q) | q
            · exact Or.inl q
            · exact Or.inr (by omega)
            · exact Or.inr (by omega)
          · obtain ⟨q1, q2, q3, q4⟩ := b7 q
            exact ⟨q1, q2, by omega, fun _ => by omega⟩
        · rw [if_neg c3]
          exact ⟨h, T, u1, z, C, S, g0.trans (gn _ _ (e_add_n hSN1 hDok hDat h5 c3)), fun _ _ _ => rfl, by omega, hz1, hSN1, fun x hx => Or.inl hx, fun q => by cases q⟩
      · rw [if_neg c2]
        have c2' : sg s n p = zI 108 := by
          rcases k2 with k2 | k2
          · exact k2
          · exact absurd k2 c2
        obtain ⟨x, hx, hx9⟩ := (pSt_ok (F := F) (s := sg s n) (n := n) (fun q hq => sg_D hq) (fun q c hc hq => sg_c hc hq) hn hp hok.1).2 c2'
        have h12 := w2 c2'
        rw [hx] at h12
        have ha := e_add_l (X := X) (d := d) (z := z) (h := h) (T := T) hSN1.1.iT (by rw [l1]; exact c2') h12 hx9
        rw [hx]
        by_cases c3 : x ≤ 99
        · have c3' : zI x ≤ zI 99 := by rw [zI_le (by omega) (by omega)]; exact c3
          rw [if_pos c3] at ha
          rw [if_pos c3']
          have hb2 : tSN C (eH (tH h (e + 2) (mI T.1 2 (zI x), T.2)) e (u1, r)) (e + 2) (mI T.1 2 (zI x), T.2) (upd S 117 (zI x)) := by
            rw [te_c] at hSN1 ⊢
            exact hSN1.bell (fun y hy => by have := hC y hy; omega) c3
          have m2 : wN (upd S 117 (zI x) 116) = wN (S 116) := by rw [upd_o (by omega)]
          obtain ⟨h', T', u', z', C', S', b1, b2, b3, b4, b5, b6, b7⟩ := ih (pSt F (sg s n) p).2.1 (c + 1) h (mI T.1 2 (zI x), T.2) (upd S 117 (zI x)) C u1 z (some (.int (zI p))) hr hrz s1 k3 (by omega) (by omega) hb2 hC hez (fun y hy => by
            have := hz1 y hy
            rw [eH_x ⟨by omega, by omega, by omega, by omega⟩, tH_x (by omega)] at this ⊢
            exact this) hok.2
          rw [m2] at b3
          refine ⟨h', T', u', z', C', S', (g0.trans (gy _ _ ha)).trans b1, b2, b3, b4, b5, b6, fun q => ?_⟩
          obtain ⟨q1, q2, q3, q4⟩ := b7 q
          exact ⟨q1, q2, by omega, fun _ => by omega⟩
        · have c3' : ¬ zI x ≤ zI 99 := by rw [zI_le (by omega) (by omega)]; exact c3
          rw [if_neg c3] at ha
          rw [if_neg c3']
          exact ⟨h, T, u1, z, C, S, g0.trans (gn _ _ ha), fun _ _ _ => rfl, by omega, hz1, hSN1, fun x hx => Or.inl hx, fun q => by cases q⟩
    · rw [if_neg c1]
      refine ⟨h, T, u, z, C, S, ?_, fun _ _ _ => rfl, by omega, hz, hSN, fun x hx => Or.inl hx, fun _ => ⟨rfl, by show c ≤ n; omega, Nat.le_refl _, fun q => absurd q c1⟩⟩
      obtain ⟨hA, hA2, hb⟩ := hS
      have pn : n ≤ p := by omega
      rw [am_go dc_27_9]
      by_cases cn : n ≤ c
      · simp (disch := first | omega | exact Nat.le_of_ble_eq_true rfl | exact eH_ci | (refine eF_lt ?_; omega)) only [own_27, am_go dc_27_0, J_iconst, c32_0, am_go dc_27_1, J_istore_1, st1_0, st1_1, st1_s, kl_i, kl_l, kl_r, kl_n, am_go dc_27_2, J_aload_0, K_al, ld_0, am_go dc_27_3, am_go dc_27_4, J_putfield_i, J_putfield_l, J_putfield_r, ini_27, pk_3_46_3, am_go dc_27_7, am_go dc_27_8, J_istore_2, J_iload_2, K_il, ld_2, am_go dc_27_10, am_go dc_27_11, J_getfield, gf_r, fk_3_31_3, am_go dc_27_14, J_icmp_ge, am_go dc_27_17, am_go dc_27_18, fk_3_46_3, am_go dc_27_21, am_go dc_27_22, am_go dc_27_25, am_go dc_27_28, am_go dc_27_29, am_go dc_27_32, J_istore_3, am_go dc_27_33, am_go dc_27_34, cv_3_53_3 own_27, JR_v, JR_0, JR_ite, ci1_r, am_go dc_27_38, cv_3_56_3 own_27, am_go dc_27_41, J_if_ne, am_go dc_27_44, J_sipush, i16_m2000, am_go dc_27_47, J_iload_3, ld_3, am_go dc_27_48, J_isub, am_go dc_27_49, J_ret_i ret_27, am_go dc_27_50, J_iinc, pinc_go, ld_1, c32_1, am_go dc_27_53, am_go dc_27_56, J_goto, am_go dc_27_59, J_iload_1, am_go dc_27_60, ep_2, pf_i pk_3_46_3 rfl, eg_1, eg_2, eH_0, eH_10, eH_11, eH_12, ew_10, ew_11, ew_12, zI_add, zI_mul, zI_lt, zI_le, zI_eq, zI_neg, zI_pos, zI_ne0, zI_gt0, zB_0, lg_cmp_ge, lg_cmp_le, lg_cmp_gt, lg_cmp_lt, lg_cmp_eq, ail_r, abl_r, all_r, ais_r, abs_r, als_r, aal_r, aal_q, aln_r, vrf_s, vrf_n, z32, hA, hA2, hb, cn, pn, List.length_cons, List.length_nil, Nat.reduceAdd, Nat.reduceLT, Nat.reduceLeDiff, Nat.reduceEqDiff, ↓reduceIte, bind_s, if_true, if_false, not_true_eq_false, not_false_eq_true, Nat.zero_add]
        all_goals rfl
      · simp (disch := first | omega | exact Nat.le_of_ble_eq_true rfl | exact eH_ci | (refine eF_lt ?_; omega)) only [own_27, am_go dc_27_0, J_iconst, c32_0, am_go dc_27_1, J_istore_1, st1_0, st1_1, st1_s, kl_i, kl_l, kl_r, kl_n, am_go dc_27_2, J_aload_0, K_al, ld_0, am_go dc_27_3, am_go dc_27_4, J_putfield_i, J_putfield_l, J_putfield_r, ini_27, pk_3_46_3, am_go dc_27_7, am_go dc_27_8, J_istore_2, J_iload_2, K_il, ld_2, am_go dc_27_10, am_go dc_27_11, J_getfield, gf_r, fk_3_31_3, am_go dc_27_14, J_icmp_ge, am_go dc_27_17, am_go dc_27_18, fk_3_46_3, am_go dc_27_21, am_go dc_27_22, am_go dc_27_25, am_go dc_27_28, am_go dc_27_29, am_go dc_27_32, J_istore_3, am_go dc_27_33, am_go dc_27_34, cv_3_53_3 own_27, JR_v, JR_0, JR_ite, ci1_r, am_go dc_27_38, cv_3_56_3 own_27, am_go dc_27_41, J_if_ne, am_go dc_27_44, J_sipush, i16_m2000, am_go dc_27_47, J_iload_3, ld_3, am_go dc_27_48, J_isub, am_go dc_27_49, J_ret_i ret_27, am_go dc_27_50, J_iinc, pinc_go, ld_1, c32_1, am_go dc_27_53, am_go dc_27_56, J_goto, am_go dc_27_59, J_iload_1, am_go dc_27_60, ep_2, pf_i pk_3_46_3 rfl, eg_1, eg_2, eH_0, eH_10, eH_11, eH_12, ew_10, ew_11, ew_12, zI_add, zI_mul, zI_lt, zI_le, zI_eq, zI_neg, zI_pos, zI_ne0, zI_gt0, zB_0, lg_cmp_ge, lg_cmp_le, lg_cmp_gt, lg_cmp_lt, lg_cmp_eq, ail_r, abl_r, all_r, ais_r, abs_r, als_r, aal_r, aal_q, aln_r, vrf_s, vrf_n, z32, hA, hA2, hb, cn, pn, List.length_cons, List.length_nil, Nat.reduceAdd, Nat.reduceLT, Nat.reduceLeDiff, Nat.reduceEqDiff, ↓reduceIte, bind_s, if_true, if_false, not_true_eq_false, not_false_eq_true, Nat.zero_add]
        all_goals rfl
end RG
