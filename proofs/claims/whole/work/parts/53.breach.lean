/-! the reference: means asked, who is taken, the first place where the rule isn't best -/
def mFr (u : mU) : Prop := (u.2.2.1 32 = zI 1 ∧ mMem u (u.1 1)) ∨ u.2.2.1 32 = zI 0
def mSw (u u' : mU) : Prop := (∀ j, j ≠ 16 → j ≠ 17 → j ≠ 18 → u'.1 j = u.1 j) ∧ ∀ j, j ≠ 32 → u'.2.2.1 j = u.2.2.1 j
theorem mSm.w {u u' : mU} (h : mSm u u') : mSw u u' := ⟨h.1, fun j _ => by rw [h.2]⟩
theorem mSw.tr {u u' u'' : mU} (h : mSw u u') (h2 : mSw u' u'') : mSw u u'' := ⟨fun j h3 h4 h5 => (h2.1 j h3 h4 h5).trans (h.1 j h3 h4 h5), fun j hj => (h2.2 j hj).trans (h.2 j hj)⟩
theorem mSw.s {u u' : mU} (h : mSw u u') : u'.1 1 = u.1 1 := h.1 1 (by omega) (by omega) (by omega)
/-- behind a call that fills tables -/
def mEd (u u' : mU) : Prop := mSw u u' ∧ u'.2.2.1 32 = zI 1 ∧ mMem u' (u.1 1)
theorem mEd.fr {u u' : mU} (h : mEd u u') : mFr u' := Or.inl ⟨h.2.1, by rw [h.1.s]; exact h.2.2⟩
section M13
variable {X : am_X} {h : am_H} {o d : Nat} {u : mU} {z : Nat × Nat}
theorem r_freshens (hF : mFr u) : ∃ u', am_f X (d + 1) 240 [.ref o] (mH h o u, z) = some (.inl none, (mH h o u', z)) ∧ mEd u u' := by
  rcases hF with ⟨h1, h2⟩ | h1
  · exact ⟨u, r_freshens_y h1, ⟨fun _ _ _ _ => rfl, fun _ _ => rfl⟩, h1, h2⟩
  · obtain ⟨f, g, h3, h4⟩ := r_freshens_n (X := X) (h := h) (o := o) (d := d) (u := u) (z := z) h1
    refine ⟨_, h3, ⟨fun j e1 e2 e3 => ?_, fun j e1 => ?_⟩, ?_, fun S' h0 hw' => ?_⟩
    · rw [mS_o e3, mS_o e2]
      rfl
    · show (mI u 32 (zI 1)).2.2.1 j = _
      exact mI_o e1
    · show (mI u 32 (zI 1)).2.2.1 32 = _
      exact mI_s
    · have := (qC7_eq hw').2
      exact ⟨Or.inl (h4 _ this).1, Or.inl (h4 _ this).2⟩
theorem mEd.sm {u1 u2 : mU} (h1 : mEd u u1) (h2 : mSm u1 u2) (h3 : mMem u2 (u.1 1)) : mEd u u2 := ⟨h1.1.tr h2.w, by rw [h2.2]; exact h1.2.1, h3⟩
theorem r_ruleMean (hG : qG (u.1 1)) (hw : qHw (u.1 1)) (hF : mFr u) : ∃ u', am_f X (d + 27) 239 [.ref o] (mH h o u, z) = some (.inl (some (.long (qRm (u.1 1)))), (mH h o u', z)) ∧ mEd u u' := by
  obtain ⟨u1, g1, g2⟩ := r_freshens (X := X) (h := h) (o := o) (d := d + 25) (u := u) (z := z) hF
  obtain ⟨u2, k1, k2, k3⟩ := r_ruleAt (X := X) (h := h) (o := o) (d := d) (z := z) hG hw u1 g2.1.s g2.2.2
  refine ⟨u2, ?_, g2.sm k2 k3⟩
  rw [fU_239]
  simp (disch := first | omega | exact ci_m | exact Nat.le_of_ble_eq_true rfl | (refine mF_lt ?_; omega)) only [own_239, am_go dc_239_0, J_aload_0, K_al, ld_0, am_go dc_239_1, cv_12_256_12 own_239, JR_v, JR_0, JR_ite, ci1_r, am_go dc_239_4, am_go dc_239_5, cv_12_239_12 own_239, am_go dc_239_8, J_ret_l ret_239, mH_o, zI_add, zI_mul, zI_lt, zI_le, zI_eq, zI_neg, zI_pos, zI_ne0, zI_gt0, zB_0, lg_cmp_ge, lg_cmp_le, lg_cmp_gt, lg_cmp_lt, lg_cmp_eq, ail_r, abl_r, all_r, ais_r, abs_r, als_r, mF_len, g1, k1, List.length_cons, List.length_nil, Nat.reduceAdd, Nat.reduceLT, Nat.reduceLeDiff, Nat.reduceEqDiff, ↓reduceIte, bind_s, if_true, if_false, not_true_eq_false, not_false_eq_true, Nat.zero_add]
theorem r_bestNow (hG : qG (u.1 1)) (hw : qHw (u.1 1)) (hF : mFr u) : ∃ u', am_f X (d + 29) 248 [.ref o] (mH h o u, z) = some (.inl (some (.long (qB (u.1 1)).1)), (mH h o u', z)) ∧ mEd u u' ∧ u'.1 16 (qC7 (u.1 1)) = (qB (u.1 1)).2 := by
  obtain ⟨u1, g1, g2⟩ := r_freshens (X := X) (h := h) (o := o) (d := d + 27) (u := u) (z := z) hF
  obtain ⟨u2, k1, k2, k3, k4⟩ := r_bestAt (X := X) (h := h) (o := o) (d := d) (z := z) hG hw u1 g2.1.s g2.2.2
  refine ⟨u2, ?_, g2.sm k2 k3, k4⟩
  rw [fU_248]
  simp (disch := first | omega | exact ci_m | exact Nat.le_of_ble_eq_true rfl | (refine mF_lt ?_; omega)) only [own_248, am_go dc_248_0, J_aload_0, K_al, ld_0, am_go dc_248_1, cv_12_256_12 own_248, JR_v, JR_0, JR_ite, ci1_r, am_go dc_248_4, am_go dc_248_5, cv_12_242_12 own_248, am_go dc_248_8, J_ret_l ret_248, mH_o, zI_add, zI_mul, zI_lt, zI_le, zI_eq, zI_neg, zI_pos, zI_ne0, zI_gt0, zB_0, lg_cmp_ge, lg_cmp_le, lg_cmp_gt, lg_cmp_lt, lg_cmp_eq, ail_r, abl_r, all_r, ais_r, abs_r, als_r, mF_len, g1, k1, List.length_cons, List.length_nil, Nat.reduceAdd, Nat.reduceLT, Nat.reduceLeDiff, Nat.reduceEqDiff, ↓reduceIte, bind_s, if_true, if_false, not_true_eq_false, not_false_eq_true, Nat.zero_add]
theorem r_doesNow (hG : qG (u.1 1)) (hw : qHw (u.1 1)) (hF : mFr u) : ∃ u', am_f X (d + 30) 247 [.ref o] (mH h o u, z) = some (.inl (some (.int (qB (u.1 1)).2)), (mH h o u', z)) ∧ mEd u u' := by
  obtain ⟨u2, k1, k2, k4⟩ := r_bestNow (X := X) (h := h) (o := o) (d := d) (u := u) (z := z) hG hw hF
  obtain ⟨hc7, hc7l⟩ := qC7_eq hw
  have h7 : ∀ d, am_f X (d + 2) 231 [.ref o, .int (zI 7)] (mH h o u2, z) = some (.inl (some (.int (zI (qC7 (u.1 1))))), (mH h o u2, z)) := by
    intro d
    rw [r_code7, k2.1.s, hc7]
  refine ⟨u2, ?_, k2⟩
  rw [fU_247]
  simp (disch := first | omega | exact ci_m | exact Nat.le_of_ble_eq_true rfl | (refine mF_lt ?_; omega)) only [own_247, am_go dc_247_0, J_aload_0, K_al, ld_0, am_go dc_247_1, cv_12_259_12 own_247, JR_v, JR_0, JR_ite, ci1_r, am_go dc_247_4, J_lstore_1, st2_0, st2_1, st2_s, kl_i, kl_l, kl_r, kl_n, am_go dc_247_5, am_go dc_247_6, J_getfield, gf_r, fk_12_56_12, am_go dc_247_9, am_go dc_247_10, J_bipush, c8_7, am_go dc_247_12, cv_12_210_12 own_247, am_go dc_247_15, J_iaload, am_go dc_247_16, J_ret_i ret_247, mH_o, mg_29, mH_16, mw_16, zI_add, zI_mul, zI_lt, zI_le, zI_eq, zI_neg, zI_pos, zI_ne0, zI_gt0, zB_0, lg_cmp_ge, lg_cmp_le, lg_cmp_gt, lg_cmp_lt, lg_cmp_eq, ail_r, abl_r, all_r, ais_r, abs_r, als_r, mF_len, k1, h7, k4, List.length_cons, List.length_nil, Nat.reduceAdd, Nat.reduceLT, Nat.reduceLeDiff, Nat.reduceEqDiff, ↓reduceIte, bind_s, if_true, if_false, not_true_eq_false, not_false_eq_true, Nat.zero_add]
theorem r_best (hG : qG (u.1 1)) (hw : qHw (u.1 1)) (hF : mFr u) : ∃ u', am_f X (d + 31) 246 [.ref o] (mH h o u, z) = some (.inl (some (.int (qB (u.1 1)).2)), (mH h o u', z)) ∧ mEd u u' := by
  obtain ⟨u2, k1, k2⟩ := r_doesNow (X := X) (h := h) (o := o) (d := d) (u := u) (z := z) hG hw hF
  refine ⟨u2, ?_, k2⟩
  rw [fU_246]
  simp (disch := first | omega | exact ci_m | exact Nat.le_of_ble_eq_true rfl | (refine mF_lt ?_; omega)) only [own_246, am_go dc_246_0, J_aload_0, K_al, ld_0, am_go dc_246_1, cv_12_262_12 own_246, JR_v, JR_0, JR_ite, ci1_r, am_go dc_246_4, J_ret_i ret_246, mH_o, zI_add, zI_mul, zI_lt, zI_le, zI_eq, zI_neg, zI_pos, zI_ne0, zI_gt0, zB_0, lg_cmp_ge, lg_cmp_le, lg_cmp_gt, lg_cmp_lt, lg_cmp_eq, ail_r, abl_r, all_r, ais_r, abs_r, als_r, mF_len, k1, List.length_cons, List.length_nil, Nat.reduceAdd, Nat.reduceLT, Nat.reduceLeDiff, Nat.reduceEqDiff, ↓reduceIte, bind_s, if_true, if_false, not_true_eq_false, not_false_eq_true, Nat.zero_add]
theorem r_bestMean (hG : qG (u.1 1)) (hw : qHw (u.1 1)) (hF : mFr u) : ∃ u', am_f X (d + 30) 249 [.ref o] (mH h o u, z) = some (.inl (some (.long (qB (u.1 1)).1)), (mH h o u', z)) ∧ mEd u u' := by
  obtain ⟨u2, k1, k2, -⟩ := r_bestNow (X := X) (h := h) (o := o) (d := d) (u := u) (z := z) hG hw hF
  refine ⟨u2, ?_, k2⟩
  rw [fU_249]
  simp (disch := first | omega | exact ci_m | exact Nat.le_of_ble_eq_true rfl | (refine mF_lt ?_; omega)) only [own_249, am_go dc_249_0, J_aload_0, K_al, ld_0, am_go dc_249_1, cv_12_259_12 own_249, JR_v, JR_0, JR_ite, ci1_r, am_go dc_249_4, J_ret_l ret_249, mH_o, zI_add, zI_mul, zI_lt, zI_le, zI_eq, zI_neg, zI_pos, zI_ne0, zI_gt0, zB_0, lg_cmp_ge, lg_cmp_le, lg_cmp_gt, lg_cmp_lt, lg_cmp_eq, ail_r, abl_r, all_r, ais_r, abs_r, als_r, mF_len, k1, List.length_cons, List.length_nil, Nat.reduceAdd, Nat.reduceLT, Nat.reduceLeDiff, Nat.reduceEqDiff, ↓reduceIte, bind_s, if_true, if_false, not_true_eq_false, not_false_eq_true, Nat.zero_add]
theorem r_loss (hG : qG (u.1 1)) (hw : qHw (u.1 1)) (hF : mFr u) : ∃ u', am_f X (d + 30) 250 [.ref o] (mH h o u, z) = some (.inl (some (.long ((qB (u.1 1)).1 - qRm (u.1 1)))), (mH h o u', z)) ∧ mEd u u' := by
  obtain ⟨u1, g1, g2, -⟩ := r_bestNow (X := X) (h := h) (o := o) (d := d) (u := u) (z := z) hG hw hF
  obtain ⟨u2, k1, k2, k3⟩ := r_ruleAt (X := X) (h := h) (o := o) (d := d + 3) (z := z) hG hw u1 g2.1.s g2.2.2
  refine ⟨u2, ?_, g2.sm k2 k3⟩
  rw [fU_250]
  simp (disch := first | omega | exact ci_m | exact Nat.le_of_ble_eq_true rfl | (refine mF_lt ?_; omega)) only [own_250, am_go dc_250_0, J_aload_0, K_al, ld_0, am_go dc_250_1, cv_12_259_12 own_250, JR_v, JR_0, JR_ite, ci1_r, am_go dc_250_4, am_go dc_250_5, cv_12_239_12 own_250, am_go dc_250_8, J_lsub, am_go dc_250_9, J_ret_l ret_250, mH_o, zI_add, zI_mul, zI_lt, zI_le, zI_eq, zI_neg, zI_pos, zI_ne0, zI_gt0, zB_0, lg_cmp_ge, lg_cmp_le, lg_cmp_gt, lg_cmp_lt, lg_cmp_eq, ail_r, abl_r, all_r, ais_r, abs_r, als_r, mF_len, g1, k1, List.length_cons, List.length_nil, Nat.reduceAdd, Nat.reduceLT, Nat.reduceLeDiff, Nat.reduceEqDiff, ↓reduceIte, bind_s, if_true, if_false, not_true_eq_false, not_false_eq_true, Nat.zero_add]
/-- what the best does -/
def qAc (S : Nat → Int32) (x : Int32) : Prop := x = zI 0 ∨ ∃ b, b < wN (S 116) ∧ ((x = zI (30 + b) ∧ S (18 * b) = zI 2 ∧ S (90 + b) = 0) ∨ (x = zI (10 + b) ∧ qMay S b = true) ∨ (x = zI (20 + b) ∧ qPeep S b = true))
theorem qStep_act {S : Nat → Int32} {V : (Nat → Int32) → Int64} : qAc S (qStep S V).2 := by
  have a1 := fo_inv (f := q_bl S) (fun _ s => qAc S s.2) (wN (S 116)) 0 ((qHas S).toInt64 * qMass S, zI 0) (Or.inl rfl) (by
    intro j s h1 h2 hs
    unfold q_bl
    split
    · split
      · split
        · exact Or.inr ⟨j, by omega, Or.inl ⟨rfl, by assumption, by assumption⟩⟩
        · exact hs
      · exact hs
    · exact hs)
  have a2 := fo_inv (f := q_ob S V) (fun _ s => qAc S s.2) (wN (S 116)) 0 _ a1 (by
    intro j s h1 h2 hs
    unfold q_ob
    split
    · split
      · exact Or.inr ⟨j, by omega, Or.inr (Or.inl ⟨rfl, by assumption⟩)⟩
      · exact hs
    · exact hs)
  exact fo_inv (f := q_pb S V) (fun _ s => qAc S s.2) (wN (S 116)) 0 _ a2 (by
    intro j s h1 h2 hs
    unfold q_pb
    split
    · split
      · exact Or.inr ⟨j, by omega, Or.inr (Or.inr ⟨rfl, by assumption⟩)⟩
      · exact hs
    · exact hs)
theorem qB_act {S : Nat → Int32} (hw : qHw S) (hn : qNn S) : qAc S (qB S).2 := by
  rw [qB_step hw hn]
  exact qStep_act
def q_tk (S : Nat → Int32) (k : Nat) : Bool := !(!decide (S (90 + k) ≤ zI 2) && decide (S (18 * k + (6 + (wN (S (90 + k)) - 3))) = qHas S))
def qTk (S : Nat → Int32) (b : Nat) : Bool := !decide (S (90 + b) ≤ zI 2) && (decide (S (18 * b + (6 + (wN (S (90 + b)) - 3))) = qHas S) && fall (q_tk S) 0 b)
theorem r_isTaken_l {b : Nat} (hq : qW (u.1 1)) (hb : b < 5) : ∀ (k i : Nat), i + k = b → am_I X (am_f X (d + 3)) 255 32 [some (.ref o), some (.int (zI b)), some (.int (zI i))] [] (mH h o u, z) = some (.inl (some (.int (zB (fall (q_tk (u.1 1)) i k)))), (mH h o u, z)) := by
  intro k
  induction k with
  | zero =>
    intro i hi
    rw [am_go dc_255_32]
    simp (disch := first | omega | exact ci_m | exact Nat.le_of_ble_eq_true rfl | (refine mF_lt ?_; omega)) only [own_255, am_go dc_255_0, J_aload_0, K_al, ld_0, am_go dc_255_1, J_iload_1, K_il, ld_1, am_go dc_255_2, cv_12_183_12 own_255, JR_v, JR_0, JR_ite, ci1_r, am_go dc_255_5, J_iconst, c32_3, am_go dc_255_6, J_icmp_lt, am_go dc_255_9, am_go dc_255_10, am_go dc_255_11, am_go dc_255_12, am_go dc_255_13, am_go dc_255_16, am_go dc_255_17, J_isub, am_go dc_255_18, cv_12_186_12 own_255, am_go dc_255_21, am_go dc_255_22, cv_12_204_12 own_255, am_go dc_255_25, J_icmp_eq, am_go dc_255_28, c32_0, am_go dc_255_29, J_ret_z0 ret_255, J_ret_z1 ret_255, J_ret_zB ret_255, am_go dc_255_30, am_go dc_255_31, J_istore_2, st1_0, st1_1, st1_s, kl_i, kl_l, kl_r, kl_n, J_iload_2, ld_2, am_go dc_255_33, am_go dc_255_34, J_icmp_ge, am_go dc_255_37, am_go dc_255_38, am_go dc_255_39, am_go dc_255_42, c32_2, am_go dc_255_43, J_icmp_le, am_go dc_255_46, am_go dc_255_47, am_go dc_255_48, am_go dc_255_49, am_go dc_255_50, am_go dc_255_53, am_go dc_255_54, am_go dc_255_55, am_go dc_255_58, am_go dc_255_59, am_go dc_255_62, J_icmp_ne, am_go dc_255_65, am_go dc_255_66, am_go dc_255_67, J_iinc, pinc_go, c32_1, am_go dc_255_70, J_goto, am_go dc_255_73, am_go dc_255_74, mH_o, zI_add, zI_mul, zI_lt, zI_le, zI_eq, zI_neg, zI_pos, zI_ne0, zI_gt0, zB_0, lg_cmp_ge, lg_cmp_le, lg_cmp_gt, lg_cmp_lt, lg_cmp_eq, ail_r, abl_r, all_r, ais_r, abs_r, als_r, mF_len, List.length_cons, List.length_nil, Nat.reduceAdd, Nat.reduceLT, Nat.reduceLeDiff, Nat.reduceEqDiff, ↓reduceIte, bind_s, if_true, if_false, not_true_eq_false, not_false_eq_true, Nat.zero_add]
    rw [if_pos (by omega)]
    rfl
  | succ k ih =>
    intro i hi
    have ih' := ih (i + 1) (by omega)
    have hi5 : i < 5 := by omega
    obtain ⟨w, hw, hw6⟩ := hq.1 i hi5
    have hww : wN (zI w) = w := wN_zI (by omega)
    have hhs := fun d => r_has (X := X) (h := h) (o := o) (d := d) (u := u) (z := z) hq
    rw [am_go dc_255_32]
    by_cases h2 : w ≤ 2
    · simp (disch := first | omega | exact ci_m | exact Nat.le_of_ble_eq_true rfl | (refine mF_lt ?_; omega)) only [own_255, am_go dc_255_0, J_aload_0, K_al, ld_0, am_go dc_255_1, J_iload_1, K_il, ld_1, am_go dc_255_2, cv_12_183_12 own_255, JR_v, JR_0, JR_ite, ci1_r, am_go dc_255_5, J_iconst, c32_3, am_go dc_255_6, J_icmp_lt, am_go dc_255_9, am_go dc_255_10, am_go dc_255_11, am_go dc_255_12, am_go dc_255_13, am_go dc_255_16, am_go dc_255_17, J_isub, am_go dc_255_18, cv_12_186_12 own_255, am_go dc_255_21, am_go dc_255_22, cv_12_204_12 own_255, am_go dc_255_25, J_icmp_eq, am_go dc_255_28, c32_0, am_go dc_255_29, J_ret_z0 ret_255, J_ret_z1 ret_255, J_ret_zB ret_255, am_go dc_255_30, am_go dc_255_31, J_istore_2, st1_0, st1_1, st1_s, kl_i, kl_l, kl_r, kl_n, J_iload_2, ld_2, am_go dc_255_33, am_go dc_255_34, J_icmp_ge, am_go dc_255_37, am_go dc_255_38, am_go dc_255_39, am_go dc_255_42, c32_2, am_go dc_255_43, J_icmp_le, am_go dc_255_46, am_go dc_255_47, am_go dc_255_48, am_go dc_255_49, am_go dc_255_50, am_go dc_255_53, am_go dc_255_54, am_go dc_255_55, am_go dc_255_58, am_go dc_255_59, am_go dc_255_62, J_icmp_ne, am_go dc_255_65, am_go dc_255_66, am_go dc_255_67, J_iinc, pinc_go, c32_1, am_go dc_255_70, J_goto, am_go dc_255_73, am_go dc_255_74, mH_o, zI_add, zI_mul, zI_lt, zI_le, zI_eq, zI_neg, zI_pos, zI_ne0, zI_gt0, zB_0, lg_cmp_ge, lg_cmp_le, lg_cmp_gt, lg_cmp_lt, lg_cmp_eq, ail_r, abl_r, all_r, ais_r, abs_r, als_r, mF_len, r_how, hw, List.length_cons, List.length_nil, Nat.reduceAdd, Nat.reduceLT, Nat.reduceLeDiff, Nat.reduceEqDiff, ↓reduceIte, bind_s, if_true, if_false, not_true_eq_false, not_false_eq_true, Nat.zero_add]
      rw [if_neg (by omega), if_pos h2, ih']
      have : q_tk (u.1 1) i = true := by
        unfold q_tk
        rw [hw]
        have : zI w ≤ zI 2 := by rw [zI_le (by omega) (by omega)]; exact h2
        simp [this]
      simp [fall, this]
    · have hw3 : w - 3 < 4 := by omega
      simp (disch := first | omega | exact ci_m | exact Nat.le_of_ble_eq_true rfl | (refine mF_lt ?_; omega)) only [own_255, am_go dc_255_0, J_aload_0, K_al, ld_0, am_go dc_255_1, J_iload_1, K_il, ld_1, am_go dc_255_2, cv_12_183_12 own_255, JR_v, JR_0, JR_ite, ci1_r, am_go dc_255_5, J_iconst, c32_3, am_go dc_255_6, J_icmp_lt, am_go dc_255_9, am_go dc_255_10, am_go dc_255_11, am_go dc_255_12, am_go dc_255_13, am_go dc_255_16, am_go dc_255_17, J_isub, am_go dc_255_18, cv_12_186_12 own_255, am_go dc_255_21, am_go dc_255_22, cv_12_204_12 own_255, am_go dc_255_25, J_icmp_eq, am_go dc_255_28, c32_0, am_go dc_255_29, J_ret_z0 ret_255, J_ret_z1 ret_255, J_ret_zB ret_255, am_go dc_255_30, am_go dc_255_31, J_istore_2, st1_0, st1_1, st1_s, kl_i, kl_l, kl_r, kl_n, J_iload_2, ld_2, am_go dc_255_33, am_go dc_255_34, J_icmp_ge, am_go dc_255_37, am_go dc_255_38, am_go dc_255_39, am_go dc_255_42, c32_2, am_go dc_255_43, J_icmp_le, am_go dc_255_46, am_go dc_255_47, am_go dc_255_48, am_go dc_255_49, am_go dc_255_50, am_go dc_255_53, am_go dc_255_54, am_go dc_255_55, am_go dc_255_58, am_go dc_255_59, am_go dc_255_62, J_icmp_ne, am_go dc_255_65, am_go dc_255_66, am_go dc_255_67, J_iinc, pinc_go, c32_1, am_go dc_255_70, J_goto, am_go dc_255_73, am_go dc_255_74, mH_o, zI_add, zI_mul, zI_lt, zI_le, zI_eq, zI_neg, zI_pos, zI_ne0, zI_gt0, zB_0, lg_cmp_ge, lg_cmp_le, lg_cmp_gt, lg_cmp_lt, lg_cmp_eq, ail_r, abl_r, all_r, ais_r, abs_r, als_r, mF_len, r_how, hw, zI_sub, r_worth, hhs, List.length_cons, List.length_nil, Nat.reduceAdd, Nat.reduceLT, Nat.reduceLeDiff, Nat.reduceEqDiff, ↓reduceIte, bind_s, if_true, if_false, not_true_eq_false, not_false_eq_true, Nat.zero_add]
      rw [if_neg (by omega), if_neg h2]
      have hn : ¬ zI w ≤ zI 2 := by rw [zI_le (by omega) (by omega)]; exact h2
      by_cases e : u.1 1 (18 * i + (6 + (w - 3))) = qHas (u.1 1)
      · have : q_tk (u.1 1) i = false := by
          unfold q_tk
          rw [hw, hww]
          simp [hn, e]
        simp [fall, this, e, zB]
      · have : q_tk (u.1 1) i = true := by
          unfold q_tk
          rw [hw, hww]
          simp [e]
        simp [fall, this, e, ih']
theorem r_isTaken {b : Nat} (hq : qW (u.1 1)) (hb : b < 5) : am_f X (d + 4) 255 [.ref o, .int (zI b)] (mH h o u, z) = some (.inl (some (.int (zB (qTk (u.1 1) b)))), (mH h o u, z)) := by
  obtain ⟨w, hw, hw6⟩ := hq.1 b hb
  have hww : wN (zI w) = w := wN_zI (by omega)
  have hhs := fun d => r_has (X := X) (h := h) (o := o) (d := d) (u := u) (z := z) hq
  have hl := r_isTaken_l (X := X) (h := h) (o := o) (d := d) (u := u) (z := z) hq hb b 0 (Nat.zero_add _)
  rw [fU_255]
  by_cases h2 : w ≤ 2
  · simp (disch := first | omega | exact ci_m | exact Nat.le_of_ble_eq_true rfl | (refine mF_lt ?_; omega)) only [own_255, am_go dc_255_0, J_aload_0, K_al, ld_0, am_go dc_255_1, J_iload_1, K_il, ld_1, am_go dc_255_2, cv_12_183_12 own_255, JR_v, JR_0, JR_ite, ci1_r, am_go dc_255_5, J_iconst, c32_3, am_go dc_255_6, J_icmp_lt, am_go dc_255_9, am_go dc_255_10, am_go dc_255_11, am_go dc_255_12, am_go dc_255_13, am_go dc_255_16, am_go dc_255_17, J_isub, am_go dc_255_18, cv_12_186_12 own_255, am_go dc_255_21, am_go dc_255_22, cv_12_204_12 own_255, am_go dc_255_25, J_icmp_eq, am_go dc_255_28, c32_0, am_go dc_255_29, J_ret_z0 ret_255, J_ret_z1 ret_255, J_ret_zB ret_255, am_go dc_255_30, am_go dc_255_31, J_istore_2, st1_0, st1_1, st1_s, kl_i, kl_l, kl_r, kl_n, J_iload_2, ld_2, am_go dc_255_33, am_go dc_255_34, J_icmp_ge, am_go dc_255_37, am_go dc_255_38, am_go dc_255_39, am_go dc_255_42, c32_2, am_go dc_255_43, J_icmp_le, am_go dc_255_46, am_go dc_255_47, am_go dc_255_48, am_go dc_255_49, am_go dc_255_50, am_go dc_255_53, am_go dc_255_54, am_go dc_255_55, am_go dc_255_58, am_go dc_255_59, am_go dc_255_62, J_icmp_ne, am_go dc_255_65, am_go dc_255_66, am_go dc_255_67, J_iinc, pinc_go, c32_1, am_go dc_255_70, J_goto, am_go dc_255_73, am_go dc_255_74, mH_o, zI_add, zI_mul, zI_lt, zI_le, zI_eq, zI_neg, zI_pos, zI_ne0, zI_gt0, zB_0, lg_cmp_ge, lg_cmp_le, lg_cmp_gt, lg_cmp_lt, lg_cmp_eq, ail_r, abl_r, all_r, ais_r, abs_r, als_r, mF_len, r_how, hw, List.length_cons, List.length_nil, Nat.reduceAdd, Nat.reduceLT, Nat.reduceLeDiff, Nat.reduceEqDiff, ↓reduceIte, bind_s, if_true, if_false, not_true_eq_false, not_false_eq_true, Nat.zero_add]
    rw [if_pos (by omega)]
    have : qTk (u.1 1) b = false := by
      unfold qTk
      rw [hw]
      have : zI w ≤ zI 2 := by rw [zI_le (by omega) (by omega)]; exact h2
      simp [this]
    rw [this]
    rfl
  · have hw3 : w - 3 < 4 := by omega
    simp (disch := first | omega | exact ci_m | exact Nat.le_of_ble_eq_true rfl | (refine mF_lt ?_; omega)) only [own_255, am_go dc_255_0, J_aload_0, K_al, ld_0, am_go dc_255_1, J_iload_1, K_il, ld_1, am_go dc_255_2, cv_12_183_12 own_255, JR_v, JR_0, JR_ite, ci1_r, am_go dc_255_5, J_iconst, c32_3, am_go dc_255_6, J_icmp_lt, am_go dc_255_9, am_go dc_255_10, am_go dc_255_11, am_go dc_255_12, am_go dc_255_13, am_go dc_255_16, am_go dc_255_17, J_isub, am_go dc_255_18, cv_12_186_12 own_255, am_go dc_255_21, am_go dc_255_22, cv_12_204_12 own_255, am_go dc_255_25, J_icmp_eq, am_go dc_255_28, c32_0, am_go dc_255_29, J_ret_z0 ret_255, J_ret_z1 ret_255, J_ret_zB ret_255, am_go dc_255_30, am_go dc_255_31, J_istore_2, st1_0, st1_1, st1_s, kl_i, kl_l, kl_r, kl_n, J_iload_2, ld_2, am_go dc_255_33, am_go dc_255_34, J_icmp_ge, am_go dc_255_37, am_go dc_255_38, am_go dc_255_39, am_go dc_255_42, c32_2, am_go dc_255_43, J_icmp_le, am_go dc_255_46, am_go dc_255_47, am_go dc_255_48, am_go dc_255_49, am_go dc_255_50, am_go dc_255_53, am_go dc_255_54, am_go dc_255_55, am_go dc_255_58, am_go dc_255_59, am_go dc_255_62, J_icmp_ne, am_go dc_255_65, am_go dc_255_66, am_go dc_255_67, J_iinc, pinc_go, c32_1, am_go dc_255_70, J_goto, am_go dc_255_73, am_go dc_255_74, mH_o, zI_add, zI_mul, zI_lt, zI_le, zI_eq, zI_neg, zI_pos, zI_ne0, zI_gt0, zB_0, lg_cmp_ge, lg_cmp_le, lg_cmp_gt, lg_cmp_lt, lg_cmp_eq, ail_r, abl_r, all_r, ais_r, abs_r, als_r, mF_len, r_how, hw, zI_sub, r_worth, hhs, List.length_cons, List.length_nil, Nat.reduceAdd, Nat.reduceLT, Nat.reduceLeDiff, Nat.reduceEqDiff, ↓reduceIte, bind_s, if_true, if_false, not_true_eq_false, not_false_eq_true, Nat.zero_add]
    rw [if_neg (by omega)]
    have hn : ¬ zI w ≤ zI 2 := by rw [zI_le (by omega) (by omega)]; exact h2
    unfold qTk
    rw [hw, hww]
    by_cases e : u.1 1 (18 * b + (6 + (w - 3))) = qHas (u.1 1)
    · simp [hn, e, hl]
    · simp [hn, e, zB]
def qBrL (F : (Nat → Int32) → Int32) (S : Nat → Int32) (b : Nat) : Nat → Nat → Int32 → Int32
  | 0, _, f => f
  | k + 1, i, f => if f < 0 then (if qShows S b i = 0 then qBrL F S b k (i + 1) f else qBrL F S b k (i + 1) (F (upd S (90 + b) (zI (3 + i))))) else f
def qBrS (F : (Nat → Int32) → Int32) (S : Nat → Int32) : Int32 := if qRl S < 0 then (if (qHas S).toInt64 * qMass S < (qB S).1 then q5 S 5 (zI 0) else -4) else if qOpn S (fun S => (qB S).1) (wN (qRl S)) < (qB S).1 then q5 S 5 (zI 0) else qBrL F S (wN (qRl S)) (wN (S (18 * wN (qRl S) + 3))) 0 (-4)
def qBr : Nat → (Nat → Int32) → Int32
  | 0, _ => 0
  | n + 1, S => qBrS (qBr n) S
theorem qBrL_cg {F F' : (Nat → Int32) → Int32} {S : Nat → Int32} {b : Nat} : ∀ (k i : Nat) (f : Int32), (∀ j, j < i + k → F (upd S (90 + b) (zI (3 + j))) = F' (upd S (90 + b) (zI (3 + j)))) → qBrL F S b k i f = qBrL F' S b k i f
  | 0, _, _, _ => rfl
  | k + 1, i, f, h => by
    unfold qBrL
    rw [h i (by omega), qBrL_cg k (i + 1) _ (fun j hj => h j (by omega)), qBrL_cg k (i + 1) _ (fun j hj => h j (by omega))]
theorem qBr_st : ∀ (n : Nat) (S : Nat → Int32), qHw S → qNn S → meas S < n → qBr n S = qBr (n + 1) S
  | 0, S, _, _, h => by omega
  | n + 1, S, hw, hn, h => by
    show qBrS (qBr n) S = qBrS (qBr (n + 1)) S
    unfold qBrS
    by_cases c : qRl S < 0
    · rw [if_pos c, if_pos c]
    · rw [if_neg c, if_neg c]
      rcases qRl_inv hn with e | ⟨b, e1, e2, e3, e4⟩
      · exact absurd (by rw [e]; decide) c
      · rw [e4]
        have hb : b < 5 := by have := hn.1; omega
        have h4 := hn.2 b e1
        rw [qBrL_cg (F := qBr n) (F' := qBr (n + 1))]
        intro j hj
        have := meas_up hb (x := 3 + j) (by omega) (qMay_lev (i := j) hw hb e3)
        exact qBr_st n _ (hw.up (by omega)) (hn.up hb) (by omega)
def qBf (S : Nat → Int32) : Int32 := qBr 11 S
theorem qBf_step {S : Nat → Int32} (hw : qHw S) (hn : qNn S) : qBf S = qBrS qBf S := by
  unfold qBf
  rw [qBr_st 11 S hw hn (by have := meas_le S; omega)]
  rfl
def oOkI (X : am_X) (h : am_H) (o : Nat) (z : Nat × Nat) (D t : Nat) (V : (Nat → Int32) → Int32) (S : Nat → Int32) : Prop := ∀ u : mU, u.1 1 = S → mMem u S → ∃ u', am_f X D t [.ref o] (mH h o u, z) = some (.inl (some (.int (V S))), (mH h o u', z)) ∧ mSm u u' ∧ mMem u' S
theorem r_breach_l {S : Nat → Int32} {b : Nat} {x2 : Int64} (hG : qG S) (hw : qHw S) (hb : b < wN (S 116)) (hV : ∀ i, i < 4 → ¬ qShows S b i = 0 → oOkI X h o z (d + 30) 252 qBf (upd S (90 + b) (zI (3 + i)))) : ∀ (k i : Nat) (f : Int32) (u : mU), u.1 1 = S → mMem u S → i + k = wN (S (18 * b + 3)) → ∃ u', am_I X (am_f X (d + 30)) 252 66 [some (.ref o), some (.int (zI b)), some (.long x2), none, some (.int (S (90 + b))), some (.int f), some (.int (zI i))] [] (mH h o u, z) = some (.inl (some (.int (qBrL qBf S b k i f))), (mH h o u', z)) ∧ mSm u u' ∧ mMem u' S := by
  have hq := qW_of2 hG hw
  have hm5 := hG.m.2
  have hb5 : b < 5 := by omega
  obtain ⟨hn, hn1, hn4⟩ := hG.n hb
  generalize wN (S (18 * b + 3)) = n at hn hn1 hn4 ⊢
  intro k
  induction k with
  | zero =>
    intro i f u hu hM hi
    subst hu
    refine ⟨u, ?_, mSm.rf, hM⟩
    rw [am_go dc_252_66]
    simp (disch := first | omega | exact ci_m | exact Nat.le_of_ble_eq_true rfl | (refine mF_lt ?_; omega)) only [own_252, am_go dc_252_0, J_aload_0, K_al, ld_0, am_go dc_252_1, cv_12_236_12 own_252, JR_v, JR_0, JR_ite, ci1_r, am_go dc_252_4, J_istore_1, st1_0, st1_1, st1_s, kl_i, kl_l, kl_r, kl_n, am_go dc_252_5, J_iload_1, K_il, ld_1, am_go dc_252_6, J_if_ge, am_go dc_252_9, am_go dc_252_10, cv_12_204_12 own_252, am_go dc_252_13, J_i2l, am_go dc_252_14, am_go dc_252_15, cv_12_213_12 own_252, am_go dc_252_18, J_lmul, am_go dc_252_19, J_goto, am_go dc_252_22, am_go dc_252_23, am_go dc_252_24, J_iconst, c32_0, am_go dc_252_25, cv_12_249_12 own_252, am_go dc_252_28, J_lstore_2, st2_0, st2_1, st2_s, am_go dc_252_29, J_lload_2, K_ll, ld_2, am_go dc_252_30, am_go dc_252_31, cv_12_242_12 own_252, am_go dc_252_34, J_lcmp, am_go dc_252_35, am_go dc_252_38, am_go dc_252_39, c32_5, am_go dc_252_40, cv_12_210_12 own_252, am_go dc_252_43, J_ret_i ret_252, am_go dc_252_44, am_go dc_252_45, am_go dc_252_48, am_go dc_252_49, am_go dc_252_52, am_go dc_252_53, am_go dc_252_54, cv_12_183_12 own_252, am_go dc_252_57, J_istore, am_go dc_252_59, J_bipush, i8_m4, am_go dc_252_61, am_go dc_252_63, am_go dc_252_64, am_go dc_252_67, J_if_lt, am_go dc_252_70, J_iload, ld_6, am_go dc_252_72, am_go dc_252_73, am_go dc_252_74, cv_12_143_12 own_252, am_go dc_252_77, J_icmp_ge, am_go dc_252_80, ld_5, am_go dc_252_82, am_go dc_252_85, am_go dc_252_86, am_go dc_252_87, am_go dc_252_89, cv_12_198_12 own_252, am_go dc_252_92, J_if_ne, am_go dc_252_95, am_go dc_252_98, am_go dc_252_99, am_go dc_252_100, c32_3, am_go dc_252_101, am_go dc_252_103, J_iadd, am_go dc_252_104, cv_12_154_12 own_252, am_go dc_252_107, am_go dc_252_108, cv_12_265_12 own_252, am_go dc_252_111, am_go dc_252_113, am_go dc_252_114, am_go dc_252_115, ld_4, am_go dc_252_117, am_go dc_252_120, J_iinc, pinc_go, c32_1, am_go dc_252_123, am_go dc_252_126, am_go dc_252_128, mH_o, zI_add, zI_mul, zI_lt, zI_le, zI_eq, zI_neg, zI_pos, zI_ne0, zI_gt0, zB_0, lg_cmp_ge, lg_cmp_le, lg_cmp_gt, lg_cmp_lt, lg_cmp_eq, ail_r, abl_r, all_r, ais_r, abs_r, als_r, mF_len, r_steps, hn, List.length_cons, List.length_nil, Nat.reduceAdd, Nat.reduceLT, Nat.reduceLeDiff, Nat.reduceEqDiff, ↓reduceIte, bind_s, if_true, if_false, not_true_eq_false, not_false_eq_true, Nat.zero_add]
    rw [if_pos (by omega)]
    rfl
  | succ k ih =>
    intro i f u hu hM hi
    have hi4 : i < 4 := by omega
    unfold qBrL
    by_cases cf : f < 0
    · have cf' : ¬ 0 ≤ f := Int32.not_le.mpr cf
      simp only [if_pos cf]
      by_cases c0 : qShows S b i = 0
      · obtain ⟨u', h1, h2, h3⟩ := ih (i + 1) f u hu hM (by omega)
        refine ⟨u', ?_, h2, h3⟩
        rw [if_pos c0, ← h1]
        subst hu
        have hsh := fun d => r_shows (X := X) (h := h) (o := o) (d := d) (u := u) (z := z) (b := b) (i := i) hq hb hi4
        rw [am_go dc_252_66]
        simp (disch := first | omega | exact ci_m | exact Nat.le_of_ble_eq_true rfl | (refine mF_lt ?_; omega)) only [own_252, am_go dc_252_0, J_aload_0, K_al, ld_0, am_go dc_252_1, cv_12_236_12 own_252, JR_v, JR_0, JR_ite, ci1_r, am_go dc_252_4, J_istore_1, st1_0, st1_1, st1_s, kl_i, kl_l, kl_r, kl_n, am_go dc_252_5, J_iload_1, K_il, ld_1, am_go dc_252_6, J_if_ge, am_go dc_252_9, am_go dc_252_10, cv_12_204_12 own_252, am_go dc_252_13, J_i2l, am_go dc_252_14, am_go dc_252_15, cv_12_213_12 own_252, am_go dc_252_18, J_lmul, am_go dc_252_19, J_goto, am_go dc_252_22, am_go dc_252_23, am_go dc_252_24, J_iconst, c32_0, am_go dc_252_25, cv_12_249_12 own_252, am_go dc_252_28, J_lstore_2, st2_0, st2_1, st2_s, am_go dc_252_29, J_lload_2, K_ll, ld_2, am_go dc_252_30, am_go dc_252_31, cv_12_242_12 own_252, am_go dc_252_34, J_lcmp, am_go dc_252_35, am_go dc_252_38, am_go dc_252_39, c32_5, am_go dc_252_40, cv_12_210_12 own_252, am_go dc_252_43, J_ret_i ret_252, am_go dc_252_44, am_go dc_252_45, am_go dc_252_48, am_go dc_252_49, am_go dc_252_52, am_go dc_252_53, am_go dc_252_54, cv_12_183_12 own_252, am_go dc_252_57, J_istore, am_go dc_252_59, J_bipush, i8_m4, am_go dc_252_61, am_go dc_252_63, am_go dc_252_64, am_go dc_252_67, J_if_lt, am_go dc_252_70, J_iload, ld_6, am_go dc_252_72, am_go dc_252_73, am_go dc_252_74, cv_12_143_12 own_252, am_go dc_252_77, J_icmp_ge, am_go dc_252_80, ld_5, am_go dc_252_82, am_go dc_252_85, am_go dc_252_86, am_go dc_252_87, am_go dc_252_89, cv_12_198_12 own_252, am_go dc_252_92, J_if_ne, am_go dc_252_95, am_go dc_252_98, am_go dc_252_99, am_go dc_252_100, c32_3, am_go dc_252_101, am_go dc_252_103, J_iadd, am_go dc_252_104, cv_12_154_12 own_252, am_go dc_252_107, am_go dc_252_108, cv_12_265_12 own_252, am_go dc_252_111, am_go dc_252_113, am_go dc_252_114, am_go dc_252_115, ld_4, am_go dc_252_117, am_go dc_252_120, J_iinc, pinc_go, c32_1, am_go dc_252_123, am_go dc_252_126, am_go dc_252_128, mH_o, zI_add, zI_mul, zI_lt, zI_le, zI_eq, zI_neg, zI_pos, zI_ne0, zI_gt0, zB_0, lg_cmp_ge, lg_cmp_le, lg_cmp_gt, lg_cmp_lt, lg_cmp_eq, ail_r, abl_r, all_r, ais_r, abs_r, als_r, mF_len, r_steps, hn, cf', hsh, c0, List.length_cons, List.length_nil, Nat.reduceAdd, Nat.reduceLT, Nat.reduceLeDiff, Nat.reduceEqDiff, ↓reduceIte, bind_s, if_true, if_false, not_true_eq_false, not_false_eq_true, Nat.zero_add]
        rw [if_neg (by omega)]
      · obtain ⟨u1, h1, h2, h3⟩ := hV i hi4 c0 (mS u 1 (upd S (90 + b) (zI (3 + i)))) mS_s ((hM.a (qA0.up hb5)).S)
        obtain ⟨p1, p2⟩ := mSm.put hu h2
        obtain ⟨u', h4, h5, h6⟩ := ih (i + 1) (qBf (upd S (90 + b) (zI (3 + i)))) _ p1 ((h3.a (qA0.up hb5).sy).S) (by omega)
        refine ⟨u', ?_, p2.tr h5, h6⟩
        rw [if_neg c0, ← h4]
        subst hu
        have hsh := fun d => r_shows (X := X) (h := h) (o := o) (d := d) (u := u) (z := z) (b := b) (i := i) hq hb hi4
        rw [am_go dc_252_66]
        simp (disch := first | omega | exact ci_m | exact Nat.le_of_ble_eq_true rfl | (refine mF_lt ?_; omega)) only [own_252, am_go dc_252_0, J_aload_0, K_al, ld_0, am_go dc_252_1, cv_12_236_12 own_252, JR_v, JR_0, JR_ite, ci1_r, am_go dc_252_4, J_istore_1, st1_0, st1_1, st1_s, kl_i, kl_l, kl_r, kl_n, am_go dc_252_5, J_iload_1, K_il, ld_1, am_go dc_252_6, J_if_ge, am_go dc_252_9, am_go dc_252_10, cv_12_204_12 own_252, am_go dc_252_13, J_i2l, am_go dc_252_14, am_go dc_252_15, cv_12_213_12 own_252, am_go dc_252_18, J_lmul, am_go dc_252_19, J_goto, am_go dc_252_22, am_go dc_252_23, am_go dc_252_24, J_iconst, c32_0, am_go dc_252_25, cv_12_249_12 own_252, am_go dc_252_28, J_lstore_2, st2_0, st2_1, st2_s, am_go dc_252_29, J_lload_2, K_ll, ld_2, am_go dc_252_30, am_go dc_252_31, cv_12_242_12 own_252, am_go dc_252_34, J_lcmp, am_go dc_252_35, am_go dc_252_38, am_go dc_252_39, c32_5, am_go dc_252_40, cv_12_210_12 own_252, am_go dc_252_43, J_ret_i ret_252, am_go dc_252_44, am_go dc_252_45, am_go dc_252_48, am_go dc_252_49, am_go dc_252_52, am_go dc_252_53, am_go dc_252_54, cv_12_183_12 own_252, am_go dc_252_57, J_istore, am_go dc_252_59, J_bipush, i8_m4, am_go dc_252_61, am_go dc_252_63, am_go dc_252_64, am_go dc_252_67, J_if_lt, am_go dc_252_70, J_iload, ld_6, am_go dc_252_72, am_go dc_252_73, am_go dc_252_74, cv_12_143_12 own_252, am_go dc_252_77, J_icmp_ge, am_go dc_252_80, ld_5, am_go dc_252_82, am_go dc_252_85, am_go dc_252_86, am_go dc_252_87, am_go dc_252_89, cv_12_198_12 own_252, am_go dc_252_92, J_if_ne, am_go dc_252_95, am_go dc_252_98, am_go dc_252_99, am_go dc_252_100, c32_3, am_go dc_252_101, am_go dc_252_103, J_iadd, am_go dc_252_104, cv_12_154_12 own_252, am_go dc_252_107, am_go dc_252_108, cv_12_265_12 own_252, am_go dc_252_111, am_go dc_252_113, am_go dc_252_114, am_go dc_252_115, ld_4, am_go dc_252_117, am_go dc_252_120, J_iinc, pinc_go, c32_1, am_go dc_252_123, am_go dc_252_126, am_go dc_252_128, mH_o, zI_add, zI_mul, zI_lt, zI_le, zI_eq, zI_neg, zI_pos, zI_ne0, zI_gt0, zB_0, lg_cmp_ge, lg_cmp_le, lg_cmp_gt, lg_cmp_lt, lg_cmp_eq, ail_r, abl_r, all_r, ais_r, abs_r, als_r, mF_len, r_steps, hn, cf', hsh, c0, r_puts, h1, List.length_cons, List.length_nil, Nat.reduceAdd, Nat.reduceLT, Nat.reduceLeDiff, Nat.reduceEqDiff, ↓reduceIte, bind_s, if_true, if_false, not_true_eq_false, not_false_eq_true, Nat.zero_add]
        rw [if_neg (by omega)]
    · have cf' : 0 ≤ f := Int32.not_lt.mp cf
      simp only [if_neg cf]
      refine ⟨u, ?_, mSm.rf, hM⟩
      subst hu
      rw [am_go dc_252_66]
      simp (disch := first | omega | exact ci_m | exact Nat.le_of_ble_eq_true rfl | (refine mF_lt ?_; omega)) only [own_252, am_go dc_252_0, J_aload_0, K_al, ld_0, am_go dc_252_1, cv_12_236_12 own_252, JR_v, JR_0, JR_ite, ci1_r, am_go dc_252_4, J_istore_1, st1_0, st1_1, st1_s, kl_i, kl_l, kl_r, kl_n, am_go dc_252_5, J_iload_1, K_il, ld_1, am_go dc_252_6, J_if_ge, am_go dc_252_9, am_go dc_252_10, cv_12_204_12 own_252, am_go dc_252_13, J_i2l, am_go dc_252_14, am_go dc_252_15, cv_12_213_12 own_252, am_go dc_252_18, J_lmul, am_go dc_252_19, J_goto, am_go dc_252_22, am_go dc_252_23, am_go dc_252_24, J_iconst, c32_0, am_go dc_252_25, cv_12_249_12 own_252, am_go dc_252_28, J_lstore_2, st2_0, st2_1, st2_s, am_go dc_252_29, J_lload_2, K_ll, ld_2, am_go dc_252_30, am_go dc_252_31, cv_12_242_12 own_252, am_go dc_252_34, J_lcmp, am_go dc_252_35, am_go dc_252_38, am_go dc_252_39, c32_5, am_go dc_252_40, cv_12_210_12 own_252, am_go dc_252_43, J_ret_i ret_252, am_go dc_252_44, am_go dc_252_45, am_go dc_252_48, am_go dc_252_49, am_go dc_252_52, am_go dc_252_53, am_go dc_252_54, cv_12_183_12 own_252, am_go dc_252_57, J_istore, am_go dc_252_59, J_bipush, i8_m4, am_go dc_252_61, am_go dc_252_63, am_go dc_252_64, am_go dc_252_67, J_if_lt, am_go dc_252_70, J_iload, ld_6, am_go dc_252_72, am_go dc_252_73, am_go dc_252_74, cv_12_143_12 own_252, am_go dc_252_77, J_icmp_ge, am_go dc_252_80, ld_5, am_go dc_252_82, am_go dc_252_85, am_go dc_252_86, am_go dc_252_87, am_go dc_252_89, cv_12_198_12 own_252, am_go dc_252_92, J_if_ne, am_go dc_252_95, am_go dc_252_98, am_go dc_252_99, am_go dc_252_100, c32_3, am_go dc_252_101, am_go dc_252_103, J_iadd, am_go dc_252_104, cv_12_154_12 own_252, am_go dc_252_107, am_go dc_252_108, cv_12_265_12 own_252, am_go dc_252_111, am_go dc_252_113, am_go dc_252_114, am_go dc_252_115, ld_4, am_go dc_252_117, am_go dc_252_120, J_iinc, pinc_go, c32_1, am_go dc_252_123, am_go dc_252_126, am_go dc_252_128, mH_o, zI_add, zI_mul, zI_lt, zI_le, zI_eq, zI_neg, zI_pos, zI_ne0, zI_gt0, zB_0, lg_cmp_ge, lg_cmp_le, lg_cmp_gt, lg_cmp_lt, lg_cmp_eq, ail_r, abl_r, all_r, ais_r, abs_r, als_r, mF_len, r_steps, hn, cf', List.length_cons, List.length_nil, Nat.reduceAdd, Nat.reduceLT, Nat.reduceLeDiff, Nat.reduceEqDiff, ↓reduceIte, bind_s, if_true, if_false, not_true_eq_false, not_false_eq_true, Nat.zero_add]
      rw [if_neg (by omega)]
theorem r_breachCore {S : Nat → Int32} (hG : qG S) (hw : qHw S) (hV : ∀ b x, b < 5 → x ≤ 6 → lev x < lev (wN (S (90 + b))) → oOkI X h o z (d + 30) 252 qBf (upd S (90 + b) (zI x))) : oOkI X h o z (d + 31) 252 qBf S := by
  intro u hu hM
  have hq := qW_of2 hG hw
  have hm5 := hG.m.2
  obtain ⟨x, y, hr⟩ := r_ruled (X := X) (h := h) (o := o) (d := d + 26) (u := u) (z := z) (by rw [hu]; exact hG) (by rw [hu]; exact hq)
  rw [hu] at hr
  rw [qBf_step hw hG.nn]
  unfold qBrS
  rcases qRl_inv hG.nn with e | ⟨b, e1, e2, e3, e4⟩
  · have hl : qRl S < 0 := by rw [e]; decide
    rw [if_pos hl]
    rw [e] at hr
    obtain ⟨u2, k1, k2, k3, -⟩ := r_bestAt (X := X) (h := h) (o := o) (d := d + 2) (z := z) hG hw (mJ (mJ u 25 x) 26 y) hu hM.J
    refine ⟨u2, ?_, mSm.J.tr k2, k3⟩
    have h5 : ∀ d, am_f X (d + 2) 231 [.ref o, .int (zI 5)] (mH h o u2, z) = some (.inl (some (.int (q5 S 5 (zI 0)))), (mH h o u2, z)) := by
      intro d
      rw [r_code5, k2.s]
      simp only [mJ_1, hu]
    have hhs : ∀ d, am_f X (d + 3) 225 [.ref o] (mH h o (mJ (mJ u 25 x) 26 y), z) = some (.inl (some (.int (qHas S))), (mH h o (mJ (mJ u 25 x) 26 y), z)) := fun d => by
      rw [r_has (u := mJ (mJ u 25 x) 26 y) (by show qW (u.1 1); rw [hu]; exact hq)]
      simp only [mJ_1, hu]
    have hms : ∀ d, am_f X (d + 3) 233 [.ref o] (mH h o (mJ (mJ u 25 x) 26 y), z) = some (.inl (some (.long (qMass S))), (mH h o (mJ (mJ u 25 x) 26 y), z)) := fun d => by
      rw [r_mass (u := mJ (mJ u 25 x) 26 y) (by show qW (u.1 1); rw [hu]; exact hq)]
      simp only [mJ_1, hu]
    rw [fU_252]
    simp (disch := first | omega | exact ci_m | exact Nat.le_of_ble_eq_true rfl | (refine mF_lt ?_; omega)) only [own_252, am_go dc_252_0, J_aload_0, K_al, ld_0, am_go dc_252_1, cv_12_236_12 own_252, JR_v, JR_0, JR_ite, ci1_r, am_go dc_252_4, J_istore_1, st1_0, st1_1, st1_s, kl_i, kl_l, kl_r, kl_n, am_go dc_252_5, J_iload_1, K_il, ld_1, am_go dc_252_6, J_if_ge, am_go dc_252_9, am_go dc_252_10, cv_12_204_12 own_252, am_go dc_252_13, J_i2l, am_go dc_252_14, am_go dc_252_15, cv_12_213_12 own_252, am_go dc_252_18, J_lmul, am_go dc_252_19, J_goto, am_go dc_252_22, am_go dc_252_23, am_go dc_252_24, J_iconst, c32_0, am_go dc_252_25, cv_12_249_12 own_252, am_go dc_252_28, J_lstore_2, st2_0, st2_1, st2_s, am_go dc_252_29, J_lload_2, K_ll, ld_2, am_go dc_252_30, am_go dc_252_31, cv_12_242_12 own_252, am_go dc_252_34, J_lcmp, am_go dc_252_35, am_go dc_252_38, am_go dc_252_39, c32_5, am_go dc_252_40, cv_12_210_12 own_252, am_go dc_252_43, J_ret_i ret_252, am_go dc_252_44, am_go dc_252_45, am_go dc_252_48, am_go dc_252_49, am_go dc_252_52, am_go dc_252_53, am_go dc_252_54, cv_12_183_12 own_252, am_go dc_252_57, J_istore, am_go dc_252_59, J_bipush, i8_m4, am_go dc_252_61, am_go dc_252_63, am_go dc_252_64, am_go dc_252_67, J_if_lt, am_go dc_252_70, J_iload, ld_6, am_go dc_252_72, am_go dc_252_73, am_go dc_252_74, cv_12_143_12 own_252, am_go dc_252_77, J_icmp_ge, am_go dc_252_80, ld_5, am_go dc_252_82, am_go dc_252_85, am_go dc_252_86, am_go dc_252_87, am_go dc_252_89, cv_12_198_12 own_252, am_go dc_252_92, J_if_ne, am_go dc_252_95, am_go dc_252_98, am_go dc_252_99, am_go dc_252_100, c32_3, am_go dc_252_101, am_go dc_252_103, J_iadd, am_go dc_252_104, cv_12_154_12 own_252, am_go dc_252_107, am_go dc_252_108, cv_12_265_12 own_252, am_go dc_252_111, am_go dc_252_113, am_go dc_252_114, am_go dc_252_115, ld_4, am_go dc_252_117, am_go dc_252_120, J_iinc, pinc_go, c32_1, am_go dc_252_123, am_go dc_252_126, am_go dc_252_128, mH_o, zI_add, zI_mul, zI_lt, zI_le, zI_eq, zI_neg, zI_pos, zI_ne0, zI_gt0, zB_0, lg_cmp_ge, lg_cmp_le, lg_cmp_gt, lg_cmp_lt, lg_cmp_eq, ail_r, abl_r, all_r, ais_r, abs_r, als_r, mF_len, mS_s, mS_o, mS_2, mS_S, mI_1, mI_2, mI_s, mI_o, mI_3, mI_I, mJ_1, mJ_2, mJ_3, mJ_s, mJ_o, mJ_J, mL_1, mL_s, mL_o, mL_2, hr, hhs, hms, k1, h5, m4_lt2, List.length_cons, List.length_nil, Nat.reduceAdd, Nat.reduceLT, Nat.reduceLeDiff, Nat.reduceEqDiff, ↓reduceIte, bind_s, if_true, if_false, not_true_eq_false, not_false_eq_true, Nat.zero_add]
    by_cases c : (qHas S).toInt64 * qMass S < (qB S).1
    · have c' : ¬ (qB S).1 ≤ (qHas S).toInt64 * qMass S := Int64.not_le.mpr c
      simp only [c, c', if_true, if_false]
    · have c' : (qB S).1 ≤ (qHas S).toInt64 * qMass S := Int64.not_lt.mp c
      simp only [c, c', if_true, if_false]
      rw [am_go dc_252_66]
      simp (disch := first | omega | exact ci_m | exact Nat.le_of_ble_eq_true rfl | (refine mF_lt ?_; omega)) only [own_252, am_go dc_252_0, J_aload_0, K_al, ld_0, am_go dc_252_1, cv_12_236_12 own_252, JR_v, JR_0, JR_ite, ci1_r, am_go dc_252_4, J_istore_1, st1_0, st1_1, st1_s, kl_i, kl_l, kl_r, kl_n, am_go dc_252_5, J_iload_1, K_il, ld_1, am_go dc_252_6, J_if_ge, am_go dc_252_9, am_go dc_252_10, cv_12_204_12 own_252, am_go dc_252_13, J_i2l, am_go dc_252_14, am_go dc_252_15, cv_12_213_12 own_252, am_go dc_252_18, J_lmul, am_go dc_252_19, J_goto, am_go dc_252_22, am_go dc_252_23, am_go dc_252_24, J_iconst, c32_0, am_go dc_252_25, cv_12_249_12 own_252, am_go dc_252_28, J_lstore_2, st2_0, st2_1, st2_s, am_go dc_252_29, J_lload_2, K_ll, ld_2, am_go dc_252_30, am_go dc_252_31, cv_12_242_12 own_252, am_go dc_252_34, J_lcmp, am_go dc_252_35, am_go dc_252_38, am_go dc_252_39, c32_5, am_go dc_252_40, cv_12_210_12 own_252, am_go dc_252_43, J_ret_i ret_252, am_go dc_252_44, am_go dc_252_45, am_go dc_252_48, am_go dc_252_49, am_go dc_252_52, am_go dc_252_53, am_go dc_252_54, cv_12_183_12 own_252, am_go dc_252_57, J_istore, am_go dc_252_59, J_bipush, i8_m4, am_go dc_252_61, am_go dc_252_63, am_go dc_252_64, am_go dc_252_67, J_if_lt, am_go dc_252_70, J_iload, ld_6, am_go dc_252_72, am_go dc_252_73, am_go dc_252_74, cv_12_143_12 own_252, am_go dc_252_77, J_icmp_ge, am_go dc_252_80, ld_5, am_go dc_252_82, am_go dc_252_85, am_go dc_252_86, am_go dc_252_87, am_go dc_252_89, cv_12_198_12 own_252, am_go dc_252_92, J_if_ne, am_go dc_252_95, am_go dc_252_98, am_go dc_252_99, am_go dc_252_100, c32_3, am_go dc_252_101, am_go dc_252_103, J_iadd, am_go dc_252_104, cv_12_154_12 own_252, am_go dc_252_107, am_go dc_252_108, cv_12_265_12 own_252, am_go dc_252_111, am_go dc_252_113, am_go dc_252_114, am_go dc_252_115, ld_4, am_go dc_252_117, am_go dc_252_120, J_iinc, pinc_go, c32_1, am_go dc_252_123, am_go dc_252_126, am_go dc_252_128, mH_o, zI_add, zI_mul, zI_lt, zI_le, zI_eq, zI_neg, zI_pos, zI_ne0, zI_gt0, zB_0, lg_cmp_ge, lg_cmp_le, lg_cmp_gt, lg_cmp_lt, lg_cmp_eq, ail_r, abl_r, all_r, ais_r, abs_r, als_r, mF_len, m4_lt, List.length_cons, List.length_nil, Nat.reduceAdd, Nat.reduceLT, Nat.reduceLeDiff, Nat.reduceEqDiff, ↓reduceIte, bind_s, if_true, if_false, not_true_eq_false, not_false_eq_true, Nat.zero_add]
  · have hl : ¬ qRl S < 0 := by
      rw [e2, zI_neg (by omega)]
      exact not_false
    have hb5 : b < 5 := by omega
    rw [if_neg hl, e4]
    rw [e2] at hr
    obtain ⟨u1, g1, g2, g3⟩ := r_opened0 (X := X) (h := h) (o := o) (d := d + 25) (z := z) (V := fun S => (qB S).1) (b := b) hG hw e1 (fun j hj _ => by
      have := meas_le (upd S (90 + b) (zI (3 + j)))
      exact r_bestFrom 10 _ (qG_x (qA0.up hb5) hG) (hw.up (by omega)) this (d + 3)) (mJ (mJ u 25 x) 26 y) hu hM.J
    obtain ⟨u2, k1, k2, k3, -⟩ := r_bestAt (X := X) (h := h) (o := o) (d := d + 2) (z := z) hG hw u1 (g2.s.trans hu) g3
    have hu2 : u2.1 1 = S := k2.s.trans (g2.s.trans hu)
    obtain ⟨u3, l1, l2, l3⟩ := r_breach_l (X := X) (h := h) (o := o) (d := d) (z := z) (b := b) (x2 := qOpn S (fun S => (qB S).1) b) hG hw e1 (fun i hi _ => hV b (3 + i) hb5 (by omega) (qMay_lev hw hb5 e3)) _ 0 (-4) u2 hu2 k3 (Nat.zero_add _)
    have h5 : ∀ d, am_f X (d + 2) 231 [.ref o, .int (zI 5)] (mH h o u2, z) = some (.inl (some (.int (q5 S 5 (zI 0)))), (mH h o u2, z)) := by
      intro d
      rw [r_code5, hu2]
    have hhw : ∀ d, am_f X (d + 1) 217 [.ref o, .int (zI b)] (mH h o u2, z) = some (.inl (some (.int (S (90 + b)))), (mH h o u2, z)) := by
      intro d
      rw [r_how hb5, hu2]
    by_cases c : qOpn S (fun S => (qB S).1) b < (qB S).1
    · have c' : ¬ (qB S).1 ≤ qOpn S (fun S => (qB S).1) b := Int64.not_le.mpr c
      refine ⟨u2, ?_, mSm.J.tr (g2.tr k2), k3⟩
      rw [if_pos c, fU_252]
      simp (disch := first | omega | exact ci_m | exact Nat.le_of_ble_eq_true rfl | (refine mF_lt ?_; omega)) only [own_252, am_go dc_252_0, J_aload_0, K_al, ld_0, am_go dc_252_1, cv_12_236_12 own_252, JR_v, JR_0, JR_ite, ci1_r, am_go dc_252_4, J_istore_1, st1_0, st1_1, st1_s, kl_i, kl_l, kl_r, kl_n, am_go dc_252_5, J_iload_1, K_il, ld_1, am_go dc_252_6, J_if_ge, am_go dc_252_9, am_go dc_252_10, cv_12_204_12 own_252, am_go dc_252_13, J_i2l, am_go dc_252_14, am_go dc_252_15, cv_12_213_12 own_252, am_go dc_252_18, J_lmul, am_go dc_252_19, J_goto, am_go dc_252_22, am_go dc_252_23, am_go dc_252_24, J_iconst, c32_0, am_go dc_252_25, cv_12_249_12 own_252, am_go dc_252_28, J_lstore_2, st2_0, st2_1, st2_s, am_go dc_252_29, J_lload_2, K_ll, ld_2, am_go dc_252_30, am_go dc_252_31, cv_12_242_12 own_252, am_go dc_252_34, J_lcmp, am_go dc_252_35, am_go dc_252_38, am_go dc_252_39, c32_5, am_go dc_252_40, cv_12_210_12 own_252, am_go dc_252_43, J_ret_i ret_252, am_go dc_252_44, am_go dc_252_45, am_go dc_252_48, am_go dc_252_49, am_go dc_252_52, am_go dc_252_53, am_go dc_252_54, cv_12_183_12 own_252, am_go dc_252_57, J_istore, am_go dc_252_59, J_bipush, i8_m4, am_go dc_252_61, am_go dc_252_63, am_go dc_252_64, am_go dc_252_67, J_if_lt, am_go dc_252_70, J_iload, ld_6, am_go dc_252_72, am_go dc_252_73, am_go dc_252_74, cv_12_143_12 own_252, am_go dc_252_77, J_icmp_ge, am_go dc_252_80, ld_5, am_go dc_252_82, am_go dc_252_85, am_go dc_252_86, am_go dc_252_87, am_go dc_252_89, cv_12_198_12 own_252, am_go dc_252_92, J_if_ne, am_go dc_252_95, am_go dc_252_98, am_go dc_252_99, am_go dc_252_100, c32_3, am_go dc_252_101, am_go dc_252_103, J_iadd, am_go dc_252_104, cv_12_154_12 own_252, am_go dc_252_107, am_go dc_252_108, cv_12_265_12 own_252, am_go dc_252_111, am_go dc_252_113, am_go dc_252_114, am_go dc_252_115, ld_4, am_go dc_252_117, am_go dc_252_120, J_iinc, pinc_go, c32_1, am_go dc_252_123, am_go dc_252_126, am_go dc_252_128, mH_o, zI_add, zI_mul, zI_lt, zI_le, zI_eq, zI_neg, zI_pos, zI_ne0, zI_gt0, zB_0, lg_cmp_ge, lg_cmp_le, lg_cmp_gt, lg_cmp_lt, lg_cmp_eq, ail_r, abl_r, all_r, ais_r, abs_r, als_r, mF_len, hr, g1, k1, h5, c', List.length_cons, List.length_nil, Nat.reduceAdd, Nat.reduceLT, Nat.reduceLeDiff, Nat.reduceEqDiff, ↓reduceIte, bind_s, if_true, if_false, not_true_eq_false, not_false_eq_true, Nat.zero_add]
    · have c' : (qB S).1 ≤ qOpn S (fun S => (qB S).1) b := Int64.not_lt.mp c
      refine ⟨u3, ?_, mSm.J.tr (g2.tr (k2.tr l2)), l3⟩
      rw [if_neg c, ← l1, fU_252]
      simp (disch := first | omega | exact ci_m | exact Nat.le_of_ble_eq_true rfl | (refine mF_lt ?_; omega)) only [own_252, am_go dc_252_0, J_aload_0, K_al, ld_0, am_go dc_252_1, cv_12_236_12 own_252, JR_v, JR_0, JR_ite, ci1_r, am_go dc_252_4, J_istore_1, st1_0, st1_1, st1_s, kl_i, kl_l, kl_r, kl_n, am_go dc_252_5, J_iload_1, K_il, ld_1, am_go dc_252_6, J_if_ge, am_go dc_252_9, am_go dc_252_10, cv_12_204_12 own_252, am_go dc_252_13, J_i2l, am_go dc_252_14, am_go dc_252_15, cv_12_213_12 own_252, am_go dc_252_18, J_lmul, am_go dc_252_19, J_goto, am_go dc_252_22, am_go dc_252_23, am_go dc_252_24, J_iconst, c32_0, am_go dc_252_25, cv_12_249_12 own_252, am_go dc_252_28, J_lstore_2, st2_0, st2_1, st2_s, am_go dc_252_29, J_lload_2, K_ll, ld_2, am_go dc_252_30, am_go dc_252_31, cv_12_242_12 own_252, am_go dc_252_34, J_lcmp, am_go dc_252_35, am_go dc_252_38, am_go dc_252_39, c32_5, am_go dc_252_40, cv_12_210_12 own_252, am_go dc_252_43, J_ret_i ret_252, am_go dc_252_44, am_go dc_252_45, am_go dc_252_48, am_go dc_252_49, am_go dc_252_52, am_go dc_252_53, am_go dc_252_54, cv_12_183_12 own_252, am_go dc_252_57, J_istore, am_go dc_252_59, J_bipush, i8_m4, am_go dc_252_61, am_go dc_252_63, am_go dc_252_64, am_go dc_252_67, J_if_lt, am_go dc_252_70, J_iload, ld_6, am_go dc_252_72, am_go dc_252_73, am_go dc_252_74, cv_12_143_12 own_252, am_go dc_252_77, J_icmp_ge, am_go dc_252_80, ld_5, am_go dc_252_82, am_go dc_252_85, am_go dc_252_86, am_go dc_252_87, am_go dc_252_89, cv_12_198_12 own_252, am_go dc_252_92, J_if_ne, am_go dc_252_95, am_go dc_252_98, am_go dc_252_99, am_go dc_252_100, c32_3, am_go dc_252_101, am_go dc_252_103, J_iadd, am_go dc_252_104, cv_12_154_12 own_252, am_go dc_252_107, am_go dc_252_108, cv_12_265_12 own_252, am_go dc_252_111, am_go dc_252_113, am_go dc_252_114, am_go dc_252_115, ld_4, am_go dc_252_117, am_go dc_252_120, J_iinc, pinc_go, c32_1, am_go dc_252_123, am_go dc_252_126, am_go dc_252_128, mH_o, zI_add, zI_mul, zI_lt, zI_le, zI_eq, zI_neg, zI_pos, zI_ne0, zI_gt0, zB_0, lg_cmp_ge, lg_cmp_le, lg_cmp_gt, lg_cmp_lt, lg_cmp_eq, ail_r, abl_r, all_r, ais_r, abs_r, als_r, mF_len, hr, g1, k1, h5, c', hhw, List.length_cons, List.length_nil, Nat.reduceAdd, Nat.reduceLT, Nat.reduceLeDiff, Nat.reduceEqDiff, ↓reduceIte, bind_s, if_true, if_false, not_true_eq_false, not_false_eq_true, Nat.zero_add]
theorem r_breachFrom : ∀ (N : Nat) (S : Nat → Int32), qG S → qHw S → meas S ≤ N → ∀ d, oOkI X h o z (d + N + 31) 252 qBf S
  | 0, S, hG, hw, hN, d => r_breachCore (X := X) (h := h) (o := o) (d := d) (z := z) hG hw (fun b x hb hx hl => by
      have := meas_up hb hx hl
      omega)
  | N + 1, S, hG, hw, hN, d => r_breachCore (X := X) (h := h) (o := o) (d := d + N + 1) (z := z) hG hw (fun b x hb hx hl => by
      have := meas_up hb hx hl
      exact r_breachFrom N _ (qG_x (qA0.up hb) hG) (hw.up hx) (by omega) d)
theorem r_breach (hG : qG (u.1 1)) (hw : qHw (u.1 1)) (hF : mFr u) : ∃ u', am_f X (d + 42) 251 [.ref o] (mH h o u, z) = some (.inl (some (.int (qBf (u.1 1)))), (mH h o u', z)) ∧ mEd u u' := by
  obtain ⟨u1, g1, g2⟩ := r_freshens (X := X) (h := h) (o := o) (d := d + 40) (u := u) (z := z) hF
  obtain ⟨u2, k1, k2, k3⟩ := r_breachFrom (X := X) (h := h) (o := o) (z := z) 10 (u.1 1) hG hw (meas_le _) d u1 g2.1.s g2.2.2
  refine ⟨u2, ?_, g2.sm k2 k3⟩
  rw [fU_251]
  simp (disch := first | omega | exact ci_m | exact Nat.le_of_ble_eq_true rfl | (refine mF_lt ?_; omega)) only [own_251, am_go dc_251_0, J_aload_0, K_al, ld_0, am_go dc_251_1, cv_12_256_12 own_251, JR_v, JR_0, JR_ite, ci1_r, am_go dc_251_4, am_go dc_251_5, cv_12_265_12 own_251, am_go dc_251_8, J_ret_i ret_251, mH_o, zI_add, zI_mul, zI_lt, zI_le, zI_eq, zI_neg, zI_pos, zI_ne0, zI_gt0, zB_0, lg_cmp_ge, lg_cmp_le, lg_cmp_gt, lg_cmp_lt, lg_cmp_eq, ail_r, abl_r, all_r, ais_r, abs_r, als_r, mF_len, g1, k1, List.length_cons, List.length_nil, Nat.reduceAdd, Nat.reduceLT, Nat.reduceLeDiff, Nat.reduceEqDiff, ↓reduceIte, bind_s, if_true, if_false, not_true_eq_false, not_false_eq_true, Nat.zero_add]
end M13
