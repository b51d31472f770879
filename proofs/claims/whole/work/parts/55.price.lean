/-! the reference: prices -/
theorem qG_y {S S' : Nat → Int32} (h : ∀ j, (j < 90 ∧ j % 18 ≠ 1) ∨ j = 116 ∨ j = 117 → S' j = S j) (hp : ∀ c, c < wN (S 116) → qN S' (18 * c + 1) 999) (hG : qG S) : qG S' := by
  have hm := hG.m.2
  have h116 := h 116 (by omega)
  refine ⟨qN_x h116 hG.1, qN_x (h 117 (by omega)) hG.2.1, fun b hb => ?_⟩
  rw [h116] at hb ⊢
  obtain ⟨⟨a1, a2, a3, a4, a5⟩, b1, b2, b3, b4, b5, b6, b7, b8, b9⟩ := hG.2.2 b hb
  have n4 := (a4.z (by omega)).2
  have r0 := h (18 * b) (by omega)
  have r2 := h (18 * b + 2) (by omega)
  have r3 := h (18 * b + 3) (by omega)
  have r4 := h (18 * b + 4) (by omega)
  have r5 := h (18 * b + 5) (by omega)
  unfold qR
  rw [r0, r3, r4, r5]
  refine ⟨⟨qN_x r0 a1, hp b hb, qN_x r2 a3, qN_x r3 a4, a5⟩, b1, fun e => qN_x r4 (b2 e), fun e => ⟨qN_x r4 (b3 e).1, (b3 e).2⟩, fun e => ⟨qN_x r4 (b4 e).1, (b4 e).2.1, ?_⟩, fun e => qN_x r4 (b5 e), ?_, fun i hi => ?_, ?_, fun e => ?_⟩
  · have := (b4 e).2.1
    rw [h _ (by omega)]
    exact (b4 e).2.2
  · rcases b6 with e | ⟨e1, e2, e3, e4, e5, e6⟩
    · exact Or.inl e
    · refine Or.inr ⟨qN_x r5 e1, e2, e3, ?_, ?_, e6⟩
      · rw [h _ (by omega)]
        exact e4
      · rw [h _ (by omega)]
        exact e5
  · obtain ⟨c1, c2, c3, c4⟩ := b7 i hi
    rw [h (18 * b + (10 + i)) (by omega)]
    exact ⟨qN_x (h _ (by omega)) c1, qN_x (h _ (by omega)) c2, c3, fun e => qN_x (h _ (by omega)) (c4 e)⟩
  · rw [← b8]
    apply fo_congr
    intro j h1 h2 a
    rw [h (18 * b + (10 + j)) (by omega)]
  · rw [← b9 e]
    apply fo_congr
    intro j h1 h2 a
    rw [h (18 * b + (14 + j)) (by omega)]
/-- the price of a box -/
def qPr (S : Nat → Int32) (b n : Nat) : Nat → Int32 := upd S (18 * b + 1) (zI n)
theorem qG.pr {S : Nat → Int32} {b n : Nat} (hG : qG S) (hb : b < wN (S 116)) (hn : n ≤ 999) : qG (qPr S b n) := by
  have hm := hG.m.2
  refine qG_y (fun j hj => upd_o (by omega)) (fun c hc => ?_) hG
  by_cases e : c = b
  · subst e
    exact ⟨n, upd_s, hn⟩
  · exact qN_x (upd_o (by omega)) (hG.2.2 c hc).1.2.1
theorem qHw.pr {S : Nat → Int32} {b n : Nat} (hw : qHw S) (hb : b < 5) : qHw (qPr S b n) := fun c hc => qN_x (upd_o (by omega)) (hw c hc)
def qBg (S : Nat → Int32) (b n : Nat) : Bool := decide ((qB (qPr S b n)).2 = zI (10 + b))
def bsr (P : Nat → Bool) : Nat → Nat → Nat → Nat
  | 0, _, hi => hi
  | k + 1, lo, hi => if hi - lo ≤ 1 then hi else if P ((lo + hi) / 2) = true then bsr P k ((lo + hi) / 2) hi else bsr P k lo ((lo + hi) / 2)
theorem zI_div {a b : Nat} (ha : a < 2147483648) (hb : b < 2147483648) (h0 : 0 < b) : zI a / zI b = zI (a / b) := by
  apply Int32.toInt_inj.mp
  have hne : zI b ≠ -1 := by
    intro e
    have := congrArg Int32.toInt e
    rw [zI_toInt hb] at this
    have h5 : (-1 : Int32).toInt = -1 := rfl
    omega
  have hle : a / b ≤ a := Nat.div_le_self a b
  rw [Int32.toInt_div_of_ne_right _ _ hne, zI_toInt ha, zI_toInt hb, zI_toInt (by omega), Int.tdiv_eq_ediv_of_nonneg (by omega)]
  rfl
section M15
variable {X : am_X} {h : am_H} {o d : Nat} {u : mU} {z : Nat × Nat}
/-- S is as it was, tables to be made fresh -/
def mSt (u u' : mU) : Prop := mSw u u' ∧ u'.2.2.1 32 = zI 0
theorem mSt.tr {u u' u'' : mU} (h : mSw u u') (h2 : mSt u' u'') : mSt u u'' := ⟨h.tr h2.1, h2.2⟩
theorem r_begins {b n : Nat} (hG : qG (u.1 1)) (hw : qHw (u.1 1)) (hb : b < wN (u.1 1 116)) (hn : n ≤ 999) : ∃ u', am_f X (d + 31) 257 [.ref o, .int (zI b), .int (zI n)] (mH h o u, z) = some (.inl (some (.int (zB (qBg (u.1 1) b n)))), (mH h o u', z)) ∧ mSt u u' := by
  have hm5 := hG.m.2
  have hb5 : b < 5 := by omega
  have h1 : (mI (mS u 1 (upd (u.1 1) (18 * b + 1) (zI n))) 32 (zI 0)).1 1 = qPr (u.1 1) b n := rfl
  obtain ⟨u2, k1, k2⟩ := r_doesNow (X := X) (h := h) (o := o) (d := d) (u := mI (mS u 1 (upd (u.1 1) (18 * b + 1) (zI n))) 32 (zI 0)) (z := z) (by rw [h1]; exact hG.pr hb hn) (by rw [h1]; exact hw.pr hb5) (Or.inr rfl)
  rw [h1] at k1
  have hS : (mI (mS u2 1 (upd (u2.1 1) (18 * b + 1) (u.1 1 (18 * b + 1)))) 32 (zI 0)).1 1 = u.1 1 := by
    show upd (u2.1 1) (18 * b + 1) (u.1 1 (18 * b + 1)) = u.1 1
    rw [k2.1.s, h1]
    unfold qPr
    rw [upd_u, upd_id]
  refine ⟨mI (mS u2 1 (upd (u2.1 1) (18 * b + 1) (u.1 1 (18 * b + 1)))) 32 (zI 0), ?_, ⟨fun j e1 e2 e3 => ?_, fun j e1 => ?_⟩, rfl⟩
  · rw [fU_257]
    simp (disch := first | omega | exact ci_m | exact Nat.le_of_ble_eq_true rfl | (refine mF_lt ?_; omega)) only [own_257, am_go dc_257_0, J_aload_0, K_al, ld_0, am_go dc_257_1, J_bipush, c8_18, am_go dc_257_3, J_iload_1, K_il, ld_1, am_go dc_257_4, J_imul, am_go dc_257_5, J_iconst, c32_1, am_go dc_257_6, J_iadd, am_go dc_257_7, J_iload_2, ld_2, am_go dc_257_8, cv_12_180_12 own_257, JR_v, JR_0, JR_ite, ci1_r, am_go dc_257_11, J_istore_3, st1_0, st1_1, st1_s, kl_i, kl_l, kl_r, kl_n, am_go dc_257_12, am_go dc_257_13, cv_12_262_12 own_257, am_go dc_257_16, c8_10, am_go dc_257_18, am_go dc_257_19, am_go dc_257_20, J_icmp_ne, am_go dc_257_23, am_go dc_257_24, J_goto, am_go dc_257_27, c32_0, am_go dc_257_28, J_istore, am_go dc_257_30, am_go dc_257_31, am_go dc_257_33, am_go dc_257_34, am_go dc_257_35, am_go dc_257_36, am_go dc_257_37, J_iload_3, ld_3, am_go dc_257_38, am_go dc_257_41, am_go dc_257_42, J_iload, ld_4, am_go dc_257_44, J_ret_z0 ret_257, J_ret_z1 ret_257, J_ret_zB ret_257, mH_o, zI_add, zI_mul, zI_lt, zI_le, zI_eq, zI_neg, zI_pos, zI_ne0, zI_gt0, zB_0, lg_cmp_ge, lg_cmp_le, lg_cmp_gt, lg_cmp_lt, lg_cmp_eq, ail_r, abl_r, all_r, ais_r, abs_r, als_r, mF_len, r_becomes, k1, List.length_cons, List.length_nil, Nat.reduceAdd, Nat.reduceLT, Nat.reduceLeDiff, Nat.reduceEqDiff, ↓reduceIte, bind_s, if_true, if_false, not_true_eq_false, not_false_eq_true, Nat.zero_add]
    unfold qBg
    by_cases e : (qB (qPr (u.1 1) b n)).2 = zI (10 + b) <;> simp [e, zB]
  · by_cases e : j = 1
    · subst e
      exact hS
    · show (mS u2 1 _).1 j = _
      rw [mS_o e, k2.1.1 j e1 e2 e3]
      show (mS u 1 _).1 j = _
      rw [mS_o e]
  · rw [mI_o e1]
    show u2.2.2.1 j = _
    rw [k2.1.2 j e1]
    exact mI_o e1
theorem r_edge_l {S : Nat → Int32} {b : Nat} (hG : qG S) (hw : qHw S) (hb : b < wN (S 116)) : ∀ (k lo hi : Nat) (v4 : Option Value) (u : mU), u.1 1 = S → lo < hi → hi ≤ 999 → hi - lo ≤ k → u.2.2.1 32 = zI 0 → ∃ u', am_I X (am_f X (d + 31)) 256 53 [some (.ref o), some (.int (zI b)), some (.int (zI lo)), some (.int (zI hi)), v4] [] (mH h o u, z) = some (.inl (some (.int (zI (bsr (qBg S b) k lo hi)))), (mH h o u', z)) ∧ mSt u u' := by
  have hm5 := hG.m.2
  have hb5 : b < 5 := by omega
  intro k
  induction k with
  | zero =>
    intro lo hi v4 u hu h1 h2 h3 h4
    omega
  | succ k ih =>
    intro lo hi v4 u hu h1 h2 h3 h4
    have hle : lo ≤ hi := by omega
    unfold bsr
    by_cases c : hi - lo ≤ 1
    · refine ⟨u, ?_, ⟨fun _ _ _ _ => rfl, fun _ _ => rfl⟩, h4⟩
      rw [if_pos c, am_go dc_256_53]
      simp (disch := first | omega | exact ci_m | exact Nat.le_of_ble_eq_true rfl | (refine mF_lt ?_; omega)) only [own_256, am_go dc_256_0, J_aload_0, K_al, ld_0, am_go dc_256_1, J_iload_1, K_il, ld_1, am_go dc_256_2, cv_12_136_12 own_256, JR_v, JR_0, JR_ite, ci1_r, am_go dc_256_5, J_if_ne, am_go dc_256_8, J_iconst, i32_m1, am_go dc_256_9, J_ret_i ret_256, am_go dc_256_10, am_go dc_256_11, am_go dc_256_12, cv_12_183_12 own_256, am_go dc_256_15, c32_2, am_go dc_256_16, J_icmp_le, am_go dc_256_19, J_bipush, i8_m3, am_go dc_256_21, am_go dc_256_22, am_go dc_256_23, am_go dc_256_24, c32_0, am_go dc_256_25, cv_12_276_12 own_256, am_go dc_256_28, am_go dc_256_31, am_go dc_256_32, am_go dc_256_33, am_go dc_256_34, am_go dc_256_35, J_sipush, c16_999, am_go dc_256_38, am_go dc_256_41, J_if_eq, am_go dc_256_44, i8_m4, am_go dc_256_46, am_go dc_256_47, am_go dc_256_48, J_istore_2, st1_0, st1_1, st1_s, kl_i, kl_l, kl_r, kl_n, am_go dc_256_49, am_go dc_256_52, J_istore_3, J_iload_3, ld_3, am_go dc_256_54, J_iload_2, ld_2, am_go dc_256_55, J_isub, am_go dc_256_56, c32_1, am_go dc_256_57, am_go dc_256_60, am_go dc_256_61, am_go dc_256_62, J_iadd, am_go dc_256_63, am_go dc_256_64, J_idiv, am_go dc_256_65, J_istore, am_go dc_256_67, am_go dc_256_68, am_go dc_256_69, J_iload, ld_4, am_go dc_256_71, am_go dc_256_74, am_go dc_256_77, am_go dc_256_79, am_go dc_256_80, J_goto, am_go dc_256_83, am_go dc_256_85, am_go dc_256_86, am_go dc_256_89, am_go dc_256_90, mH_o, zI_add, zI_mul, zI_lt, zI_le, zI_eq, zI_neg, zI_pos, zI_ne0, zI_gt0, zB_0, lg_cmp_ge, lg_cmp_le, lg_cmp_gt, lg_cmp_lt, lg_cmp_eq, ail_r, abl_r, all_r, ais_r, abs_r, als_r, mF_len, zI_sub, c, List.length_cons, List.length_nil, Nat.reduceAdd, Nat.reduceLT, Nat.reduceLeDiff, Nat.reduceEqDiff, ↓reduceIte, bind_s, if_true, if_false, not_true_eq_false, not_false_eq_true, Nat.zero_add]
    · have hd : zI (lo + hi) / zI 2 = zI ((lo + hi) / 2) := zI_div (by omega) (by omega) (by omega)
      obtain ⟨u1, g1, g2⟩ := r_begins (X := X) (h := h) (o := o) (d := d) (u := u) (z := z) (b := b) (n := (lo + hi) / 2) (by rw [hu]; exact hG) (by rw [hu]; exact hw) (by rw [hu]; exact hb) (by omega)
      rw [hu] at g1
      have hu1 : u1.1 1 = S := g2.1.s.trans hu
      rw [if_neg c]
      by_cases c2 : qBg S b ((lo + hi) / 2) = true
      · obtain ⟨u', l1, l2⟩ := ih ((lo + hi) / 2) hi (some (.int (zI ((lo + hi) / 2)))) u1 hu1 (by omega) h2 (by omega) g2.2
        refine ⟨u', ?_, mSt.tr g2.1 l2⟩
        rw [if_pos c2, ← l1, am_go dc_256_53]
        simp (disch := first | omega | exact ci_m | exact Nat.le_of_ble_eq_true rfl | (refine mF_lt ?_; omega)) only [own_256, am_go dc_256_0, J_aload_0, K_al, ld_0, am_go dc_256_1, J_iload_1, K_il, ld_1, am_go dc_256_2, cv_12_136_12 own_256, JR_v, JR_0, JR_ite, ci1_r, am_go dc_256_5, J_if_ne, am_go dc_256_8, J_iconst, i32_m1, am_go dc_256_9, J_ret_i ret_256, am_go dc_256_10, am_go dc_256_11, am_go dc_256_12, cv_12_183_12 own_256, am_go dc_256_15, c32_2, am_go dc_256_16, J_icmp_le, am_go dc_256_19, J_bipush, i8_m3, am_go dc_256_21, am_go dc_256_22, am_go dc_256_23, am_go dc_256_24, c32_0, am_go dc_256_25, cv_12_276_12 own_256, am_go dc_256_28, am_go dc_256_31, am_go dc_256_32, am_go dc_256_33, am_go dc_256_34, am_go dc_256_35, J_sipush, c16_999, am_go dc_256_38, am_go dc_256_41, J_if_eq, am_go dc_256_44, i8_m4, am_go dc_256_46, am_go dc_256_47, am_go dc_256_48, J_istore_2, st1_0, st1_1, st1_s, kl_i, kl_l, kl_r, kl_n, am_go dc_256_49, am_go dc_256_52, J_istore_3, J_iload_3, ld_3, am_go dc_256_54, J_iload_2, ld_2, am_go dc_256_55, J_isub, am_go dc_256_56, c32_1, am_go dc_256_57, am_go dc_256_60, am_go dc_256_61, am_go dc_256_62, J_iadd, am_go dc_256_63, am_go dc_256_64, J_idiv, am_go dc_256_65, J_istore, am_go dc_256_67, am_go dc_256_68, am_go dc_256_69, J_iload, ld_4, am_go dc_256_71, am_go dc_256_74, am_go dc_256_77, am_go dc_256_79, am_go dc_256_80, J_goto, am_go dc_256_83, am_go dc_256_85, am_go dc_256_86, am_go dc_256_89, am_go dc_256_90, mH_o, zI_add, zI_mul, zI_lt, zI_le, zI_eq, zI_neg, zI_pos, zI_ne0, zI_gt0, zB_0, lg_cmp_ge, lg_cmp_le, lg_cmp_gt, lg_cmp_lt, lg_cmp_eq, ail_r, abl_r, all_r, ais_r, abs_r, als_r, mF_len, zI_sub, c, hd, g1, c2, Bool.true_eq_false, List.length_cons, List.length_nil, Nat.reduceAdd, Nat.reduceLT, Nat.reduceLeDiff, Nat.reduceEqDiff, ↓reduceIte, bind_s, if_true, if_false, not_true_eq_false, not_false_eq_true, Nat.zero_add]
      · have c2' : qBg S b ((lo + hi) / 2) = false := by simpa using c2
        obtain ⟨u', l1, l2⟩ := ih lo ((lo + hi) / 2) (some (.int (zI ((lo + hi) / 2)))) u1 hu1 (by omega) (by omega) (by omega) g2.2
        refine ⟨u', ?_, mSt.tr g2.1 l2⟩
        rw [if_neg c2, ← l1, am_go dc_256_53]
        simp (disch := first | omega | exact ci_m | exact Nat.le_of_ble_eq_true rfl | (refine mF_lt ?_; omega)) only [own_256, am_go dc_256_0, J_aload_0, K_al, ld_0, am_go dc_256_1, J_iload_1, K_il, ld_1, am_go dc_256_2, cv_12_136_12 own_256, JR_v, JR_0, JR_ite, ci1_r, am_go dc_256_5, J_if_ne, am_go dc_256_8, J_iconst, i32_m1, am_go dc_256_9, J_ret_i ret_256, am_go dc_256_10, am_go dc_256_11, am_go dc_256_12, cv_12_183_12 own_256, am_go dc_256_15, c32_2, am_go dc_256_16, J_icmp_le, am_go dc_256_19, J_bipush, i8_m3, am_go dc_256_21, am_go dc_256_22, am_go dc_256_23, am_go dc_256_24, c32_0, am_go dc_256_25, cv_12_276_12 own_256, am_go dc_256_28, am_go dc_256_31, am_go dc_256_32, am_go dc_256_33, am_go dc_256_34, am_go dc_256_35, J_sipush, c16_999, am_go dc_256_38, am_go dc_256_41, J_if_eq, am_go dc_256_44, i8_m4, am_go dc_256_46, am_go dc_256_47, am_go dc_256_48, J_istore_2, st1_0, st1_1, st1_s, kl_i, kl_l, kl_r, kl_n, am_go dc_256_49, am_go dc_256_52, J_istore_3, J_iload_3, ld_3, am_go dc_256_54, J_iload_2, ld_2, am_go dc_256_55, J_isub, am_go dc_256_56, c32_1, am_go dc_256_57, am_go dc_256_60, am_go dc_256_61, am_go dc_256_62, J_iadd, am_go dc_256_63, am_go dc_256_64, J_idiv, am_go dc_256_65, J_istore, am_go dc_256_67, am_go dc_256_68, am_go dc_256_69, J_iload, ld_4, am_go dc_256_71, am_go dc_256_74, am_go dc_256_77, am_go dc_256_79, am_go dc_256_80, J_goto, am_go dc_256_83, am_go dc_256_85, am_go dc_256_86, am_go dc_256_89, am_go dc_256_90, mH_o, zI_add, zI_mul, zI_lt, zI_le, zI_eq, zI_neg, zI_pos, zI_ne0, zI_gt0, zB_0, lg_cmp_ge, lg_cmp_le, lg_cmp_gt, lg_cmp_lt, lg_cmp_eq, ail_r, abl_r, all_r, ais_r, abs_r, als_r, mF_len, zI_sub, c, hd, g1, c2', List.length_cons, List.length_nil, Nat.reduceAdd, Nat.reduceLT, Nat.reduceLeDiff, Nat.reduceEqDiff, ↓reduceIte, bind_s, if_true, if_false, not_true_eq_false, not_false_eq_true, Nat.zero_add]
theorem r_edge_n {x : Int32} (hq : qW (u.1 1)) (hx : qIs x (wN (u.1 1 116)) = false) : am_f X (d + 3) 256 [.ref o, .int x] (mH h o u, z) = some (.inl (some (.int (-1))), (mH h o u, z)) := by
  rw [fU_256]
  simp (disch := first | omega | exact ci_m | exact Nat.le_of_ble_eq_true rfl | (refine mF_lt ?_; omega)) only [own_256, am_go dc_256_0, J_aload_0, K_al, ld_0, am_go dc_256_1, J_iload_1, K_il, ld_1, am_go dc_256_2, cv_12_136_12 own_256, JR_v, JR_0, JR_ite, ci1_r, am_go dc_256_5, J_if_ne, am_go dc_256_8, J_iconst, i32_m1, am_go dc_256_9, J_ret_i ret_256, am_go dc_256_10, am_go dc_256_11, am_go dc_256_12, cv_12_183_12 own_256, am_go dc_256_15, c32_2, am_go dc_256_16, J_icmp_le, am_go dc_256_19, J_bipush, i8_m3, am_go dc_256_21, am_go dc_256_22, am_go dc_256_23, am_go dc_256_24, c32_0, am_go dc_256_25, cv_12_276_12 own_256, am_go dc_256_28, am_go dc_256_31, am_go dc_256_32, am_go dc_256_33, am_go dc_256_34, am_go dc_256_35, J_sipush, c16_999, am_go dc_256_38, am_go dc_256_41, J_if_eq, am_go dc_256_44, i8_m4, am_go dc_256_46, am_go dc_256_47, am_go dc_256_48, J_istore_2, st1_0, st1_1, st1_s, kl_i, kl_l, kl_r, kl_n, am_go dc_256_49, am_go dc_256_52, J_istore_3, J_iload_3, ld_3, am_go dc_256_54, J_iload_2, ld_2, am_go dc_256_55, J_isub, am_go dc_256_56, c32_1, am_go dc_256_57, am_go dc_256_60, am_go dc_256_61, am_go dc_256_62, J_iadd, am_go dc_256_63, am_go dc_256_64, J_idiv, am_go dc_256_65, J_istore, am_go dc_256_67, am_go dc_256_68, am_go dc_256_69, J_iload, ld_4, am_go dc_256_71, am_go dc_256_74, am_go dc_256_77, am_go dc_256_79, am_go dc_256_80, J_goto, am_go dc_256_83, am_go dc_256_85, am_go dc_256_86, am_go dc_256_89, am_go dc_256_90, mH_o, zI_add, zI_mul, zI_lt, zI_le, zI_eq, zI_neg, zI_pos, zI_ne0, zI_gt0, zB_0, lg_cmp_ge, lg_cmp_le, lg_cmp_gt, lg_cmp_lt, lg_cmp_eq, ail_r, abl_r, all_r, ais_r, abs_r, als_r, mF_len, r_isBox hq, Bool.true_eq_false, Bool.false_eq_true, hx, List.length_cons, List.length_nil, Nat.reduceAdd, Nat.reduceLT, Nat.reduceLeDiff, Nat.reduceEqDiff, ↓reduceIte, bind_s, if_true, if_false, not_true_eq_false, not_false_eq_true, Nat.zero_add]
theorem r_edge_m {b : Nat} (hq : qW (u.1 1)) (hb : b < wN (u.1 1 116)) (hh : ¬ u.1 1 (90 + b) ≤ zI 2) : am_f X (d + 3) 256 [.ref o, .int (zI b)] (mH h o u, z) = some (.inl (some (.int (-3))), (mH h o u, z)) := by
  have h5 := hq.m.2
  have hb5 : b < 5 := by omega
  have hbx := qIs_zI hb (by omega)
  
  rw [fU_256]
  simp (disch := first | omega | exact ci_m | exact Nat.le_of_ble_eq_true rfl | (refine mF_lt ?_; omega)) only [own_256, am_go dc_256_0, J_aload_0, K_al, ld_0, am_go dc_256_1, J_iload_1, K_il, ld_1, am_go dc_256_2, cv_12_136_12 own_256, JR_v, JR_0, JR_ite, ci1_r, am_go dc_256_5, J_if_ne, am_go dc_256_8, J_iconst, i32_m1, am_go dc_256_9, J_ret_i ret_256, am_go dc_256_10, am_go dc_256_11, am_go dc_256_12, cv_12_183_12 own_256, am_go dc_256_15, c32_2, am_go dc_256_16, J_icmp_le, am_go dc_256_19, J_bipush, i8_m3, am_go dc_256_21, am_go dc_256_22, am_go dc_256_23, am_go dc_256_24, c32_0, am_go dc_256_25, cv_12_276_12 own_256, am_go dc_256_28, am_go dc_256_31, am_go dc_256_32, am_go dc_256_33, am_go dc_256_34, am_go dc_256_35, J_sipush, c16_999, am_go dc_256_38, am_go dc_256_41, J_if_eq, am_go dc_256_44, i8_m4, am_go dc_256_46, am_go dc_256_47, am_go dc_256_48, J_istore_2, st1_0, st1_1, st1_s, kl_i, kl_l, kl_r, kl_n, am_go dc_256_49, am_go dc_256_52, J_istore_3, J_iload_3, ld_3, am_go dc_256_54, J_iload_2, ld_2, am_go dc_256_55, J_isub, am_go dc_256_56, c32_1, am_go dc_256_57, am_go dc_256_60, am_go dc_256_61, am_go dc_256_62, J_iadd, am_go dc_256_63, am_go dc_256_64, J_idiv, am_go dc_256_65, J_istore, am_go dc_256_67, am_go dc_256_68, am_go dc_256_69, J_iload, ld_4, am_go dc_256_71, am_go dc_256_74, am_go dc_256_77, am_go dc_256_79, am_go dc_256_80, J_goto, am_go dc_256_83, am_go dc_256_85, am_go dc_256_86, am_go dc_256_89, am_go dc_256_90, mH_o, zI_add, zI_mul, zI_lt, zI_le, zI_eq, zI_neg, zI_pos, zI_ne0, zI_gt0, zB_0, lg_cmp_ge, lg_cmp_le, lg_cmp_gt, lg_cmp_lt, lg_cmp_eq, ail_r, abl_r, all_r, ais_r, abs_r, als_r, mF_len, r_isBox hq, Bool.true_eq_false, Bool.false_eq_true, hbx, r_how, hh, List.length_cons, List.length_nil, Nat.reduceAdd, Nat.reduceLT, Nat.reduceLeDiff, Nat.reduceEqDiff, ↓reduceIte, bind_s, if_true, if_false, not_true_eq_false, not_false_eq_true, Nat.zero_add]
def qEg (S : Nat → Int32) (b : Nat) : Int32 := if qBg S b 0 = true then (if qBg S b 999 = true then -4 else zI (bsr (qBg S b) 999 0 999)) else zI 0
theorem r_edge_y {b : Nat} (hG : qG (u.1 1)) (hw : qHw (u.1 1)) (hb : b < wN (u.1 1 116)) (hh : u.1 1 (90 + b) ≤ zI 2) : ∃ u', am_f X (d + 32) 256 [.ref o, .int (zI b)] (mH h o u, z) = some (.inl (some (.int (qEg (u.1 1) b))), (mH h o u', z)) ∧ mSt u u' := by
  have hq := qW_of2 hG hw
  have h5 := hq.m.2
  have hb5 : b < 5 := by omega
  have hbx := qIs_zI hb (by omega)
  obtain ⟨u1, g1, g2⟩ := r_begins (X := X) (h := h) (o := o) (d := d) (u := u) (z := z) (b := b) (n := 0) hG hw hb (by omega)
  have hu1 : u1.1 1 = u.1 1 := g2.1.s
  obtain ⟨u2, k1, k2⟩ := r_begins (X := X) (h := h) (o := o) (d := d) (u := u1) (z := z) (b := b) (n := 999) (by rw [hu1]; exact hG) (by rw [hu1]; exact hw) (by rw [hu1]; exact hb) (by omega)
  rw [hu1] at k1
  obtain ⟨u3, l1, l2⟩ := r_edge_l (X := X) (h := h) (o := o) (d := d) (z := z) hG hw hb 999 0 999 none u2 (k2.1.s.trans hu1) (by omega) (by omega) (by omega) k2.2
  unfold qEg
  by_cases c1 : qBg (u.1 1) b 0 = true
  · rw [if_pos c1]
    by_cases c2 : qBg (u.1 1) b 999 = true
    · refine ⟨u2, ?_, mSt.tr g2.1 k2⟩
      rw [if_pos c2, fU_256]
      simp (disch := first | omega | exact ci_m | exact Nat.le_of_ble_eq_true rfl | (refine mF_lt ?_; omega)) only [own_256, am_go dc_256_0, J_aload_0, K_al, ld_0, am_go dc_256_1, J_iload_1, K_il, ld_1, am_go dc_256_2, cv_12_136_12 own_256, JR_v, JR_0, JR_ite, ci1_r, am_go dc_256_5, J_if_ne, am_go dc_256_8, J_iconst, i32_m1, am_go dc_256_9, J_ret_i ret_256, am_go dc_256_10, am_go dc_256_11, am_go dc_256_12, cv_12_183_12 own_256, am_go dc_256_15, c32_2, am_go dc_256_16, J_icmp_le, am_go dc_256_19, J_bipush, i8_m3, am_go dc_256_21, am_go dc_256_22, am_go dc_256_23, am_go dc_256_24, c32_0, am_go dc_256_25, cv_12_276_12 own_256, am_go dc_256_28, am_go dc_256_31, am_go dc_256_32, am_go dc_256_33, am_go dc_256_34, am_go dc_256_35, J_sipush, c16_999, am_go dc_256_38, am_go dc_256_41, J_if_eq, am_go dc_256_44, i8_m4, am_go dc_256_46, am_go dc_256_47, am_go dc_256_48, J_istore_2, st1_0, st1_1, st1_s, kl_i, kl_l, kl_r, kl_n, am_go dc_256_49, am_go dc_256_52, J_istore_3, J_iload_3, ld_3, am_go dc_256_54, J_iload_2, ld_2, am_go dc_256_55, J_isub, am_go dc_256_56, c32_1, am_go dc_256_57, am_go dc_256_60, am_go dc_256_61, am_go dc_256_62, J_iadd, am_go dc_256_63, am_go dc_256_64, J_idiv, am_go dc_256_65, J_istore, am_go dc_256_67, am_go dc_256_68, am_go dc_256_69, J_iload, ld_4, am_go dc_256_71, am_go dc_256_74, am_go dc_256_77, am_go dc_256_79, am_go dc_256_80, J_goto, am_go dc_256_83, am_go dc_256_85, am_go dc_256_86, am_go dc_256_89, am_go dc_256_90, mH_o, zI_add, zI_mul, zI_lt, zI_le, zI_eq, zI_neg, zI_pos, zI_ne0, zI_gt0, zB_0, lg_cmp_ge, lg_cmp_le, lg_cmp_gt, lg_cmp_lt, lg_cmp_eq, ail_r, abl_r, all_r, ais_r, abs_r, als_r, mF_len, r_isBox hq, Bool.true_eq_false, Bool.false_eq_true, hbx, r_how, hh, g1, k1, c1, c2, List.length_cons, List.length_nil, Nat.reduceAdd, Nat.reduceLT, Nat.reduceLeDiff, Nat.reduceEqDiff, ↓reduceIte, bind_s, if_true, if_false, not_true_eq_false, not_false_eq_true, Nat.zero_add]
    · have c2' : qBg (u.1 1) b 999 = false := by simpa using c2
      refine ⟨u3, ?_, mSt.tr g2.1 (mSt.tr k2.1 l2)⟩
      rw [if_neg c2, ← l1, fU_256]
      simp (disch := first | omega | exact ci_m | exact Nat.le_of_ble_eq_true rfl | (refine mF_lt ?_; omega)) only [own_256, am_go dc_256_0, J_aload_0, K_al, ld_0, am_go dc_256_1, J_iload_1, K_il, ld_1, am_go dc_256_2, cv_12_136_12 own_256, JR_v, JR_0, JR_ite, ci1_r, am_go dc_256_5, J_if_ne, am_go dc_256_8, J_iconst, i32_m1, am_go dc_256_9, J_ret_i ret_256, am_go dc_256_10, am_go dc_256_11, am_go dc_256_12, cv_12_183_12 own_256, am_go dc_256_15, c32_2, am_go dc_256_16, J_icmp_le, am_go dc_256_19, J_bipush, i8_m3, am_go dc_256_21, am_go dc_256_22, am_go dc_256_23, am_go dc_256_24, c32_0, am_go dc_256_25, cv_12_276_12 own_256, am_go dc_256_28, am_go dc_256_31, am_go dc_256_32, am_go dc_256_33, am_go dc_256_34, am_go dc_256_35, J_sipush, c16_999, am_go dc_256_38, am_go dc_256_41, J_if_eq, am_go dc_256_44, i8_m4, am_go dc_256_46, am_go dc_256_47, am_go dc_256_48, J_istore_2, st1_0, st1_1, st1_s, kl_i, kl_l, kl_r, kl_n, am_go dc_256_49, am_go dc_256_52, J_istore_3, J_iload_3, ld_3, am_go dc_256_54, J_iload_2, ld_2, am_go dc_256_55, J_isub, am_go dc_256_56, c32_1, am_go dc_256_57, am_go dc_256_60, am_go dc_256_61, am_go dc_256_62, J_iadd, am_go dc_256_63, am_go dc_256_64, J_idiv, am_go dc_256_65, J_istore, am_go dc_256_67, am_go dc_256_68, am_go dc_256_69, J_iload, ld_4, am_go dc_256_71, am_go dc_256_74, am_go dc_256_77, am_go dc_256_79, am_go dc_256_80, J_goto, am_go dc_256_83, am_go dc_256_85, am_go dc_256_86, am_go dc_256_89, am_go dc_256_90, mH_o, zI_add, zI_mul, zI_lt, zI_le, zI_eq, zI_neg, zI_pos, zI_ne0, zI_gt0, zB_0, lg_cmp_ge, lg_cmp_le, lg_cmp_gt, lg_cmp_lt, lg_cmp_eq, ail_r, abl_r, all_r, ais_r, abs_r, als_r, mF_len, r_isBox hq, Bool.true_eq_false, Bool.false_eq_true, hbx, r_how, hh, g1, k1, c1, c2', List.length_cons, List.length_nil, Nat.reduceAdd, Nat.reduceLT, Nat.reduceLeDiff, Nat.reduceEqDiff, ↓reduceIte, bind_s, if_true, if_false, not_true_eq_false, not_false_eq_true, Nat.zero_add]
  · have c1' : qBg (u.1 1) b 0 = false := by simpa using c1
    refine ⟨u1, ?_, g2⟩
    rw [if_neg c1, fU_256]
    simp (disch := first | omega | exact ci_m | exact Nat.le_of_ble_eq_true rfl | (refine mF_lt ?_; omega)) only [own_256, am_go dc_256_0, J_aload_0, K_al, ld_0, am_go dc_256_1, J_iload_1, K_il, ld_1, am_go dc_256_2, cv_12_136_12 own_256, JR_v, JR_0, JR_ite, ci1_r, am_go dc_256_5, J_if_ne, am_go dc_256_8, J_iconst, i32_m1, am_go dc_256_9, J_ret_i ret_256, am_go dc_256_10, am_go dc_256_11, am_go dc_256_12, cv_12_183_12 own_256, am_go dc_256_15, c32_2, am_go dc_256_16, J_icmp_le, am_go dc_256_19, J_bipush, i8_m3, am_go dc_256_21, am_go dc_256_22, am_go dc_256_23, am_go dc_256_24, c32_0, am_go dc_256_25, cv_12_276_12 own_256, am_go dc_256_28, am_go dc_256_31, am_go dc_256_32, am_go dc_256_33, am_go dc_256_34, am_go dc_256_35, J_sipush, c16_999, am_go dc_256_38, am_go dc_256_41, J_if_eq, am_go dc_256_44, i8_m4, am_go dc_256_46, am_go dc_256_47, am_go dc_256_48, J_istore_2, st1_0, st1_1, st1_s, kl_i, kl_l, kl_r, kl_n, am_go dc_256_49, am_go dc_256_52, J_istore_3, J_iload_3, ld_3, am_go dc_256_54, J_iload_2, ld_2, am_go dc_256_55, J_isub, am_go dc_256_56, c32_1, am_go dc_256_57, am_go dc_256_60, am_go dc_256_61, am_go dc_256_62, J_iadd, am_go dc_256_63, am_go dc_256_64, J_idiv, am_go dc_256_65, J_istore, am_go dc_256_67, am_go dc_256_68, am_go dc_256_69, J_iload, ld_4, am_go dc_256_71, am_go dc_256_74, am_go dc_256_77, am_go dc_256_79, am_go dc_256_80, J_goto, am_go dc_256_83, am_go dc_256_85, am_go dc_256_86, am_go dc_256_89, am_go dc_256_90, mH_o, zI_add, zI_mul, zI_lt, zI_le, zI_eq, zI_neg, zI_pos, zI_ne0, zI_gt0, zB_0, lg_cmp_ge, lg_cmp_le, lg_cmp_gt, lg_cmp_lt, lg_cmp_eq, ail_r, abl_r, all_r, ais_r, abs_r, als_r, mF_len, r_isBox hq, Bool.true_eq_false, Bool.false_eq_true, hbx, r_how, hh, g1, c1', List.length_cons, List.length_nil, Nat.reduceAdd, Nat.reduceLT, Nat.reduceLeDiff, Nat.reduceEqDiff, ↓reduceIte, bind_s, if_true, if_false, not_true_eq_false, not_false_eq_true, Nat.zero_add]
/-! all shut, and back -/
def qZ (S : Nat → Int32) : Nat → Int32 := fun j => if 90 ≤ j ∧ j < 95 then zI 0 else S j
def qSv (f S : Nat → Int32) : Nat → Int32 := fun j => if j < 5 then S (90 + j) else f j
theorem qZ_o {S : Nat → Int32} {j : Nat} (hj : j < 90 ∨ 95 ≤ j) : qZ S j = S j := if_neg (by omega)
theorem qZ_h {S : Nat → Int32} {b : Nat} (hb : b < 5) : qZ S (90 + b) = zI 0 := if_pos (by omega)
theorem save_inv {u : mU} : ∀ k, k ≤ 5 → fo q_save 0 k u = mS (mS u 4 (fun j => if j < k then u.1 1 (90 + j) else u.1 4 j)) 1 (fun j => if 90 ≤ j ∧ j < 90 + k then zI 0 else u.1 1 j)
  | 0, _ => by
    have e1 : (fun j => if j < 0 then u.1 1 (90 + j) else u.1 4 j) = u.1 4 := by
      funext j
      exact if_neg (by omega)
    have e2 : (fun j => if 90 ≤ j ∧ j < 90 + 0 then zI 0 else u.1 1 j) = u.1 1 := by
      funext j
      exact if_neg (by omega)
    rw [e1, e2]
    show u = _
    rw [mS_id, mS_id]
  | k + 1, hk => by
    rw [fo_succ, save_inv k (by omega), Nat.zero_add]
    unfold q_save
    have h4 : (mS (mS u 4 (fun j => if j < k then u.1 1 (90 + j) else u.1 4 j)) 1 (fun j => if 90 ≤ j ∧ j < 90 + k then zI 0 else u.1 1 j)).1 4 = (fun j => if j < k then u.1 1 (90 + j) else u.1 4 j) := rfl
    have h1 : (mS (mS u 4 (fun j => if j < k then u.1 1 (90 + j) else u.1 4 j)) 1 (fun j => if 90 ≤ j ∧ j < 90 + k then zI 0 else u.1 1 j)).1 1 = (fun j => if 90 ≤ j ∧ j < 90 + k then zI 0 else u.1 1 j) := rfl
    rw [h4, h1, mS_c (a := 1) (b := 4) (by omega), mS_S, mS_S]
    congr 1
    · congr 1
      funext j
      by_cases e : j = k
      · subst e
        rw [upd_s]
        show (if 90 ≤ 90 + j ∧ 90 + j < 90 + j then zI 0 else u.1 1 (90 + j)) = (if j < j + 1 then u.1 1 (90 + j) else u.1 4 j)
        rw [if_neg (by omega), if_pos (by omega)]
      · rw [upd_o e]
        by_cases e2 : j < k
        · rw [if_pos e2, if_pos (by omega)]
        · rw [if_neg e2, if_neg (by omega)]
    · funext j
      by_cases e : j = 90 + k
      · subst e
        rw [upd_s, if_pos (by omega)]
      · rw [upd_o e]
        by_cases e2 : 90 ≤ j ∧ j < 90 + k
        · rw [if_pos e2, if_pos (by omega)]
        · rw [if_neg e2, if_neg (by omega)]
theorem back_inv {u : mU} : ∀ k, k ≤ 5 → fo q_back 0 k u = mS u 1 (fun j => if 90 ≤ j ∧ j < 90 + k then u.1 4 (j - 90) else u.1 1 j)
  | 0, _ => by
    have e2 : (fun j => if 90 ≤ j ∧ j < 90 + 0 then u.1 4 (j - 90) else u.1 1 j) = u.1 1 := by
      funext j
      exact if_neg (by omega)
    rw [e2]
    show u = _
    rw [mS_id]
  | k + 1, hk => by
    rw [fo_succ, back_inv k (by omega), Nat.zero_add]
    unfold q_back
    rw [mS_S]
    congr 1
    funext j
    have h4 : (mS u 1 (fun j => if 90 ≤ j ∧ j < 90 + k then u.1 4 (j - 90) else u.1 1 j)).1 4 = u.1 4 := rfl
    rw [mS_s, h4]
    by_cases e : j = 90 + k
    · subst e
      rw [upd_s, if_pos (by omega), Nat.add_sub_cancel_left]
    · rw [upd_o e]
      by_cases e2 : 90 ≤ j ∧ j < 90 + k
      · rw [if_pos e2, if_pos (by omega)]
      · rw [if_neg e2, if_neg (by omega)]
theorem r_saves2 : am_f X (d + 2) 259 [.ref o] (mH h o u, z) = some (.inl none, (mH h o (mS (mS u 4 (qSv (u.1 4) (u.1 1))) 1 (qZ (u.1 1))), z)) := by
  rw [r_saves, save_inv 5 (by omega)]
  rfl
theorem r_back2 {S f S1 : Nat → Int32} (h4 : u.1 4 = qSv f S) (h1 : u.1 1 = S1) (hz : ∀ j, (j < 90 ∨ 95 ≤ j) → S1 j = S j) : am_f X (d + 2) 260 [.ref o] (mH h o u, z) = some (.inl none, (mH h o (mS u 1 S), z)) := by
  rw [r_back, back_inv 5 (by omega), h4, h1]
  have : (fun j => if 90 ≤ j ∧ j < 90 + 5 then qSv f S (j - 90) else S1 j) = S := by
    funext j
    by_cases e : 90 ≤ j ∧ j < 90 + 5
    · rw [if_pos e]
      unfold qSv
      rw [if_pos (by omega)]
      congr 1
      omega
    · rw [if_neg e]
      exact hz j (by omega)
  rw [this]
theorem qHw_Z {S : Nat → Int32} : qHw (qZ S) := fun b hb => ⟨0, qZ_h hb, by omega⟩
theorem qG_Z {S : Nat → Int32} (hG : qG S) : qG (qZ S) := qG_x (fun j hj => qZ_o (by omega)) hG
theorem qPr_Z {S : Nat → Int32} {b n : Nat} (hb : b < 5) : qPr (qZ S) b n = qZ (qPr S b n) := by
  funext j
  unfold qPr
  by_cases e : j = 18 * b + 1
  · subst e
    rw [upd_s, qZ_o (by omega), upd_s]
  · rw [upd_o e]
    unfold qZ
    rw [upd_o e]
def q_sp (S : Nat → Int32) (b j : Nat) (s : Int32 × Int64) : Int32 × Int64 := if s.2 < (zI (100 * j)).toInt64 * qLf b false (qPr S b (100 * j)) then (zI (100 * j), (zI (100 * j)).toInt64 * qLf b false (qPr S b (100 * j))) else s
theorem r_sp_l {S : Nat → Int32} {b : Nat} {w : Int32} (hG : qG S) (hw : qHw S) (hb : b < wN (S 116)) : ∀ (k j : Nat) (s : Int32 × Int64) (v7 v8 : Option Value) (u : mU), (∃ n, n ≤ 999 ∧ u.1 1 = qPr S b n) → j + k = 10 → 1 ≤ j → ∃ u' v7' v8', am_I X (am_f X (d + 40)) 258 30 [some (.ref o), some (.int (zI b)), some (.int w), some (.int s.1), some (.long s.2), none, some (.int (zI (100 * j))), v7, v8, none] [] (mH h o u, z) = am_I X (am_f X (d + 40)) 258 92 [some (.ref o), some (.int (zI b)), some (.int w), some (.int (fo (q_sp S b) j k s).1), some (.long (fo (q_sp S b) j k s).2), none, some (.int (zI 1000)), v7', v8', none] [] (mH h o u', z) ∧ (∀ j, j ≠ 1 → j ≠ 16 → j ≠ 17 → j ≠ 18 → u'.1 j = u.1 j) ∧ (∀ j, j ≠ 32 → u'.2.2.1 j = u.2.2.1 j) ∧ (∃ n, n ≤ 999 ∧ u'.1 1 = qPr S b n) := by
  have hm5 := hG.m.2
  have hb5 : b < 5 := by omega
  intro k
  induction k with
  | zero =>
    intro j s v7 v8 u hu hj h1
    refine ⟨u, v7, v8, ?_, fun _ _ _ _ _ => rfl, fun _ _ => rfl, hu⟩
    rw [am_go dc_258_30]
    have : j = 10 := by omega
    subst this
    simp (disch := first | omega | exact ci_m | exact Nat.le_of_ble_eq_true rfl | (refine mF_lt ?_; omega)) only [own_258, am_go dc_258_0, J_aload_0, K_al, ld_0, am_go dc_258_1, J_iload_1, K_il, ld_1, am_go dc_258_2, cv_12_136_12 own_258, JR_v, JR_0, JR_ite, ci1_r, am_go dc_258_5, J_if_ne, am_go dc_258_8, J_iconst, i32_m1, am_go dc_258_9, J_ret_i ret_258, am_go dc_258_10, am_go dc_258_11, cv_12_280_12 own_258, am_go dc_258_14, am_go dc_258_15, am_go dc_258_16, c32_1, am_go dc_258_17, cv_12_79_12 own_258, am_go dc_258_20, J_istore_2, st1_0, st1_1, st1_s, kl_i, kl_l, kl_r, kl_n, am_go dc_258_21, c32_0, am_go dc_258_22, J_istore_3, am_go dc_258_23, J_lconst, i64_0, am_go dc_258_24, J_lstore, st2_0, st2_1, st2_s, am_go dc_258_26, J_bipush, c8_100, am_go dc_258_28, J_istore, J_iload, ld_6, am_go dc_258_32, J_sipush, c16_1000, am_go dc_258_35, J_icmp_ge, am_go dc_258_38, am_go dc_258_39, c8_18, am_go dc_258_41, am_go dc_258_42, J_imul, am_go dc_258_43, am_go dc_258_44, J_iadd, am_go dc_258_45, am_go dc_258_47, cv_12_180_12 own_258, am_go dc_258_50, am_go dc_258_52, am_go dc_258_53, cv_12_256_12 own_258, am_go dc_258_56, am_go dc_258_58, J_i2l, am_go dc_258_59, am_go dc_258_60, am_go dc_258_61, am_go dc_258_62, cv_12_271_12 own_258, am_go dc_258_65, J_lmul, am_go dc_258_66, am_go dc_258_68, J_lload, K_ll, ld_8, am_go dc_258_70, ld_4, am_go dc_258_72, J_lcmp, am_go dc_258_73, J_if_gt, am_go dc_258_76, J_goto, am_go dc_258_79, am_go dc_258_81, am_go dc_258_83, am_go dc_258_85, am_go dc_258_86, J_iinc, pinc_go, c32_100, am_go dc_258_89, am_go dc_258_93, am_go dc_258_95, am_go dc_258_96, am_go dc_258_97, am_go dc_258_98, am_go dc_258_99, J_iload_2, ld_2, am_go dc_258_100, am_go dc_258_103, am_go dc_258_104, am_go dc_258_105, cv_12_283_12 own_258, am_go dc_258_108, J_iload_3, ld_3, am_go dc_258_109, mH_o, zI_add, zI_mul, zI_lt, zI_le, zI_eq, zI_neg, zI_pos, zI_ne0, zI_gt0, zB_0, lg_cmp_ge, lg_cmp_le, lg_cmp_gt, lg_cmp_lt, lg_cmp_eq, ail_r, abl_r, all_r, ais_r, abs_r, als_r, mF_len, Nat.le_refl, List.length_cons, List.length_nil, Nat.reduceAdd, Nat.reduceLT, Nat.reduceLeDiff, Nat.reduceEqDiff, ↓reduceIte, bind_s, if_true, if_false, not_true_eq_false, not_false_eq_true, Nat.zero_add]
    rfl
  | succ k ih =>
    intro j s v7 v8 u hu hj h1
    obtain ⟨n, hn, hu⟩ := hu
    have e1 : (mI (mS u 1 (upd (u.1 1) (18 * b + 1) (zI (100 * j)))) 32 (zI 0)).1 1 = qPr S b (100 * j) := by
      show upd (u.1 1) (18 * b + 1) (zI (100 * j)) = _
      rw [hu]
      unfold qPr
      rw [upd_u]
    obtain ⟨u1, g1, g2⟩ := r_freshens (X := X) (h := h) (o := o) (d := d + 39) (u := mI (mS u 1 (upd (u.1 1) (18 * b + 1) (zI (100 * j)))) 32 (zI 0)) (z := z) (Or.inr rfl)
    have hu1 : u1.1 1 = qPr S b (100 * j) := g2.1.s.trans e1
    obtain ⟨u2, k1, k2, k3⟩ := r_likelyFrom (X := X) (h := h) (o := o) (z := z) (tk := false) hb5 10 (qPr S b (100 * j)) (hG.pr hb (by omega)) (hw.pr hb5) (meas_le _) (d + 1) u1 hu1 (by have := g2.2.2; rw [e1] at this; exact this)
    have k1' : am_f X (d + 40) 254 [.ref o, .int (zI b), .int (zI 0)] (mH h o u1, z) = _ := k1
    have hu2 : u2.1 1 = qPr S b (100 * j) := k2.s.trans hu1
    have p1 : ∀ j, j ≠ 1 → j ≠ 16 → j ≠ 17 → j ≠ 18 → u2.1 j = u.1 j := by
      intro i i0 i1 i2 i3
      rw [k2.1 i i1 i2 i3, g2.1.1 i i1 i2 i3]
      show (mS u 1 _).1 i = _
      rw [mS_o i0]
    have p2 : ∀ j, j ≠ 32 → u2.2.2.1 j = u.2.2.1 j := by
      intro i i0
      rw [k2.2, g2.1.2 i i0]
      exact mI_o i0
    have hlt : ¬ 1000 ≤ 100 * j := by omega
    by_cases c : s.2 < (zI (100 * j)).toInt64 * qLf b false (qPr S b (100 * j))
    · obtain ⟨u', v7', v8', l1, l2, l3, l4⟩ := ih (j + 1) (zI (100 * j), (zI (100 * j)).toInt64 * qLf b false (qPr S b (100 * j))) (some (.int (u.1 1 (18 * b + 1)))) (some (.long ((zI (100 * j)).toInt64 * qLf b false (qPr S b (100 * j))))) u2 ⟨100 * j, by omega, hu2⟩ (by omega) (by omega)
      refine ⟨u', v7', v8', ?_, fun i i0 i1 i2 i3 => (l2 i i0 i1 i2 i3).trans (p1 i i0 i1 i2 i3), fun i i0 => (l3 i i0).trans (p2 i i0), l4⟩
      have e0 : fo (q_sp S b) j (k + 1) s = fo (q_sp S b) (j + 1) k (zI (100 * j), (zI (100 * j)).toInt64 * qLf b false (qPr S b (100 * j))) := by
        show fo _ (j + 1) k (q_sp S b j s) = _
        unfold q_sp
        rw [if_pos c]
      rw [e0, ← l1, am_go dc_258_30]
      simp (disch := first | omega | exact ci_m | exact Nat.le_of_ble_eq_true rfl | (refine mF_lt ?_; omega)) only [own_258, am_go dc_258_0, J_aload_0, K_al, ld_0, am_go dc_258_1, J_iload_1, K_il, ld_1, am_go dc_258_2, cv_12_136_12 own_258, JR_v, JR_0, JR_ite, ci1_r, am_go dc_258_5, J_if_ne, am_go dc_258_8, J_iconst, i32_m1, am_go dc_258_9, J_ret_i ret_258, am_go dc_258_10, am_go dc_258_11, cv_12_280_12 own_258, am_go dc_258_14, am_go dc_258_15, am_go dc_258_16, c32_1, am_go dc_258_17, cv_12_79_12 own_258, am_go dc_258_20, J_istore_2, st1_0, st1_1, st1_s, kl_i, kl_l, kl_r, kl_n, am_go dc_258_21, c32_0, am_go dc_258_22, J_istore_3, am_go dc_258_23, J_lconst, i64_0, am_go dc_258_24, J_lstore, st2_0, st2_1, st2_s, am_go dc_258_26, J_bipush, c8_100, am_go dc_258_28, J_istore, J_iload, ld_6, am_go dc_258_32, J_sipush, c16_1000, am_go dc_258_35, J_icmp_ge, am_go dc_258_38, am_go dc_258_39, c8_18, am_go dc_258_41, am_go dc_258_42, J_imul, am_go dc_258_43, am_go dc_258_44, J_iadd, am_go dc_258_45, am_go dc_258_47, cv_12_180_12 own_258, am_go dc_258_50, am_go dc_258_52, am_go dc_258_53, cv_12_256_12 own_258, am_go dc_258_56, am_go dc_258_58, J_i2l, am_go dc_258_59, am_go dc_258_60, am_go dc_258_61, am_go dc_258_62, cv_12_271_12 own_258, am_go dc_258_65, J_lmul, am_go dc_258_66, am_go dc_258_68, J_lload, K_ll, ld_8, am_go dc_258_70, ld_4, am_go dc_258_72, J_lcmp, am_go dc_258_73, J_if_gt, am_go dc_258_76, J_goto, am_go dc_258_79, am_go dc_258_81, am_go dc_258_83, am_go dc_258_85, am_go dc_258_86, J_iinc, pinc_go, c32_100, am_go dc_258_89, am_go dc_258_93, am_go dc_258_95, am_go dc_258_96, am_go dc_258_97, am_go dc_258_98, am_go dc_258_99, J_iload_2, ld_2, am_go dc_258_100, am_go dc_258_103, am_go dc_258_104, am_go dc_258_105, cv_12_283_12 own_258, am_go dc_258_108, J_iload_3, ld_3, am_go dc_258_109, mH_o, zI_add, zI_mul, zI_lt, zI_le, zI_eq, zI_neg, zI_pos, zI_ne0, zI_gt0, zB_0, lg_cmp_ge, lg_cmp_le, lg_cmp_gt, lg_cmp_lt, lg_cmp_eq, ail_r, abl_r, all_r, ais_r, abs_r, als_r, mF_len, hlt, r_becomes, g1, k1', c, Nat.mul_add, List.length_cons, List.length_nil, Nat.reduceAdd, Nat.reduceLT, Nat.reduceLeDiff, Nat.reduceEqDiff, ↓reduceIte, bind_s, if_true, if_false, not_true_eq_false, not_false_eq_true, Nat.zero_add]
    · obtain ⟨u', v7', v8', l1, l2, l3, l4⟩ := ih (j + 1) s (some (.int (u.1 1 (18 * b + 1)))) (some (.long ((zI (100 * j)).toInt64 * qLf b false (qPr S b (100 * j))))) u2 ⟨100 * j, by omega, hu2⟩ (by omega) (by omega)
      refine ⟨u', v7', v8', ?_, fun i i0 i1 i2 i3 => (l2 i i0 i1 i2 i3).trans (p1 i i0 i1 i2 i3), fun i i0 => (l3 i i0).trans (p2 i i0), l4⟩
      have e0 : fo (q_sp S b) j (k + 1) s = fo (q_sp S b) (j + 1) k s := by
        show fo _ (j + 1) k (q_sp S b j s) = _
        unfold q_sp
        rw [if_neg c]
      rw [e0, ← l1, am_go dc_258_30]
      simp (disch := first | omega | exact ci_m | exact Nat.le_of_ble_eq_true rfl | (refine mF_lt ?_; omega)) only [own_258, am_go dc_258_0, J_aload_0, K_al, ld_0, am_go dc_258_1, J_iload_1, K_il, ld_1, am_go dc_258_2, cv_12_136_12 own_258, JR_v, JR_0, JR_ite, ci1_r, am_go dc_258_5, J_if_ne, am_go dc_258_8, J_iconst, i32_m1, am_go dc_258_9, J_ret_i ret_258, am_go dc_258_10, am_go dc_258_11, cv_12_280_12 own_258, am_go dc_258_14, am_go dc_258_15, am_go dc_258_16, c32_1, am_go dc_258_17, cv_12_79_12 own_258, am_go dc_258_20, J_istore_2, st1_0, st1_1, st1_s, kl_i, kl_l, kl_r, kl_n, am_go dc_258_21, c32_0, am_go dc_258_22, J_istore_3, am_go dc_258_23, J_lconst, i64_0, am_go dc_258_24, J_lstore, st2_0, st2_1, st2_s, am_go dc_258_26, J_bipush, c8_100, am_go dc_258_28, J_istore, J_iload, ld_6, am_go dc_258_32, J_sipush, c16_1000, am_go dc_258_35, J_icmp_ge, am_go dc_258_38, am_go dc_258_39, c8_18, am_go dc_258_41, am_go dc_258_42, J_imul, am_go dc_258_43, am_go dc_258_44, J_iadd, am_go dc_258_45, am_go dc_258_47, cv_12_180_12 own_258, am_go dc_258_50, am_go dc_258_52, am_go dc_258_53, cv_12_256_12 own_258, am_go dc_258_56, am_go dc_258_58, J_i2l, am_go dc_258_59, am_go dc_258_60, am_go dc_258_61, am_go dc_258_62, cv_12_271_12 own_258, am_go dc_258_65, J_lmul, am_go dc_258_66, am_go dc_258_68, J_lload, K_ll, ld_8, am_go dc_258_70, ld_4, am_go dc_258_72, J_lcmp, am_go dc_258_73, J_if_gt, am_go dc_258_76, J_goto, am_go dc_258_79, am_go dc_258_81, am_go dc_258_83, am_go dc_258_85, am_go dc_258_86, J_iinc, pinc_go, c32_100, am_go dc_258_89, am_go dc_258_93, am_go dc_258_95, am_go dc_258_96, am_go dc_258_97, am_go dc_258_98, am_go dc_258_99, J_iload_2, ld_2, am_go dc_258_100, am_go dc_258_103, am_go dc_258_104, am_go dc_258_105, cv_12_283_12 own_258, am_go dc_258_108, J_iload_3, ld_3, am_go dc_258_109, mH_o, zI_add, zI_mul, zI_lt, zI_le, zI_eq, zI_neg, zI_pos, zI_ne0, zI_gt0, zB_0, lg_cmp_ge, lg_cmp_le, lg_cmp_gt, lg_cmp_lt, lg_cmp_eq, ail_r, abl_r, all_r, ais_r, abs_r, als_r, mF_len, hlt, r_becomes, g1, k1', c, Nat.mul_add, List.length_cons, List.length_nil, Nat.reduceAdd, Nat.reduceLT, Nat.reduceLeDiff, Nat.reduceEqDiff, ↓reduceIte, bind_s, if_true, if_false, not_true_eq_false, not_false_eq_true, Nat.zero_add]
theorem r_setPrice_n {x : Int32} (hq : qW (u.1 1)) (hx : qIs x (wN (u.1 1 116)) = false) : am_f X (d + 3) 258 [.ref o, .int x] (mH h o u, z) = some (.inl (some (.int (-1))), (mH h o u, z)) := by
  rw [fU_258]
  simp (disch := first | omega | exact ci_m | exact Nat.le_of_ble_eq_true rfl | (refine mF_lt ?_; omega)) only [own_258, am_go dc_258_0, J_aload_0, K_al, ld_0, am_go dc_258_1, J_iload_1, K_il, ld_1, am_go dc_258_2, cv_12_136_12 own_258, JR_v, JR_0, JR_ite, ci1_r, am_go dc_258_5, J_if_ne, am_go dc_258_8, J_iconst, i32_m1, am_go dc_258_9, J_ret_i ret_258, am_go dc_258_10, am_go dc_258_11, cv_12_280_12 own_258, am_go dc_258_14, am_go dc_258_15, am_go dc_258_16, c32_1, am_go dc_258_17, cv_12_79_12 own_258, am_go dc_258_20, J_istore_2, st1_0, st1_1, st1_s, kl_i, kl_l, kl_r, kl_n, am_go dc_258_21, c32_0, am_go dc_258_22, J_istore_3, am_go dc_258_23, J_lconst, i64_0, am_go dc_258_24, J_lstore, st2_0, st2_1, st2_s, am_go dc_258_26, J_bipush, c8_100, am_go dc_258_28, J_istore, J_iload, ld_6, am_go dc_258_32, J_sipush, c16_1000, am_go dc_258_35, J_icmp_ge, am_go dc_258_38, am_go dc_258_39, c8_18, am_go dc_258_41, am_go dc_258_42, J_imul, am_go dc_258_43, am_go dc_258_44, J_iadd, am_go dc_258_45, am_go dc_258_47, cv_12_180_12 own_258, am_go dc_258_50, am_go dc_258_52, am_go dc_258_53, cv_12_256_12 own_258, am_go dc_258_56, am_go dc_258_58, J_i2l, am_go dc_258_59, am_go dc_258_60, am_go dc_258_61, am_go dc_258_62, cv_12_271_12 own_258, am_go dc_258_65, J_lmul, am_go dc_258_66, am_go dc_258_68, J_lload, K_ll, ld_8, am_go dc_258_70, ld_4, am_go dc_258_72, J_lcmp, am_go dc_258_73, J_if_gt, am_go dc_258_76, J_goto, am_go dc_258_79, am_go dc_258_81, am_go dc_258_83, am_go dc_258_85, am_go dc_258_86, J_iinc, pinc_go, c32_100, am_go dc_258_89, am_go dc_258_92, am_go dc_258_93, am_go dc_258_95, am_go dc_258_96, am_go dc_258_97, am_go dc_258_98, am_go dc_258_99, J_iload_2, ld_2, am_go dc_258_100, am_go dc_258_103, am_go dc_258_104, am_go dc_258_105, cv_12_283_12 own_258, am_go dc_258_108, J_iload_3, ld_3, am_go dc_258_109, mH_o, zI_add, zI_mul, zI_lt, zI_le, zI_eq, zI_neg, zI_pos, zI_ne0, zI_gt0, zB_0, lg_cmp_ge, lg_cmp_le, lg_cmp_gt, lg_cmp_lt, lg_cmp_eq, ail_r, abl_r, all_r, ais_r, abs_r, als_r, mF_len, r_isBox hq, Bool.true_eq_false, Bool.false_eq_true, i8_m3, i8_m4, hx, List.length_cons, List.length_nil, Nat.reduceAdd, Nat.reduceLT, Nat.reduceLeDiff, Nat.reduceEqDiff, ↓reduceIte, bind_s, if_true, if_false, not_true_eq_false, not_false_eq_true, Nat.zero_add]
def qSp (S : Nat → Int32) (b : Nat) : Int32 := (fo (q_sp (qZ S) b) 1 9 (zI 0, 0)).1
theorem r_setPrice_y {b : Nat} (hG : qG (u.1 1)) (hw : qHw (u.1 1)) (hb : b < wN (u.1 1 116)) : ∃ u', am_f X (d + 41) 258 [.ref o, .int (zI b)] (mH h o u, z) = some (.inl (some (.int (qSp (u.1 1) b))), (mH h o u', z)) ∧ (∀ j, j ≠ 4 → j ≠ 16 → j ≠ 17 → j ≠ 18 → u'.1 j = u.1 j) ∧ (∀ j, j ≠ 32 → u'.2.2.1 j = u.2.2.1 j) ∧ u'.2.2.1 32 = zI 0 := by
  have hq := qW_of2 hG hw
  have h5 := hq.m.2
  have hb5 : b < 5 := by omega
  have hbx := qIs_zI hb (by omega)
  have hid : qPr (qZ (u.1 1)) b (wN (u.1 1 (18 * b + 1))) = qZ (u.1 1) := by
    unfold qPr
    have hp := ((hG.2.2 b hb).1.2.1).z (by omega)
    rw [← hp.1]
    have e : u.1 1 (18 * b + 1) = qZ (u.1 1) (18 * b + 1) := (qZ_o (by omega)).symm
    rw [e, upd_id]
  have hpr := ((hG.2.2 b hb).1.2.1).z (by omega)
  have hz116 : qZ (u.1 1) 116 = u.1 1 116 := qZ_o (by omega)
  obtain ⟨u2, v7, v8, l1, l2, l3, n, hn, l4⟩ := r_sp_l (X := X) (h := h) (o := o) (d := d) (z := z) (b := b) (w := u.1 1 (18 * b + 1)) (S := qZ (u.1 1)) (qG_Z hG) qHw_Z (by rw [hz116]; exact hb) 9 1 (zI 0, 0) none none (mS (mS u 4 (qSv (u.1 4) (u.1 1))) 1 (qZ (u.1 1))) ⟨_, hpr.2, by rw [hid]; rfl⟩ (by omega) (by omega)
  have e1 : (mI (mS u2 1 (upd (u2.1 1) (18 * b + 1) (u.1 1 (18 * b + 1)))) 32 (zI 0)).1 1 = qZ (u.1 1) := by
    show upd (u2.1 1) (18 * b + 1) (u.1 1 (18 * b + 1)) = _
    rw [l4]
    unfold qPr at hid ⊢
    rw [upd_u, hpr.1]
    exact hid
  have e4 : (mI (mS u2 1 (upd (u2.1 1) (18 * b + 1) (u.1 1 (18 * b + 1)))) 32 (zI 0)).1 4 = qSv (u.1 4) (u.1 1) := by
    show (mS u2 1 (upd (u2.1 1) (18 * b + 1) (u.1 1 (18 * b + 1)))).1 4 = _
    rw [mS_o (by omega), l2 4 (by omega) (by omega) (by omega) (by omega)]
    rfl
  have hbk := fun d => r_back2 (X := X) (h := h) (o := o) (d := d) (z := z) e4 e1 (fun j hj => qZ_o hj)
  have hof : ∀ d, am_f X (d + 1) 208 [.ref o, .int (zI b), .int (zI 1)] (mH h o (mS (mS u 4 (qSv (u.1 4) (u.1 1))) 1 (qZ (u.1 1))), z) = some (.inl (some (.int (u.1 1 (18 * b + 1)))), (mH h o (mS (mS u 4 (qSv (u.1 4) (u.1 1))) 1 (qZ (u.1 1))), z)) := by
    intro d
    rw [r_of (by omega), mS_s, qZ_o (by omega)]
  refine ⟨mS (mI (mS u2 1 (upd (u2.1 1) (18 * b + 1) (u.1 1 (18 * b + 1)))) 32 (zI 0)) 1 (u.1 1), ?_, fun j i4 i1 i2 i3 => ?_, fun j i1 => ?_, rfl⟩
  · rw [fU_258]
    simp (disch := first | omega | exact ci_m | exact Nat.le_of_ble_eq_true rfl | (refine mF_lt ?_; omega)) only [own_258, am_go dc_258_0, J_aload_0, K_al, ld_0, am_go dc_258_1, J_iload_1, K_il, ld_1, am_go dc_258_2, cv_12_136_12 own_258, JR_v, JR_0, JR_ite, ci1_r, am_go dc_258_5, J_if_ne, am_go dc_258_8, J_iconst, i32_m1, am_go dc_258_9, J_ret_i ret_258, am_go dc_258_10, am_go dc_258_11, cv_12_280_12 own_258, am_go dc_258_14, am_go dc_258_15, am_go dc_258_16, c32_1, am_go dc_258_17, cv_12_79_12 own_258, am_go dc_258_20, J_istore_2, st1_0, st1_1, st1_s, kl_i, kl_l, kl_r, kl_n, am_go dc_258_21, c32_0, am_go dc_258_22, J_istore_3, am_go dc_258_23, J_lconst, i64_0, am_go dc_258_24, J_lstore, st2_0, st2_1, st2_s, am_go dc_258_26, J_bipush, c8_100, am_go dc_258_28, J_istore, J_iload, ld_6, am_go dc_258_32, J_sipush, c16_1000, am_go dc_258_35, J_icmp_ge, am_go dc_258_38, am_go dc_258_39, c8_18, am_go dc_258_41, am_go dc_258_42, J_imul, am_go dc_258_43, am_go dc_258_44, J_iadd, am_go dc_258_45, am_go dc_258_47, cv_12_180_12 own_258, am_go dc_258_50, am_go dc_258_52, am_go dc_258_53, cv_12_256_12 own_258, am_go dc_258_56, am_go dc_258_58, J_i2l, am_go dc_258_59, am_go dc_258_60, am_go dc_258_61, am_go dc_258_62, cv_12_271_12 own_258, am_go dc_258_65, J_lmul, am_go dc_258_66, am_go dc_258_68, J_lload, K_ll, ld_8, am_go dc_258_70, ld_4, am_go dc_258_72, J_lcmp, am_go dc_258_73, J_if_gt, am_go dc_258_76, J_goto, am_go dc_258_79, am_go dc_258_81, am_go dc_258_83, am_go dc_258_85, am_go dc_258_86, J_iinc, pinc_go, c32_100, am_go dc_258_89, am_go dc_258_92, am_go dc_258_93, am_go dc_258_95, am_go dc_258_96, am_go dc_258_97, am_go dc_258_98, am_go dc_258_99, J_iload_2, ld_2, am_go dc_258_100, am_go dc_258_103, am_go dc_258_104, am_go dc_258_105, cv_12_283_12 own_258, am_go dc_258_108, J_iload_3, ld_3, am_go dc_258_109, mH_o, zI_add, zI_mul, zI_lt, zI_le, zI_eq, zI_neg, zI_pos, zI_ne0, zI_gt0, zB_0, lg_cmp_ge, lg_cmp_le, lg_cmp_gt, lg_cmp_lt, lg_cmp_eq, ail_r, abl_r, all_r, ais_r, abs_r, als_r, mF_len, r_isBox hq, Bool.true_eq_false, Bool.false_eq_true, i8_m3, i8_m4, hbx, r_saves2, hof, List.length_cons, List.length_nil, Nat.reduceAdd, Nat.reduceLT, Nat.reduceLeDiff, Nat.reduceEqDiff, ↓reduceIte, bind_s, if_true, if_false, not_true_eq_false, not_false_eq_true, Nat.zero_add]
    refine Eq.trans l1 ?_
    rw [am_go dc_258_92]
    simp (disch := first | omega | exact ci_m | exact Nat.le_of_ble_eq_true rfl | (refine mF_lt ?_; omega)) only [own_258, am_go dc_258_0, J_aload_0, K_al, ld_0, am_go dc_258_1, J_iload_1, K_il, ld_1, am_go dc_258_2, cv_12_136_12 own_258, JR_v, JR_0, JR_ite, ci1_r, am_go dc_258_5, J_if_ne, am_go dc_258_8, J_iconst, i32_m1, am_go dc_258_9, J_ret_i ret_258, am_go dc_258_10, am_go dc_258_11, cv_12_280_12 own_258, am_go dc_258_14, am_go dc_258_15, am_go dc_258_16, c32_1, am_go dc_258_17, cv_12_79_12 own_258, am_go dc_258_20, J_istore_2, st1_0, st1_1, st1_s, kl_i, kl_l, kl_r, kl_n, am_go dc_258_21, c32_0, am_go dc_258_22, J_istore_3, am_go dc_258_23, J_lconst, i64_0, am_go dc_258_24, J_lstore, st2_0, st2_1, st2_s, am_go dc_258_26, J_bipush, c8_100, am_go dc_258_28, J_istore, J_iload, ld_6, am_go dc_258_32, J_sipush, c16_1000, am_go dc_258_35, J_icmp_ge, am_go dc_258_38, am_go dc_258_39, c8_18, am_go dc_258_41, am_go dc_258_42, J_imul, am_go dc_258_43, am_go dc_258_44, J_iadd, am_go dc_258_45, am_go dc_258_47, cv_12_180_12 own_258, am_go dc_258_50, am_go dc_258_52, am_go dc_258_53, cv_12_256_12 own_258, am_go dc_258_56, am_go dc_258_58, J_i2l, am_go dc_258_59, am_go dc_258_60, am_go dc_258_61, am_go dc_258_62, cv_12_271_12 own_258, am_go dc_258_65, J_lmul, am_go dc_258_66, am_go dc_258_68, J_lload, K_ll, ld_8, am_go dc_258_70, ld_4, am_go dc_258_72, J_lcmp, am_go dc_258_73, J_if_gt, am_go dc_258_76, J_goto, am_go dc_258_79, am_go dc_258_81, am_go dc_258_83, am_go dc_258_85, am_go dc_258_86, J_iinc, pinc_go, c32_100, am_go dc_258_89, am_go dc_258_92, am_go dc_258_93, am_go dc_258_95, am_go dc_258_96, am_go dc_258_97, am_go dc_258_98, am_go dc_258_99, J_iload_2, ld_2, am_go dc_258_100, am_go dc_258_103, am_go dc_258_104, am_go dc_258_105, cv_12_283_12 own_258, am_go dc_258_108, J_iload_3, ld_3, am_go dc_258_109, mH_o, zI_add, zI_mul, zI_lt, zI_le, zI_eq, zI_neg, zI_pos, zI_ne0, zI_gt0, zB_0, lg_cmp_ge, lg_cmp_le, lg_cmp_gt, lg_cmp_lt, lg_cmp_eq, ail_r, abl_r, all_r, ais_r, abs_r, als_r, mF_len, r_becomes, hbk, List.length_cons, List.length_nil, Nat.reduceAdd, Nat.reduceLT, Nat.reduceLeDiff, Nat.reduceEqDiff, ↓reduceIte, bind_s, if_true, if_false, not_true_eq_false, not_false_eq_true, Nat.zero_add]
    rfl
  · by_cases e : j = 1
    · subst e
      rw [mS_s]
    · rw [mS_o e]
      show (mS u2 1 _).1 j = _
      rw [mS_o e, l2 j e i1 i2 i3, mS_o e, mS_o i4]
  · show (mI (mS u2 1 _) 32 (zI 0)).2.2.1 j = _
    rw [mI_o i1]
    show u2.2.2.1 j = _
    rw [l3 j i1]
    rfl
end M15
