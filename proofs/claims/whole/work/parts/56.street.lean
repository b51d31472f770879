/-! the reference: streets -/
def qSt (ord : Nat → Nat) : Nat → Nat → (Nat → Int32) → Int64
  | 0, _, S => (qHas S).toInt64 * qMass S
  | r + 1, k, S => if qMay S (ord k) = true then (if (if (qHas S).toInt64 * qMass S < qSt ord r (k + 1) S then qSt ord r (k + 1) S else (qHas S).toInt64 * qMass S) < qOpn S (qSt ord r (k + 1)) (ord k) then qOpn S (qSt ord r (k + 1)) (ord k) else (if (qHas S).toInt64 * qMass S < qSt ord r (k + 1) S then qSt ord r (k + 1) S else (qHas S).toInt64 * qMass S)) else (if (qHas S).toInt64 * qMass S < qSt ord r (k + 1) S then qSt ord r (k + 1) S else (qHas S).toInt64 * qMass S)
/-- none is peeped at -/
def qNp (S : Nat → Int32) : Prop := ∀ b, b < 5 → S (90 + b) = zI 0 ∨ 3 ≤ wN (S (90 + b))
theorem qNp.up {S : Nat → Int32} {b i : Nat} (h : qNp S) (hi : i < 4) : qNp (upd S (90 + b) (zI (3 + i))) := by
  intro c hc
  by_cases e : c = b
  · subst e
    right
    rw [upd_s, wN_zI (by omega)]
    omega
  · rw [upd_o (by omega)]
    exact h c hc
theorem qNp.may {S : Nat → Int32} {b : Nat} (h : qNp S) (hw : qHw S) (hb : b < 5) (hm : qMay S b = true) : S (90 + b) = zI 0 := by
  rcases h b hb with e | e
  · exact e
  · have := qMay_lev (i := 0) hw hb hm
    have h0 : lev (wN (S (90 + b))) = 0 := by
      unfold lev
      rw [if_neg (by omega), if_neg (by omega)]
    omega
section M16
variable {X : am_X} {h : am_H} {o d : Nat} {u : mU} {z : Nat × Nat}
theorem r_street_l {S : Nat → Int32} {ord : Nat → Nat} {r k n b : Nat} {v3 : Int64} (hG : qG S) (hw : qHw S) (hp : qNp S) (hb : b < wN (S 116)) (h0 : S (90 + b) = zI 0) (u : mU) (hu : u.1 1 = S) (hV : ∀ i, i < 4 → am_f X (d + 4) 262 [.ref o, .int (zI (k + 1)), .int (zI n)] (mH h o (mS u 1 (upd S (90 + b) (zI (3 + i)))), z) = some (.inl (some (.long (qSt ord r (k + 1) (upd S (90 + b) (zI (3 + i)))))), (mH h o (mS u 1 (upd S (90 + b) (zI (3 + i)))), z))) : ∀ (j i : Nat) (v : Int64) (c : Option Value), i + j = wN (S (18 * b + 3)) → am_I X (am_f X (d + 4)) 262 80 [some (.ref o), some (.int (zI k)), some (.int (zI n)), some (.long v3), none, some (.long v), none, some (.int (zI b)), some (.int (zI i)), c] [] (mH h o u, z) = some (.inl (some (.long (if v3 < fo (q_opn S (qSt ord r (k + 1)) b) i j v then fo (q_opn S (qSt ord r (k + 1)) b) i j v else v3))), (mH h o u, z)) := by
  have hq := qW_of2 hG hw
  have hm5 := hG.m.2
  have hb5 : b < 5 := by omega
  subst hu
  obtain ⟨hn, hn1, hn4⟩ := hG.n hb
  generalize wN (u.1 1 (18 * b + 3)) = N at hn hn1 hn4 ⊢
  intro j
  induction j with
  | zero =>
    intro i v c hi
    rw [am_go dc_262_80]
    simp (disch := first | omega | exact ci_m | exact Nat.le_of_ble_eq_true rfl | (refine mF_lt ?_; omega)) only [own_262, am_go dc_262_0, J_aload_0, K_al, ld_0, am_go dc_262_1, cv_12_204_12 own_262, JR_v, JR_0, JR_ite, ci1_r, am_go dc_262_4, J_i2l, am_go dc_262_5, am_go dc_262_6, cv_12_213_12 own_262, am_go dc_262_9, J_lmul, am_go dc_262_10, J_lstore_3, st2_0, st2_1, st2_s, kl_i, kl_l, kl_r, kl_n, am_go dc_262_11, J_iload_1, K_il, ld_1, am_go dc_262_12, J_iload_2, ld_2, am_go dc_262_13, J_icmp_ne, am_go dc_262_16, J_lload_3, K_ll, ld_3, am_go dc_262_17, J_ret_l ret_262, am_go dc_262_18, am_go dc_262_19, am_go dc_262_20, J_iconst, c32_1, am_go dc_262_21, J_iadd, am_go dc_262_22, am_go dc_262_23, cv_12_286_12 own_262, am_go dc_262_26, J_lstore, am_go dc_262_28, J_lload, ld_5, am_go dc_262_30, am_go dc_262_31, J_lcmp, am_go dc_262_32, J_if_le, am_go dc_262_35, am_go dc_262_37, J_goto, am_go dc_262_40, am_go dc_262_41, am_go dc_262_42, am_go dc_262_43, J_getfield, gf_r, fk_12_66_12, am_go dc_262_46, am_go dc_262_47, J_iaload, am_go dc_262_48, J_istore, st1_0, st1_1, st1_s, am_go dc_262_50, am_go dc_262_51, J_iload, ld_7, am_go dc_262_53, cv_12_192_12 own_262, am_go dc_262_56, J_if_ne, am_go dc_262_59, am_go dc_262_60, am_go dc_262_61, am_go dc_262_62, am_go dc_262_64, am_go dc_262_65, cv_12_79_12 own_262, am_go dc_262_68, J_ineg, am_go dc_262_69, am_go dc_262_70, am_go dc_262_71, am_go dc_262_74, am_go dc_262_75, am_go dc_262_77, c32_0, am_go dc_262_78, ld_8, am_go dc_262_82, am_go dc_262_83, am_go dc_262_85, cv_12_143_12 own_262, am_go dc_262_88, J_icmp_ge, am_go dc_262_91, am_go dc_262_92, am_go dc_262_94, am_go dc_262_96, cv_12_198_12 own_262, am_go dc_262_99, am_go dc_262_101, ld_9, am_go dc_262_103, am_go dc_262_106, am_go dc_262_109, am_go dc_262_110, am_go dc_262_112, c32_3, am_go dc_262_113, am_go dc_262_115, am_go dc_262_116, cv_12_154_12 own_262, am_go dc_262_119, am_go dc_262_121, am_go dc_262_123, am_go dc_262_124, am_go dc_262_125, am_go dc_262_126, am_go dc_262_127, am_go dc_262_128, am_go dc_262_129, am_go dc_262_132, am_go dc_262_133, J_ladd, am_go dc_262_134, am_go dc_262_136, am_go dc_262_137, am_go dc_262_139, am_go dc_262_140, am_go dc_262_143, J_iinc, pinc_go, am_go dc_262_146, am_go dc_262_149, am_go dc_262_151, am_go dc_262_152, am_go dc_262_153, am_go dc_262_156, am_go dc_262_158, am_go dc_262_161, am_go dc_262_162, mH_o, mg_33, mH_19, mw_19, zI_add, zI_mul, zI_lt, zI_le, zI_eq, zI_neg, zI_pos, zI_ne0, zI_gt0, zB_0, lg_cmp_ge, lg_cmp_le, lg_cmp_gt, lg_cmp_lt, lg_cmp_eq, ail_r, abl_r, all_r, ais_r, abs_r, als_r, mF_len, r_steps, hn, List.length_cons, List.length_nil, Nat.reduceAdd, Nat.reduceLT, Nat.reduceLeDiff, Nat.reduceEqDiff, ↓reduceIte, bind_s, if_true, if_false, not_true_eq_false, not_false_eq_true, Nat.zero_add]
    rw [if_pos (by omega)]
    simp only [fo]
    by_cases e : v ≤ v3
    · have e2 : ¬ v3 < v := Int64.not_lt.mpr e
      simp only [e, e2, if_true, if_false]
    · have e2 : v3 < v := Int64.not_le.mp e
      simp only [e, e2, if_true, if_false]
  | succ j ih =>
    intro i v c hi
    have hi4 : i < 4 := by omega
    have hsh := fun d => r_shows (X := X) (h := h) (o := o) (d := d) (u := u) (z := z) (b := b) (i := i) hq hb hi4
    have hV' := hV i hi4
    by_cases c0 : qShows (u.1 1) b i = 0
    · have e0 : fo (q_opn (u.1 1) (qSt ord r (k + 1)) b) i (j + 1) v = fo (q_opn (u.1 1) (qSt ord r (k + 1)) b) (i + 1) j v := by
        show fo _ (i + 1) j (q_opn (u.1 1) (qSt ord r (k + 1)) b i v) = _
        unfold q_opn
        rw [if_pos c0]
      rw [e0, ← ih (i + 1) v (some (.int (qShows (u.1 1) b i))) (by omega), am_go dc_262_80]
      simp (disch := first | omega | exact ci_m | exact Nat.le_of_ble_eq_true rfl | (refine mF_lt ?_; omega)) only [own_262, am_go dc_262_0, J_aload_0, K_al, ld_0, am_go dc_262_1, cv_12_204_12 own_262, JR_v, JR_0, JR_ite, ci1_r, am_go dc_262_4, J_i2l, am_go dc_262_5, am_go dc_262_6, cv_12_213_12 own_262, am_go dc_262_9, J_lmul, am_go dc_262_10, J_lstore_3, st2_0, st2_1, st2_s, kl_i, kl_l, kl_r, kl_n, am_go dc_262_11, J_iload_1, K_il, ld_1, am_go dc_262_12, J_iload_2, ld_2, am_go dc_262_13, J_icmp_ne, am_go dc_262_16, J_lload_3, K_ll, ld_3, am_go dc_262_17, J_ret_l ret_262, am_go dc_262_18, am_go dc_262_19, am_go dc_262_20, J_iconst, c32_1, am_go dc_262_21, J_iadd, am_go dc_262_22, am_go dc_262_23, cv_12_286_12 own_262, am_go dc_262_26, J_lstore, am_go dc_262_28, J_lload, ld_5, am_go dc_262_30, am_go dc_262_31, J_lcmp, am_go dc_262_32, J_if_le, am_go dc_262_35, am_go dc_262_37, J_goto, am_go dc_262_40, am_go dc_262_41, am_go dc_262_42, am_go dc_262_43, J_getfield, gf_r, fk_12_66_12, am_go dc_262_46, am_go dc_262_47, J_iaload, am_go dc_262_48, J_istore, st1_0, st1_1, st1_s, am_go dc_262_50, am_go dc_262_51, J_iload, ld_7, am_go dc_262_53, cv_12_192_12 own_262, am_go dc_262_56, J_if_ne, am_go dc_262_59, am_go dc_262_60, am_go dc_262_61, am_go dc_262_62, am_go dc_262_64, am_go dc_262_65, cv_12_79_12 own_262, am_go dc_262_68, J_ineg, am_go dc_262_69, am_go dc_262_70, am_go dc_262_71, am_go dc_262_74, am_go dc_262_75, am_go dc_262_77, c32_0, am_go dc_262_78, ld_8, am_go dc_262_82, am_go dc_262_83, am_go dc_262_85, cv_12_143_12 own_262, am_go dc_262_88, J_icmp_ge, am_go dc_262_91, am_go dc_262_92, am_go dc_262_94, am_go dc_262_96, cv_12_198_12 own_262, am_go dc_262_99, am_go dc_262_101, ld_9, am_go dc_262_103, am_go dc_262_106, am_go dc_262_109, am_go dc_262_110, am_go dc_262_112, c32_3, am_go dc_262_113, am_go dc_262_115, am_go dc_262_116, cv_12_154_12 own_262, am_go dc_262_119, am_go dc_262_121, am_go dc_262_123, am_go dc_262_124, am_go dc_262_125, am_go dc_262_126, am_go dc_262_127, am_go dc_262_128, am_go dc_262_129, am_go dc_262_132, am_go dc_262_133, J_ladd, am_go dc_262_134, am_go dc_262_136, am_go dc_262_137, am_go dc_262_139, am_go dc_262_140, am_go dc_262_143, J_iinc, pinc_go, am_go dc_262_146, am_go dc_262_149, am_go dc_262_151, am_go dc_262_152, am_go dc_262_153, am_go dc_262_156, am_go dc_262_158, am_go dc_262_161, am_go dc_262_162, mH_o, mg_33, mH_19, mw_19, zI_add, zI_mul, zI_lt, zI_le, zI_eq, zI_neg, zI_pos, zI_ne0, zI_gt0, zB_0, lg_cmp_ge, lg_cmp_le, lg_cmp_gt, lg_cmp_lt, lg_cmp_eq, ail_r, abl_r, all_r, ais_r, abs_r, als_r, mF_len, r_steps, hn, hsh, c0, List.length_cons, List.length_nil, Nat.reduceAdd, Nat.reduceLT, Nat.reduceLeDiff, Nat.reduceEqDiff, ↓reduceIte, bind_s, if_true, if_false, not_true_eq_false, not_false_eq_true, Nat.zero_add]
      rw [if_neg (by omega)]
      try simp only [c0]
    · have e0 : fo (q_opn (u.1 1) (qSt ord r (k + 1)) b) i (j + 1) v = fo (q_opn (u.1 1) (qSt ord r (k + 1)) b) (i + 1) j (v + (qShows (u.1 1) b i).toInt64 * qSt ord r (k + 1) (upd (u.1 1) (90 + b) (zI (3 + i)))) := by
        show fo _ (i + 1) j (q_opn (u.1 1) (qSt ord r (k + 1)) b i v) = _
        unfold q_opn
        rw [if_neg c0]
      have hid : mS (mS u 1 (upd (u.1 1) (90 + b) (zI (3 + i)))) 1 (upd (upd (u.1 1) (90 + b) (zI (3 + i))) (90 + b) (zI 0)) = u := by
        rw [mS_S, upd_u, ← h0, upd_id, mS_id]
      rw [e0, ← ih (i + 1) _ (some (.int (qShows (u.1 1) b i))) (by omega), am_go dc_262_80]
      simp (disch := first | omega | exact ci_m | exact Nat.le_of_ble_eq_true rfl | (refine mF_lt ?_; omega)) only [own_262, am_go dc_262_0, J_aload_0, K_al, ld_0, am_go dc_262_1, cv_12_204_12 own_262, JR_v, JR_0, JR_ite, ci1_r, am_go dc_262_4, J_i2l, am_go dc_262_5, am_go dc_262_6, cv_12_213_12 own_262, am_go dc_262_9, J_lmul, am_go dc_262_10, J_lstore_3, st2_0, st2_1, st2_s, kl_i, kl_l, kl_r, kl_n, am_go dc_262_11, J_iload_1, K_il, ld_1, am_go dc_262_12, J_iload_2, ld_2, am_go dc_262_13, J_icmp_ne, am_go dc_262_16, J_lload_3, K_ll, ld_3, am_go dc_262_17, J_ret_l ret_262, am_go dc_262_18, am_go dc_262_19, am_go dc_262_20, J_iconst, c32_1, am_go dc_262_21, J_iadd, am_go dc_262_22, am_go dc_262_23, cv_12_286_12 own_262, am_go dc_262_26, J_lstore, am_go dc_262_28, J_lload, ld_5, am_go dc_262_30, am_go dc_262_31, J_lcmp, am_go dc_262_32, J_if_le, am_go dc_262_35, am_go dc_262_37, J_goto, am_go dc_262_40, am_go dc_262_41, am_go dc_262_42, am_go dc_262_43, J_getfield, gf_r, fk_12_66_12, am_go dc_262_46, am_go dc_262_47, J_iaload, am_go dc_262_48, J_istore, st1_0, st1_1, st1_s, am_go dc_262_50, am_go dc_262_51, J_iload, ld_7, am_go dc_262_53, cv_12_192_12 own_262, am_go dc_262_56, J_if_ne, am_go dc_262_59, am_go dc_262_60, am_go dc_262_61, am_go dc_262_62, am_go dc_262_64, am_go dc_262_65, cv_12_79_12 own_262, am_go dc_262_68, J_ineg, am_go dc_262_69, am_go dc_262_70, am_go dc_262_71, am_go dc_262_74, am_go dc_262_75, am_go dc_262_77, c32_0, am_go dc_262_78, ld_8, am_go dc_262_82, am_go dc_262_83, am_go dc_262_85, cv_12_143_12 own_262, am_go dc_262_88, J_icmp_ge, am_go dc_262_91, am_go dc_262_92, am_go dc_262_94, am_go dc_262_96, cv_12_198_12 own_262, am_go dc_262_99, am_go dc_262_101, ld_9, am_go dc_262_103, am_go dc_262_106, am_go dc_262_109, am_go dc_262_110, am_go dc_262_112, c32_3, am_go dc_262_113, am_go dc_262_115, am_go dc_262_116, cv_12_154_12 own_262, am_go dc_262_119, am_go dc_262_121, am_go dc_262_123, am_go dc_262_124, am_go dc_262_125, am_go dc_262_126, am_go dc_262_127, am_go dc_262_128, am_go dc_262_129, am_go dc_262_132, am_go dc_262_133, J_ladd, am_go dc_262_134, am_go dc_262_136, am_go dc_262_137, am_go dc_262_139, am_go dc_262_140, am_go dc_262_143, J_iinc, pinc_go, am_go dc_262_146, am_go dc_262_149, am_go dc_262_151, am_go dc_262_152, am_go dc_262_153, am_go dc_262_156, am_go dc_262_158, am_go dc_262_161, am_go dc_262_162, mH_o, mg_33, mH_19, mw_19, zI_add, zI_mul, zI_lt, zI_le, zI_eq, zI_neg, zI_pos, zI_ne0, zI_gt0, zB_0, lg_cmp_ge, lg_cmp_le, lg_cmp_gt, lg_cmp_lt, lg_cmp_eq, ail_r, abl_r, all_r, ais_r, abs_r, als_r, mF_len, r_steps, hn, hsh, c0, r_puts, mS_s, hV', hid, List.length_cons, List.length_nil, Nat.reduceAdd, Nat.reduceLT, Nat.reduceLeDiff, Nat.reduceEqDiff, ↓reduceIte, bind_s, if_true, if_false, not_true_eq_false, not_false_eq_true, Nat.zero_add]
      rw [if_neg (by omega)]
theorem r_streetFrom {ord : Nat → Nat} {n : Nat} (hn5 : n ≤ 5) : ∀ (r k : Nat) (u : mU), k + r = n → qG (u.1 1) → qHw (u.1 1) → qNp (u.1 1) → (∀ j, j < n → u.1 19 j = zI (ord j) ∧ ord j < wN (u.1 1 116)) → am_f X (d + r + 4) 262 [.ref o, .int (zI k), .int (zI n)] (mH h o u, z) = some (.inl (some (.long (qSt ord r k (u.1 1)))), (mH h o u, z)) := by
  intro r
  induction r with
  | zero =>
    intro k u hk hG hw hp ho
    have hq := qW_of2 hG hw
    have hhs := fun d => r_has (X := X) (h := h) (o := o) (d := d) (u := u) (z := z) hq
    have hms := fun d => r_mass (X := X) (h := h) (o := o) (d := d) (u := u) (z := z) hq
    have e : k = n := by omega
    subst e
    rw [Nat.add_zero, fU_262]
    simp (disch := first | omega | exact ci_m | exact Nat.le_of_ble_eq_true rfl | (refine mF_lt ?_; omega)) only [own_262, am_go dc_262_0, J_aload_0, K_al, ld_0, am_go dc_262_1, cv_12_204_12 own_262, JR_v, JR_0, JR_ite, ci1_r, am_go dc_262_4, J_i2l, am_go dc_262_5, am_go dc_262_6, cv_12_213_12 own_262, am_go dc_262_9, J_lmul, am_go dc_262_10, J_lstore_3, st2_0, st2_1, st2_s, kl_i, kl_l, kl_r, kl_n, am_go dc_262_11, J_iload_1, K_il, ld_1, am_go dc_262_12, J_iload_2, ld_2, am_go dc_262_13, J_icmp_ne, am_go dc_262_16, J_lload_3, K_ll, ld_3, am_go dc_262_17, J_ret_l ret_262, am_go dc_262_18, am_go dc_262_19, am_go dc_262_20, J_iconst, c32_1, am_go dc_262_21, J_iadd, am_go dc_262_22, am_go dc_262_23, cv_12_286_12 own_262, am_go dc_262_26, J_lstore, am_go dc_262_28, J_lload, ld_5, am_go dc_262_30, am_go dc_262_31, J_lcmp, am_go dc_262_32, J_if_le, am_go dc_262_35, am_go dc_262_37, J_goto, am_go dc_262_40, am_go dc_262_41, am_go dc_262_42, am_go dc_262_43, J_getfield, gf_r, fk_12_66_12, am_go dc_262_46, am_go dc_262_47, J_iaload, am_go dc_262_48, J_istore, st1_0, st1_1, st1_s, am_go dc_262_50, am_go dc_262_51, J_iload, ld_7, am_go dc_262_53, cv_12_192_12 own_262, am_go dc_262_56, J_if_ne, am_go dc_262_59, am_go dc_262_60, am_go dc_262_61, am_go dc_262_62, am_go dc_262_64, am_go dc_262_65, cv_12_79_12 own_262, am_go dc_262_68, J_ineg, am_go dc_262_69, am_go dc_262_70, am_go dc_262_71, am_go dc_262_74, am_go dc_262_75, am_go dc_262_77, c32_0, am_go dc_262_78, ld_8, am_go dc_262_82, am_go dc_262_83, am_go dc_262_85, cv_12_143_12 own_262, am_go dc_262_88, J_icmp_ge, am_go dc_262_91, am_go dc_262_92, am_go dc_262_94, am_go dc_262_96, cv_12_198_12 own_262, am_go dc_262_99, am_go dc_262_101, ld_9, am_go dc_262_103, am_go dc_262_106, am_go dc_262_109, am_go dc_262_110, am_go dc_262_112, c32_3, am_go dc_262_113, am_go dc_262_115, am_go dc_262_116, cv_12_154_12 own_262, am_go dc_262_119, am_go dc_262_121, am_go dc_262_123, am_go dc_262_124, am_go dc_262_125, am_go dc_262_126, am_go dc_262_127, am_go dc_262_128, am_go dc_262_129, am_go dc_262_132, am_go dc_262_133, J_ladd, am_go dc_262_134, am_go dc_262_136, am_go dc_262_137, am_go dc_262_139, am_go dc_262_140, am_go dc_262_143, J_iinc, pinc_go, am_go dc_262_146, am_go dc_262_149, am_go dc_262_151, am_go dc_262_152, am_go dc_262_153, am_go dc_262_156, am_go dc_262_158, am_go dc_262_161, am_go dc_262_162, mH_o, mg_33, mH_19, mw_19, zI_add, zI_mul, zI_lt, zI_le, zI_eq, zI_neg, zI_pos, zI_ne0, zI_gt0, zB_0, lg_cmp_ge, lg_cmp_le, lg_cmp_gt, lg_cmp_lt, lg_cmp_eq, ail_r, abl_r, all_r, ais_r, abs_r, als_r, mF_len, hhs, hms, List.length_cons, List.length_nil, Nat.reduceAdd, Nat.reduceLT, Nat.reduceLeDiff, Nat.reduceEqDiff, ↓reduceIte, bind_s, if_true, if_false, not_true_eq_false, not_false_eq_true, Nat.zero_add]
    rfl
  | succ r ih =>
    intro k u hk hG hw hp ho
    have hq := qW_of2 hG hw
    have hm5 := hG.m.2
    have hhs := fun d => r_has (X := X) (h := h) (o := o) (d := d) (u := u) (z := z) hq
    have hms := fun d => r_mass (X := X) (h := h) (o := o) (d := d) (u := u) (z := z) hq
    obtain ⟨ho1, ho2⟩ := ho k (by omega)
    have hb5 : ord k < 5 := by omega
    have hk5 : k < 5 := by omega
    have hkn : ¬ k = n := by omega
    have hmy := fun d => r_may (X := X) (h := h) (o := o) (d := d) (u := u) (z := z) (b := ord k) hq ho2
    have ih0 := ih (k + 1) u (by omega) hG hw hp ho
    rw [show d + (r + 1) + 4 = (d + r + 4) + 1 by omega]
    unfold qSt
    by_cases c : qMay (u.1 1) (ord k) = true
    · have h0 := hp.may hw hb5 c
      have hl := r_street_l (X := X) (h := h) (o := o) (d := d + r) (z := z) (ord := ord) (r := r) (k := k) (n := n) (v3 := if (qHas (u.1 1)).toInt64 * qMass (u.1 1) < qSt ord r (k + 1) (u.1 1) then qSt ord r (k + 1) (u.1 1) else (qHas (u.1 1)).toInt64 * qMass (u.1 1)) hG hw hp ho2 h0 u rfl (fun i hi => by
        have := ih (k + 1) (mS u 1 (upd (u.1 1) (90 + ord k) (zI (3 + i)))) (by omega) (by rw [mS_s]; exact qG_x (qA0.up hb5) hG) (by rw [mS_s]; exact hw.up (by omega)) (by rw [mS_s]; exact hp.up hi) (fun j hj => by
          rw [mS_s, upd_o (by omega)]
          exact ho j hj)
        rw [mS_s] at this
        exact this) _ 0 ((-u.1 1 (18 * ord k + 1)).toInt64 * qMass (u.1 1)) none (Nat.zero_add _)
      rw [if_pos c]
      refine Eq.trans ?_ hl
      rw [fU_262]
      simp (disch := first | omega | exact ci_m | exact Nat.le_of_ble_eq_true rfl | (refine mF_lt ?_; omega)) only [own_262, am_go dc_262_0, J_aload_0, K_al, ld_0, am_go dc_262_1, cv_12_204_12 own_262, JR_v, JR_0, JR_ite, ci1_r, am_go dc_262_4, J_i2l, am_go dc_262_5, am_go dc_262_6, cv_12_213_12 own_262, am_go dc_262_9, J_lmul, am_go dc_262_10, J_lstore_3, st2_0, st2_1, st2_s, kl_i, kl_l, kl_r, kl_n, am_go dc_262_11, J_iload_1, K_il, ld_1, am_go dc_262_12, J_iload_2, ld_2, am_go dc_262_13, J_icmp_ne, am_go dc_262_16, J_lload_3, K_ll, ld_3, am_go dc_262_17, J_ret_l ret_262, am_go dc_262_18, am_go dc_262_19, am_go dc_262_20, J_iconst, c32_1, am_go dc_262_21, J_iadd, am_go dc_262_22, am_go dc_262_23, cv_12_286_12 own_262, am_go dc_262_26, J_lstore, am_go dc_262_28, J_lload, ld_5, am_go dc_262_30, am_go dc_262_31, J_lcmp, am_go dc_262_32, J_if_le, am_go dc_262_35, am_go dc_262_37, J_goto, am_go dc_262_40, am_go dc_262_41, am_go dc_262_42, am_go dc_262_43, J_getfield, gf_r, fk_12_66_12, am_go dc_262_46, am_go dc_262_47, J_iaload, am_go dc_262_48, J_istore, st1_0, st1_1, st1_s, am_go dc_262_50, am_go dc_262_51, J_iload, ld_7, am_go dc_262_53, cv_12_192_12 own_262, am_go dc_262_56, J_if_ne, am_go dc_262_59, am_go dc_262_60, am_go dc_262_61, am_go dc_262_62, am_go dc_262_64, am_go dc_262_65, cv_12_79_12 own_262, am_go dc_262_68, J_ineg, am_go dc_262_69, am_go dc_262_70, am_go dc_262_71, am_go dc_262_74, am_go dc_262_75, am_go dc_262_77, c32_0, am_go dc_262_78, ld_8, am_go dc_262_82, am_go dc_262_83, am_go dc_262_85, cv_12_143_12 own_262, am_go dc_262_88, J_icmp_ge, am_go dc_262_91, am_go dc_262_92, am_go dc_262_94, am_go dc_262_96, cv_12_198_12 own_262, am_go dc_262_99, am_go dc_262_101, ld_9, am_go dc_262_103, am_go dc_262_106, am_go dc_262_109, am_go dc_262_110, am_go dc_262_112, c32_3, am_go dc_262_113, am_go dc_262_115, am_go dc_262_116, cv_12_154_12 own_262, am_go dc_262_119, am_go dc_262_121, am_go dc_262_123, am_go dc_262_124, am_go dc_262_125, am_go dc_262_126, am_go dc_262_127, am_go dc_262_128, am_go dc_262_129, am_go dc_262_132, am_go dc_262_133, J_ladd, am_go dc_262_134, am_go dc_262_136, am_go dc_262_137, am_go dc_262_139, am_go dc_262_140, am_go dc_262_143, J_iinc, pinc_go, am_go dc_262_146, am_go dc_262_149, am_go dc_262_151, am_go dc_262_152, am_go dc_262_153, am_go dc_262_156, am_go dc_262_158, am_go dc_262_161, am_go dc_262_162, mH_o, mg_33, mH_19, mw_19, zI_add, zI_mul, zI_lt, zI_le, zI_eq, zI_neg, zI_pos, zI_ne0, zI_gt0, zB_0, lg_cmp_ge, lg_cmp_le, lg_cmp_gt, lg_cmp_lt, lg_cmp_eq, ail_r, abl_r, all_r, ais_r, abs_r, als_r, mF_len, hhs, hms, hkn, ih0, ho1, hmy, c, r_of, Bool.true_eq_false, List.length_cons, List.length_nil, Nat.reduceAdd, Nat.reduceLT, Nat.reduceLeDiff, Nat.reduceEqDiff, ↓reduceIte, bind_s, if_true, if_false, not_true_eq_false, not_false_eq_true, Nat.zero_add]
      by_cases e : qSt ord r (k + 1) (u.1 1) ≤ (qHas (u.1 1)).toInt64 * qMass (u.1 1)
      · have e2 : ¬ (qHas (u.1 1)).toInt64 * qMass (u.1 1) < qSt ord r (k + 1) (u.1 1) := Int64.not_lt.mpr e
        simp only [e, e2, if_true, if_false]
      · have e2 : (qHas (u.1 1)).toInt64 * qMass (u.1 1) < qSt ord r (k + 1) (u.1 1) := Int64.not_le.mp e
        simp only [e, e2, if_true, if_false]
    · have c' : qMay (u.1 1) (ord k) = false := by simpa using c
      rw [if_neg c, fU_262]
      simp (disch := first | omega | exact ci_m | exact Nat.le_of_ble_eq_true rfl | (refine mF_lt ?_; omega)) only [own_262, am_go dc_262_0, J_aload_0, K_al, ld_0, am_go dc_262_1, cv_12_204_12 own_262, JR_v, JR_0, JR_ite, ci1_r, am_go dc_262_4, J_i2l, am_go dc_262_5, am_go dc_262_6, cv_12_213_12 own_262, am_go dc_262_9, J_lmul, am_go dc_262_10, J_lstore_3, st2_0, st2_1, st2_s, kl_i, kl_l, kl_r, kl_n, am_go dc_262_11, J_iload_1, K_il, ld_1, am_go dc_262_12, J_iload_2, ld_2, am_go dc_262_13, J_icmp_ne, am_go dc_262_16, J_lload_3, K_ll, ld_3, am_go dc_262_17, J_ret_l ret_262, am_go dc_262_18, am_go dc_262_19, am_go dc_262_20, J_iconst, c32_1, am_go dc_262_21, J_iadd, am_go dc_262_22, am_go dc_262_23, cv_12_286_12 own_262, am_go dc_262_26, J_lstore, am_go dc_262_28, J_lload, ld_5, am_go dc_262_30, am_go dc_262_31, J_lcmp, am_go dc_262_32, J_if_le, am_go dc_262_35, am_go dc_262_37, J_goto, am_go dc_262_40, am_go dc_262_41, am_go dc_262_42, am_go dc_262_43, J_getfield, gf_r, fk_12_66_12, am_go dc_262_46, am_go dc_262_47, J_iaload, am_go dc_262_48, J_istore, st1_0, st1_1, st1_s, am_go dc_262_50, am_go dc_262_51, J_iload, ld_7, am_go dc_262_53, cv_12_192_12 own_262, am_go dc_262_56, J_if_ne, am_go dc_262_59, am_go dc_262_60, am_go dc_262_61, am_go dc_262_62, am_go dc_262_64, am_go dc_262_65, cv_12_79_12 own_262, am_go dc_262_68, J_ineg, am_go dc_262_69, am_go dc_262_70, am_go dc_262_71, am_go dc_262_74, am_go dc_262_75, am_go dc_262_77, c32_0, am_go dc_262_78, ld_8, am_go dc_262_82, am_go dc_262_83, am_go dc_262_85, cv_12_143_12 own_262, am_go dc_262_88, J_icmp_ge, am_go dc_262_91, am_go dc_262_92, am_go dc_262_94, am_go dc_262_96, cv_12_198_12 own_262, am_go dc_262_99, am_go dc_262_101, ld_9, am_go dc_262_103, am_go dc_262_106, am_go dc_262_109, am_go dc_262_110, am_go dc_262_112, c32_3, am_go dc_262_113, am_go dc_262_115, am_go dc_262_116, cv_12_154_12 own_262, am_go dc_262_119, am_go dc_262_121, am_go dc_262_123, am_go dc_262_124, am_go dc_262_125, am_go dc_262_126, am_go dc_262_127, am_go dc_262_128, am_go dc_262_129, am_go dc_262_132, am_go dc_262_133, J_ladd, am_go dc_262_134, am_go dc_262_136, am_go dc_262_137, am_go dc_262_139, am_go dc_262_140, am_go dc_262_143, J_iinc, pinc_go, am_go dc_262_146, am_go dc_262_149, am_go dc_262_151, am_go dc_262_152, am_go dc_262_153, am_go dc_262_156, am_go dc_262_158, am_go dc_262_161, am_go dc_262_162, mH_o, mg_33, mH_19, mw_19, zI_add, zI_mul, zI_lt, zI_le, zI_eq, zI_neg, zI_pos, zI_ne0, zI_gt0, zB_0, lg_cmp_ge, lg_cmp_le, lg_cmp_gt, lg_cmp_lt, lg_cmp_eq, ail_r, abl_r, all_r, ais_r, abs_r, als_r, mF_len, hhs, hms, hkn, ih0, ho1, hmy, c', r_of, List.length_cons, List.length_nil, Nat.reduceAdd, Nat.reduceLT, Nat.reduceLeDiff, Nat.reduceEqDiff, ↓reduceIte, bind_s, if_true, if_false, not_true_eq_false, not_false_eq_true, Nat.zero_add]
      by_cases e : qSt ord r (k + 1) (u.1 1) ≤ (qHas (u.1 1)).toInt64 * qMass (u.1 1)
      · have e2 : ¬ (qHas (u.1 1)).toInt64 * qMass (u.1 1) < qSt ord r (k + 1) (u.1 1) := Int64.not_lt.mpr e
        simp only [e, e2, if_true, if_false]
      · have e2 : (qHas (u.1 1)).toInt64 * qMass (u.1 1) < qSt ord r (k + 1) (u.1 1) := Int64.not_le.mp e
        simp only [e, e2, if_true, if_false]
/-! orders -/
theorem bs_key {x : Int32} {r : Nat} (hr : r < 32) : (x >>> (zI r &&& 31) &&& zI 1 = zI 1) = (bt x r = true) := by
  have hb : ∀ b : Bool, (b = true) = (b = true) := fun _ => rfl
  rw [bt_bit hr]
  have hs : (zI r &&& 31) = zI r := by
    have : ∀ r, r < 32 → (zI r &&& 31) = zI r := by decide +kernel
    exact this r hr
  have e1 : (x >>> (zI r &&& 31) &&& zI 1).toBitVec = (x.toBitVec.sshiftRight r) &&& 1#32 := by
    rw [hs, Int32.toBitVec_and, Int32.toBitVec_shiftRight]
    have : ∀ r, r < 32 → ((zI r).toBitVec.smod 32).toNat = r := by decide +kernel
    have h1 := this r hr
    show (x.toBitVec.sshiftRight' ((zI r).toBitVec.smod 32)) &&& 1#32 = _
    unfold BitVec.sshiftRight'
    rw [h1]
  have e2 : (x.toBitVec.sshiftRight r) &&& 1#32 = if x.toBitVec.getLsbD r then 1#32 else 0#32 := by
    have h0 : (1#32) = BitVec.twoPow 32 0 := rfl
    rw [h0, BitVec.and_twoPow]
    have : (x.toBitVec.sshiftRight r).getLsbD 0 = x.toBitVec.getLsbD r := by
      rw [BitVec.getLsbD_sshiftRight]
      simp
      intro h
      omega
    rw [this]
  rw [← Int32.toBitVec_inj, e1, e2]
  cases x.toBitVec.getLsbD r with
  | false => simp; decide
  | true => simp; rfl
def qIsO (el : Nat → Int32) (m : Nat) : Nat → Nat → Int32 → Bool
  | 0, _, _ => true
  | k + 1, i, x => qIs (el i) m && (!bt x (wN (el i)) && qIsO el m k (i + 1) (x ||| (zI 1 <<< (zI (wN (el i)) &&& 31))))
theorem r_ord_l {e s : Nat} {S : Nat → Int32} (hG : qG S) (hw : qHw S) (he : e < 8) : ∀ (k i : Nat) (x : Int32) (v : Option Value) (u : mU), u.1 1 = S → u.1 7 e = zI s → s ≤ wN (S 116) → i + k = s → ∃ f v' x', am_I X (am_f X (d + 2)) 261 33 [some (.ref o), some (.int (zI e)), some (.int x), some (.int (zI i)), v] [] (mH h o u, z) = (if qIsO (fun j => u.1 8 (120 * e + j)) (wN (S 116)) k i x = true then am_I X (am_f X (d + 2)) 261 100 [some (.ref o), some (.int (zI e)), some (.int x'), some (.int (zI s)), v'] [] (mH h o (mS u 19 f), z) else some (.inl (some (.long (-4611686018427387904))), (mH h o (mS u 19 f), z))) ∧ (∀ j, j < i → f j = u.1 19 j) ∧ (qIsO (fun j => u.1 8 (120 * e + j)) (wN (S 116)) k i x = true → ∀ j, i ≤ j → j < s → f j = u.1 8 (120 * e + j) ∧ qIs (u.1 8 (120 * e + j)) (wN (S 116)) = true) := by
  have hq := qW_of2 hG hw
  obtain ⟨hm, hm5⟩ := hG.m
  generalize hmm : wN (S 116) = m at hm hm5 ⊢
  intro k
  induction k with
  | zero =>
    intro i x v u hu hs hsm hi
    subst hu
    refine ⟨u.1 19, v, x, ?_, fun _ _ => rfl, fun _ j h1 h2 => by omega⟩
    rw [mS_id, am_go dc_261_33]
    simp (disch := first | omega | exact ci_m | exact Nat.le_of_ble_eq_true rfl | (refine mF_lt ?_; omega)) only [own_261, am_go dc_261_0, J_aload_0, K_al, ld_0, am_go dc_261_1, J_iload_1, K_il, ld_1, am_go dc_261_2, J_iconst, c32_0, am_go dc_261_3, cv_12_161_12 own_261, JR_v, JR_0, JR_ite, ci1_r, am_go dc_261_6, J_if_ne, am_go dc_261_9, am_go dc_261_10, J_getfield, gf_r, fk_12_28_12, am_go dc_261_13, am_go dc_261_14, J_iaload, am_go dc_261_15, am_go dc_261_16, fk_12_9_12, am_go dc_261_19, J_bipush, c8_116, am_go dc_261_21, am_go dc_261_22, J_icmp_le, am_go dc_261_25, J_ldc2, cj_12_230, am_go dc_261_28, J_ret_l ret_261, am_go dc_261_29, am_go dc_261_30, J_istore_2, st1_0, st1_1, st1_s, kl_i, kl_l, kl_r, kl_n, am_go dc_261_31, am_go dc_261_32, J_istore_3, J_iload_3, ld_3, am_go dc_261_34, am_go dc_261_35, am_go dc_261_38, am_go dc_261_39, am_go dc_261_40, J_icmp_ge, am_go dc_261_43, am_go dc_261_44, fk_12_31_12, am_go dc_261_47, c8_120, am_go dc_261_49, am_go dc_261_50, J_imul, am_go dc_261_51, am_go dc_261_52, J_iadd, am_go dc_261_53, am_go dc_261_54, J_istore, am_go dc_261_56, am_go dc_261_57, J_iload, ld_4, am_go dc_261_59, cv_12_136_12 own_261, am_go dc_261_62, J_if_eq, am_go dc_261_65, J_iload_2, ld_2, am_go dc_261_66, am_go dc_261_68, J_ishr, am_go dc_261_69, c32_1, am_go dc_261_70, J_iand, am_go dc_261_71, am_go dc_261_72, J_icmp_ne, am_go dc_261_75, am_go dc_261_78, am_go dc_261_79, am_go dc_261_80, am_go dc_261_81, am_go dc_261_83, J_ishl, am_go dc_261_84, J_ior, am_go dc_261_85, am_go dc_261_86, am_go dc_261_87, fk_12_66_12, am_go dc_261_90, am_go dc_261_91, am_go dc_261_93, J_iastore, am_go dc_261_94, J_iinc, pinc_go, am_go dc_261_97, J_goto, am_go dc_261_101, cv_12_280_12 own_261, am_go dc_261_104, am_go dc_261_105, am_go dc_261_106, am_go dc_261_107, am_go dc_261_110, am_go dc_261_111, am_go dc_261_112, cv_12_286_12 own_261, am_go dc_261_115, J_lstore_3, st2_0, st2_1, st2_s, am_go dc_261_116, am_go dc_261_117, cv_12_283_12 own_261, am_go dc_261_120, J_lload_3, K_ll, am_go dc_261_121, mH_o, mg_6, mH_7, mw_7, mg_0, mH_1, mw_1, mg_7, mH_8, mw_8, mg_33, mH_19, mw_19, zI_add, zI_mul, zI_lt, zI_le, zI_eq, zI_neg, zI_pos, zI_ne0, zI_gt0, zB_0, lg_cmp_ge, lg_cmp_le, lg_cmp_gt, lg_cmp_lt, lg_cmp_eq, ail_r, abl_r, all_r, ais_r, abs_r, als_r, mF_len, hs, List.length_cons, List.length_nil, Nat.reduceAdd, Nat.reduceLT, Nat.reduceLeDiff, Nat.reduceEqDiff, ↓reduceIte, bind_s, if_true, if_false, not_true_eq_false, not_false_eq_true, Nat.zero_add]
    rw [if_pos (by omega)]
    have : i = s := by omega
    rw [this]
    simp only [qIsO, if_true]
  | succ k ih =>
    intro i x v u hu hs hsm hi
    have hi5 : i < 5 := by omega
    have hib := fun d => r_isBox (X := X) (h := h) (o := o) (d := d) (u := u) (z := z) (x := u.1 8 (120 * e + i)) (by rw [hu]; exact hq)
    rw [hu, hmm] at hib
    unfold qIsO
    by_cases c1 : qIs (u.1 8 (120 * e + i)) m = true
    · obtain ⟨c2, c3⟩ := qIs_get c1
      have c5 : wN (u.1 8 (120 * e + i)) < 5 := by omega
      have hbs : (x >>> (u.1 8 (120 * e + i) &&& 31) &&& zI 1 = zI 1) = (bt x (wN (u.1 8 (120 * e + i))) = true) := by
        have := bs_key (x := x) (r := wN (u.1 8 (120 * e + i))) (by omega)
        rw [← c2] at this
        exact this
      by_cases c4 : bt x (wN (u.1 8 (120 * e + i))) = true
      · refine ⟨u.1 19, none, x, ?_, fun _ _ => rfl, fun hh => ?_⟩
        · rw [mS_id, am_go dc_261_33]
          subst hu
          simp (disch := first | omega | exact ci_m | exact Nat.le_of_ble_eq_true rfl | (refine mF_lt ?_; omega)) only [own_261, am_go dc_261_0, J_aload_0, K_al, ld_0, am_go dc_261_1, J_iload_1, K_il, ld_1, am_go dc_261_2, J_iconst, c32_0, am_go dc_261_3, cv_12_161_12 own_261, JR_v, JR_0, JR_ite, ci1_r, am_go dc_261_6, J_if_ne, am_go dc_261_9, am_go dc_261_10, J_getfield, gf_r, fk_12_28_12, am_go dc_261_13, am_go dc_261_14, J_iaload, am_go dc_261_15, am_go dc_261_16, fk_12_9_12, am_go dc_261_19, J_bipush, c8_116, am_go dc_261_21, am_go dc_261_22, J_icmp_le, am_go dc_261_25, J_ldc2, cj_12_230, am_go dc_261_28, J_ret_l ret_261, am_go dc_261_29, am_go dc_261_30, J_istore_2, st1_0, st1_1, st1_s, kl_i, kl_l, kl_r, kl_n, am_go dc_261_31, am_go dc_261_32, J_istore_3, J_iload_3, ld_3, am_go dc_261_34, am_go dc_261_35, am_go dc_261_38, am_go dc_261_39, am_go dc_261_40, J_icmp_ge, am_go dc_261_43, am_go dc_261_44, fk_12_31_12, am_go dc_261_47, c8_120, am_go dc_261_49, am_go dc_261_50, J_imul, am_go dc_261_51, am_go dc_261_52, J_iadd, am_go dc_261_53, am_go dc_261_54, J_istore, am_go dc_261_56, am_go dc_261_57, J_iload, ld_4, am_go dc_261_59, cv_12_136_12 own_261, am_go dc_261_62, J_if_eq, am_go dc_261_65, J_iload_2, ld_2, am_go dc_261_66, am_go dc_261_68, J_ishr, am_go dc_261_69, c32_1, am_go dc_261_70, J_iand, am_go dc_261_71, am_go dc_261_72, J_icmp_ne, am_go dc_261_75, am_go dc_261_78, am_go dc_261_79, am_go dc_261_80, am_go dc_261_81, am_go dc_261_83, J_ishl, am_go dc_261_84, J_ior, am_go dc_261_85, am_go dc_261_86, am_go dc_261_87, fk_12_66_12, am_go dc_261_90, am_go dc_261_91, am_go dc_261_93, J_iastore, am_go dc_261_94, J_iinc, pinc_go, am_go dc_261_97, J_goto, am_go dc_261_101, cv_12_280_12 own_261, am_go dc_261_104, am_go dc_261_105, am_go dc_261_106, am_go dc_261_107, am_go dc_261_110, am_go dc_261_111, am_go dc_261_112, cv_12_286_12 own_261, am_go dc_261_115, J_lstore_3, st2_0, st2_1, st2_s, am_go dc_261_116, am_go dc_261_117, cv_12_283_12 own_261, am_go dc_261_120, J_lload_3, K_ll, am_go dc_261_121, mH_o, mg_6, mH_7, mw_7, mg_0, mH_1, mw_1, mg_7, mH_8, mw_8, mg_33, mH_19, mw_19, zI_add, zI_mul, zI_lt, zI_le, zI_eq, zI_neg, zI_pos, zI_ne0, zI_gt0, zB_0, lg_cmp_ge, lg_cmp_le, lg_cmp_gt, lg_cmp_lt, lg_cmp_eq, ail_r, abl_r, all_r, ais_r, abs_r, als_r, mF_len, hs, hib, c1, hbs, c4, Bool.true_eq_false, List.length_cons, List.length_nil, Nat.reduceAdd, Nat.reduceLT, Nat.reduceLeDiff, Nat.reduceEqDiff, ↓reduceIte, bind_s, if_true, if_false, not_true_eq_false, not_false_eq_true, Nat.zero_add]
          rw [if_neg (by omega)]
          simp [c1, c4]
        · simp [c1, c4] at hh
      · have c4' : bt x (wN (u.1 8 (120 * e + i))) = false := by simpa using c4
        obtain ⟨f, v', x', l1, l2, l3⟩ := ih (i + 1) (x ||| (zI 1 <<< (zI (wN (u.1 8 (120 * e + i))) &&& 31))) (some (.int (u.1 8 (120 * e + i)))) (mS u 19 (upd (u.1 19) i (u.1 8 (120 * e + i)))) hu hs hsm (by omega)
        refine ⟨f, v', x', ?_, fun j hj => ?_, fun hh j h1 h2 => ?_⟩
        · rw [mS_S] at l1
          have e8 : (mS u 19 (upd (u.1 19) i (u.1 8 (120 * e + i)))).1 8 = u.1 8 := rfl
          rw [e8] at l1
          simp only [c1, c4', Bool.true_and, Bool.not_false]
          rw [← l1, am_go dc_261_33]
          subst hu
          simp (disch := first | omega | exact ci_m | exact Nat.le_of_ble_eq_true rfl | (refine mF_lt ?_; omega)) only [own_261, am_go dc_261_0, J_aload_0, K_al, ld_0, am_go dc_261_1, J_iload_1, K_il, ld_1, am_go dc_261_2, J_iconst, c32_0, am_go dc_261_3, cv_12_161_12 own_261, JR_v, JR_0, JR_ite, ci1_r, am_go dc_261_6, J_if_ne, am_go dc_261_9, am_go dc_261_10, J_getfield, gf_r, fk_12_28_12, am_go dc_261_13, am_go dc_261_14, J_iaload, am_go dc_261_15, am_go dc_261_16, fk_12_9_12, am_go dc_261_19, J_bipush, c8_116, am_go dc_261_21, am_go dc_261_22, J_icmp_le, am_go dc_261_25, J_ldc2, cj_12_230, am_go dc_261_28, J_ret_l ret_261, am_go dc_261_29, am_go dc_261_30, J_istore_2, st1_0, st1_1, st1_s, kl_i, kl_l, kl_r, kl_n, am_go dc_261_31, am_go dc_261_32, J_istore_3, J_iload_3, ld_3, am_go dc_261_34, am_go dc_261_35, am_go dc_261_38, am_go dc_261_39, am_go dc_261_40, J_icmp_ge, am_go dc_261_43, am_go dc_261_44, fk_12_31_12, am_go dc_261_47, c8_120, am_go dc_261_49, am_go dc_261_50, J_imul, am_go dc_261_51, am_go dc_261_52, J_iadd, am_go dc_261_53, am_go dc_261_54, J_istore, am_go dc_261_56, am_go dc_261_57, J_iload, ld_4, am_go dc_261_59, cv_12_136_12 own_261, am_go dc_261_62, J_if_eq, am_go dc_261_65, J_iload_2, ld_2, am_go dc_261_66, am_go dc_261_68, J_ishr, am_go dc_261_69, c32_1, am_go dc_261_70, J_iand, am_go dc_261_71, am_go dc_261_72, J_icmp_ne, am_go dc_261_75, am_go dc_261_78, am_go dc_261_79, am_go dc_261_80, am_go dc_261_81, am_go dc_261_83, J_ishl, am_go dc_261_84, J_ior, am_go dc_261_85, am_go dc_261_86, am_go dc_261_87, fk_12_66_12, am_go dc_261_90, am_go dc_261_91, am_go dc_261_93, J_iastore, am_go dc_261_94, J_iinc, pinc_go, am_go dc_261_97, J_goto, am_go dc_261_101, cv_12_280_12 own_261, am_go dc_261_104, am_go dc_261_105, am_go dc_261_106, am_go dc_261_107, am_go dc_261_110, am_go dc_261_111, am_go dc_261_112, cv_12_286_12 own_261, am_go dc_261_115, J_lstore_3, st2_0, st2_1, st2_s, am_go dc_261_116, am_go dc_261_117, cv_12_283_12 own_261, am_go dc_261_120, J_lload_3, K_ll, am_go dc_261_121, mH_o, mg_6, mH_7, mw_7, mg_0, mH_1, mw_1, mg_7, mH_8, mw_8, mg_33, mH_19, mw_19, zI_add, zI_mul, zI_lt, zI_le, zI_eq, zI_neg, zI_pos, zI_ne0, zI_gt0, zB_0, lg_cmp_ge, lg_cmp_le, lg_cmp_gt, lg_cmp_lt, lg_cmp_eq, ail_r, abl_r, all_r, ais_r, abs_r, als_r, mF_len, hs, hib, c1, hbs, c4', Bool.true_eq_false, Bool.false_eq_true, List.length_cons, List.length_nil, Nat.reduceAdd, Nat.reduceLT, Nat.reduceLeDiff, Nat.reduceEqDiff, ↓reduceIte, bind_s, if_true, if_false, not_true_eq_false, not_false_eq_true, Nat.zero_add]
          rw [if_neg (by omega)]
          rw [← c2]
        · rw [l2 j (by omega), mS_s, upd_o (by omega)]
        · by_cases e1 : j = i
          · subst e1
            rw [l2 j (by omega), mS_s, upd_s]
            exact ⟨rfl, c1⟩
          · simp only [c1, c4', Bool.true_and, Bool.not_false] at hh
            exact l3 hh j (by omega) h2
    · have c1' : qIs (u.1 8 (120 * e + i)) m = false := by simpa using c1
      refine ⟨u.1 19, none, x, ?_, fun _ _ => rfl, fun hh => ?_⟩
      · rw [mS_id, am_go dc_261_33]
        subst hu
        simp (disch := first | omega | exact ci_m | exact Nat.le_of_ble_eq_true rfl | (refine mF_lt ?_; omega)) only [own_261, am_go dc_261_0, J_aload_0, K_al, ld_0, am_go dc_261_1, J_iload_1, K_il, ld_1, am_go dc_261_2, J_iconst, c32_0, am_go dc_261_3, cv_12_161_12 own_261, JR_v, JR_0, JR_ite, ci1_r, am_go dc_261_6, J_if_ne, am_go dc_261_9, am_go dc_261_10, J_getfield, gf_r, fk_12_28_12, am_go dc_261_13, am_go dc_261_14, J_iaload, am_go dc_261_15, am_go dc_261_16, fk_12_9_12, am_go dc_261_19, J_bipush, c8_116, am_go dc_261_21, am_go dc_261_22, J_icmp_le, am_go dc_261_25, J_ldc2, cj_12_230, am_go dc_261_28, J_ret_l ret_261, am_go dc_261_29, am_go dc_261_30, J_istore_2, st1_0, st1_1, st1_s, kl_i, kl_l, kl_r, kl_n, am_go dc_261_31, am_go dc_261_32, J_istore_3, J_iload_3, ld_3, am_go dc_261_34, am_go dc_261_35, am_go dc_261_38, am_go dc_261_39, am_go dc_261_40, J_icmp_ge, am_go dc_261_43, am_go dc_261_44, fk_12_31_12, am_go dc_261_47, c8_120, am_go dc_261_49, am_go dc_261_50, J_imul, am_go dc_261_51, am_go dc_261_52, J_iadd, am_go dc_261_53, am_go dc_261_54, J_istore, am_go dc_261_56, am_go dc_261_57, J_iload, ld_4, am_go dc_261_59, cv_12_136_12 own_261, am_go dc_261_62, J_if_eq, am_go dc_261_65, J_iload_2, ld_2, am_go dc_261_66, am_go dc_261_68, J_ishr, am_go dc_261_69, c32_1, am_go dc_261_70, J_iand, am_go dc_261_71, am_go dc_261_72, J_icmp_ne, am_go dc_261_75, am_go dc_261_78, am_go dc_261_79, am_go dc_261_80, am_go dc_261_81, am_go dc_261_83, J_ishl, am_go dc_261_84, J_ior, am_go dc_261_85, am_go dc_261_86, am_go dc_261_87, fk_12_66_12, am_go dc_261_90, am_go dc_261_91, am_go dc_261_93, J_iastore, am_go dc_261_94, J_iinc, pinc_go, am_go dc_261_97, J_goto, am_go dc_261_101, cv_12_280_12 own_261, am_go dc_261_104, am_go dc_261_105, am_go dc_261_106, am_go dc_261_107, am_go dc_261_110, am_go dc_261_111, am_go dc_261_112, cv_12_286_12 own_261, am_go dc_261_115, J_lstore_3, st2_0, st2_1, st2_s, am_go dc_261_116, am_go dc_261_117, cv_12_283_12 own_261, am_go dc_261_120, J_lload_3, K_ll, am_go dc_261_121, mH_o, mg_6, mH_7, mw_7, mg_0, mH_1, mw_1, mg_7, mH_8, mw_8, mg_33, mH_19, mw_19, zI_add, zI_mul, zI_lt, zI_le, zI_eq, zI_neg, zI_pos, zI_ne0, zI_gt0, zB_0, lg_cmp_ge, lg_cmp_le, lg_cmp_gt, lg_cmp_lt, lg_cmp_eq, ail_r, abl_r, all_r, ais_r, abs_r, als_r, mF_len, hs, hib, c1', List.length_cons, List.length_nil, Nat.reduceAdd, Nat.reduceLT, Nat.reduceLeDiff, Nat.reduceEqDiff, ↓reduceIte, bind_s, if_true, if_false, not_true_eq_false, not_false_eq_true, Nat.zero_add]
        rw [if_neg (by omega)]
        simp [c1']
      · simp [c1'] at hh
end M16
