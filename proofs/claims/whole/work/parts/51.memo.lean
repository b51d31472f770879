/-! the reference: tables of means; opening, peeping, the best, the rule's mean -/
def qA0 (S S' : Nat → Int32) : Prop := ∀ j, (j < 90 ∨ j = 116 ∨ j = 117) → S' j = S j
theorem qA0.rf {S : Nat → Int32} : qA0 S S := fun _ _ => rfl
theorem qA0.tr {S S' S'' : Nat → Int32} (h : qA0 S S') (h2 : qA0 S' S'') : qA0 S S'' := fun j hj => (h2 j hj).trans (h j hj)
theorem qA0.sy {S S' : Nat → Int32} (h : qA0 S S') : qA0 S' S := fun j hj => (h j hj).symm
theorem qA0.up {S : Nat → Int32} {b : Nat} {x : Int32} (hb : b < 5) : qA0 S (upd S (90 + b) x) := fun j hj => upd_o (by omega)
theorem qN_x {S S' : Nat → Int32} {i n : Nat} (h : S' i = S i) (hn : qN S i n) : qN S' i n := by
  obtain ⟨k, h1, h2⟩ := hn
  exact ⟨k, by rw [h]; exact h1, h2⟩
theorem qG_x {S S' : Nat → Int32} (h : qA0 S S') (hG : qG S) : qG S' := by
  have hm := hG.m.2
  have h116 := h 116 (by omega)
  refine ⟨qN_x h116 hG.1, qN_x (h 117 (by omega)) hG.2.1, fun b hb => ?_⟩
  rw [h116] at hb ⊢
  obtain ⟨⟨a1, a2, a3, a4, a5⟩, b1, b2, b3, b4, b5, b6, b7, b8, b9⟩ := hG.2.2 b hb
  have n4 := (a4.z (by omega)).2
  have r0 := h (18 * b) (by omega)
  have r1 := h (18 * b + 1) (by omega)
  have r2 := h (18 * b + 2) (by omega)
  have r3 := h (18 * b + 3) (by omega)
  have r4 := h (18 * b + 4) (by omega)
  have r5 := h (18 * b + 5) (by omega)
  unfold qR
  rw [r0, r3, r4, r5]
  refine ⟨⟨qN_x r0 a1, qN_x r1 a2, qN_x r2 a3, qN_x r3 a4, a5⟩, b1, fun e => qN_x r4 (b2 e), fun e => ⟨qN_x r4 (b3 e).1, (b3 e).2⟩, fun e => ⟨qN_x r4 (b4 e).1, (b4 e).2.1, ?_⟩, fun e => qN_x r4 (b5 e), ?_, fun i hi => ?_, ?_, fun e => ?_⟩
  · have := (b4 e).2.1
    rw [h _ (by omega)]
    exact (b4 e).2.2
  · rcases b6 with e | ⟨e1, e2, e3, e4, e5, e6⟩
    · exact Or.inl e
    · refine Or.inr ⟨qN_x r5 e1, e2, e3, ?_, ?_, e6⟩
      · rw [h _ (by omega)]
        exact e4
      · rw [h _ (by omega)]
        exact e5
  · obtain ⟨c1, c2, c3, c4⟩ := b7 i hi
    rw [h (18 * b + (10 + i)) (by omega)]
    exact ⟨qN_x (h _ (by omega)) c1, qN_x (h _ (by omega)) c2, c3, fun e => qN_x (h _ (by omega)) (c4 e)⟩
  · rw [← b8]
    apply fo_congr
    intro j h1 h2 a
    rw [h (18 * b + (10 + j)) (by omega)]
  · rw [← b9 e]
    apply fo_congr
    intro j h1 h2 a
    rw [h (18 * b + (14 + j)) (by omega)]
theorem qW_of2 {S : Nat → Int32} (hG : qG S) (hw : qHw S) : qW S := by
  refine ⟨hw, fun b hb => ⟨?_, ?_⟩, hG.1⟩
  · rcases (hG.2.2 b hb).2.2.2.2.2.2.1 with h1 | h1
    · left
      rw [h1]
      decide
    · exact Or.inr h1.1
  · intro h3
    exact ((hG.2.2 b hb).2.2.2.1 h3).1
def mB (u : mU) (S : Nat → Int32) : Prop := u.1 17 (qC7 S) = zI 0 ∨ (u.1 17 (qC7 S) = zI 1 ∧ u.2.1 14 (qC7 S) = (qB S).1 ∧ u.1 16 (qC7 S) = (qB S).2)
def mR (u : mU) (S : Nat → Int32) : Prop := u.1 18 (qC7 S) = zI 0 ∨ (u.1 18 (qC7 S) = zI 1 ∧ u.2.1 15 (qC7 S) = qRm S)
/-- what is marked in the tables is right -/
def mMem (u : mU) (S : Nat → Int32) : Prop := ∀ S', qA0 S S' → qHw S' → mB u S' ∧ mR u S'
def mSm (u u' : mU) : Prop := (∀ j, j ≠ 16 → j ≠ 17 → j ≠ 18 → u'.1 j = u.1 j) ∧ u'.2.2.1 = u.2.2.1
theorem mSm.rf {u : mU} : mSm u u := ⟨fun _ _ _ _ => rfl, rfl⟩
theorem mSm.tr {u u' u'' : mU} (h : mSm u u') (h2 : mSm u' u'') : mSm u u'' := ⟨fun j h3 h4 h5 => (h2.1 j h3 h4 h5).trans (h.1 j h3 h4 h5), h2.2.trans h.2⟩
theorem mSm.s {u u' : mU} (h : mSm u u') : u'.1 1 = u.1 1 := h.1 1 (by omega) (by omega) (by omega)
theorem mSm.J {u : mU} {x y : Int64} : mSm u (mJ (mJ u 25 x) 26 y) := ⟨fun _ _ _ _ => rfl, rfl⟩
theorem mMem.a {u : mU} {S S2 : Nat → Int32} (h : mMem u S) (ha : qA0 S S2) : mMem u S2 := fun S' h1 h2 => h S' (ha.tr h1) h2
theorem mMem.J {u : mU} {S : Nat → Int32} {x y : Int64} (h : mMem u S) : mMem (mJ (mJ u 25 x) 26 y) S := h
theorem mMem.S {u : mU} {S : Nat → Int32} {f : Nat → Int32} (h : mMem u S) : mMem (mS u 1 f) S := h
/-- a call from a place: its answer, its tables -/
def oOk (X : am_X) (h : am_H) (o : Nat) (z : Nat × Nat) (D t : Nat) (V : (Nat → Int32) → Int64) (S : Nat → Int32) : Prop := ∀ u : mU, u.1 1 = S → mMem u S → ∃ u', am_f X D t [.ref o] (mH h o u, z) = some (.inl (some (.long (V S))), (mH h o u', z)) ∧ mSm u u' ∧ mMem u' S
section M11
variable {X : am_X} {h : am_H} {o d : Nat} {u : mU} {z : Nat × Nat}
theorem mSm.put {S : Nat → Int32} {u1 : mU} {b : Nat} {x : Int32} (hu : u.1 1 = S) (h1 : mSm (mS u 1 (upd S (90 + b) x)) u1) : (mS u1 1 (upd (u1.1 1) (90 + b) (S (90 + b)))).1 1 = S ∧ mSm u (mS u1 1 (upd (u1.1 1) (90 + b) (S (90 + b)))) := by
  have e1 : (mS u1 1 (upd (u1.1 1) (90 + b) (S (90 + b)))).1 1 = S := by
    rw [mS_s, h1.s, mS_s, upd_u, upd_id]
  refine ⟨e1, fun j h3 h4 h5 => ?_, h1.2⟩
  by_cases e : j = 1
  · subst e
    rw [e1, hu]
  · rw [mS_o e, h1.1 j h3 h4 h5, mS_o e]
theorem r_opened0_l {S : Nat → Int32} {V : (Nat → Int32) → Int64} {b : Nat} (hG : qG S) (hw : qHw S) (hb : b < wN (S 116)) (hV : ∀ i, i < 4 → ¬ qShows S b i = 0 → oOk X h o z (d + 4) 243 V (upd S (90 + b) (zI (3 + i)))) : ∀ (k i : Nat) (v : Int64) (c : Option Value) (u : mU), u.1 1 = S → mMem u S → i + k = wN (S (18 * b + 3)) → ∃ u', am_I X (am_f X (d + 4)) 242 24 [some (.ref o), some (.int (zI b)), some (.int (zI 0)), some (.int (S (90 + b))), some (.long v), none, some (.int (zI i)), c] [] (mH h o u, z) = some (.inl (some (.long (fo (q_opn S V b) i k v))), (mH h o u', z)) ∧ mSm u u' ∧ mMem u' S := by
  have hq := qW_of2 hG hw
  have hm5 := hG.m.2
  have hb5 : b < 5 := by omega
  obtain ⟨hn, hn1, hn4⟩ := hG.n hb
  generalize wN (S (18 * b + 3)) = n at hn hn1 hn4 ⊢
  intro k
  induction k with
  | zero =>
    intro i v c u hu hM hi
    subst hu
    refine ⟨u, ?_, mSm.rf, hM⟩
    rw [am_go dc_242_24]
    simp (disch := first | omega | exact ci_m | exact Nat.le_of_ble_eq_true rfl | (refine mF_lt ?_; omega)) only [own_242, am_go dc_242_0, J_aload_0, K_al, ld_0, am_go dc_242_1, J_iload_1, K_il, ld_1, am_go dc_242_2, cv_12_183_12 own_242, JR_v, JR_0, JR_ite, ci1_r, am_go dc_242_5, J_istore_3, st1_0, st1_1, st1_s, kl_i, kl_l, kl_r, kl_n, am_go dc_242_6, am_go dc_242_7, am_go dc_242_8, J_iconst, c32_1, am_go dc_242_9, cv_12_79_12 own_242, am_go dc_242_12, J_ineg, am_go dc_242_13, J_i2l, am_go dc_242_14, am_go dc_242_15, cv_12_213_12 own_242, am_go dc_242_18, J_lmul, am_go dc_242_19, J_lstore, st2_0, st2_1, st2_s, am_go dc_242_21, c32_0, am_go dc_242_22, J_istore, J_iload, ld_6, am_go dc_242_26, am_go dc_242_27, am_go dc_242_28, cv_12_143_12 own_242, am_go dc_242_31, J_icmp_ge, am_go dc_242_34, am_go dc_242_35, am_go dc_242_36, am_go dc_242_38, cv_12_198_12 own_242, am_go dc_242_41, am_go dc_242_43, ld_7, am_go dc_242_45, J_if_ne, am_go dc_242_48, J_goto, am_go dc_242_51, am_go dc_242_52, am_go dc_242_53, c32_3, am_go dc_242_54, am_go dc_242_56, J_iadd, am_go dc_242_57, cv_12_154_12 own_242, am_go dc_242_60, J_lload, K_ll, ld_4, am_go dc_242_62, am_go dc_242_64, am_go dc_242_65, J_iload_2, ld_2, am_go dc_242_66, J_if_eq, am_go dc_242_69, am_go dc_242_70, cv_12_239_12 own_242, am_go dc_242_73, am_go dc_242_76, am_go dc_242_77, cv_12_242_12 own_242, am_go dc_242_80, am_go dc_242_81, J_ladd, am_go dc_242_82, am_go dc_242_84, am_go dc_242_85, am_go dc_242_86, J_iload_3, ld_3, am_go dc_242_87, am_go dc_242_90, J_iinc, pinc_go, am_go dc_242_93, am_go dc_242_96, am_go dc_242_98, J_ret_l ret_242, mH_o, zI_add, zI_mul, zI_lt, zI_le, zI_eq, zI_neg, zI_pos, zI_ne0, zI_gt0, zB_0, lg_cmp_ge, lg_cmp_le, lg_cmp_gt, lg_cmp_lt, lg_cmp_eq, ail_r, abl_r, all_r, ais_r, abs_r, als_r, mF_len, r_steps, hn, List.length_cons, List.length_nil, Nat.reduceAdd, Nat.reduceLT, Nat.reduceLeDiff, Nat.reduceEqDiff, ↓reduceIte, bind_s, if_true, if_false, not_true_eq_false, not_false_eq_true, Nat.zero_add]
    rw [if_pos (by omega)]
    rfl
  | succ k ih =>
    intro i v c u hu hM hi
    have hi4 : i < 4 := by omega
    subst hu
    have hsh := fun d => r_shows (X := X) (h := h) (o := o) (d := d) (u := u) (z := z) (b := b) (i := i) hq hb hi4
    by_cases c0 : qShows (u.1 1) b i = 0
    · obtain ⟨u', h1, h2, h3⟩ := ih (i + 1) v (some (.int (qShows (u.1 1) b i))) u rfl hM (by omega)
      refine ⟨u', ?_, h2, h3⟩
      rw [am_go dc_242_24]
      simp (disch := first | omega | exact ci_m | exact Nat.le_of_ble_eq_true rfl | (refine mF_lt ?_; omega)) only [own_242, am_go dc_242_0, J_aload_0, K_al, ld_0, am_go dc_242_1, J_iload_1, K_il, ld_1, am_go dc_242_2, cv_12_183_12 own_242, JR_v, JR_0, JR_ite, ci1_r, am_go dc_242_5, J_istore_3, st1_0, st1_1, st1_s, kl_i, kl_l, kl_r, kl_n, am_go dc_242_6, am_go dc_242_7, am_go dc_242_8, J_iconst, c32_1, am_go dc_242_9, cv_12_79_12 own_242, am_go dc_242_12, J_ineg, am_go dc_242_13, J_i2l, am_go dc_242_14, am_go dc_242_15, cv_12_213_12 own_242, am_go dc_242_18, J_lmul, am_go dc_242_19, J_lstore, st2_0, st2_1, st2_s, am_go dc_242_21, c32_0, am_go dc_242_22, J_istore, J_iload, ld_6, am_go dc_242_26, am_go dc_242_27, am_go dc_242_28, cv_12_143_12 own_242, am_go dc_242_31, J_icmp_ge, am_go dc_242_34, am_go dc_242_35, am_go dc_242_36, am_go dc_242_38, cv_12_198_12 own_242, am_go dc_242_41, am_go dc_242_43, ld_7, am_go dc_242_45, J_if_ne, am_go dc_242_48, J_goto, am_go dc_242_51, am_go dc_242_52, am_go dc_242_53, c32_3, am_go dc_242_54, am_go dc_242_56, J_iadd, am_go dc_242_57, cv_12_154_12 own_242, am_go dc_242_60, J_lload, K_ll, ld_4, am_go dc_242_62, am_go dc_242_64, am_go dc_242_65, J_iload_2, ld_2, am_go dc_242_66, J_if_eq, am_go dc_242_69, am_go dc_242_70, cv_12_239_12 own_242, am_go dc_242_73, am_go dc_242_76, am_go dc_242_77, cv_12_242_12 own_242, am_go dc_242_80, am_go dc_242_81, J_ladd, am_go dc_242_82, am_go dc_242_84, am_go dc_242_85, am_go dc_242_86, J_iload_3, ld_3, am_go dc_242_87, am_go dc_242_90, J_iinc, pinc_go, am_go dc_242_93, am_go dc_242_96, am_go dc_242_98, J_ret_l ret_242, mH_o, zI_add, zI_mul, zI_lt, zI_le, zI_eq, zI_neg, zI_pos, zI_ne0, zI_gt0, zB_0, lg_cmp_ge, lg_cmp_le, lg_cmp_gt, lg_cmp_lt, lg_cmp_eq, ail_r, abl_r, all_r, ais_r, abs_r, als_r, mF_len, r_steps, hn, hsh, c0, List.length_cons, List.length_nil, Nat.reduceAdd, Nat.reduceLT, Nat.reduceLeDiff, Nat.reduceEqDiff, ↓reduceIte, bind_s, if_true, if_false, not_true_eq_false, not_false_eq_true, Nat.zero_add]
      rw [if_neg (by omega)]
      have e0 : fo (q_opn (u.1 1) V b) i (k + 1) v = fo (q_opn (u.1 1) V b) (i + 1) k v := by
        show fo _ (i + 1) k (q_opn (u.1 1) V b i v) = _
        unfold q_opn
        rw [if_pos c0]
      rw [e0, ← h1]
      try simp only [c0]
    · obtain ⟨u1, h1, h2, h3⟩ := hV i hi4 c0 (mS u 1 (upd (u.1 1) (90 + b) (zI (3 + i)))) mS_s ((hM.a (qA0.up hb5)).S)
      obtain ⟨p1, p2⟩ := mSm.put rfl h2
      obtain ⟨u', h4, h5, h6⟩ := ih (i + 1) (v + (qShows (u.1 1) b i).toInt64 * V (upd (u.1 1) (90 + b) (zI (3 + i)))) (some (.int (qShows (u.1 1) b i))) _ p1 ((h3.a (qA0.up hb5).sy).S) (by omega)
      refine ⟨u', ?_, p2.tr h5, h6⟩
      rw [am_go dc_242_24]
      simp (disch := first | omega | exact ci_m | exact Nat.le_of_ble_eq_true rfl | (refine mF_lt ?_; omega)) only [own_242, am_go dc_242_0, J_aload_0, K_al, ld_0, am_go dc_242_1, J_iload_1, K_il, ld_1, am_go dc_242_2, cv_12_183_12 own_242, JR_v, JR_0, JR_ite, ci1_r, am_go dc_242_5, J_istore_3, st1_0, st1_1, st1_s, kl_i, kl_l, kl_r, kl_n, am_go dc_242_6, am_go dc_242_7, am_go dc_242_8, J_iconst, c32_1, am_go dc_242_9, cv_12_79_12 own_242, am_go dc_242_12, J_ineg, am_go dc_242_13, J_i2l, am_go dc_242_14, am_go dc_242_15, cv_12_213_12 own_242, am_go dc_242_18, J_lmul, am_go dc_242_19, J_lstore, st2_0, st2_1, st2_s, am_go dc_242_21, c32_0, am_go dc_242_22, J_istore, J_iload, ld_6, am_go dc_242_26, am_go dc_242_27, am_go dc_242_28, cv_12_143_12 own_242, am_go dc_242_31, J_icmp_ge, am_go dc_242_34, am_go dc_242_35, am_go dc_242_36, am_go dc_242_38, cv_12_198_12 own_242, am_go dc_242_41, am_go dc_242_43, ld_7, am_go dc_242_45, J_if_ne, am_go dc_242_48, J_goto, am_go dc_242_51, am_go dc_242_52, am_go dc_242_53, c32_3, am_go dc_242_54, am_go dc_242_56, J_iadd, am_go dc_242_57, cv_12_154_12 own_242, am_go dc_242_60, J_lload, K_ll, ld_4, am_go dc_242_62, am_go dc_242_64, am_go dc_242_65, J_iload_2, ld_2, am_go dc_242_66, J_if_eq, am_go dc_242_69, am_go dc_242_70, cv_12_239_12 own_242, am_go dc_242_73, am_go dc_242_76, am_go dc_242_77, cv_12_242_12 own_242, am_go dc_242_80, am_go dc_242_81, J_ladd, am_go dc_242_82, am_go dc_242_84, am_go dc_242_85, am_go dc_242_86, J_iload_3, ld_3, am_go dc_242_87, am_go dc_242_90, J_iinc, pinc_go, am_go dc_242_93, am_go dc_242_96, am_go dc_242_98, J_ret_l ret_242, mH_o, zI_add, zI_mul, zI_lt, zI_le, zI_eq, zI_neg, zI_pos, zI_ne0, zI_gt0, zB_0, lg_cmp_ge, lg_cmp_le, lg_cmp_gt, lg_cmp_lt, lg_cmp_eq, ail_r, abl_r, all_r, ais_r, abs_r, als_r, mF_len, r_steps, hn, hsh, c0, r_puts, h1, List.length_cons, List.length_nil, Nat.reduceAdd, Nat.reduceLT, Nat.reduceLeDiff, Nat.reduceEqDiff, ↓reduceIte, bind_s, if_true, if_false, not_true_eq_false, not_false_eq_true, Nat.zero_add]
      rw [if_neg (by omega)]
      have e0 : fo (q_opn (u.1 1) V b) i (k + 1) v = fo (q_opn (u.1 1) V b) (i + 1) k (v + (qShows (u.1 1) b i).toInt64 * V (upd (u.1 1) (90 + b) (zI (3 + i)))) := by
        show fo _ (i + 1) k (q_opn (u.1 1) V b i v) = _
        unfold q_opn
        rw [if_neg c0]
      rw [e0, ← h4]
theorem r_opened0 {S : Nat → Int32} {V : (Nat → Int32) → Int64} {b : Nat} (hG : qG S) (hw : qHw S) (hb : b < wN (S 116)) (hV : ∀ i, i < 4 → ¬ qShows S b i = 0 → oOk X h o z (d + 4) 243 V (upd S (90 + b) (zI (3 + i)))) (u : mU) (hu : u.1 1 = S) (hM : mMem u S) : ∃ u', am_f X (d + 5) 242 [.ref o, .int (zI b), .int (zI 0)] (mH h o u, z) = some (.inl (some (.long (qOpn S V b))), (mH h o u', z)) ∧ mSm u u' ∧ mMem u' S := by
  have hq := qW_of2 hG hw
  have hm5 := hG.m.2
  have hb5 : b < 5 := by omega
  obtain ⟨u', h1, h2, h3⟩ := r_opened0_l (X := X) (h := h) (o := o) (d := d) (z := z) hG hw hb hV _ 0 ((-S (18 * b + 1)).toInt64 * qMass S) none u hu hM (Nat.zero_add _)
  refine ⟨u', ?_, h2, h3⟩
  subst hu
  have hms := fun d => r_mass (X := X) (h := h) (o := o) (d := d) (u := u) (z := z) hq
  rw [fU_242]
  simp (disch := first | omega | exact ci_m | exact Nat.le_of_ble_eq_true rfl | (refine mF_lt ?_; omega)) only [own_242, am_go dc_242_0, J_aload_0, K_al, ld_0, am_go dc_242_1, J_iload_1, K_il, ld_1, am_go dc_242_2, cv_12_183_12 own_242, JR_v, JR_0, JR_ite, ci1_r, am_go dc_242_5, J_istore_3, st1_0, st1_1, st1_s, kl_i, kl_l, kl_r, kl_n, am_go dc_242_6, am_go dc_242_7, am_go dc_242_8, J_iconst, c32_1, am_go dc_242_9, cv_12_79_12 own_242, am_go dc_242_12, J_ineg, am_go dc_242_13, J_i2l, am_go dc_242_14, am_go dc_242_15, cv_12_213_12 own_242, am_go dc_242_18, J_lmul, am_go dc_242_19, J_lstore, st2_0, st2_1, st2_s, am_go dc_242_21, c32_0, am_go dc_242_22, J_istore, J_iload, ld_6, am_go dc_242_26, am_go dc_242_27, am_go dc_242_28, cv_12_143_12 own_242, am_go dc_242_31, J_icmp_ge, am_go dc_242_34, am_go dc_242_35, am_go dc_242_36, am_go dc_242_38, cv_12_198_12 own_242, am_go dc_242_41, am_go dc_242_43, ld_7, am_go dc_242_45, J_if_ne, am_go dc_242_48, J_goto, am_go dc_242_51, am_go dc_242_52, am_go dc_242_53, c32_3, am_go dc_242_54, am_go dc_242_56, J_iadd, am_go dc_242_57, cv_12_154_12 own_242, am_go dc_242_60, J_lload, K_ll, ld_4, am_go dc_242_62, am_go dc_242_64, am_go dc_242_65, J_iload_2, ld_2, am_go dc_242_66, J_if_eq, am_go dc_242_69, am_go dc_242_70, cv_12_239_12 own_242, am_go dc_242_73, am_go dc_242_76, am_go dc_242_77, cv_12_242_12 own_242, am_go dc_242_80, am_go dc_242_81, J_ladd, am_go dc_242_82, am_go dc_242_84, am_go dc_242_85, am_go dc_242_86, J_iload_3, ld_3, am_go dc_242_87, am_go dc_242_90, J_iinc, pinc_go, am_go dc_242_93, am_go dc_242_96, am_go dc_242_98, J_ret_l ret_242, mH_o, zI_add, zI_mul, zI_lt, zI_le, zI_eq, zI_neg, zI_pos, zI_ne0, zI_gt0, zB_0, lg_cmp_ge, lg_cmp_le, lg_cmp_gt, lg_cmp_lt, lg_cmp_eq, ail_r, abl_r, all_r, ais_r, abs_r, als_r, mF_len, r_how, r_of, hms, List.length_cons, List.length_nil, Nat.reduceAdd, Nat.reduceLT, Nat.reduceLeDiff, Nat.reduceEqDiff, ↓reduceIte, bind_s, if_true, if_false, not_true_eq_false, not_false_eq_true, Nat.zero_add]
  exact h1
theorem r_opened1_l {S : Nat → Int32} {V : (Nat → Int32) → Int64} {b : Nat} (hG : qG S) (hw : qHw S) (hb : b < wN (S 116)) (hV : ∀ i, i < 4 → ¬ qShows S b i = 0 → oOk X h o z (d + 4) 241 V (upd S (90 + b) (zI (3 + i)))) : ∀ (k i : Nat) (v : Int64) (c : Option Value) (u : mU), u.1 1 = S → mMem u S → i + k = wN (S (18 * b + 3)) → ∃ u', am_I X (am_f X (d + 4)) 242 24 [some (.ref o), some (.int (zI b)), some (.int (zI 1)), some (.int (S (90 + b))), some (.long v), none, some (.int (zI i)), c] [] (mH h o u, z) = some (.inl (some (.long (fo (q_opn S V b) i k v))), (mH h o u', z)) ∧ mSm u u' ∧ mMem u' S := by
  have hq := qW_of2 hG hw
  have hm5 := hG.m.2
  have hb5 : b < 5 := by omega
  obtain ⟨hn, hn1, hn4⟩ := hG.n hb
  generalize wN (S (18 * b + 3)) = n at hn hn1 hn4 ⊢
  intro k
  induction k with
  | zero =>
    intro i v c u hu hM hi
    subst hu
    refine ⟨u, ?_, mSm.rf, hM⟩
    rw [am_go dc_242_24]
    simp (disch := first | omega | exact ci_m | exact Nat.le_of_ble_eq_true rfl | (refine mF_lt ?_; omega)) only [own_242, am_go dc_242_0, J_aload_0, K_al, ld_0, am_go dc_242_1, J_iload_1, K_il, ld_1, am_go dc_242_2, cv_12_183_12 own_242, JR_v, JR_0, JR_ite, ci1_r, am_go dc_242_5, J_istore_3, st1_0, st1_1, st1_s, kl_i, kl_l, kl_r, kl_n, am_go dc_242_6, am_go dc_242_7, am_go dc_242_8, J_iconst, c32_1, am_go dc_242_9, cv_12_79_12 own_242, am_go dc_242_12, J_ineg, am_go dc_242_13, J_i2l, am_go dc_242_14, am_go dc_242_15, cv_12_213_12 own_242, am_go dc_242_18, J_lmul, am_go dc_242_19, J_lstore, st2_0, st2_1, st2_s, am_go dc_242_21, c32_0, am_go dc_242_22, J_istore, J_iload, ld_6, am_go dc_242_26, am_go dc_242_27, am_go dc_242_28, cv_12_143_12 own_242, am_go dc_242_31, J_icmp_ge, am_go dc_242_34, am_go dc_242_35, am_go dc_242_36, am_go dc_242_38, cv_12_198_12 own_242, am_go dc_242_41, am_go dc_242_43, ld_7, am_go dc_242_45, J_if_ne, am_go dc_242_48, J_goto, am_go dc_242_51, am_go dc_242_52, am_go dc_242_53, c32_3, am_go dc_242_54, am_go dc_242_56, J_iadd, am_go dc_242_57, cv_12_154_12 own_242, am_go dc_242_60, J_lload, K_ll, ld_4, am_go dc_242_62, am_go dc_242_64, am_go dc_242_65, J_iload_2, ld_2, am_go dc_242_66, J_if_eq, am_go dc_242_69, am_go dc_242_70, cv_12_239_12 own_242, am_go dc_242_73, am_go dc_242_76, am_go dc_242_77, cv_12_242_12 own_242, am_go dc_242_80, am_go dc_242_81, J_ladd, am_go dc_242_82, am_go dc_242_84, am_go dc_242_85, am_go dc_242_86, J_iload_3, ld_3, am_go dc_242_87, am_go dc_242_90, J_iinc, pinc_go, am_go dc_242_93, am_go dc_242_96, am_go dc_242_98, J_ret_l ret_242, mH_o, zI_add, zI_mul, zI_lt, zI_le, zI_eq, zI_neg, zI_pos, zI_ne0, zI_gt0, zB_0, lg_cmp_ge, lg_cmp_le, lg_cmp_gt, lg_cmp_lt, lg_cmp_eq, ail_r, abl_r, all_r, ais_r, abs_r, als_r, mF_len, r_steps, hn, List.length_cons, List.length_nil, Nat.reduceAdd, Nat.reduceLT, Nat.reduceLeDiff, Nat.reduceEqDiff, ↓reduceIte, bind_s, if_true, if_false, not_true_eq_false, not_false_eq_true, Nat.zero_add]
    rw [if_pos (by omega)]
    rfl
  | succ k ih =>
    intro i v c u hu hM hi
    have hi4 : i < 4 := by omega
    subst hu
    have hsh := fun d => r_shows (X := X) (h := h) (o := o) (d := d) (u := u) (z := z) (b := b) (i := i) hq hb hi4
    by_cases c0 : qShows (u.1 1) b i = 0
    · obtain ⟨u', h1, h2, h3⟩ := ih (i + 1) v (some (.int (qShows (u.1 1) b i))) u rfl hM (by omega)
      refine ⟨u', ?_, h2, h3⟩
      rw [am_go dc_242_24]
      simp (disch := first | omega | exact ci_m | exact Nat.le_of_ble_eq_true rfl | (refine mF_lt ?_; omega)) only [own_242, am_go dc_242_0, J_aload_0, K_al, ld_0, am_go dc_242_1, J_iload_1, K_il, ld_1, am_go dc_242_2, cv_12_183_12 own_242, JR_v, JR_0, JR_ite, ci1_r, am_go dc_242_5, J_istore_3, st1_0, st1_1, st1_s, kl_i, kl_l, kl_r, kl_n, am_go dc_242_6, am_go dc_242_7, am_go dc_242_8, J_iconst, c32_1, am_go dc_242_9, cv_12_79_12 own_242, am_go dc_242_12, J_ineg, am_go dc_242_13, J_i2l, am_go dc_242_14, am_go dc_242_15, cv_12_213_12 own_242, am_go dc_242_18, J_lmul, am_go dc_242_19, J_lstore, st2_0, st2_1, st2_s, am_go dc_242_21, c32_0, am_go dc_242_22, J_istore, J_iload, ld_6, am_go dc_242_26, am_go dc_242_27, am_go dc_242_28, cv_12_143_12 own_242, am_go dc_242_31, J_icmp_ge, am_go dc_242_34, am_go dc_242_35, am_go dc_242_36, am_go dc_242_38, cv_12_198_12 own_242, am_go dc_242_41, am_go dc_242_43, ld_7, am_go dc_242_45, J_if_ne, am_go dc_242_48, J_goto, am_go dc_242_51, am_go dc_242_52, am_go dc_242_53, c32_3, am_go dc_242_54, am_go dc_242_56, J_iadd, am_go dc_242_57, cv_12_154_12 own_242, am_go dc_242_60, J_lload, K_ll, ld_4, am_go dc_242_62, am_go dc_242_64, am_go dc_242_65, J_iload_2, ld_2, am_go dc_242_66, J_if_eq, am_go dc_242_69, am_go dc_242_70, cv_12_239_12 own_242, am_go dc_242_73, am_go dc_242_76, am_go dc_242_77, cv_12_242_12 own_242, am_go dc_242_80, am_go dc_242_81, J_ladd, am_go dc_242_82, am_go dc_242_84, am_go dc_242_85, am_go dc_242_86, J_iload_3, ld_3, am_go dc_242_87, am_go dc_242_90, J_iinc, pinc_go, am_go dc_242_93, am_go dc_242_96, am_go dc_242_98, J_ret_l ret_242, mH_o, zI_add, zI_mul, zI_lt, zI_le, zI_eq, zI_neg, zI_pos, zI_ne0, zI_gt0, zB_0, lg_cmp_ge, lg_cmp_le, lg_cmp_gt, lg_cmp_lt, lg_cmp_eq, ail_r, abl_r, all_r, ais_r, abs_r, als_r, mF_len, r_steps, hn, hsh, c0, List.length_cons, List.length_nil, Nat.reduceAdd, Nat.reduceLT, Nat.reduceLeDiff, Nat.reduceEqDiff, ↓reduceIte, bind_s, if_true, if_false, not_true_eq_false, not_false_eq_true, Nat.zero_add]
      rw [if_neg (by omega)]
      have e0 : fo (q_opn (u.1 1) V b) i (k + 1) v = fo (q_opn (u.1 1) V b) (i + 1) k v := by
        show fo _ (i + 1) k (q_opn (u.1 1) V b i v) = _
        unfold q_opn
        rw [if_pos c0]
      rw [e0, ← h1]
      try simp only [c0]
    · obtain ⟨u1, h1, h2, h3⟩ := hV i hi4 c0 (mS u 1 (upd (u.1 1) (90 + b) (zI (3 + i)))) mS_s ((hM.a (qA0.up hb5)).S)
      obtain ⟨p1, p2⟩ := mSm.put rfl h2
      obtain ⟨u', h4, h5, h6⟩ := ih (i + 1) (v + (qShows (u.1 1) b i).toInt64 * V (upd (u.1 1) (90 + b) (zI (3 + i)))) (some (.int (qShows (u.1 1) b i))) _ p1 ((h3.a (qA0.up hb5).sy).S) (by omega)
      refine ⟨u', ?_, p2.tr h5, h6⟩
      rw [am_go dc_242_24]
      simp (disch := first | omega | exact ci_m | exact Nat.le_of_ble_eq_true rfl | (refine mF_lt ?_; omega)) only [own_242, am_go dc_242_0, J_aload_0, K_al, ld_0, am_go dc_242_1, J_iload_1, K_il, ld_1, am_go dc_242_2, cv_12_183_12 own_242, JR_v, JR_0, JR_ite, ci1_r, am_go dc_242_5, J_istore_3, st1_0, st1_1, st1_s, kl_i, kl_l, kl_r, kl_n, am_go dc_242_6, am_go dc_242_7, am_go dc_242_8, J_iconst, c32_1, am_go dc_242_9, cv_12_79_12 own_242, am_go dc_242_12, J_ineg, am_go dc_242_13, J_i2l, am_go dc_242_14, am_go dc_242_15, cv_12_213_12 own_242, am_go dc_242_18, J_lmul, am_go dc_242_19, J_lstore, st2_0, st2_1, st2_s, am_go dc_242_21, c32_0, am_go dc_242_22, J_istore, J_iload, ld_6, am_go dc_242_26, am_go dc_242_27, am_go dc_242_28, cv_12_143_12 own_242, am_go dc_242_31, J_icmp_ge, am_go dc_242_34, am_go dc_242_35, am_go dc_242_36, am_go dc_242_38, cv_12_198_12 own_242, am_go dc_242_41, am_go dc_242_43, ld_7, am_go dc_242_45, J_if_ne, am_go dc_242_48, J_goto, am_go dc_242_51, am_go dc_242_52, am_go dc_242_53, c32_3, am_go dc_242_54, am_go dc_242_56, J_iadd, am_go dc_242_57, cv_12_154_12 own_242, am_go dc_242_60, J_lload, K_ll, ld_4, am_go dc_242_62, am_go dc_242_64, am_go dc_242_65, J_iload_2, ld_2, am_go dc_242_66, J_if_eq, am_go dc_242_69, am_go dc_242_70, cv_12_239_12 own_242, am_go dc_242_73, am_go dc_242_76, am_go dc_242_77, cv_12_242_12 own_242, am_go dc_242_80, am_go dc_242_81, J_ladd, am_go dc_242_82, am_go dc_242_84, am_go dc_242_85, am_go dc_242_86, J_iload_3, ld_3, am_go dc_242_87, am_go dc_242_90, J_iinc, pinc_go, am_go dc_242_93, am_go dc_242_96, am_go dc_242_98, J_ret_l ret_242, mH_o, zI_add, zI_mul, zI_lt, zI_le, zI_eq, zI_neg, zI_pos, zI_ne0, zI_gt0, zB_0, lg_cmp_ge, lg_cmp_le, lg_cmp_gt, lg_cmp_lt, lg_cmp_eq, ail_r, abl_r, all_r, ais_r, abs_r, als_r, mF_len, r_steps, hn, hsh, c0, r_puts, h1, List.length_cons, List.length_nil, Nat.reduceAdd, Nat.reduceLT, Nat.reduceLeDiff, Nat.reduceEqDiff, ↓reduceIte, bind_s, if_true, if_false, not_true_eq_false, not_false_eq_true, Nat.zero_add]
      rw [if_neg (by omega)]
      have e0 : fo (q_opn (u.1 1) V b) i (k + 1) v = fo (q_opn (u.1 1) V b) (i + 1) k (v + (qShows (u.1 1) b i).toInt64 * V (upd (u.1 1) (90 + b) (zI (3 + i)))) := by
        show fo _ (i + 1) k (q_opn (u.1 1) V b i v) = _
        unfold q_opn
        rw [if_neg c0]
      rw [e0, ← h4]
theorem r_opened1 {S : Nat → Int32} {V : (Nat → Int32) → Int64} {b : Nat} (hG : qG S) (hw : qHw S) (hb : b < wN (S 116)) (hV : ∀ i, i < 4 → ¬ qShows S b i = 0 → oOk X h o z (d + 4) 241 V (upd S (90 + b) (zI (3 + i)))) (u : mU) (hu : u.1 1 = S) (hM : mMem u S) : ∃ u', am_f X (d + 5) 242 [.ref o, .int (zI b), .int (zI 1)] (mH h o u, z) = some (.inl (some (.long (qOpn S V b))), (mH h o u', z)) ∧ mSm u u' ∧ mMem u' S := by
  have hq := qW_of2 hG hw
  have hm5 := hG.m.2
  have hb5 : b < 5 := by omega
  obtain ⟨u', h1, h2, h3⟩ := r_opened1_l (X := X) (h := h) (o := o) (d := d) (z := z) hG hw hb hV _ 0 ((-S (18 * b + 1)).toInt64 * qMass S) none u hu hM (Nat.zero_add _)
  refine ⟨u', ?_, h2, h3⟩
  subst hu
  have hms := fun d => r_mass (X := X) (h := h) (o := o) (d := d) (u := u) (z := z) hq
  rw [fU_242]
  simp (disch := first | omega | exact ci_m | exact Nat.le_of_ble_eq_true rfl | (refine mF_lt ?_; omega)) only [own_242, am_go dc_242_0, J_aload_0, K_al, ld_0, am_go dc_242_1, J_iload_1, K_il, ld_1, am_go dc_242_2, cv_12_183_12 own_242, JR_v, JR_0, JR_ite, ci1_r, am_go dc_242_5, J_istore_3, st1_0, st1_1, st1_s, kl_i, kl_l, kl_r, kl_n, am_go dc_242_6, am_go dc_242_7, am_go dc_242_8, J_iconst, c32_1, am_go dc_242_9, cv_12_79_12 own_242, am_go dc_242_12, J_ineg, am_go dc_242_13, J_i2l, am_go dc_242_14, am_go dc_242_15, cv_12_213_12 own_242, am_go dc_242_18, J_lmul, am_go dc_242_19, J_lstore, st2_0, st2_1, st2_s, am_go dc_242_21, c32_0, am_go dc_242_22, J_istore, J_iload, ld_6, am_go dc_242_26, am_go dc_242_27, am_go dc_242_28, cv_12_143_12 own_242, am_go dc_242_31, J_icmp_ge, am_go dc_242_34, am_go dc_242_35, am_go dc_242_36, am_go dc_242_38, cv_12_198_12 own_242, am_go dc_242_41, am_go dc_242_43, ld_7, am_go dc_242_45, J_if_ne, am_go dc_242_48, J_goto, am_go dc_242_51, am_go dc_242_52, am_go dc_242_53, c32_3, am_go dc_242_54, am_go dc_242_56, J_iadd, am_go dc_242_57, cv_12_154_12 own_242, am_go dc_242_60, J_lload, K_ll, ld_4, am_go dc_242_62, am_go dc_242_64, am_go dc_242_65, J_iload_2, ld_2, am_go dc_242_66, J_if_eq, am_go dc_242_69, am_go dc_242_70, cv_12_239_12 own_242, am_go dc_242_73, am_go dc_242_76, am_go dc_242_77, cv_12_242_12 own_242, am_go dc_242_80, am_go dc_242_81, J_ladd, am_go dc_242_82, am_go dc_242_84, am_go dc_242_85, am_go dc_242_86, J_iload_3, ld_3, am_go dc_242_87, am_go dc_242_90, J_iinc, pinc_go, am_go dc_242_93, am_go dc_242_96, am_go dc_242_98, J_ret_l ret_242, mH_o, zI_add, zI_mul, zI_lt, zI_le, zI_eq, zI_neg, zI_pos, zI_ne0, zI_gt0, zB_0, lg_cmp_ge, lg_cmp_le, lg_cmp_gt, lg_cmp_lt, lg_cmp_eq, ail_r, abl_r, all_r, ais_r, abs_r, als_r, mF_len, r_how, r_of, hms, List.length_cons, List.length_nil, Nat.reduceAdd, Nat.reduceLT, Nat.reduceLeDiff, Nat.reduceEqDiff, ↓reduceIte, bind_s, if_true, if_false, not_true_eq_false, not_false_eq_true, Nat.zero_add]
  exact h1
theorem r_peeped {S : Nat → Int32} {V : (Nat → Int32) → Int64} {b : Nat} (hG : qG S) (hw : qHw S) (hb : b < wN (S 116)) (hz : S (90 + b) = 0) (hV : ∀ k, 1 ≤ k → k < 3 → oOk X h o z (d + 4) 243 V (upd S (90 + b) (zI k))) (u : mU) (hu : u.1 1 = S) (hM : mMem u S) : ∃ u', am_f X (d + 5) 245 [.ref o, .int (zI b)] (mH h o u, z) = some (.inl (some (.long (qPee S V b))), (mH h o u', z)) ∧ mSm u u' ∧ mMem u' S := by
  have hq := qW_of2 hG hw
  have hm5 := hG.m.2
  have hb5 : b < 5 := by omega
  have hl : ∀ (k i : Nat) (v : Int64) (u : mU), u.1 1 = S → mMem u S → i + k = 3 → 1 ≤ i → ∃ u', am_I X (am_f X (d + 4)) 245 17 [some (.ref o), some (.int (zI b)), some (.long v), none, some (.int (zI i))] [] (mH h o u, z) = some (.inl (some (.long (fo (q_pee S V b) i k v))), (mH h o u', z)) ∧ mSm u u' ∧ mMem u' S := by
    intro k
    induction k with
    | zero =>
      intro i v u hu hM hi h1
      subst hu
      refine ⟨u, ?_, mSm.rf, hM⟩
      rw [am_go dc_245_17]
      simp (disch := first | omega | exact ci_m | exact Nat.le_of_ble_eq_true rfl | (refine mF_lt ?_; omega)) only [own_245, am_go dc_245_0, J_aload_0, K_al, ld_0, am_go dc_245_1, J_iload_1, K_il, ld_1, am_go dc_245_2, J_iconst, c32_4, am_go dc_245_3, cv_12_79_12 own_245, JR_v, JR_0, JR_ite, ci1_r, am_go dc_245_6, J_ineg, am_go dc_245_7, J_i2l, am_go dc_245_8, am_go dc_245_9, cv_12_213_12 own_245, am_go dc_245_12, J_lmul, am_go dc_245_13, J_lstore_2, st2_0, st2_1, st2_s, kl_i, kl_l, kl_r, kl_n, am_go dc_245_14, c32_1, am_go dc_245_15, J_istore, st1_0, st1_1, st1_s, J_iload, ld_4, am_go dc_245_19, c32_3, am_go dc_245_20, J_icmp_ge, am_go dc_245_23, am_go dc_245_24, am_go dc_245_25, am_go dc_245_27, cv_12_154_12 own_245, am_go dc_245_30, J_lload_2, K_ll, ld_2, am_go dc_245_31, am_go dc_245_32, am_go dc_245_35, J_lconst, i64_0, am_go dc_245_36, J_lcmp, am_go dc_245_37, J_if_ne, am_go dc_245_40, am_go dc_245_41, J_goto, am_go dc_245_44, am_go dc_245_45, cv_12_242_12 own_245, am_go dc_245_48, J_ladd, am_go dc_245_49, am_go dc_245_50, am_go dc_245_51, am_go dc_245_52, c32_0, am_go dc_245_53, am_go dc_245_56, J_iinc, pinc_go, am_go dc_245_59, am_go dc_245_62, am_go dc_245_63, J_ret_l ret_245, mH_o, zI_add, zI_mul, zI_lt, zI_le, zI_eq, zI_neg, zI_pos, zI_ne0, zI_gt0, zB_0, lg_cmp_ge, lg_cmp_le, lg_cmp_gt, lg_cmp_lt, lg_cmp_eq, ail_r, abl_r, all_r, ais_r, abs_r, als_r, mF_len, List.length_cons, List.length_nil, Nat.reduceAdd, Nat.reduceLT, Nat.reduceLeDiff, Nat.reduceEqDiff, ↓reduceIte, bind_s, if_true, if_false, not_true_eq_false, not_false_eq_true, Nat.zero_add]
      rw [if_pos (by omega)]
      rfl
    | succ k ih =>
      intro i v u hu hM hi h1
      subst hu
      have hq' : qW ((mS u 1 (upd (u.1 1) (90 + b) (zI i))).1 1) := by
        rw [mS_s]
        exact hq.up (by omega) hb5
      have hms := fun d => r_mass (X := X) (h := h) (o := o) (d := d) (u := mS u 1 (upd (u.1 1) (90 + b) (zI i))) (z := z) hq'
      have e0 : fo (q_pee (u.1 1) V b) i (k + 1) v = fo (q_pee (u.1 1) V b) (i + 1) k (v + (if qMass (upd (u.1 1) (90 + b) (zI i)) = 0 then 0 else V (upd (u.1 1) (90 + b) (zI i)))) := rfl
      rw [e0]
      by_cases c0 : qMass (upd (u.1 1) (90 + b) (zI i)) = 0
      · have hid : mS (mS u 1 (upd (u.1 1) (90 + b) (zI i))) 1 (upd (upd (u.1 1) (90 + b) (zI i)) (90 + b) (zI 0)) = u := by
          rw [mS_S, upd_u, show zI 0 = u.1 1 (90 + b) from hz.symm, upd_id, mS_id]
        obtain ⟨u', h4, h5, h6⟩ := ih (i + 1) (v + 0) u rfl hM (by omega) (by omega)
        refine ⟨u', ?_, h5, h6⟩
        rw [am_go dc_245_17]
        simp (disch := first | omega | exact ci_m | exact Nat.le_of_ble_eq_true rfl | (refine mF_lt ?_; omega)) only [own_245, am_go dc_245_0, J_aload_0, K_al, ld_0, am_go dc_245_1, J_iload_1, K_il, ld_1, am_go dc_245_2, J_iconst, c32_4, am_go dc_245_3, cv_12_79_12 own_245, JR_v, JR_0, JR_ite, ci1_r, am_go dc_245_6, J_ineg, am_go dc_245_7, J_i2l, am_go dc_245_8, am_go dc_245_9, cv_12_213_12 own_245, am_go dc_245_12, J_lmul, am_go dc_245_13, J_lstore_2, st2_0, st2_1, st2_s, kl_i, kl_l, kl_r, kl_n, am_go dc_245_14, c32_1, am_go dc_245_15, J_istore, st1_0, st1_1, st1_s, J_iload, ld_4, am_go dc_245_19, c32_3, am_go dc_245_20, J_icmp_ge, am_go dc_245_23, am_go dc_245_24, am_go dc_245_25, am_go dc_245_27, cv_12_154_12 own_245, am_go dc_245_30, J_lload_2, K_ll, ld_2, am_go dc_245_31, am_go dc_245_32, am_go dc_245_35, J_lconst, i64_0, am_go dc_245_36, J_lcmp, am_go dc_245_37, J_if_ne, am_go dc_245_40, am_go dc_245_41, J_goto, am_go dc_245_44, am_go dc_245_45, cv_12_242_12 own_245, am_go dc_245_48, J_ladd, am_go dc_245_49, am_go dc_245_50, am_go dc_245_51, am_go dc_245_52, c32_0, am_go dc_245_53, am_go dc_245_56, J_iinc, pinc_go, am_go dc_245_59, am_go dc_245_62, am_go dc_245_63, J_ret_l ret_245, mH_o, zI_add, zI_mul, zI_lt, zI_le, zI_eq, zI_neg, zI_pos, zI_ne0, zI_gt0, zB_0, lg_cmp_ge, lg_cmp_le, lg_cmp_gt, lg_cmp_lt, lg_cmp_eq, ail_r, abl_r, all_r, ais_r, abs_r, als_r, mF_len, r_puts, mS_s, hms, c0, hid, List.length_cons, List.length_nil, Nat.reduceAdd, Nat.reduceLT, Nat.reduceLeDiff, Nat.reduceEqDiff, ↓reduceIte, bind_s, if_true, if_false, not_true_eq_false, not_false_eq_true, Nat.zero_add]
        rw [if_neg (by omega)]
        exact h4
      · obtain ⟨u1, h1, h2, h3⟩ := hV i h1 (by omega) (mS u 1 (upd (u.1 1) (90 + b) (zI i))) mS_s ((hM.a (qA0.up hb5)).S)
        obtain ⟨p1, p2⟩ := mSm.put rfl h2
        rw [hz] at p1 p2
        obtain ⟨u', h4, h5, h6⟩ := ih (i + 1) (v + V (upd (u.1 1) (90 + b) (zI i))) _ p1 ((h3.a (qA0.up hb5).sy).S) (by omega) (by omega)
        refine ⟨u', ?_, p2.tr h5, h6⟩
        rw [am_go dc_245_17]
        simp (disch := first | omega | exact ci_m | exact Nat.le_of_ble_eq_true rfl | (refine mF_lt ?_; omega)) only [own_245, am_go dc_245_0, J_aload_0, K_al, ld_0, am_go dc_245_1, J_iload_1, K_il, ld_1, am_go dc_245_2, J_iconst, c32_4, am_go dc_245_3, cv_12_79_12 own_245, JR_v, JR_0, JR_ite, ci1_r, am_go dc_245_6, J_ineg, am_go dc_245_7, J_i2l, am_go dc_245_8, am_go dc_245_9, cv_12_213_12 own_245, am_go dc_245_12, J_lmul, am_go dc_245_13, J_lstore_2, st2_0, st2_1, st2_s, kl_i, kl_l, kl_r, kl_n, am_go dc_245_14, c32_1, am_go dc_245_15, J_istore, st1_0, st1_1, st1_s, J_iload, ld_4, am_go dc_245_19, c32_3, am_go dc_245_20, J_icmp_ge, am_go dc_245_23, am_go dc_245_24, am_go dc_245_25, am_go dc_245_27, cv_12_154_12 own_245, am_go dc_245_30, J_lload_2, K_ll, ld_2, am_go dc_245_31, am_go dc_245_32, am_go dc_245_35, J_lconst, i64_0, am_go dc_245_36, J_lcmp, am_go dc_245_37, J_if_ne, am_go dc_245_40, am_go dc_245_41, J_goto, am_go dc_245_44, am_go dc_245_45, cv_12_242_12 own_245, am_go dc_245_48, J_ladd, am_go dc_245_49, am_go dc_245_50, am_go dc_245_51, am_go dc_245_52, c32_0, am_go dc_245_53, am_go dc_245_56, J_iinc, pinc_go, am_go dc_245_59, am_go dc_245_62, am_go dc_245_63, J_ret_l ret_245, mH_o, zI_add, zI_mul, zI_lt, zI_le, zI_eq, zI_neg, zI_pos, zI_ne0, zI_gt0, zB_0, lg_cmp_ge, lg_cmp_le, lg_cmp_gt, lg_cmp_lt, lg_cmp_eq, ail_r, abl_r, all_r, ais_r, abs_r, als_r, mF_len, r_puts, mS_s, hms, c0, h1, List.length_cons, List.length_nil, Nat.reduceAdd, Nat.reduceLT, Nat.reduceLeDiff, Nat.reduceEqDiff, ↓reduceIte, bind_s, if_true, if_false, not_true_eq_false, not_false_eq_true, Nat.zero_add]
        rw [if_neg (by omega)]
        exact h4
  obtain ⟨u', h1, h2, h3⟩ := hl 2 1 ((-S (18 * b + 4)).toInt64 * qMass S) u hu hM (by omega) (by omega)
  refine ⟨u', ?_, h2, h3⟩
  subst hu
  have hms := fun d => r_mass (X := X) (h := h) (o := o) (d := d) (u := u) (z := z) hq
  rw [fU_245]
  simp (disch := first | omega | exact ci_m | exact Nat.le_of_ble_eq_true rfl | (refine mF_lt ?_; omega)) only [own_245, am_go dc_245_0, J_aload_0, K_al, ld_0, am_go dc_245_1, J_iload_1, K_il, ld_1, am_go dc_245_2, J_iconst, c32_4, am_go dc_245_3, cv_12_79_12 own_245, JR_v, JR_0, JR_ite, ci1_r, am_go dc_245_6, J_ineg, am_go dc_245_7, J_i2l, am_go dc_245_8, am_go dc_245_9, cv_12_213_12 own_245, am_go dc_245_12, J_lmul, am_go dc_245_13, J_lstore_2, st2_0, st2_1, st2_s, kl_i, kl_l, kl_r, kl_n, am_go dc_245_14, c32_1, am_go dc_245_15, J_istore, st1_0, st1_1, st1_s, J_iload, ld_4, am_go dc_245_19, c32_3, am_go dc_245_20, J_icmp_ge, am_go dc_245_23, am_go dc_245_24, am_go dc_245_25, am_go dc_245_27, cv_12_154_12 own_245, am_go dc_245_30, J_lload_2, K_ll, ld_2, am_go dc_245_31, am_go dc_245_32, am_go dc_245_35, J_lconst, i64_0, am_go dc_245_36, J_lcmp, am_go dc_245_37, J_if_ne, am_go dc_245_40, am_go dc_245_41, J_goto, am_go dc_245_44, am_go dc_245_45, cv_12_242_12 own_245, am_go dc_245_48, J_ladd, am_go dc_245_49, am_go dc_245_50, am_go dc_245_51, am_go dc_245_52, c32_0, am_go dc_245_53, am_go dc_245_56, J_iinc, pinc_go, am_go dc_245_59, am_go dc_245_62, am_go dc_245_63, J_ret_l ret_245, mH_o, zI_add, zI_mul, zI_lt, zI_le, zI_eq, zI_neg, zI_pos, zI_ne0, zI_gt0, zB_0, lg_cmp_ge, lg_cmp_le, lg_cmp_gt, lg_cmp_lt, lg_cmp_eq, ail_r, abl_r, all_r, ais_r, abs_r, als_r, mF_len, r_of, hms, List.length_cons, List.length_nil, Nat.reduceAdd, Nat.reduceLT, Nat.reduceLeDiff, Nat.reduceEqDiff, ↓reduceIte, bind_s, if_true, if_false, not_true_eq_false, not_false_eq_true, Nat.zero_add]
  exact h1
end M11
