/-! Told, settled: numbers -/
theorem fo_ci (f : Nat → Nat) : ∀ (k i x : Nat), fo (fun i (v : Int) => v + ((f i : Nat) : Int)) i k (x : Int) = ((fo (fun i v => v + f i) i k x : Nat) : Int) := by
  intro k
  induction k with
  | zero => intros; rfl
  | succ k ih =>
    intro i x
    show fo _ (i + 1) k ((x : Int) + ((f i : Nat) : Int)) = _
    rw [← Int.natCast_add, ih]
    rfl
def tNb (T : mU × (Nat → Option Nat)) (S : Nat → Int32) (b : Nat) : Prop := T.1.2.1 8 (2 * b) = nbT (S (18 * b + 1)) (wN (S (18 * b + 3))) (fun i => S (18 * b + (10 + i))) (qWt S b) ∧ T.1.2.1 9 (2 * b) = nbF (S (18 * b + 1)) (wN (S (18 * b + 3))) (fun i => S (18 * b + (10 + i))) (qWt S b) ∧ (¬ S (18 * b + 5) < 0 → T.1.2.1 8 (2 * b + 1) = nbT (S (18 * b + 1)) (wN (S (18 * b + 3))) (fun i => S (18 * b + (14 + i))) (qWt S b) ∧ T.1.2.1 9 (2 * b + 1) = nbF (S (18 * b + 1)) (wN (S (18 * b + 3))) (fun i => S (18 * b + (14 + i))) (qWt S b))
def tNm (T : mU × (Nat → Option Nat)) (S : Nat → Int32) : Prop := ∀ b, b < wN (S 116) → tNb T S b
def nuI (U T : mU × (Nat → Option Nat)) (S : Nat → Int32) (R i : Nat) : Prop := T.2 = U.2 ∧ T.1.2.2.1 = U.1.2.2.1 ∧ (∀ j, j ≠ 6 → T.1.1 j = U.1.1 j) ∧ ∀ b, b < i → (∀ x, x < wN (S (18 * b + 3)) → T.1.1 6 (4 * b + x) = zI (rkO (U.1.1 4) (S (18 * b + (6 + x))) R 0)) ∧ tNb T S b
theorem tNb.x {T T' : mU × (Nat → Option Nat)} {S : Nat → Int32} {b : Nat} (h : tNb T S b) (h8 : T'.1.2.1 8 (2 * b) = T.1.2.1 8 (2 * b)) (h9 : T'.1.2.1 9 (2 * b) = T.1.2.1 9 (2 * b)) (g8 : T'.1.2.1 8 (2 * b + 1) = T.1.2.1 8 (2 * b + 1)) (g9 : T'.1.2.1 9 (2 * b + 1) = T.1.2.1 9 (2 * b + 1)) : tNb T' S b := by
  unfold tNb
  rw [h8, h9, g8, g9]
  exact h
theorem kI_tKn {T : mU × (Nat → Option Nat)} {S : Nat → Int32} (hG : qG S) (hk : kI T S (wN (S 116))) : tKn T S := by
  have key : ∀ b, b < wN (S 116) → (¬ S (18 * b + 5) < 0 ∧ wN (S (18 * b + 5)) < wN (S 116)) = ¬ S (18 * b + 5) < 0 := fun b hb => by
    rcases (hG.2.2 b hb).2.2.2.2.2.2.1 with e | ⟨h1, h2, h3, h4, h5, h6⟩
    · rw [e]
      simp [m4_neg]
    · simp [h2]
  refine ⟨fun b hb => ?_, fun b i hb hi => ?_⟩
  · rw [(hk b hb).1]
    simp only [key b hb]
    by_cases c : S (18 * b + 5) < 0
    · rw [if_neg (fun q => q c)]
      rcases (hG.2.2 b hb).2.2.2.2.2.2.1 with e | ⟨h1, _⟩
      · exact e.symm
      · rw [(h1.z (by omega)).1, zI_neg (by have := (h1.z (by omega)).2; omega)] at c
        exact c.elim
    · rw [if_pos c]
  · rw [(hk b hb).2 i hi]
    simp only [key b hb]
    by_cases c : S (18 * b + 5) < 0
    · rw [if_neg (fun q => q c), if_pos c]
    · rw [if_pos c, if_neg c]
section SG
variable {X : am_X} {h : am_H} {t d : Nat} {z : Nat × Nat} {S : Nat → Int32}
/-- the numbers of box i -/
theorem c_se4 {U T2 : mU × (Nat → Option Nat)} {i : Nat} {v2 v3 : Option Value} (hG : qG S) (hbx : bxs h t U S) (hK : tKn U S) (him : i < wN (S 116)) (h2 : T2.2 = U.2) (h3 : T2.1.1 3 = U.1.1 3) (h7 : T2.1.1 7 = U.1.1 7) : ∃ T4, am_I X (am_f X (d + 2)) 20 183 [some (.ref t), some (.int (zI i)), v2, v3] [] (tH h t T2, z) = am_I X (am_f X (d + 2)) 20 204 [some (.ref t), some (.int (zI i)), v2, v3] [] (tH h t T4, z) ∧ T4.2 = T2.2 ∧ T4.1.1 = T2.1.1 ∧ T4.1.2.2 = T2.1.2.2 ∧ tNb T4 S i ∧ ∀ j, j ≠ 2 * i → j ≠ 2 * i + 1 → T4.1.2.1 8 j = T2.1.2.1 8 j ∧ T4.1.2.1 9 j = T2.1.2.1 9 j := by
  have hm := hG.m
  have hi5 : i < 5 := by omega
  obtain ⟨a, bb, ha, hB⟩ := hbx i him
  rw [← h2] at ha
  obtain ⟨⟨-, hr1, -, -, -⟩, -, -, -, -, -, hk, hst, hs1, hs2⟩ := hG.2.2 i him
  obtain ⟨p1, p2⟩ := hr1.z (by omega)
  have hw : ∀ x, x < wN (qRow S i 3) → qRow S i (6 + x) = zI (wN (S (18 * i + (6 + x)))) ∧ wN (S (18 * i + (6 + x))) ≤ 999 := fun x hx => (hst x hx).1.z (by omega)
  obtain ⟨T3, n0, a1, a2, a3, a4, a5⟩ : ∃ T3, am_f X (d + 2) 25 [.ref t, .int (zI i), .int (zI 0)] (tH h t T2, z) = some (.inl none, (tH h t T3, z)) ∧ T3.2 = T2.2 ∧ T3.1.1 = T2.1.1 ∧ T3.1.2.2 = T2.1.2.2 ∧ T3.1.2.1 8 = vp_updL (T2.1.2.1 8) (2 * i) (nbT (S (18 * i + 1)) (wN (S (18 * i + 3))) (fun x => S (18 * i + (10 + x))) (qWt S i)) ∧ T3.1.2.1 9 = vp_updL (T2.1.2.1 9) (2 * i) (nbF (S (18 * i + 1)) (wN (S (18 * i + 3))) (fun x => S (18 * i + (10 + x))) (qWt S i)) :=
    ⟨_, c_setNum0 (X := X) (d := d) (z := z) (c := fun x => wN (S (18 * i + (10 + x)))) (hB T2) hi5 ha p1 p2 (fun x hx => (hst x hx).2.1.z (by omega)) hw (by
      have := fo_ci (fun x => wN (S (18 * i + (10 + x)))) (wN (S (18 * i + 3))) 0 0
      rw [hs1] at this
      exact this), rfl, rfl, rfl, by simp only [mL_o (show 8 ≠ 9 by decide), mL_s]; rfl, by simp only [mL_o (show 9 ≠ 8 by decide), mL_s]; rfl⟩
  have hkn : T3.1.1 3 i = S (18 * i + 5) := by rw [a2, h3]; exact hK.1 i him
  by_cases c : S (18 * i + 5) < 0
  · refine ⟨T3, ?_, a1, a2, a3, ⟨by rw [a4, upL_s], by rw [a5, upL_s], fun q => absurd c q⟩, fun j j1 j2 => ⟨by rw [a4, upL_o j1], by rw [a5, upL_o j1]⟩⟩
    rw [am_go dc_20_183]
    simp (disch := first | omega | exact Nat.le_of_ble_eq_true rfl | exact tH_ci | (refine tF_lt ?_; omega)) only [own_20, J_aload_0, K_al, ld_0, am_go dc_20_184, J_iload_1, K_il, ld_1, am_go dc_20_185, J_iconst, c32_0, am_go dc_20_186, cv_1_87_1 own_20, JR_v, JR_0, JR_ite, ci1_r, tg_3, tg_7, tp_5, pf_i pk_1_28_1 rfl, tg_1, tg_0, tg_6, tH_0, tH_1, tH_2, tH_3, tH_4, tH_5, tH_6, tH_7, tw_1, tw_2, tw_3, tw_4, tw_5, tw_6, tw_7, zI_add, zI_mul, zI_lt, zI_le, zI_eq, zI_neg, zI_pos, zI_ne0, zI_gt0, zB_0, lg_cmp_ge, lg_cmp_le, lg_cmp_gt, lg_cmp_lt, lg_cmp_eq, ail_r, abl_r, all_r, ais_r, abs_r, als_r, aal_r, aal_q, aln_r, vrf_s, vrf_n, z32, n0, List.length_cons, List.length_nil, Nat.reduceAdd, Nat.reduceLT, Nat.reduceLeDiff, Nat.reduceEqDiff, ↓reduceIte, bind_s, if_true, if_false, not_true_eq_false, not_false_eq_true, Nat.zero_add]
    rw [am_go dc_20_189]
    simp (disch := first | omega | exact Nat.le_of_ble_eq_true rfl | exact tH_ci | (refine tF_lt ?_; omega)) only [own_20, J_aload_0, K_al, ld_0, am_go dc_20_190, J_getfield, gf_r, fk_1_21_1, am_go dc_20_193, J_iload_1, K_il, ld_1, am_go dc_20_194, J_iaload, am_go dc_20_195, J_if_lt, tg_3, tg_7, tp_5, pf_i pk_1_28_1 rfl, tg_1, tg_0, tg_6, tH_0, tH_1, tH_2, tH_3, tH_4, tH_5, tH_6, tH_7, tw_1, tw_2, tw_3, tw_4, tw_5, tw_6, tw_7, zI_add, zI_mul, zI_lt, zI_le, zI_eq, zI_neg, zI_pos, zI_ne0, zI_gt0, zB_0, lg_cmp_ge, lg_cmp_le, lg_cmp_gt, lg_cmp_lt, lg_cmp_eq, ail_r, abl_r, all_r, ais_r, abs_r, als_r, aal_r, aal_q, aln_r, vrf_s, vrf_n, z32, hkn, c, if_true, List.length_cons, List.length_nil, Nat.reduceAdd, Nat.reduceLT, Nat.reduceLeDiff, Nat.reduceEqDiff, ↓reduceIte, bind_s, if_false, not_true_eq_false, not_false_eq_true, Nat.zero_add]
  · have hne : S (18 * i + 5) ≠ -4 := fun e => c (by rw [e]; exact m4_neg)
    have hoc : ∀ x, x < wN (S (18 * i + 3)) → T3.1.1 7 (4 * i + x) = S (18 * i + (14 + x)) := fun x hx => by
      rw [a2, h7, hK.2 i x him hx, if_neg c]
    obtain ⟨T4, n1, b1, b2, b3, b4, b5⟩ : ∃ T4, am_f X (d + 2) 25 [.ref t, .int (zI i), .int (zI 1)] (tH h t T3, z) = some (.inl none, (tH h t T4, z)) ∧ T4.2 = T3.2 ∧ T4.1.1 = T3.1.1 ∧ T4.1.2.2 = T3.1.2.2 ∧ T4.1.2.1 8 = vp_updL (T3.1.2.1 8) (2 * i + 1) (nbT (S (18 * i + 1)) (wN (S (18 * i + 3))) (fun x => T3.1.1 7 (4 * i + x)) (qWt S i)) ∧ T4.1.2.1 9 = vp_updL (T3.1.2.1 9) (2 * i + 1) (nbF (S (18 * i + 1)) (wN (S (18 * i + 3))) (fun x => T3.1.1 7 (4 * i + x)) (qWt S i)) :=
      ⟨_, c_setNum1 (X := X) (d := d) (z := z) (c := fun x => wN (S (18 * i + (14 + x)))) (hB T3) hi5 (by rw [a1]; exact ha) p1 p2 (fun x hx => by
          rw [hoc x hx]
          exact ((hst x hx).2.2.2 hne).z (by omega)) hw (by
        have := fo_ci (fun x => wN (S (18 * i + (14 + x)))) (wN (S (18 * i + 3))) 0 0
        rw [hs2 hne] at this
        exact this), rfl, rfl, rfl, by simp only [mL_o (show 8 ≠ 9 by decide), mL_s]; rfl, by simp only [mL_o (show 9 ≠ 8 by decide), mL_s]; rfl⟩
    rw [nbT_c hoc] at b4
    rw [nbF_c hoc] at b5
    refine ⟨T4, ?_, b1.trans a1, b2.trans a2, b3.trans a3, ⟨by rw [b4, upL_o (by omega), a4, upL_s], by rw [b5, upL_o (by omega), a5, upL_s], fun _ => ⟨by rw [b4, upL_s], by rw [b5, upL_s]⟩⟩, fun j j1 j2 => ⟨by rw [b4, upL_o j2, a4, upL_o j1], by rw [b5, upL_o j2, a5, upL_o j1]⟩⟩
    rw [am_go dc_20_183]
    simp (disch := first | omega | exact Nat.le_of_ble_eq_true rfl | exact tH_ci | (refine tF_lt ?_; omega)) only [own_20, J_aload_0, K_al, ld_0, am_go dc_20_184, J_iload_1, K_il, ld_1, am_go dc_20_185, J_iconst, c32_0, am_go dc_20_186, cv_1_87_1 own_20, JR_v, JR_0, JR_ite, ci1_r, tg_3, tg_7, tp_5, pf_i pk_1_28_1 rfl, tg_1, tg_0, tg_6, tH_0, tH_1, tH_2, tH_3, tH_4, tH_5, tH_6, tH_7, tw_1, tw_2, tw_3, tw_4, tw_5, tw_6, tw_7, zI_add, zI_mul, zI_lt, zI_le, zI_eq, zI_neg, zI_pos, zI_ne0, zI_gt0, zB_0, lg_cmp_ge, lg_cmp_le, lg_cmp_gt, lg_cmp_lt, lg_cmp_eq, ail_r, abl_r, all_r, ais_r, abs_r, als_r, aal_r, aal_q, aln_r, vrf_s, vrf_n, z32, n0, List.length_cons, List.length_nil, Nat.reduceAdd, Nat.reduceLT, Nat.reduceLeDiff, Nat.reduceEqDiff, ↓reduceIte, bind_s, if_true, if_false, not_true_eq_false, not_false_eq_true, Nat.zero_add]
    rw [am_go dc_20_189]
    simp (disch := first | omega | exact Nat.le_of_ble_eq_true rfl | exact tH_ci | (refine tF_lt ?_; omega)) only [own_20, J_aload_0, K_al, ld_0, am_go dc_20_190, J_getfield, gf_r, fk_1_21_1, am_go dc_20_193, J_iload_1, K_il, ld_1, am_go dc_20_194, J_iaload, am_go dc_20_195, J_if_lt, am_go dc_20_198, am_go dc_20_199, am_go dc_20_200, J_iconst, c32_1, am_go dc_20_201, cv_1_87_1 own_20, JR_v, JR_0, JR_ite, ci1_r, tg_3, tg_7, tp_5, pf_i pk_1_28_1 rfl, tg_1, tg_0, tg_6, tH_0, tH_1, tH_2, tH_3, tH_4, tH_5, tH_6, tH_7, tw_1, tw_2, tw_3, tw_4, tw_5, tw_6, tw_7, zI_add, zI_mul, zI_lt, zI_le, zI_eq, zI_neg, zI_pos, zI_ne0, zI_gt0, zB_0, lg_cmp_ge, lg_cmp_le, lg_cmp_gt, lg_cmp_lt, lg_cmp_eq, ail_r, abl_r, all_r, ais_r, abs_r, als_r, aal_r, aal_q, aln_r, vrf_s, vrf_n, z32, hkn, c, if_false, n1, List.length_cons, List.length_nil, Nat.reduceAdd, Nat.reduceLT, Nat.reduceLeDiff, Nat.reduceEqDiff, ↓reduceIte, bind_s, if_true, not_true_eq_false, not_false_eq_true, Nat.zero_add]
theorem c_se5 {U : mU × (Nat → Option Nat)} {R : Nat} (hG : qG S) (hbx : bxs h t U S) (hsz : U.1.2.2.1 1 = S 116) (hR : U.1.2.2.1 5 = zI R) (h21 : R ≤ 21) (hK : tKn U S) : ∀ (k i : Nat) (T : mU × (Nat → Option Nat)) (v2 v3 : Option Value), i + k = wN (S 116) → nuI U T S R i → ∃ T', am_I X (am_f X (d + 2)) 20 129 [some (.ref t), some (.int (zI i)), v2, v3] [] (tH h t T, z) = some (.inl none, (tH h t T', z)) ∧ nuI U T' S R (wN (S 116)) := by
  have hm := hG.m
  intro k
  induction k with
  | zero =>
    intro i T v2 v3 hi hN
    have hi' : i = wN (S 116) := by omega
    have hsz' : T.1.2.2.1 1 = zI (wN (S 116)) := by rw [hN.2.1, hsz]; exact hm.1
    subst hi'
    refine ⟨T, ?_, hN⟩
    rw [am_go dc_20_129]
    simp (disch := first | omega | exact Nat.le_of_ble_eq_true rfl | exact tH_ci | (refine tF_lt ?_; omega)) only [own_20, am_go dc_20_0, J_aload_0, K_al, ld_0, am_go dc_20_1, J_getfield, gf_r, fk_1_21_1, am_go dc_20_4, J_bipush, i8_m4, am_go dc_20_6, cs_1_54 own_20, JR_v, JR_0, JR_ite, am_go dc_20_9, am_go dc_20_10, fk_1_34_1, am_go dc_20_13, am_go dc_20_15, am_go dc_20_18, am_go dc_20_19, J_iconst, c32_1, am_go dc_20_20, J_putfield_i, J_putfield_l, J_putfield_r, ini_20, pk_1_28_1, am_go dc_20_23, c32_0, am_go dc_20_24, J_istore_1, st1_0, st1_1, st1_s, kl_i, kl_l, kl_r, kl_n, J_iload_1, K_il, ld_1, am_go dc_20_26, am_go dc_20_27, fk_1_44_1, am_go dc_20_30, J_icmp_ge, am_go dc_20_33, am_go dc_20_34, fk_1_11_1, am_go dc_20_37, am_go dc_20_38, J_aaload, am_go dc_20_39, J_astore_3, am_go dc_20_40, J_aload_3, ld_3, am_go dc_20_41, am_go dc_20_44, J_if_eq, am_go dc_20_47, am_go dc_20_48, am_go dc_20_51, J_astore_2, am_go dc_20_52, am_go dc_20_53, am_go dc_20_56, J_aload_2, ld_2, am_go dc_20_57, am_go dc_20_60, am_go dc_20_61, J_iastore, am_go dc_20_62, am_go dc_20_63, am_go dc_20_66, am_go dc_20_67, am_go dc_20_68, am_go dc_20_71, am_go dc_20_72, am_go dc_20_75, c32_4, am_go dc_20_76, J_imul, am_go dc_20_77, am_go dc_20_78, am_go dc_20_81, J_alen, am_go dc_20_82, ca_1_68 own_20, am_go dc_20_85, am_go dc_20_86, J_istore_2, J_iload_2, am_go dc_20_88, am_go dc_20_89, am_go dc_20_92, am_go dc_20_93, am_go dc_20_94, ci1_r, am_go dc_20_97, am_go dc_20_100, am_go dc_20_101, am_go dc_20_102, am_go dc_20_105, am_go dc_20_106, am_go dc_20_107, am_go dc_20_110, am_go dc_20_111, J_iaload, am_go dc_20_112, cv_1_79_1 own_20, am_go dc_20_115, J_iinc, pinc_go, am_go dc_20_118, J_goto, am_go dc_20_124, am_go dc_20_128, am_go dc_20_130, am_go dc_20_131, am_go dc_20_134, am_go dc_20_137, am_go dc_20_138, am_go dc_20_140, am_go dc_20_141, am_go dc_20_144, am_go dc_20_145, am_go dc_20_146, am_go dc_20_149, am_go dc_20_152, am_go dc_20_153, fk_1_31_1, am_go dc_20_156, am_go dc_20_157, am_go dc_20_158, am_go dc_20_159, am_go dc_20_160, J_iadd, am_go dc_20_161, am_go dc_20_162, am_go dc_20_163, am_go dc_20_166, am_go dc_20_167, am_go dc_20_168, am_go dc_20_171, am_go dc_20_172, am_go dc_20_173, cv_1_83_1 own_20, am_go dc_20_176, am_go dc_20_177, am_go dc_20_180, am_go dc_20_184, am_go dc_20_185, am_go dc_20_186, cv_1_87_1 own_20, am_go dc_20_190, am_go dc_20_193, am_go dc_20_194, am_go dc_20_195, J_if_lt, am_go dc_20_198, am_go dc_20_199, am_go dc_20_200, am_go dc_20_201, am_go dc_20_207, am_go dc_20_210, J_ret_v ret_20, tg_3, tg_7, tp_5, pf_i pk_1_28_1 rfl, tg_1, tg_0, tg_6, tH_0, tH_1, tH_2, tH_3, tH_4, tH_5, tH_6, tH_7, tw_1, tw_2, tw_3, tw_4, tw_5, tw_6, tw_7, zI_add, zI_mul, zI_lt, zI_le, zI_eq, zI_neg, zI_pos, zI_ne0, zI_gt0, zB_0, lg_cmp_ge, lg_cmp_le, lg_cmp_gt, lg_cmp_lt, lg_cmp_eq, ail_r, abl_r, all_r, ais_r, abs_r, als_r, aal_r, aal_q, aln_r, vrf_s, vrf_n, z32, hsz', List.length_cons, List.length_nil, Nat.reduceAdd, Nat.reduceLT, Nat.reduceLeDiff, Nat.reduceEqDiff, ↓reduceIte, bind_s, if_true, if_false, not_true_eq_false, not_false_eq_true, Nat.zero_add]
    rw [if_pos (Nat.le_refl _)]
  | succ k ih =>
    intro i T v2 v3 hi hN
    have him : i < wN (S 116) := by omega
    have hi5 : i < 5 := by omega
    have hlt : ¬ wN (S 116) ≤ i := by omega
    obtain ⟨hN1, hN2, hN3, hN4⟩ := hN
    have hsz' : T.1.2.2.1 1 = zI (wN (S 116)) := by rw [hN2, hsz]; exact hm.1
    obtain ⟨a, bb, ha, hB⟩ := hbx i him
    rw [← hN1] at ha
    obtain ⟨hn, hn1, hn4⟩ := hG.n him
    obtain ⟨T2, s1, e1, e2, e3, e4⟩ : ∃ T2, am_I X (am_f X (d + 2)) 20 139 [some (.ref t), some (.int (zI i)), some (.int (zI 0)), v3] [] (tH h t T, z) = am_I X (am_f X (d + 2)) 20 183 [some (.ref t), some (.int (zI i)), some (.int (zI (wN (S (18 * i + 3))))), v3] [] (tH h t T2, z) ∧ T2.2 = T.2 ∧ T2.1.2 = T.1.2 ∧ (∀ j, j ≠ 6 → T2.1.1 j = T.1.1 j) ∧ T2.1.1 6 = updr (T.1.1 6) (4 * i + 0) (wN (S (18 * i + 3))) (fun y => zI (rkO (T.1.1 4) (S (18 * i + (6 + (0 + y)))) R 0)) :=
      ⟨_, c_se3 (X := X) (d := d + 1) (z := z) (v3 := v3) hB hi5 h21 (wN (S (18 * i + 3))) 0 T (Nat.zero_add _) ha (by rw [hN2]; exact hR), rfl, rfl, fun j hj => mS_o hj, by simp only [mS_s]; rfl⟩
    obtain ⟨T4, s2, f1, f2, f3, f4, f5⟩ := c_se4 (X := X) (d := d) (z := z) (v2 := some (.int (zI (wN (S (18 * i + 3)))))) (v3 := v3) hG hbx hK him (e1.trans hN1) ((e3 3 (by decide)).trans (hN3 3 (by decide))) ((e3 7 (by decide)).trans (hN3 7 (by decide)))
    have hN' : nuI U T4 S R (i + 1) := by
      refine ⟨(f1.trans e1).trans hN1, by rw [f3, e2]; exact hN2, fun j hj => by rw [f2, e3 j hj]; exact hN3 j hj, fun b hb => ?_⟩
      rw [f2, e4]
      by_cases c : b = i
      · subst c
        refine ⟨fun x hx => ?_, f4⟩
        unfold updr
        rw [if_pos (by omega), hN3 4 (by decide)]
        simp only
        rw [show 6 + (0 + (4 * b + x - (4 * b + 0))) = 6 + x by omega]
      · have hb' : b < i := by omega
        have hbm : b < wN (S 116) := by omega
        have hnb := (hG.n hbm).2.2
        obtain ⟨g1, g2⟩ := hN4 b hb'
        have el : T2.1.2.1 = T.1.2.1 := by rw [e2]
        refine ⟨fun x hx => ?_, g2.x ?_ ?_ ?_ ?_⟩
        · unfold updr
          rw [if_neg (by omega)]
          exact g1 x hx
        · rw [(f5 (2 * b) (by omega) (by omega)).1, el]
        · rw [(f5 (2 * b) (by omega) (by omega)).2, el]
        · rw [(f5 (2 * b + 1) (by omega) (by omega)).1, el]
        · rw [(f5 (2 * b + 1) (by omega) (by omega)).2, el]
    obtain ⟨T', w1, w2⟩ := ih (i + 1) T4 (some (.int (zI (wN (S (18 * i + 3)))))) v3 (by omega) hN'
    refine ⟨T', ?_, w2⟩
    have g0 : am_I X (am_f X (d + 2)) 20 129 [some (.ref t), some (.int (zI i)), v2, v3] [] (tH h t T, z) = am_I X (am_f X (d + 2)) 20 139 [some (.ref t), some (.int (zI i)), some (.int (zI 0)), v3] [] (tH h t T, z) := by
      rw [am_go dc_20_129]
      simp (disch := first | omega | exact Nat.le_of_ble_eq_true rfl | exact tH_ci | (refine tF_lt ?_; omega)) only [own_20, J_iload_1, K_il, ld_1, am_go dc_20_130, J_aload_0, K_al, ld_0, am_go dc_20_131, J_getfield, gf_r, fk_1_44_1, am_go dc_20_134, J_icmp_ge, am_go dc_20_137, J_iconst, c32_0, am_go dc_20_138, J_istore_2, st1_0, st1_1, st1_s, kl_i, kl_l, kl_r, kl_n, tg_3, tg_7, tp_5, pf_i pk_1_28_1 rfl, tg_1, tg_0, tg_6, tH_0, tH_1, tH_2, tH_3, tH_4, tH_5, tH_6, tH_7, tw_1, tw_2, tw_3, tw_4, tw_5, tw_6, tw_7, zI_add, zI_mul, zI_lt, zI_le, zI_eq, zI_neg, zI_pos, zI_ne0, zI_gt0, zB_0, lg_cmp_ge, lg_cmp_le, lg_cmp_gt, lg_cmp_lt, lg_cmp_eq, ail_r, abl_r, all_r, ais_r, abs_r, als_r, aal_r, aal_q, aln_r, vrf_s, vrf_n, z32, hsz', hlt, if_false, List.length_cons, List.length_nil, Nat.reduceAdd, Nat.reduceLT, Nat.reduceLeDiff, Nat.reduceEqDiff, ↓reduceIte, bind_s, if_true, not_true_eq_false, not_false_eq_true, Nat.zero_add]
    refine Eq.trans g0 (Eq.trans s1 (Eq.trans s2 (Eq.trans ?_ w1)))
    rw [am_go dc_20_204]
    simp (disch := first | omega | exact Nat.le_of_ble_eq_true rfl | exact tH_ci | (refine tF_lt ?_; omega)) only [own_20, J_iinc, pinc_go, ld_1, c32_1, st1_0, st1_1, st1_s, kl_i, kl_l, kl_r, kl_n, am_go dc_20_207, J_goto, tg_3, tg_7, tp_5, pf_i pk_1_28_1 rfl, tg_1, tg_0, tg_6, tH_0, tH_1, tH_2, tH_3, tH_4, tH_5, tH_6, tH_7, tw_1, tw_2, tw_3, tw_4, tw_5, tw_6, tw_7, zI_add, zI_mul, zI_lt, zI_le, zI_eq, zI_neg, zI_pos, zI_ne0, zI_gt0, zB_0, lg_cmp_ge, lg_cmp_le, lg_cmp_gt, lg_cmp_lt, lg_cmp_eq, ail_r, abl_r, all_r, ais_r, abs_r, als_r, aal_r, aal_q, aln_r, vrf_s, vrf_n, z32, List.length_cons, List.length_nil, Nat.reduceAdd, Nat.reduceLT, Nat.reduceLeDiff, Nat.reduceEqDiff, ↓reduceIte, bind_s, if_true, if_false, not_true_eq_false, not_false_eq_true, Nat.zero_add]
theorem c_settle {T : mU × (Nat → Option Nat)} (hG : qG S) (hbx : bxs h t T S) (hsz : T.1.2.2.1 1 = S 116) (hw0 : T.1.1 4 0 = 0) : ∃ T', am_f X (d + 3) 20 [.ref t] (tH h t T, z) = some (.inl none, (tH h t T', z)) ∧ T'.2 = T.2 ∧ T'.1.2.2.1 1 = T.1.2.2.1 1 ∧ T'.1.2.2.1 2 = T.1.2.2.1 2 ∧ tKn T' S ∧ tRk T' S ∧ tNm T' S := by
  have hm := hG.m
  have f1 : am_f X (d + 2) 21 [.ref (t + 2), .int (-4)] (tH h t T, z) = some (.inl none, (tH h t (mS T.1 3 (updr (T.1.1 3) 0 5 (fun _ => -4)), T.2), z)) := by
    have := a_fill (X := X) (d := d + 1) (z := z) (x := -4) (tH_2 (h := h) (t := t) (D := T)) (by omega)
    rw [tw_2] at this
    exact this
  have f2 : am_f X (d + 2) 21 [.ref (t + 5), .int (-4)] (tH h t (mS T.1 3 (updr (T.1.1 3) 0 5 (fun _ => -4)), T.2), z) = some (.inl none, (tH h t (mS (mS T.1 3 (updr (T.1.1 3) 0 5 (fun _ => -4))) 7 (updr (T.1.1 7) 0 20 (fun _ => -4)), T.2), z)) := by
    have := a_fill (X := X) (d := d + 1) (z := z) (x := -4) (tH_5 (h := h) (t := t) (D := (mS T.1 3 (updr (T.1.1 3) 0 5 (fun _ => -4)), T.2))) (by omega)
    rw [tw_5] at this
    simp only [mS_o (show 7 ≠ 3 by decide)] at this
    exact this
  obtain ⟨T1, t1, t2, t3, t4, t5, t6, t7⟩ : ∃ T1, am_f X (d + 3) 20 [.ref t] (tH h t T, z) = am_I X (am_f X (d + 2)) 20 25 [some (.ref t), some (.int (zI 0)), none, none] [] (tH h t T1, z) ∧ T1.2 = T.2 ∧ (∀ j, j ≠ 5 → T1.1.2.2.1 j = T.1.2.2.1 j) ∧ T1.1.2.2.1 5 = zI 1 ∧ T1.1.1 4 = T.1.1 4 ∧ T1.1.1 3 = updr (T.1.1 3) 0 5 (fun _ => -4) ∧ T1.1.1 7 = updr (T.1.1 7) 0 20 (fun _ => -4) := by
    refine ⟨(mI (mS (mS T.1 3 (updr (T.1.1 3) 0 5 (fun _ => -4))) 7 (updr (T.1.1 7) 0 20 (fun _ => -4))) 5 (zI 1), T.2), ?_, rfl, fun j hj => by simp only [mI_o hj]; rfl, mI_s, rfl, rfl, rfl⟩
    rw [fU_20]
    simp (disch := first | omega | exact Nat.le_of_ble_eq_true rfl | exact tH_ci | (refine tF_lt ?_; omega)) only [own_20, am_go dc_20_0, J_aload_0, K_al, ld_0, am_go dc_20_1, J_getfield, gf_r, fk_1_21_1, am_go dc_20_4, J_bipush, i8_m4, am_go dc_20_6, cs_1_54 own_20, JR_v, JR_0, JR_ite, am_go dc_20_9, am_go dc_20_10, fk_1_34_1, am_go dc_20_13, am_go dc_20_15, am_go dc_20_18, am_go dc_20_19, J_iconst, c32_1, am_go dc_20_20, J_putfield_i, J_putfield_l, J_putfield_r, ini_20, pk_1_28_1, am_go dc_20_23, c32_0, am_go dc_20_24, J_istore_1, st1_0, st1_1, st1_s, kl_i, kl_l, kl_r, kl_n, tg_3, tg_7, tp_5, pf_i pk_1_28_1 rfl, tg_1, tg_0, tg_6, tH_0, tH_1, tH_2, tH_3, tH_4, tH_5, tH_6, tH_7, tw_1, tw_2, tw_3, tw_4, tw_5, tw_6, tw_7, zI_add, zI_mul, zI_lt, zI_le, zI_eq, zI_neg, zI_pos, zI_ne0, zI_gt0, zB_0, lg_cmp_ge, lg_cmp_le, lg_cmp_gt, lg_cmp_lt, lg_cmp_eq, ail_r, abl_r, all_r, ais_r, abs_r, als_r, aal_r, aal_q, aln_r, vrf_s, vrf_n, z32, f1, f2, mS_s, mS_o, mS_2, mI_1, mI_2, mI_s, mI_o, mI_I, mS_S, List.length_cons, List.length_nil, Nat.reduceAdd, Nat.reduceLT, Nat.reduceLeDiff, Nat.reduceEqDiff, ↓reduceIte, bind_s, if_true, if_false, not_true_eq_false, not_false_eq_true, Nat.zero_add]
  have hsI : sI T T1 S 1 0 := by
    refine ⟨t2, t3, ⟨t4, Nat.le_refl _, by rw [t5]; exact hw0, fun i j h1 h2 => by omega⟩, Nat.le_refl _, fun b x hb _ => by omega, fun j hj => ⟨?_, fun x hx => ?_⟩⟩
    · rw [if_neg (by omega), t6]
      unfold updr
      rw [if_pos (by omega)]
    · have hnj := (hG.n hj).2.2
      rw [if_neg (by omega), t7]
      unfold updr
      rw [if_pos (by omega)]
  obtain ⟨T2, R, v2, v3, s1, s2, s3, s4, s5, s6, s7⟩ := c_se2 (X := X) (d := d) (z := z) hG hbx hsz (wN (S 116)) 0 T1 1 none none (Nat.zero_add _) hsI
  have hK := kI_tKn hG s7
  have hbx2 : bxs h t T2 S := fun b hb => by
    rw [s2]
    exact hbx b hb
  obtain ⟨T3, w1, w2, w3, w4, w5⟩ := c_se5 (X := X) (d := d) (z := z) (U := T2) (R := R) hG hbx2 (by rw [s3 1 (by decide)]; exact hsz) s4.1 (by omega) hK (wN (S 116)) 0 T2 v2 v3 (Nat.zero_add _) ⟨rfl, rfl, fun _ _ => rfl, fun b hb => by omega⟩
  refine ⟨T3, ?_, w2.trans s2, by rw [w3, s3 1 (by decide)], by rw [w3, s3 2 (by decide)], ?_, ?_, fun b hb => (w5 b hb).2⟩
  · refine Eq.trans t1 (Eq.trans s1 (Eq.trans ?_ w1))
    rw [am_go dc_20_127]
    simp (disch := first | omega | exact Nat.le_of_ble_eq_true rfl | exact tH_ci | (refine tF_lt ?_; omega)) only [own_20, J_iconst, c32_0, am_go dc_20_128, J_istore_1, st1_0, st1_1, st1_s, kl_i, kl_l, kl_r, kl_n, tg_3, tg_7, tp_5, pf_i pk_1_28_1 rfl, tg_1, tg_0, tg_6, tH_0, tH_1, tH_2, tH_3, tH_4, tH_5, tH_6, tH_7, tw_1, tw_2, tw_3, tw_4, tw_5, tw_6, tw_7, zI_add, zI_mul, zI_lt, zI_le, zI_eq, zI_neg, zI_pos, zI_ne0, zI_gt0, zB_0, lg_cmp_ge, lg_cmp_le, lg_cmp_gt, lg_cmp_lt, lg_cmp_eq, ail_r, abl_r, all_r, ais_r, abs_r, als_r, aal_r, aal_q, aln_r, vrf_s, vrf_n, z32, List.length_cons, List.length_nil, Nat.reduceAdd, Nat.reduceLT, Nat.reduceLeDiff, Nat.reduceEqDiff, ↓reduceIte, bind_s, if_true, if_false, not_true_eq_false, not_false_eq_true, Nat.zero_add]
  · exact ⟨fun b hb => by rw [w4 3 (by decide)]; exact hK.1 b hb, fun b i hb hi => by rw [w4 7 (by decide)]; exact hK.2 b i hb hi⟩
  · refine ⟨R, by rw [w3]; exact s4.1, s4.2.1, by omega, by rw [w4 4 (by decide)]; exact s4.2.2.1, fun i j h1 h2 => by rw [w4 4 (by decide)]; exact s4.2.2.2 i j h1 h2, fun b i hb hi => ?_⟩
    obtain ⟨q1, q2⟩ := s4.rk (s6 b i hb hi)
    exact ⟨_, q1, (w5 b hb).1 i hi, by rw [w4 4 (by decide)]; exact q2⟩
end SG
