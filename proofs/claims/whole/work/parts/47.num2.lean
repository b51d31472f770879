/-! the reference: numbers, the rule -/
theorem qW_of {S : Nat → Int32} (hG : qG S) (hL : qPl S) : qW S := by
  refine ⟨fun b hb => (hL b hb).1, fun b hb => ⟨?_, ?_⟩, hG.1⟩
  · rcases (hG.2.2 b hb).2.2.2.2.2.2.1 with h1 | h1
    · left
      rw [h1]
      decide
    · exact Or.inr h1.1
  · intro h3
    exact ((hG.2.2 b hb).2.2.2.1 h3).1
section M9
variable {X : am_X} {h : am_H} {o d : Nat} {u : mU} {z : Nat × Nat}
def qWt (S : Nat → Int32) (b : Nat) : Nat → Int32 := fun i => S (18 * b + (6 + i))
def qNT (S : Nat → Int32) (b : Nat) : Int64 := nbT (S (18 * b + 1)) (wN (S (18 * b + 3))) (qChance S b) (qWt S b)
def qNF (S : Nat → Int32) (b : Nat) : Int64 := nbF (S (18 * b + 1)) (wN (S (18 * b + 3))) (qChance S b) (qWt S b)
theorem qCh_ok {S : Nat → Int32} {b : Nat} (hG : qG S) (hb : b < wN (S 116)) : (∀ i, i < wN (S (18 * b + 3)) → qChance S b i = zI (wN (qChance S b i)) ∧ wN (qChance S b i) ≤ 100) ∧ fo (fun i x => x + ((wN (qChance S b i) : Nat) : Int)) 0 (wN (S (18 * b + 3))) 0 = 100 := by
  obtain ⟨-, -, -, -, -, -, hk, hi, hs1, hs2⟩ := hG.2.2 b hb
  have cast : ∀ (f : Nat → Nat) (k i : Nat) (x : Nat), fo (fun i (v : Int) => v + ((f i : Nat) : Int)) i k (x : Int) = ((fo (fun i v => v + f i) i k x : Nat) : Int) := by
    intro f k
    induction k with
    | zero => intros; rfl
    | succ k ih =>
      intro i x
      show fo _ (i + 1) k ((x : Int) + ((f i : Nat) : Int)) = _
      rw [← Int.natCast_add, ih]
      rfl
  have h0 := cast (fun i => wN (qChance S b i)) (wN (S (18 * b + 3))) 0 0
  by_cases e : S (18 * b + 5) < 0
  · have hq : ∀ i, qChance S b i = S (18 * b + (10 + i)) := fun i => by unfold qChance; rw [if_pos e]
    refine ⟨fun i h => ?_, ?_⟩
    · rw [hq]
      exact ((hi i h).2.1).z (by omega)
    · simp only [hq] at h0 ⊢
      rw [hs1] at h0
      exact h0
  · have hne : S (18 * b + 5) ≠ -4 := fun h1 => e (by rw [h1]; decide)
    by_cases e3 : S (90 + wN (S (18 * b + 5))) = zI 3
    · have hq : ∀ i, qChance S b i = S (18 * b + (14 + i)) := fun i => by unfold qChance; rw [if_neg e, if_pos e3]
      refine ⟨fun i h => ?_, ?_⟩
      · rw [hq]
        exact ((hi i h).2.2.2 hne).z (by omega)
      · simp only [hq] at h0 ⊢
        rw [hs2 hne] at h0
        exact h0
    · have hq : ∀ i, qChance S b i = S (18 * b + (10 + i)) := fun i => by unfold qChance; rw [if_neg e, if_neg e3]
      refine ⟨fun i h => ?_, ?_⟩
      · rw [hq]
        exact ((hi i h).2.1).z (by omega)
      · simp only [hq] at h0 ⊢
        rw [hs1] at h0
        exact h0
theorem qNb_ok {S : Nat → Int32} {b : Nat} (hG : qG S) (hb : b < wN (S 116)) : ∃ A B U V : Int, nbR (S (18 * b + 1)) (wN (S (18 * b + 3))) (qChance S b) (qWt S b) = (jI A, jI B, jI U, jI V) ∧ (-99900 ≤ U ∧ U ≤ 399600) ∧ (0 < V ∧ V ≤ 100) ∧ ∃ g : Int, nbC (S (18 * b + 1)) (wN (S (18 * b + 3))) (qChance S b) (qWt S b) = jI g ∧ 0 < g ∧ g < 4611686018427387904 := by
  obtain ⟨h1, h2⟩ := qCh_ok hG hb
  have hp := (hG.2.2 b hb).1.2.1.z (by omega)
  have hw := (hG.2.2 b hb).2.2.2.2.2.2.2.1
  exact nbC_ok hp.1 hp.2 (hG.n hb).2.2 h1 (fun i hi => ((hw i hi).1).z (by omega)) h2
theorem r_fn_l {b : Nat} (hG : qG (u.1 1)) (hq : qW (u.1 1)) (hb : b < wN (u.1 1 116)) : ∀ (k i : Nat) (s : Int64 × Int64 × Int64 × Int64), i + k = wN (u.1 1 (18 * b + 3)) → am_I X (am_f X (d + 2)) 235 28 [some (.ref o), some (.int (zI b)), some (.long s.1), none, some (.long s.2.1), none, some (.int (zI i)), none] [] (mH h o (mJ (mJ u 25 s.2.2.1) 26 s.2.2.2), z) = am_I X (am_f X (d + 2)) 235 124 [some (.ref o), some (.int (zI b)), some (.long (fo (q_nb (qChance (u.1 1) b) (qWt (u.1 1) b)) i k s).1), none, some (.long (fo (q_nb (qChance (u.1 1) b) (qWt (u.1 1) b)) i k s).2.1), none, some (.int (zI (wN (u.1 1 (18 * b + 3))))), none] [] (mH h o (mJ (mJ u 25 (fo (q_nb (qChance (u.1 1) b) (qWt (u.1 1) b)) i k s).2.2.1) 26 (fo (q_nb (qChance (u.1 1) b) (qWt (u.1 1) b)) i k s).2.2.2), z) := by
  have hm5 := hG.m.2
  have hb5 : b < 5 := by omega
  obtain ⟨hn, hn1, hn4⟩ := hG.n hb
  generalize wN (u.1 1 (18 * b + 3)) = n at hn hn1 hn4 ⊢
  intro k
  induction k with
  | zero =>
    intro i s hi
    rw [am_go dc_235_28]
    simp (disch := first | omega | exact ci_m | exact Nat.le_of_ble_eq_true rfl | (refine mF_lt ?_; omega)) only [own_235, am_go dc_235_0, J_ldc2, cj_12_217, am_go dc_235_3, J_aload_0, K_al, ld_0, am_go dc_235_4, J_iload_1, K_il, ld_1, am_go dc_235_5, J_iconst, c32_1, am_go dc_235_6, cv_12_79_12 own_235, JR_v, JR_0, JR_ite, ci1_r, am_go dc_235_9, J_i2l, am_go dc_235_10, J_lmul, am_go dc_235_11, J_lstore_2, st2_0, st2_1, st2_s, kl_i, kl_l, kl_r, kl_n, am_go dc_235_12, J_lconst, i64_0, am_go dc_235_13, J_lstore, am_go dc_235_15, am_go dc_235_16, am_go dc_235_17, J_putfield_i, J_putfield_l, J_putfield_r, ini_235, pk_12_219_12, am_go dc_235_20, am_go dc_235_21, am_go dc_235_22, pk_12_223_12, am_go dc_235_25, c32_0, am_go dc_235_26, J_istore, st1_0, st1_1, st1_s, J_iload, ld_6, am_go dc_235_30, am_go dc_235_31, am_go dc_235_32, cv_12_143_12 own_235, am_go dc_235_35, J_icmp_ge, am_go dc_235_38, J_lload_2, K_ll, ld_2, am_go dc_235_39, am_go dc_235_40, am_go dc_235_41, am_go dc_235_43, cv_12_195_12 own_235, am_go dc_235_46, am_go dc_235_47, am_go dc_235_48, am_go dc_235_49, am_go dc_235_51, cv_12_186_12 own_235, am_go dc_235_54, am_go dc_235_55, am_go dc_235_56, J_ladd, am_go dc_235_57, am_go dc_235_58, J_lload, ld_4, am_go dc_235_60, am_go dc_235_61, am_go dc_235_62, am_go dc_235_64, am_go dc_235_67, am_go dc_235_68, am_go dc_235_69, am_go dc_235_71, am_go dc_235_73, am_go dc_235_74, J_lcmp, am_go dc_235_75, J_if_eq, am_go dc_235_78, am_go dc_235_79, J_getfield, gf_r, fk_12_223_12, am_go dc_235_82, am_go dc_235_83, am_go dc_235_84, J_if_le, am_go dc_235_87, am_go dc_235_88, am_go dc_235_89, am_go dc_235_92, am_go dc_235_93, am_go dc_235_94, fk_12_219_12, am_go dc_235_97, am_go dc_235_99, am_go dc_235_100, am_go dc_235_101, J_if_gt, am_go dc_235_104, J_goto, am_go dc_235_107, am_go dc_235_108, am_go dc_235_109, am_go dc_235_112, am_go dc_235_113, am_go dc_235_115, am_go dc_235_118, J_iinc, pinc_go, am_go dc_235_121, am_go dc_235_125, am_go dc_235_128, am_go dc_235_129, am_go dc_235_132, cs_12_226 own_235, am_go dc_235_135, am_go dc_235_137, am_go dc_235_138, J_dup_i, J_dup_r, am_go dc_235_139, am_go dc_235_142, am_go dc_235_144, J_ldiv, am_go dc_235_145, am_go dc_235_148, am_go dc_235_149, am_go dc_235_150, am_go dc_235_153, am_go dc_235_155, am_go dc_235_156, am_go dc_235_159, J_ret_v ret_235, mH_o, mp_25, pf_l pk_12_219_12 rfl, mp_26, pf_l pk_12_223_12 rfl, mg_26, mg_25, zI_add, zI_mul, zI_lt, zI_le, zI_eq, zI_neg, zI_pos, zI_ne0, zI_gt0, zB_0, lg_cmp_ge, lg_cmp_le, lg_cmp_gt, lg_cmp_lt, lg_cmp_eq, ail_r, abl_r, all_r, ais_r, abs_r, als_r, mF_len, mS_s, mS_o, mS_2, mS_S, mI_1, mI_2, mI_s, mI_o, mI_3, mI_I, mJ_1, mJ_2, mJ_3, mJ_s, mJ_o, mJ_J, mL_1, mL_s, mL_o, mL_2, mJ_c, r_steps, hn, List.length_cons, List.length_nil, Nat.reduceAdd, Nat.reduceLT, Nat.reduceLeDiff, Nat.reduceEqDiff, ↓reduceIte, bind_s, if_true, if_false, not_true_eq_false, not_false_eq_true, Nat.zero_add]
    rw [if_pos (by omega)]
    have : i = n := by omega
    rw [this]
    rfl
  | succ k ih =>
    intro i s hi
    have hi4 : i < 4 := by omega
    have hcc := fun d (x y : Int64) => r_chance (X := X) (h := h) (o := o) (d := d) (u := mJ (mJ u 25 x) 26 y) (z := z) (b := b) (i := i) hq hb hi4
    rw [am_go dc_235_28]
    simp (disch := first | omega | exact ci_m | exact Nat.le_of_ble_eq_true rfl | (refine mF_lt ?_; omega)) only [own_235, am_go dc_235_0, J_ldc2, cj_12_217, am_go dc_235_3, J_aload_0, K_al, ld_0, am_go dc_235_4, J_iload_1, K_il, ld_1, am_go dc_235_5, J_iconst, c32_1, am_go dc_235_6, cv_12_79_12 own_235, JR_v, JR_0, JR_ite, ci1_r, am_go dc_235_9, J_i2l, am_go dc_235_10, J_lmul, am_go dc_235_11, J_lstore_2, st2_0, st2_1, st2_s, kl_i, kl_l, kl_r, kl_n, am_go dc_235_12, J_lconst, i64_0, am_go dc_235_13, J_lstore, am_go dc_235_15, am_go dc_235_16, am_go dc_235_17, J_putfield_i, J_putfield_l, J_putfield_r, ini_235, pk_12_219_12, am_go dc_235_20, am_go dc_235_21, am_go dc_235_22, pk_12_223_12, am_go dc_235_25, c32_0, am_go dc_235_26, J_istore, st1_0, st1_1, st1_s, J_iload, ld_6, am_go dc_235_30, am_go dc_235_31, am_go dc_235_32, cv_12_143_12 own_235, am_go dc_235_35, J_icmp_ge, am_go dc_235_38, J_lload_2, K_ll, ld_2, am_go dc_235_39, am_go dc_235_40, am_go dc_235_41, am_go dc_235_43, cv_12_195_12 own_235, am_go dc_235_46, am_go dc_235_47, am_go dc_235_48, am_go dc_235_49, am_go dc_235_51, cv_12_186_12 own_235, am_go dc_235_54, am_go dc_235_55, am_go dc_235_56, J_ladd, am_go dc_235_57, am_go dc_235_58, J_lload, ld_4, am_go dc_235_60, am_go dc_235_61, am_go dc_235_62, am_go dc_235_64, am_go dc_235_67, am_go dc_235_68, am_go dc_235_69, am_go dc_235_71, am_go dc_235_73, am_go dc_235_74, J_lcmp, am_go dc_235_75, J_if_eq, am_go dc_235_78, am_go dc_235_79, J_getfield, gf_r, fk_12_223_12, am_go dc_235_82, am_go dc_235_83, am_go dc_235_84, J_if_le, am_go dc_235_87, am_go dc_235_88, am_go dc_235_89, am_go dc_235_92, am_go dc_235_93, am_go dc_235_94, fk_12_219_12, am_go dc_235_97, am_go dc_235_99, am_go dc_235_100, am_go dc_235_101, J_if_gt, am_go dc_235_104, J_goto, am_go dc_235_107, am_go dc_235_108, am_go dc_235_109, am_go dc_235_112, am_go dc_235_113, am_go dc_235_115, am_go dc_235_118, J_iinc, pinc_go, am_go dc_235_121, am_go dc_235_125, am_go dc_235_128, am_go dc_235_129, am_go dc_235_132, cs_12_226 own_235, am_go dc_235_135, am_go dc_235_137, am_go dc_235_138, J_dup_i, J_dup_r, am_go dc_235_139, am_go dc_235_142, am_go dc_235_144, J_ldiv, am_go dc_235_145, am_go dc_235_148, am_go dc_235_149, am_go dc_235_150, am_go dc_235_153, am_go dc_235_155, am_go dc_235_156, am_go dc_235_159, J_ret_v ret_235, mH_o, mp_25, pf_l pk_12_219_12 rfl, mp_26, pf_l pk_12_223_12 rfl, mg_26, mg_25, zI_add, zI_mul, zI_lt, zI_le, zI_eq, zI_neg, zI_pos, zI_ne0, zI_gt0, zB_0, lg_cmp_ge, lg_cmp_le, lg_cmp_gt, lg_cmp_lt, lg_cmp_eq, ail_r, abl_r, all_r, ais_r, abs_r, als_r, mF_len, mS_s, mS_o, mS_2, mS_S, mI_1, mI_2, mI_s, mI_o, mI_3, mI_I, mJ_1, mJ_2, mJ_3, mJ_s, mJ_o, mJ_J, mL_1, mL_s, mL_o, mL_2, mJ_c, r_steps, hn, hcc, r_worth, List.length_cons, List.length_nil, Nat.reduceAdd, Nat.reduceLT, Nat.reduceLeDiff, Nat.reduceEqDiff, ↓reduceIte, bind_s, if_true, if_false, not_true_eq_false, not_false_eq_true, Nat.zero_add]
    rw [if_neg (by omega)]
    have ih' := ih (i + 1) (q_nb (qChance (u.1 1) b) (qWt (u.1 1) b) i s) (by omega)
    have e0 : fo (q_nb (qChance (u.1 1) b) (qWt (u.1 1) b)) i (k + 1) s = fo (q_nb (qChance (u.1 1) b) (qWt (u.1 1) b)) (i + 1) k (q_nb (qChance (u.1 1) b) (qWt (u.1 1) b) i s) := rfl
    rw [e0, ← ih']
    generalize fo (q_nb (qChance (u.1 1) b) (qWt (u.1 1) b)) (i + 1) k (q_nb (qChance (u.1 1) b) (qWt (u.1 1) b) i s) = r at *
    have ew : u.1 1 (18 * b + (6 + i)) = qWt (u.1 1) b i := rfl
    simp only [ew]
    unfold q_nb
    split
    · rfl
    · split
      · rfl
      · split <;> rfl
theorem r_findNumber {b : Nat} (hG : qG (u.1 1)) (hq : qW (u.1 1)) (hb : b < wN (u.1 1 116)) : am_f X (d + 3) 235 [.ref o, .int (zI b)] (mH h o u, z) = some (.inl none, (mH h o (mJ (mJ u 25 (qNT (u.1 1) b)) 26 (qNF (u.1 1) b)), z)) := by
  have hm5 := hG.m.2
  have hb5 : b < 5 := by omega
  obtain ⟨hn, hn1, hn4⟩ := hG.n hb
  rw [fU_235]
  simp (disch := first | omega | exact ci_m | exact Nat.le_of_ble_eq_true rfl | (refine mF_lt ?_; omega)) only [own_235, am_go dc_235_0, J_ldc2, cj_12_217, am_go dc_235_3, J_aload_0, K_al, ld_0, am_go dc_235_4, J_iload_1, K_il, ld_1, am_go dc_235_5, J_iconst, c32_1, am_go dc_235_6, cv_12_79_12 own_235, JR_v, JR_0, JR_ite, ci1_r, am_go dc_235_9, J_i2l, am_go dc_235_10, J_lmul, am_go dc_235_11, J_lstore_2, st2_0, st2_1, st2_s, kl_i, kl_l, kl_r, kl_n, am_go dc_235_12, J_lconst, i64_0, am_go dc_235_13, J_lstore, am_go dc_235_15, am_go dc_235_16, am_go dc_235_17, J_putfield_i, J_putfield_l, J_putfield_r, ini_235, pk_12_219_12, am_go dc_235_20, am_go dc_235_21, am_go dc_235_22, pk_12_223_12, am_go dc_235_25, c32_0, am_go dc_235_26, J_istore, st1_0, st1_1, st1_s, J_iload, ld_6, am_go dc_235_30, am_go dc_235_31, am_go dc_235_32, cv_12_143_12 own_235, am_go dc_235_35, J_icmp_ge, am_go dc_235_38, J_lload_2, K_ll, ld_2, am_go dc_235_39, am_go dc_235_40, am_go dc_235_41, am_go dc_235_43, cv_12_195_12 own_235, am_go dc_235_46, am_go dc_235_47, am_go dc_235_48, am_go dc_235_49, am_go dc_235_51, cv_12_186_12 own_235, am_go dc_235_54, am_go dc_235_55, am_go dc_235_56, J_ladd, am_go dc_235_57, am_go dc_235_58, J_lload, ld_4, am_go dc_235_60, am_go dc_235_61, am_go dc_235_62, am_go dc_235_64, am_go dc_235_67, am_go dc_235_68, am_go dc_235_69, am_go dc_235_71, am_go dc_235_73, am_go dc_235_74, J_lcmp, am_go dc_235_75, J_if_eq, am_go dc_235_78, am_go dc_235_79, J_getfield, gf_r, fk_12_223_12, am_go dc_235_82, am_go dc_235_83, am_go dc_235_84, J_if_le, am_go dc_235_87, am_go dc_235_88, am_go dc_235_89, am_go dc_235_92, am_go dc_235_93, am_go dc_235_94, fk_12_219_12, am_go dc_235_97, am_go dc_235_99, am_go dc_235_100, am_go dc_235_101, J_if_gt, am_go dc_235_104, J_goto, am_go dc_235_107, am_go dc_235_108, am_go dc_235_109, am_go dc_235_112, am_go dc_235_113, am_go dc_235_115, am_go dc_235_118, J_iinc, pinc_go, am_go dc_235_121, am_go dc_235_124, am_go dc_235_125, am_go dc_235_128, am_go dc_235_129, am_go dc_235_132, cs_12_226 own_235, am_go dc_235_135, am_go dc_235_137, am_go dc_235_138, J_dup_i, J_dup_r, am_go dc_235_139, am_go dc_235_142, am_go dc_235_144, J_ldiv, am_go dc_235_145, am_go dc_235_148, am_go dc_235_149, am_go dc_235_150, am_go dc_235_153, am_go dc_235_155, am_go dc_235_156, am_go dc_235_159, J_ret_v ret_235, mH_o, mp_25, pf_l pk_12_219_12 rfl, mp_26, pf_l pk_12_223_12 rfl, mg_26, mg_25, zI_add, zI_mul, zI_lt, zI_le, zI_eq, zI_neg, zI_pos, zI_ne0, zI_gt0, zB_0, lg_cmp_ge, lg_cmp_le, lg_cmp_gt, lg_cmp_lt, lg_cmp_eq, ail_r, abl_r, all_r, ais_r, abs_r, als_r, mF_len, mS_s, mS_o, mS_2, mS_S, mI_1, mI_2, mI_s, mI_o, mI_3, mI_I, mJ_1, mJ_2, mJ_3, mJ_s, mJ_o, mJ_J, mL_1, mL_s, mL_o, mL_2, mJ_c, r_of, List.length_cons, List.length_nil, Nat.reduceAdd, Nat.reduceLT, Nat.reduceLeDiff, Nat.reduceEqDiff, ↓reduceIte, bind_s, if_true, if_false, not_true_eq_false, not_false_eq_true, Nat.zero_add]
  have hl := r_fn_l (X := X) (h := h) (o := o) (d := d) (z := z) hG hq hb _ 0 ((-100) * (u.1 1 (18 * b + 1)).toInt64, 0, 0, 0) (Nat.zero_add _)
  refine Eq.trans hl ?_
  obtain ⟨A, B, U, V, hR, hU, hV, g, hg, hg0, hg1⟩ := qNb_ok hG hb
  have hcm := fun d σ => r_common (X := X) (d := d) (σ := σ) (a := U) (b := V) (by omega) (by omega) (by omega) (by omega)
  have hC : eu 128 (if 0 ≤ jI U then jI U else -jI U) (jI V) = jI g := by
    rw [← hg]
    unfold nbC
    rw [hR]
  have q1 : (jI g = 0) = False := by
    have := jI_eq (a := g) (b := 0) (by omega) (by omega) (by omega) (by omega)
    rw [show (0 : Int64) = jI 0 from rfl, this]
    simp
    omega
  show am_I X (am_f X (d + 2)) 235 124 [_, _, some (.long (nbR (u.1 1 (18 * b + 1)) (wN (u.1 1 (18 * b + 3))) (qChance (u.1 1) b) (qWt (u.1 1) b)).1), none, some (.long (nbR (u.1 1 (18 * b + 1)) (wN (u.1 1 (18 * b + 3))) (qChance (u.1 1) b) (qWt (u.1 1) b)).2.1), none, _, _] [] (mH h o (mJ (mJ u 25 (nbR (u.1 1 (18 * b + 1)) (wN (u.1 1 (18 * b + 3))) (qChance (u.1 1) b) (qWt (u.1 1) b)).2.2.1) 26 (nbR (u.1 1 (18 * b + 1)) (wN (u.1 1 (18 * b + 3))) (qChance (u.1 1) b) (qWt (u.1 1) b)).2.2.2), z) = _
  unfold qNT qNF nbT nbF
  rw [hg, hR, am_go dc_235_124]
  simp only
  simp (disch := first | omega | exact ci_m | exact Nat.le_of_ble_eq_true rfl | (refine mF_lt ?_; omega)) only [own_235, am_go dc_235_0, J_ldc2, cj_12_217, am_go dc_235_3, J_aload_0, K_al, ld_0, am_go dc_235_4, J_iload_1, K_il, ld_1, am_go dc_235_5, J_iconst, c32_1, am_go dc_235_6, cv_12_79_12 own_235, JR_v, JR_0, JR_ite, ci1_r, am_go dc_235_9, J_i2l, am_go dc_235_10, J_lmul, am_go dc_235_11, J_lstore_2, st2_0, st2_1, st2_s, kl_i, kl_l, kl_r, kl_n, am_go dc_235_12, J_lconst, i64_0, am_go dc_235_13, J_lstore, am_go dc_235_15, am_go dc_235_16, am_go dc_235_17, J_putfield_i, J_putfield_l, J_putfield_r, ini_235, pk_12_219_12, am_go dc_235_20, am_go dc_235_21, am_go dc_235_22, pk_12_223_12, am_go dc_235_25, c32_0, am_go dc_235_26, J_istore, st1_0, st1_1, st1_s, J_iload, ld_6, am_go dc_235_30, am_go dc_235_31, am_go dc_235_32, cv_12_143_12 own_235, am_go dc_235_35, J_icmp_ge, am_go dc_235_38, J_lload_2, K_ll, ld_2, am_go dc_235_39, am_go dc_235_40, am_go dc_235_41, am_go dc_235_43, cv_12_195_12 own_235, am_go dc_235_46, am_go dc_235_47, am_go dc_235_48, am_go dc_235_49, am_go dc_235_51, cv_12_186_12 own_235, am_go dc_235_54, am_go dc_235_55, am_go dc_235_56, J_ladd, am_go dc_235_57, am_go dc_235_58, J_lload, ld_4, am_go dc_235_60, am_go dc_235_61, am_go dc_235_62, am_go dc_235_64, am_go dc_235_67, am_go dc_235_68, am_go dc_235_69, am_go dc_235_71, am_go dc_235_73, am_go dc_235_74, J_lcmp, am_go dc_235_75, J_if_eq, am_go dc_235_78, am_go dc_235_79, J_getfield, gf_r, fk_12_223_12, am_go dc_235_82, am_go dc_235_83, am_go dc_235_84, J_if_le, am_go dc_235_87, am_go dc_235_88, am_go dc_235_89, am_go dc_235_92, am_go dc_235_93, am_go dc_235_94, fk_12_219_12, am_go dc_235_97, am_go dc_235_99, am_go dc_235_100, am_go dc_235_101, J_if_gt, am_go dc_235_104, J_goto, am_go dc_235_107, am_go dc_235_108, am_go dc_235_109, am_go dc_235_112, am_go dc_235_113, am_go dc_235_115, am_go dc_235_118, J_iinc, pinc_go, am_go dc_235_121, am_go dc_235_124, am_go dc_235_125, am_go dc_235_128, am_go dc_235_129, am_go dc_235_132, cs_12_226 own_235, am_go dc_235_135, am_go dc_235_137, am_go dc_235_138, J_dup_i, J_dup_r, am_go dc_235_139, am_go dc_235_142, am_go dc_235_144, J_ldiv, am_go dc_235_145, am_go dc_235_148, am_go dc_235_149, am_go dc_235_150, am_go dc_235_153, am_go dc_235_155, am_go dc_235_156, am_go dc_235_159, J_ret_v ret_235, mH_o, mp_25, pf_l pk_12_219_12 rfl, mp_26, pf_l pk_12_223_12 rfl, mg_26, mg_25, zI_add, zI_mul, zI_lt, zI_le, zI_eq, zI_neg, zI_pos, zI_ne0, zI_gt0, zB_0, lg_cmp_ge, lg_cmp_le, lg_cmp_gt, lg_cmp_lt, lg_cmp_eq, ail_r, abl_r, all_r, ais_r, abs_r, als_r, mF_len, mS_s, mS_o, mS_2, mS_S, mI_1, mI_2, mI_s, mI_o, mI_3, mI_I, mJ_1, mJ_2, mJ_3, mJ_s, mJ_o, mJ_J, mL_1, mL_s, mL_o, mL_2, mJ_c, hcm, hC, q1, List.length_cons, List.length_nil, Nat.reduceAdd, Nat.reduceLT, Nat.reduceLeDiff, Nat.reduceEqDiff, ↓reduceIte, bind_s, if_true, if_false, not_true_eq_false, not_false_eq_true, Nat.zero_add]
end M9
