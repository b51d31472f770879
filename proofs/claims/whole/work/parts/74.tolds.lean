/-! Told, settled: kin and worths -/
def tSm (T T' : mU × (Nat → Option Nat)) : Prop := T'.2 = T.2 ∧ (∀ j, j ≠ 4 → T'.1.1 j = T.1.1 j) ∧ (∀ j, j ≠ 5 → T'.1.2.2.1 j = T.1.2.2.1 j) ∧ T'.1.2.1 = T.1.2.1
theorem tSm.tr {T T' T'' : mU × (Nat → Option Nat)} (h1 : tSm T T') (h2 : tSm T' T'') : tSm T T'' :=
  ⟨h2.1.trans h1.1, fun j hj => (h2.2.1 j hj).trans (h1.2.1 j hj), fun j hj => (h2.2.2.1 j hj).trans (h1.2.2.1 j hj), h2.2.2.2.trans h1.2.2.2⟩
section SE
variable {X : am_X} {h : am_H} {t d : Nat} {T : mU × (Nat → Option Nat)} {z : Nat × Nat} {S : Nat → Int32}
theorem tH_x {q : Nat} (hq : q < t ∨ t + 8 ≤ q) : tH h t T q = h q := ov_x (fun k hk => by
  match k, hk with
  | 0, _ => omega
  | 1, _ => omega
  | 2, _ => omega
  | 3, _ => omega
  | 4, _ => omega
  | 5, _ => omega
  | 6, _ => omega
  | 7, _ => omega
  | k + 8, _ => rfl)
theorem isB.sepT {C : Nat → Prop} {a on : Nat} {bb : Nat × Nat × Nat × Nat} {id : Int32} {f g : Nat → Int32} (hB : isB h a bb id f on g) (hC : ∀ q, C q → q < t ∨ t + 8 ≤ q) (hi : bIn C a bb) : isB (tH h t T) a bb id f on g :=
  hB.fr (tH_x (hC _ hi.1)) (tH_x (hC _ hi.2.1)) (tH_x (hC _ hi.2.2.1)) (fun e => tH_x (hC _ (hi.2.2.2 e)))
theorem c_se1 {b a on : Nat} {bb : Nat × Nat × Nat × Nat} {id : Int32} {f g : Nat → Int32} (hB : ∀ T', isB (tH h t T') a bb id f on g) (hb : b < 5) (hw : ∀ i, i < wN (f 3) → 0 ≤ f (6 + i)) : ∀ (k i : Nat) (T : mU × (Nat → Option Nat)) (R : Nat), i + k = wN (f 3) → T.2 b = some a → wOk T R → R + k ≤ 21 → ∃ T' R', am_I X (am_f X (d + 2)) 20 87 [some (.ref t), some (.int (zI b)), some (.int (zI i)), some (.ref a)] [] (tH h t T, z) = am_I X (am_f X (d + 2)) 20 121 [some (.ref t), some (.int (zI b)), some (.int (zI (wN (f 3)))), some (.ref a)] [] (tH h t T', z) ∧ tSm T T' ∧ wOk T' R' ∧ R' ≤ R + k ∧ (∀ y, wHas T R y → wHas T' R' y) ∧ ∀ x, i ≤ x → x < wN (f 3) → wHas T' R' (f (6 + x)) := by
  intro k
  induction k with
  | zero =>
    intro i T R hi ha hW hR
    have hn := (hB T).n
    have hi' : i = wN (f 3) := by omega
    refine ⟨T, R, ?_, ⟨rfl, fun _ _ => rfl, fun _ _ => rfl, rfl⟩, hW, Nat.le_refl _, fun y hy => hy, fun x h1 h2 => by omega⟩
    rw [hi', am_go dc_20_87]
    simp (disch := first | omega | exact Nat.le_of_ble_eq_true rfl | exact tH_ci | (refine tF_lt ?_; omega)) only [own_20, am_go dc_20_0, J_aload_0, K_al, ld_0, am_go dc_20_1, J_getfield, gf_r, fk_1_21_1, am_go dc_20_4, J_bipush, i8_m4, am_go dc_20_6, cs_1_54 own_20, JR_v, JR_0, JR_ite, am_go dc_20_9, am_go dc_20_10, fk_1_34_1, am_go dc_20_13, am_go dc_20_15, am_go dc_20_18, am_go dc_20_19, J_iconst, c32_1, am_go dc_20_20, J_putfield_i, J_putfield_l, J_putfield_r, ini_20, pk_1_28_1, am_go dc_20_23, c32_0, am_go dc_20_24, J_istore_1, st1_0, st1_1, st1_s, kl_i, kl_l, kl_r, kl_n, J_iload_1, K_il, ld_1, am_go dc_20_26, am_go dc_20_27, fk_1_44_1, am_go dc_20_30, J_icmp_ge, am_go dc_20_33, am_go dc_20_34, fk_1_11_1, am_go dc_20_37, am_go dc_20_38, J_aaload, am_go dc_20_39, J_astore_3, am_go dc_20_40, J_aload_3, ld_3, am_go dc_20_41, am_go dc_20_44, J_if_eq, am_go dc_20_47, am_go dc_20_48, am_go dc_20_51, J_astore_2, am_go dc_20_52, am_go dc_20_53, am_go dc_20_56, J_aload_2, ld_2, am_go dc_20_57, am_go dc_20_60, am_go dc_20_61, J_iastore, am_go dc_20_62, am_go dc_20_63, am_go dc_20_66, am_go dc_20_67, am_go dc_20_68, am_go dc_20_71, am_go dc_20_72, am_go dc_20_75, c32_4, am_go dc_20_76, J_imul, am_go dc_20_77, am_go dc_20_78, am_go dc_20_81, J_alen, am_go dc_20_82, ca_1_68 own_20, am_go dc_20_85, am_go dc_20_86, J_istore_2, J_iload_2, am_go dc_20_88, am_go dc_20_89, am_go dc_20_92, am_go dc_20_93, am_go dc_20_94, ci1_r, am_go dc_20_97, am_go dc_20_100, am_go dc_20_101, am_go dc_20_102, am_go dc_20_105, am_go dc_20_106, am_go dc_20_107, am_go dc_20_110, am_go dc_20_111, J_iaload, am_go dc_20_112, cv_1_79_1 own_20, am_go dc_20_115, J_iinc, pinc_go, am_go dc_20_118, J_goto, am_go dc_20_124, am_go dc_20_128, am_go dc_20_130, am_go dc_20_131, am_go dc_20_134, am_go dc_20_137, am_go dc_20_138, am_go dc_20_140, am_go dc_20_141, am_go dc_20_144, am_go dc_20_145, am_go dc_20_146, am_go dc_20_149, am_go dc_20_152, am_go dc_20_153, fk_1_31_1, am_go dc_20_156, am_go dc_20_157, am_go dc_20_158, am_go dc_20_159, am_go dc_20_160, J_iadd, am_go dc_20_161, am_go dc_20_162, am_go dc_20_163, am_go dc_20_166, am_go dc_20_167, am_go dc_20_168, am_go dc_20_171, am_go dc_20_172, am_go dc_20_173, cv_1_83_1 own_20, am_go dc_20_176, am_go dc_20_177, am_go dc_20_180, am_go dc_20_184, am_go dc_20_185, am_go dc_20_186, cv_1_87_1 own_20, am_go dc_20_189, am_go dc_20_190, am_go dc_20_193, am_go dc_20_194, am_go dc_20_195, J_if_lt, am_go dc_20_198, am_go dc_20_199, am_go dc_20_200, am_go dc_20_201, am_go dc_20_204, am_go dc_20_207, am_go dc_20_210, J_ret_v ret_20, tg_3, tg_7, tp_5, pf_i pk_1_28_1 rfl, tg_1, tg_0, tg_6, tH_0, tH_1, tH_2, tH_3, tH_4, tH_5, tH_6, tH_7, tw_1, tw_2, tw_3, tw_4, tw_5, tw_6, tw_7, zI_add, zI_mul, zI_lt, zI_le, zI_eq, zI_neg, zI_pos, zI_ne0, zI_gt0, zB_0, lg_cmp_ge, lg_cmp_le, lg_cmp_gt, lg_cmp_lt, lg_cmp_eq, ail_r, abl_r, all_r, ais_r, abs_r, als_r, aal_r, aal_q, aln_r, vrf_s, vrf_n, z32, ha, vx_1_74 own_20 (hB T), List.length_cons, List.length_nil, Nat.reduceAdd, Nat.reduceLT, Nat.reduceLeDiff, Nat.reduceEqDiff, ↓reduceIte, bind_s, if_true, if_false, not_true_eq_false, not_false_eq_true, Nat.zero_add]
    rw [if_pos (Nat.le_refl _)]
  | succ k ih =>
    intro i T R hi ha hW hR
    have hn := (hB T).n
    have hi3 : i < wN (f 3) := by omega
    have hlt : ¬ wN (f 3) ≤ i := by omega
    have hww := fun x => (hB T).w (x := x) (i := i) hi3
    have haw := c_addWorth (X := X) (h := h) (t := t) (d := d) (z := z) (x := f (6 + i)) hW.1 (by omega)
    obtain ⟨R1, r1, r2, r3, r4, r5⟩ := tAw_ok hW (by omega) (hw i hi3)
    obtain ⟨T', R', s1, s2, s3, s4, s5, s6⟩ := ih (i + 1) (tAw T R (f (6 + i))) R1 (by omega) (by rw [tAw_2]; exact ha) r3 (by omega)
    refine ⟨T', R', Eq.trans ?_ s1, tSm.tr ⟨tAw_2, fun j hj => tAw_o hj, fun j hj => tAw_i hj, tAw_l⟩ s2, s3, by omega, fun y hy => s5 y (r5 y hy), fun x h1 h2 => ?_⟩
    · conv => lhs; rw [am_go dc_20_87]
      simp (disch := first | omega | exact Nat.le_of_ble_eq_true rfl | exact tH_ci | (refine tF_lt ?_; omega)) only [own_20, am_go dc_20_0, J_aload_0, K_al, ld_0, am_go dc_20_1, J_getfield, gf_r, fk_1_21_1, am_go dc_20_4, J_bipush, i8_m4, am_go dc_20_6, cs_1_54 own_20, JR_v, JR_0, JR_ite, am_go dc_20_9, am_go dc_20_10, fk_1_34_1, am_go dc_20_13, am_go dc_20_15, am_go dc_20_18, am_go dc_20_19, J_iconst, c32_1, am_go dc_20_20, J_putfield_i, J_putfield_l, J_putfield_r, ini_20, pk_1_28_1, am_go dc_20_23, c32_0, am_go dc_20_24, J_istore_1, st1_0, st1_1, st1_s, kl_i, kl_l, kl_r, kl_n, J_iload_1, K_il, ld_1, am_go dc_20_26, am_go dc_20_27, fk_1_44_1, am_go dc_20_30, J_icmp_ge, am_go dc_20_33, am_go dc_20_34, fk_1_11_1, am_go dc_20_37, am_go dc_20_38, J_aaload, am_go dc_20_39, J_astore_3, am_go dc_20_40, J_aload_3, ld_3, am_go dc_20_41, am_go dc_20_44, J_if_eq, am_go dc_20_47, am_go dc_20_48, am_go dc_20_51, J_astore_2, am_go dc_20_52, am_go dc_20_53, am_go dc_20_56, J_aload_2, ld_2, am_go dc_20_57, am_go dc_20_60, am_go dc_20_61, J_iastore, am_go dc_20_62, am_go dc_20_63, am_go dc_20_66, am_go dc_20_67, am_go dc_20_68, am_go dc_20_71, am_go dc_20_72, am_go dc_20_75, c32_4, am_go dc_20_76, J_imul, am_go dc_20_77, am_go dc_20_78, am_go dc_20_81, J_alen, am_go dc_20_82, ca_1_68 own_20, am_go dc_20_85, am_go dc_20_86, J_istore_2, J_iload_2, am_go dc_20_88, am_go dc_20_89, am_go dc_20_92, am_go dc_20_93, am_go dc_20_94, ci1_r, am_go dc_20_97, am_go dc_20_100, am_go dc_20_101, am_go dc_20_102, am_go dc_20_105, am_go dc_20_106, am_go dc_20_107, am_go dc_20_110, am_go dc_20_111, J_iaload, am_go dc_20_112, cv_1_79_1 own_20, am_go dc_20_115, J_iinc, pinc_go, am_go dc_20_118, J_goto, am_go dc_20_124, am_go dc_20_128, am_go dc_20_130, am_go dc_20_131, am_go dc_20_134, am_go dc_20_137, am_go dc_20_138, am_go dc_20_140, am_go dc_20_141, am_go dc_20_144, am_go dc_20_145, am_go dc_20_146, am_go dc_20_149, am_go dc_20_152, am_go dc_20_153, fk_1_31_1, am_go dc_20_156, am_go dc_20_157, am_go dc_20_158, am_go dc_20_159, am_go dc_20_160, J_iadd, am_go dc_20_161, am_go dc_20_162, am_go dc_20_163, am_go dc_20_166, am_go dc_20_167, am_go dc_20_168, am_go dc_20_171, am_go dc_20_172, am_go dc_20_173, cv_1_83_1 own_20, am_go dc_20_176, am_go dc_20_177, am_go dc_20_180, am_go dc_20_184, am_go dc_20_185, am_go dc_20_186, cv_1_87_1 own_20, am_go dc_20_189, am_go dc_20_190, am_go dc_20_193, am_go dc_20_194, am_go dc_20_195, J_if_lt, am_go dc_20_198, am_go dc_20_199, am_go dc_20_200, am_go dc_20_201, am_go dc_20_204, am_go dc_20_207, am_go dc_20_210, J_ret_v ret_20, tg_3, tg_7, tp_5, pf_i pk_1_28_1 rfl, tg_1, tg_0, tg_6, tH_0, tH_1, tH_2, tH_3, tH_4, tH_5, tH_6, tH_7, tw_1, tw_2, tw_3, tw_4, tw_5, tw_6, tw_7, zI_add, zI_mul, zI_lt, zI_le, zI_eq, zI_neg, zI_pos, zI_ne0, zI_gt0, zB_0, lg_cmp_ge, lg_cmp_le, lg_cmp_gt, lg_cmp_lt, lg_cmp_eq, ail_r, abl_r, all_r, ais_r, abs_r, als_r, aal_r, aal_q, aln_r, vrf_s, vrf_n, z32, ha, vx_1_74 own_20 (hB T), bf_1_78 (hB T), hww, haw, hlt, List.length_cons, List.length_nil, Nat.reduceAdd, Nat.reduceLT, Nat.reduceLeDiff, Nat.reduceEqDiff, ↓reduceIte, bind_s, if_true, if_false, not_true_eq_false, not_false_eq_true, Nat.zero_add]
    · by_cases e : x = i
      · rw [e]
        exact s5 _ r4
      · exact s6 x (by omega) h2
/-- the kin told of, up to box i -/
def kI (T : mU × (Nat → Option Nat)) (S : Nat → Int32) (i : Nat) : Prop := ∀ j, j < wN (S 116) → T.1.1 3 j = (if ¬ S (18 * j + 5) < 0 ∧ wN (S (18 * j + 5)) < i then S (18 * j + 5) else -4) ∧ ∀ x, x < wN (S (18 * j + 3)) → T.1.1 7 (4 * j + x) = (if ¬ S (18 * j + 5) < 0 ∧ wN (S (18 * j + 5)) < i then S (18 * j + (14 + x)) else -4)
def sI (T0 T : mU × (Nat → Option Nat)) (S : Nat → Int32) (R i : Nat) : Prop := T.2 = T0.2 ∧ (∀ j, j ≠ 5 → T.1.2.2.1 j = T0.1.2.2.1 j) ∧ wOk T R ∧ R ≤ 1 + 4 * i ∧ (∀ b x, b < i → x < wN (S (18 * b + 3)) → wHas T R (S (18 * b + (6 + x)))) ∧ kI T S i
def bxs (h : am_H) (t : Nat) (T : mU × (Nat → Option Nat)) (S : Nat → Int32) : Prop := ∀ b, b < wN (S 116) → ∃ a bb, T.2 b = some a ∧ ∀ T', isB (tH h t T') a bb (zI b) (qRow S b) (qON S b) (qOG S b)
theorem m4_neg : (-4 : Int32) < 0 := by decide
/-- no box but the one linked is told of by box i -/
theorem kI_o {i j : Nat} (hG : qG S) (hj : j < wN (S 116)) (hne : S (18 * i) = zI 4 → S (18 * i + 4) ≠ zI j) : (¬ S (18 * j + 5) < 0 ∧ wN (S (18 * j + 5)) < i + 1) ↔ (¬ S (18 * j + 5) < 0 ∧ wN (S (18 * j + 5)) < i) := by
  rcases (hG.2.2 j hj).2.2.2.2.2.2.1 with e | ⟨h1, h2, h3, h4, h5, h6⟩
  · rw [e]
    simp [m4_neg]
  · constructor
    · rintro ⟨g1, g2⟩
      refine ⟨g1, ?_⟩
      by_cases c : wN (S (18 * j + 5)) = i
      · rw [c] at h4 h5
        exact absurd h5 (hne h4)
      · omega
    · rintro ⟨g1, g2⟩
      exact ⟨g1, by omega⟩
theorem kI_n {i : Nat} (hG : qG S) (hk : kI T S i) (hne : S (18 * i) ≠ zI 4) : kI T S (i + 1) := by
  intro j hj
  have := kI_o (i := i) hG hj (fun e => absurd e hne)
  simp only [this]
  exact hk j hj
theorem kI_y {i L on : Nat} {e : Nat → Int32} (hG : qG S) (hi : i < wN (S 116)) (hk : kI T S i) (h4 : S (18 * i) = zI 4) (hL : S (18 * i + 4) = zI L) (hL4 : L ≤ 4) (hLi : L < i) (h5 : S (18 * L + 5) = zI i) (hon : on = wN (S (18 * L + 3))) (he : ∀ x, x < on → e x = S (18 * L + (14 + x))) : kI (mS (mS T.1 3 (upd (T.1.1 3) L (zI i))) 7 (va_cpy e (T.1.1 7) 0 (4 * L) on), T.2) S (i + 1) := by
  have hm5 := hG.m.2
  intro j hj
  have e3 : (mS (mS T.1 3 (upd (T.1.1 3) L (zI i))) 7 (va_cpy e (T.1.1 7) 0 (4 * L) on)).1 3 = upd (T.1.1 3) L (zI i) := rfl
  have e7 : (mS (mS T.1 3 (upd (T.1.1 3) L (zI i))) 7 (va_cpy e (T.1.1 7) 0 (4 * L) on)).1 7 = va_cpy e (T.1.1 7) 0 (4 * L) on := rfl
  simp only [e3, e7]
  have hnj := (hG.n hj).2.2
  have hnL := (hG.n (show L < wN (S 116) by omega)).2.2
  by_cases c : j = L
  · subst c
    have hc : ¬ S (18 * j + 5) < 0 ∧ wN (S (18 * j + 5)) < i + 1 := by
      rw [h5, wN_zI (by omega), zI_neg (by omega)]
      exact ⟨id, by omega⟩
    simp only [if_pos hc]
    refine ⟨by rw [upd_s, h5], fun x hx => ?_⟩
    unfold va_cpy
    rw [if_pos (by omega), ← he x (by omega)]
    congr 1
    omega
  · have := kI_o (i := i) hG hj (fun _ e2 => c (by
      rw [hL, zI_eq (by omega) (by omega)] at e2
      exact e2.symm))
    simp only [this]
    refine ⟨by rw [upd_o c]; exact (hk j hj).1, fun x hx => ?_⟩
    unfold va_cpy
    rw [if_neg (by omega)]
    exact (hk j hj).2 x hx
theorem c_se2 {T0 : mU × (Nat → Option Nat)} (hG : qG S) (hbx : bxs h t T0 S) (hsz : T0.1.2.2.1 1 = S 116) : ∀ (k i : Nat) (T : mU × (Nat → Option Nat)) (R : Nat) (v2 v3 : Option Value), i + k = wN (S 116) → sI T0 T S R i → ∃ T' R' v2' v3', am_I X (am_f X (d + 2)) 20 25 [some (.ref t), some (.int (zI i)), v2, v3] [] (tH h t T, z) = am_I X (am_f X (d + 2)) 20 127 [some (.ref t), some (.int (zI (wN (S 116)))), v2', v3'] [] (tH h t T', z) ∧ sI T0 T' S R' (wN (S 116)) := by
  have hm := hG.m
  intro k
  induction k with
  | zero =>
    intro i T R v2 v3 hi hS
    have hi' : i = wN (S 116) := by omega
    have hsz' : T.1.2.2.1 1 = zI (wN (S 116)) := by rw [hS.2.1 1 (by decide), hsz]; exact hm.1
    subst hi'
    refine ⟨T, R, v2, v3, ?_, hS⟩
    rw [am_go dc_20_25]
    simp (disch := first | omega | exact Nat.le_of_ble_eq_true rfl | exact tH_ci | (refine tF_lt ?_; omega)) only [own_20, am_go dc_20_0, J_aload_0, K_al, ld_0, am_go dc_20_1, J_getfield, gf_r, fk_1_21_1, am_go dc_20_4, J_bipush, i8_m4, am_go dc_20_6, cs_1_54 own_20, JR_v, JR_0, JR_ite, am_go dc_20_9, am_go dc_20_10, fk_1_34_1, am_go dc_20_13, am_go dc_20_15, am_go dc_20_18, am_go dc_20_19, J_iconst, c32_1, am_go dc_20_20, J_putfield_i, J_putfield_l, J_putfield_r, ini_20, pk_1_28_1, am_go dc_20_23, c32_0, am_go dc_20_24, J_istore_1, st1_0, st1_1, st1_s, kl_i, kl_l, kl_r, kl_n, J_iload_1, K_il, ld_1, am_go dc_20_26, am_go dc_20_27, fk_1_44_1, am_go dc_20_30, J_icmp_ge, am_go dc_20_33, am_go dc_20_34, fk_1_11_1, am_go dc_20_37, am_go dc_20_38, J_aaload, am_go dc_20_39, J_astore_3, am_go dc_20_40, J_aload_3, ld_3, am_go dc_20_41, am_go dc_20_44, J_if_eq, am_go dc_20_47, am_go dc_20_48, am_go dc_20_51, J_astore_2, am_go dc_20_52, am_go dc_20_53, am_go dc_20_56, J_aload_2, ld_2, am_go dc_20_57, am_go dc_20_60, am_go dc_20_61, J_iastore, am_go dc_20_62, am_go dc_20_63, am_go dc_20_66, am_go dc_20_67, am_go dc_20_68, am_go dc_20_71, am_go dc_20_72, am_go dc_20_75, c32_4, am_go dc_20_76, J_imul, am_go dc_20_77, am_go dc_20_78, am_go dc_20_81, J_alen, am_go dc_20_82, ca_1_68 own_20, am_go dc_20_85, am_go dc_20_86, J_istore_2, J_iload_2, am_go dc_20_88, am_go dc_20_89, am_go dc_20_92, am_go dc_20_93, am_go dc_20_94, ci1_r, am_go dc_20_97, am_go dc_20_100, am_go dc_20_101, am_go dc_20_102, am_go dc_20_105, am_go dc_20_106, am_go dc_20_107, am_go dc_20_110, am_go dc_20_111, J_iaload, am_go dc_20_112, cv_1_79_1 own_20, am_go dc_20_115, J_iinc, pinc_go, am_go dc_20_118, J_goto, am_go dc_20_124, am_go dc_20_128, am_go dc_20_130, am_go dc_20_131, am_go dc_20_134, am_go dc_20_137, am_go dc_20_138, am_go dc_20_140, am_go dc_20_141, am_go dc_20_144, am_go dc_20_145, am_go dc_20_146, am_go dc_20_149, am_go dc_20_152, am_go dc_20_153, fk_1_31_1, am_go dc_20_156, am_go dc_20_157, am_go dc_20_158, am_go dc_20_159, am_go dc_20_160, J_iadd, am_go dc_20_161, am_go dc_20_162, am_go dc_20_163, am_go dc_20_166, am_go dc_20_167, am_go dc_20_168, am_go dc_20_171, am_go dc_20_172, am_go dc_20_173, cv_1_83_1 own_20, am_go dc_20_176, am_go dc_20_177, am_go dc_20_180, am_go dc_20_184, am_go dc_20_185, am_go dc_20_186, cv_1_87_1 own_20, am_go dc_20_189, am_go dc_20_190, am_go dc_20_193, am_go dc_20_194, am_go dc_20_195, J_if_lt, am_go dc_20_198, am_go dc_20_199, am_go dc_20_200, am_go dc_20_201, am_go dc_20_204, am_go dc_20_207, am_go dc_20_210, J_ret_v ret_20, tg_3, tg_7, tp_5, pf_i pk_1_28_1 rfl, tg_1, tg_0, tg_6, tH_0, tH_1, tH_2, tH_3, tH_4, tH_5, tH_6, tH_7, tw_1, tw_2, tw_3, tw_4, tw_5, tw_6, tw_7, zI_add, zI_mul, zI_lt, zI_le, zI_eq, zI_neg, zI_pos, zI_ne0, zI_gt0, zB_0, lg_cmp_ge, lg_cmp_le, lg_cmp_gt, lg_cmp_lt, lg_cmp_eq, ail_r, abl_r, all_r, ais_r, abs_r, als_r, aal_r, aal_q, aln_r, vrf_s, vrf_n, z32, hsz', List.length_cons, List.length_nil, Nat.reduceAdd, Nat.reduceLT, Nat.reduceLeDiff, Nat.reduceEqDiff, ↓reduceIte, bind_s, if_true, if_false, not_true_eq_false, not_false_eq_true, Nat.zero_add]
    rw [if_pos (Nat.le_refl _)]
  | succ k ih =>
    intro i T R v2 v3 hi hS
    have him : i < wN (S 116) := by omega
    have hi5 : i < 5 := by omega
    have hlt : ¬ wN (S 116) ≤ i := by omega
    obtain ⟨hS1, hS2, hS3, hS4, hS5, hS6⟩ := hS
    have hsz' : T.1.2.2.1 1 = zI (wN (S 116)) := by rw [hS2 1 (by decide), hsz]; exact hm.1
    obtain ⟨a, bb, ha, hB⟩ := hbx i him
    rw [← hS1] at ha
    have hk20 : am_kk (am_own 20) 60 = some 10 := by rw [own_20]; exact kk_1_60
    obtain ⟨hn, hn1, hn4⟩ := hG.n him
    have hrow := (hG.2.2 i him).2.2.2.2.2.2.2.1
    -- up to the worths
    obtain ⟨T1, g1, g2, g3, g4, g5, g6⟩ : ∃ T1, am_I X (am_f X (d + 2)) 20 25 [some (.ref t), some (.int (zI i)), v2, v3] [] (tH h t T, z) = am_I X (am_f X (d + 2)) 20 87 [some (.ref t), some (.int (zI i)), some (.int (zI 0)), some (.ref a)] [] (tH h t T1, z) ∧ T1.2 = T.2 ∧ T1.1.2.2.1 = T.1.2.2.1 ∧ T1.1.1 4 = T.1.1 4 ∧ T1.1.2.1 = T.1.2.1 ∧ kI T1 S (i + 1) := by
      by_cases h4 : S (18 * i) = zI 4
      · have h4' : qRow S i 0 = zI 4 := h4
        obtain ⟨hl1, hl2, hl3⟩ := (hG.2.2 i him).2.2.2.2.1 h4
        obtain ⟨hl4, hl5⟩ := hl1.z (by omega)
        obtain ⟨on4, e, he, heq⟩ := (hB (mS T.1 3 (upd (T.1.1 3) (wN (S (18 * i + 4))) (zI i)), T.2)).o h4'
        have hL' : qRow S i 4 = zI (wN (S (18 * i + 4))) := hl4
        have hky := kI_y (T := T) (e := e) (on := qON S i) hG him hS6 h4 hl4 hl5 hl2 hl3 rfl heq
        have b62 := fun T' => bk_1_62 (hB T') h4'
        have b65 := fun T' => bk_1_65 (hB T') h4'
        generalize wN (S (18 * i + 4)) = L at *
        refine ⟨(mS (mS T.1 3 (upd (T.1.1 3) L (zI i))) 7 (va_cpy e (T.1.1 7) 0 (4 * L) (qON S i)), T.2), ?_, rfl, rfl, rfl, rfl, hky⟩
        rw [am_go dc_20_25]
        simp (disch := first | omega | exact Nat.le_of_ble_eq_true rfl | exact tH_ci | (refine tF_lt ?_; omega)) only [own_20, am_go dc_20_0, J_aload_0, K_al, ld_0, am_go dc_20_1, J_getfield, gf_r, fk_1_21_1, am_go dc_20_4, J_bipush, i8_m4, am_go dc_20_6, cs_1_54 own_20, JR_v, JR_0, JR_ite, am_go dc_20_9, am_go dc_20_10, fk_1_34_1, am_go dc_20_13, am_go dc_20_15, am_go dc_20_18, am_go dc_20_19, J_iconst, c32_1, am_go dc_20_20, J_putfield_i, J_putfield_l, J_putfield_r, ini_20, pk_1_28_1, am_go dc_20_23, c32_0, am_go dc_20_24, J_istore_1, st1_0, st1_1, st1_s, kl_i, kl_l, kl_r, kl_n, J_iload_1, K_il, ld_1, am_go dc_20_26, am_go dc_20_27, fk_1_44_1, am_go dc_20_30, J_icmp_ge, am_go dc_20_33, am_go dc_20_34, fk_1_11_1, am_go dc_20_37, am_go dc_20_38, J_aaload, am_go dc_20_39, J_astore_3, am_go dc_20_40, J_aload_3, ld_3, am_go dc_20_41, am_go dc_20_44, J_if_eq, am_go dc_20_47, am_go dc_20_48, am_go dc_20_51, J_astore_2, am_go dc_20_52, am_go dc_20_53, am_go dc_20_56, J_aload_2, ld_2, am_go dc_20_57, am_go dc_20_60, am_go dc_20_61, J_iastore, am_go dc_20_62, am_go dc_20_63, am_go dc_20_66, am_go dc_20_67, am_go dc_20_68, am_go dc_20_71, am_go dc_20_72, am_go dc_20_75, c32_4, am_go dc_20_76, J_imul, am_go dc_20_77, am_go dc_20_78, am_go dc_20_81, J_alen, am_go dc_20_82, ca_1_68 own_20, am_go dc_20_85, am_go dc_20_86, J_istore_2, J_iload_2, am_go dc_20_88, am_go dc_20_89, am_go dc_20_92, am_go dc_20_93, am_go dc_20_94, ci1_r, am_go dc_20_97, am_go dc_20_100, am_go dc_20_101, am_go dc_20_102, am_go dc_20_105, am_go dc_20_106, am_go dc_20_107, am_go dc_20_110, am_go dc_20_111, J_iaload, am_go dc_20_112, cv_1_79_1 own_20, am_go dc_20_115, J_iinc, pinc_go, am_go dc_20_118, J_goto, am_go dc_20_124, am_go dc_20_128, am_go dc_20_130, am_go dc_20_131, am_go dc_20_134, am_go dc_20_137, am_go dc_20_138, am_go dc_20_140, am_go dc_20_141, am_go dc_20_144, am_go dc_20_145, am_go dc_20_146, am_go dc_20_149, am_go dc_20_152, am_go dc_20_153, fk_1_31_1, am_go dc_20_156, am_go dc_20_157, am_go dc_20_158, am_go dc_20_159, am_go dc_20_160, J_iadd, am_go dc_20_161, am_go dc_20_162, am_go dc_20_163, am_go dc_20_166, am_go dc_20_167, am_go dc_20_168, am_go dc_20_171, am_go dc_20_172, am_go dc_20_173, cv_1_83_1 own_20, am_go dc_20_176, am_go dc_20_177, am_go dc_20_180, am_go dc_20_184, am_go dc_20_185, am_go dc_20_186, cv_1_87_1 own_20, am_go dc_20_189, am_go dc_20_190, am_go dc_20_193, am_go dc_20_194, am_go dc_20_195, J_if_lt, am_go dc_20_198, am_go dc_20_199, am_go dc_20_200, am_go dc_20_201, am_go dc_20_204, am_go dc_20_207, am_go dc_20_210, J_ret_v ret_20, tg_3, tg_7, tp_5, pf_i pk_1_28_1 rfl, tg_1, tg_0, tg_6, tH_0, tH_1, tH_2, tH_3, tH_4, tH_5, tH_6, tH_7, tw_1, tw_2, tw_3, tw_4, tw_5, tw_6, tw_7, zI_add, zI_mul, zI_lt, zI_le, zI_eq, zI_neg, zI_pos, zI_ne0, zI_gt0, zB_0, lg_cmp_ge, lg_cmp_le, lg_cmp_gt, lg_cmp_lt, lg_cmp_eq, ail_r, abl_r, all_r, ais_r, abs_r, als_r, aal_r, aal_q, aln_r, vrf_s, vrf_n, z32, hsz', ha, hlt, J_kin hk20 (hB T), h4', decide_true, J_castk hk20 (hB T) h4', b62, b65, hL', he, cpy_r, Nat.mul_comm L 4, Bool.true_eq_false, mS_s, mS_o, mS_2, mI_1, mI_2, mI_s, mI_o, mI_I, mS_S, List.length_cons, List.length_nil, Nat.reduceAdd, Nat.reduceLT, Nat.reduceLeDiff, Nat.reduceEqDiff, ↓reduceIte, bind_s, if_true, if_false, not_true_eq_false, not_false_eq_true, Nat.zero_add]
      · have h4' : ¬ qRow S i 0 = zI 4 := h4
        refine ⟨T, ?_, rfl, rfl, rfl, rfl, kI_n hG hS6 h4⟩
        rw [am_go dc_20_25]
        simp (disch := first | omega | exact Nat.le_of_ble_eq_true rfl | exact tH_ci | (refine tF_lt ?_; omega)) only [own_20, am_go dc_20_0, J_aload_0, K_al, ld_0, am_go dc_20_1, J_getfield, gf_r, fk_1_21_1, am_go dc_20_4, J_bipush, i8_m4, am_go dc_20_6, cs_1_54 own_20, JR_v, JR_0, JR_ite, am_go dc_20_9, am_go dc_20_10, fk_1_34_1, am_go dc_20_13, am_go dc_20_15, am_go dc_20_18, am_go dc_20_19, J_iconst, c32_1, am_go dc_20_20, J_putfield_i, J_putfield_l, J_putfield_r, ini_20, pk_1_28_1, am_go dc_20_23, c32_0, am_go dc_20_24, J_istore_1, st1_0, st1_1, st1_s, kl_i, kl_l, kl_r, kl_n, J_iload_1, K_il, ld_1, am_go dc_20_26, am_go dc_20_27, fk_1_44_1, am_go dc_20_30, J_icmp_ge, am_go dc_20_33, am_go dc_20_34, fk_1_11_1, am_go dc_20_37, am_go dc_20_38, J_aaload, am_go dc_20_39, J_astore_3, am_go dc_20_40, J_aload_3, ld_3, am_go dc_20_41, am_go dc_20_44, J_if_eq, am_go dc_20_47, am_go dc_20_48, am_go dc_20_51, J_astore_2, am_go dc_20_52, am_go dc_20_53, am_go dc_20_56, J_aload_2, ld_2, am_go dc_20_57, am_go dc_20_60, am_go dc_20_61, J_iastore, am_go dc_20_62, am_go dc_20_63, am_go dc_20_66, am_go dc_20_67, am_go dc_20_68, am_go dc_20_71, am_go dc_20_72, am_go dc_20_75, c32_4, am_go dc_20_76, J_imul, am_go dc_20_77, am_go dc_20_78, am_go dc_20_81, J_alen, am_go dc_20_82, ca_1_68 own_20, am_go dc_20_85, am_go dc_20_86, J_istore_2, J_iload_2, am_go dc_20_88, am_go dc_20_89, am_go dc_20_92, am_go dc_20_93, am_go dc_20_94, ci1_r, am_go dc_20_97, am_go dc_20_100, am_go dc_20_101, am_go dc_20_102, am_go dc_20_105, am_go dc_20_106, am_go dc_20_107, am_go dc_20_110, am_go dc_20_111, J_iaload, am_go dc_20_112, cv_1_79_1 own_20, am_go dc_20_115, J_iinc, pinc_go, am_go dc_20_118, J_goto, am_go dc_20_124, am_go dc_20_128, am_go dc_20_130, am_go dc_20_131, am_go dc_20_134, am_go dc_20_137, am_go dc_20_138, am_go dc_20_140, am_go dc_20_141, am_go dc_20_144, am_go dc_20_145, am_go dc_20_146, am_go dc_20_149, am_go dc_20_152, am_go dc_20_153, fk_1_31_1, am_go dc_20_156, am_go dc_20_157, am_go dc_20_158, am_go dc_20_159, am_go dc_20_160, J_iadd, am_go dc_20_161, am_go dc_20_162, am_go dc_20_163, am_go dc_20_166, am_go dc_20_167, am_go dc_20_168, am_go dc_20_171, am_go dc_20_172, am_go dc_20_173, cv_1_83_1 own_20, am_go dc_20_176, am_go dc_20_177, am_go dc_20_180, am_go dc_20_184, am_go dc_20_185, am_go dc_20_186, cv_1_87_1 own_20, am_go dc_20_189, am_go dc_20_190, am_go dc_20_193, am_go dc_20_194, am_go dc_20_195, J_if_lt, am_go dc_20_198, am_go dc_20_199, am_go dc_20_200, am_go dc_20_201, am_go dc_20_204, am_go dc_20_207, am_go dc_20_210, J_ret_v ret_20, tg_3, tg_7, tp_5, pf_i pk_1_28_1 rfl, tg_1, tg_0, tg_6, tH_0, tH_1, tH_2, tH_3, tH_4, tH_5, tH_6, tH_7, tw_1, tw_2, tw_3, tw_4, tw_5, tw_6, tw_7, zI_add, zI_mul, zI_lt, zI_le, zI_eq, zI_neg, zI_pos, zI_ne0, zI_gt0, zB_0, lg_cmp_ge, lg_cmp_le, lg_cmp_gt, lg_cmp_lt, lg_cmp_eq, ail_r, abl_r, all_r, ais_r, abs_r, als_r, aal_r, aal_q, aln_r, vrf_s, vrf_n, z32, hsz', ha, hlt, J_kin hk20 (hB T), h4', decide_false, mS_s, mS_o, mS_2, mI_1, mI_2, mI_s, mI_o, mI_I, mS_S, List.length_cons, List.length_nil, Nat.reduceAdd, Nat.reduceLT, Nat.reduceLeDiff, Nat.reduceEqDiff, ↓reduceIte, bind_s, if_true, if_false, not_true_eq_false, not_false_eq_true, Nat.zero_add]
    have hW1 : wOk T1 R := by
      unfold wOk
      rw [g3, g4]
      exact hS3
    obtain ⟨T2, R2, s1, s2, s3, s4, s5, s6⟩ := c_se1 (X := X) (d := d) (z := z) hB hi5 (fun x hx => by
      obtain ⟨q1, q2⟩ := (hrow x hx).1.z (by omega)
      show 0 ≤ S (18 * i + (6 + x))
      rw [q1]
      exact Int32.not_lt.mp (by rw [zI_neg (by omega)]; exact id)) (wN (S (18 * i + 3))) 0 T1 R (Nat.zero_add _) (by rw [g2]; exact ha) hW1 (by omega)
    have hh1 : ∀ y, wHas T R y → wHas T1 R y := fun y hy => by
      unfold wHas
      rw [g4]
      exact hy
    have hsI : sI T0 T2 S R2 (i + 1) := by
      refine ⟨(s2.1.trans g2).trans hS1, fun j hj => ?_, s3, by omega, fun b x hb hx => ?_, fun j hj => ?_⟩
      · rw [s2.2.2.1 j hj, g3]
        exact hS2 j hj
      · by_cases c : b = i
        · subst c
          exact s6 x (Nat.zero_le _) hx
        · exact s5 _ (hh1 _ (hS5 b x (by omega) hx))
      · rw [s2.2.1 3 (by decide), s2.2.1 7 (by decide)]
        exact g6 j hj
    obtain ⟨T', R', v2', v3', w1, w2⟩ := ih (i + 1) T2 R2 (some (.int (zI (wN (S (18 * i + 3)))))) (some (.ref a)) (by omega) hsI
    refine ⟨T', R', v2', v3', ?_, w2⟩
    refine Eq.trans g1 (Eq.trans s1 (Eq.trans ?_ w1))
    rw [am_go dc_20_121]
    simp (disch := first | omega | exact Nat.le_of_ble_eq_true rfl | exact tH_ci | (refine tF_lt ?_; omega)) only [own_20, J_iinc, pinc_go, ld_1, c32_1, st1_0, st1_1, st1_s, kl_i, kl_l, kl_r, kl_n, am_go dc_20_124, J_goto, tg_3, tg_7, tp_5, pf_i pk_1_28_1 rfl, tg_1, tg_0, tg_6, tH_0, tH_1, tH_2, tH_3, tH_4, tH_5, tH_6, tH_7, tw_1, tw_2, tw_3, tw_4, tw_5, tw_6, tw_7, zI_add, zI_mul, zI_lt, zI_le, zI_eq, zI_neg, zI_pos, zI_ne0, zI_gt0, zB_0, lg_cmp_ge, lg_cmp_le, lg_cmp_gt, lg_cmp_lt, lg_cmp_eq, ail_r, abl_r, all_r, ais_r, abs_r, als_r, aal_r, aal_q, aln_r, vrf_s, vrf_n, z32, List.length_cons, List.length_nil, Nat.reduceAdd, Nat.reduceLT, Nat.reduceLeDiff, Nat.reduceEqDiff, ↓reduceIte, bind_s, if_true, if_false, not_true_eq_false, not_false_eq_true, Nat.zero_add]
    rfl
end SE
