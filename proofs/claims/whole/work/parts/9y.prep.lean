/-! Street: prepare -/
def wSe (C : Nat → Prop) (w t sA mA : Nat) : Prop := ∀ x, (t ≤ x ∧ x < t + 8) ∨ C x → wK w x ∧ x ≠ sA ∧ x ≠ mA
def stOk (C : Nat → Prop) (h : am_H) (w t sA sN mA mN : Nat) (T : mU × (Nat → Option Nat)) (S : Nat → Int32) (u : mU) (z : Nat × Nat) : Prop := tS C h t T S ∧ wSe C w t sA mA ∧ wOkk w (t, sA, sN, mA, mN) ∧ sN < 1000000 ∧ mN < 1000000 ∧ (∀ x, z.1 ≤ x → wH h w (u, (t, sA, sN, mA, mN)) x = none) ∧ w + 2 ≤ z.1 ∧ sA < z.1 ∧ mA < z.1 ∧ ∀ x, (t ≤ x ∧ x < t + 8) ∨ C x → x < z.1
section SC
variable {X : am_X} {C : Nat → Prop} {h : am_H} {w t sA sN mA mN d n L Q b r : Nat} {T : mU × (Nat → Option Nat)} {S : Nat → Int32} {z : Nat × Nat} {u : mU} {dg : Nat → Nat}
theorem wX {x : Nat} (hx : wK w x) (hs : x ≠ sA) (hm : x ≠ mA) : wH h w (u, (t, sA, sN, mA, mN)) x = h x := by
  rw [wH_b hx]
  unfold wB
  rw [up_x hm, up_x hs]
theorem wSe.tS (hs : wSe C w t sA mA) (hT : tS C h t T S) : ∀ u, tS C (wH h w (u, (t, sA, sN, mA, mN))) t T S := fun u => hT.fr (fun x h1 h2 => by
  obtain ⟨q1, q2, q3⟩ := hs x (Or.inl ⟨h1, h2⟩)
  exact wX q1 q2 q3) (fun x hx => by
  obtain ⟨q1, q2, q3⟩ := hs x (Or.inr hx)
  exact wX q1 q2 q3) (fun _ hx => hx)
theorem stOk.st (hP : stOk C h w t sA sN mA mN T S u z) : ∀ u, tS C (wH h w (u, (t, sA, sN, mA, mN))) t T S := hP.2.1.tS hP.1
theorem wK_ge {x : Nat} (h : w + 2 ≤ x) : wK w x := ⟨by omega, by omega⟩
theorem stOk.uu {u' : mU} (hP : stOk C h w t sA sN mA mN T S u z) : stOk C h w t sA sN mA mN T S u' z := by
  obtain ⟨h1, h2, h3, h4, h5, h6, h7, h8, h9, h10⟩ := hP
  refine ⟨h1, h2, h3, h4, h5, fun x hx => ?_, h7, h8, h9, h10⟩
  have := h6 x hx
  rw [wX (wK_ge (by omega)) (by omega) (by omega)] at this ⊢
  exact this
theorem w_growS {q N : Nat} (hq : w + 2 ≤ q) (hqm : q ≠ mA) : am_up (am_up (wH h w (u, (t, sA, sN, mA, mN))) q (.inl (.int, N, .inl (fun _ => 0)))) w (.inr (5, (wF w (u, (t, sA, sN, mA, mN))).set 3 (.ref q))) = wH (am_up h sA (.inl (.int, sN, .inl (u.1 3)))) w (mS u 3 (fun _ => 0), (t, q, N, mA, mN)) := by
  funext x
  by_cases e0 : x = w
  · subst e0
    rw [up_r, wH_0]
    rfl
  · rw [up_x e0]
    by_cases e2 : x = q
    · subst e2
      rw [up_r, wH_b (wK_ge (by omega))]
      unfold wB
      rw [up_x hqm, up_r]
      rfl
    · rw [up_x e2]
      by_cases e3 : x = w + 1
      · subst e3
        rw [wH_1, wH_1]
        rfl
      · rw [wH_b ⟨e0, e3⟩, wH_b ⟨e0, e3⟩]
        unfold wB
        by_cases e4 : x = mA
        · subst e4
          rw [up_r, up_r]
          rfl
        · rw [up_x e4, up_x e4, up_x e2]
theorem w_growM {q N : Nat} (hq : w + 2 ≤ q) (hqs : q ≠ sA) (hsm : sA ≠ mA) : am_up (am_up (wH h w (u, (t, sA, sN, mA, mN))) q (.inl (.long, N, .inr (.inl (fun _ => 0))))) w (.inr (5, (wF w (u, (t, sA, sN, mA, mN))).set 4 (.ref q))) = wH (am_up h mA (.inl (.long, mN, .inr (.inl (u.2.1 4))))) w (mL u 4 (fun _ => 0), (t, sA, sN, q, N)) := by
  funext x
  by_cases e0 : x = w
  · subst e0
    rw [up_r, wH_0]
    rfl
  · rw [up_x e0]
    by_cases e2 : x = q
    · subst e2
      rw [up_r, wH_b (wK_ge (by omega))]
      unfold wB
      rw [up_r]
      rfl
    · rw [up_x e2]
      by_cases e3 : x = w + 1
      · subst e3
        rw [wH_1, wH_1]
        rfl
      · rw [wH_b ⟨e0, e3⟩, wH_b ⟨e0, e3⟩]
        unfold wB
        by_cases e4 : x = sA
        · subst e4
          rw [up_x hsm, up_r, up_x e2, up_r]
          rfl
        · by_cases e5 : x = mA
          · subst e5
            rw [up_r, up_x e2, up_x e4, up_r]
          · rw [up_x e5, up_x e4, up_x e2, up_x e4, up_x e5]
theorem w_find (hP : stOk C h w t sA sN mA mN T S u z) : ∃ h' u' sA' sN' z' n, am_f X (d + 3) 147 [.ref w] (wH h w (u, (t, sA, sN, mA, mN)), z) = some (.inl none, (wH h' w (u', (t, sA', sN', mA, mN)), z')) ∧ stOk C h' w t sA' sN' mA mN T S u' z' ∧ wCd S n u' ∧ n ≤ wNb (wN (S 116)) ∧ 4 ^ wN (S 116) ≤ sN' ∧ wFr u u' ∧ (∀ x, x < z.1 → wK w x → x ≠ sA → x ≠ mA → wH h' w (u', (t, sA', sN', mA, mN)) x = wH h w (u, (t, sA, sN, mA, mN)) x) ∧ ((sN' = sN ∧ sA' = sA ∧ z' = z) ∨ (sN < sN' ∧ sN' = 4 ^ wN (S 116) ∧ sA' = z.1 ∧ z' = (z.1 + 1, z.2 + sN'))) := by
  have hS := hP.st
  have hG := hP.1.2.1
  have hm5 := hG.m.2
  have h1024 := four_le hm5
  obtain ⟨h1, h2, h3, h4, h5, h6, h7, h8, h9, h10⟩ := hP
  have t0 := fun u => (hS u).iT.c0
  have hSp := wSp (h := h) (u := u) h3
  have kc : am_f X (d + 2) 110 [.ref t] (wH h w (u, (t, sA, sN, mA, mN)), z) = _ := c_codes (X := X) (d := d + 1) (z := z) (hS u)
  have i0 : ∀ u : mU, wI S 0 0 (mI u 2 (zI 0)) := fun u => ⟨rfl, Nat.zero_le _, fun k hk => by omega, fun dg _ hl => by omega, fun dg _ _ => Nat.zero_le _, fun q => by omega⟩
  by_cases c : 4 ^ wN (S 116) ≤ sN
  · obtain ⟨u', n, s1, s2, s3, s4⟩ := w_find_l (X := X) (d := d) (z := z) hS h3 c h4 (4 ^ wN (S 116)) 0 0 (mI u 2 (zI 0)) (Nat.zero_add _) (i0 u)
    refine ⟨h, u', sA, sN, z, n, Eq.trans ?_ s1, stOk.uu ⟨h1, h2, h3, h4, h5, h6, h7, h8, h9, h10⟩, s2, s3, c, ⟨s4.1, fun j hj => by rw [s4.2.1 j hj]; exact mI_o hj, s4.2.2⟩, fun x _ q2 q3 q4 => by rw [wX q2 q3 q4, wX q2 q3 q4], Or.inl ⟨rfl, rfl, rfl⟩⟩
    rw [fU_147]
    simp (disch := first | omega | exact Nat.le_of_ble_eq_true rfl | exact wH_ci | (refine wF_lt ?_; omega) | exact (hS _).iT.ci | (simp only [List.length_set]; refine wF_lt ?_; omega)) only [own_147, am_go dc_147_0, J_aload_0, K_al, ld_0, am_go dc_147_1, J_getfield, gf_r, fk_5_15_5, am_go dc_147_4, J_alen, am_go dc_147_5, am_go dc_147_6, fk_5_22_5, am_go dc_147_9, cv_5_72_1 own_147, JR_v, JR_0, JR_ite, ci1_r, am_go dc_147_12, J_icmp_ge, am_go dc_147_15, am_go dc_147_16, am_go dc_147_17, am_go dc_147_20, am_go dc_147_23, am_go dc_147_25, J_putfield_i, J_putfield_l, J_putfield_r, ini_147, pk_5_15_5, am_go dc_147_28, am_go dc_147_29, J_iconst, c32_0, am_go dc_147_30, pk_5_62_5, am_go dc_147_33, am_go dc_147_34, J_istore_1, st1_0, st1_1, st1_s, kl_i, kl_l, kl_r, kl_n, J_iload_1, K_il, ld_1, am_go dc_147_36, am_go dc_147_37, am_go dc_147_40, am_go dc_147_43, am_go dc_147_46, am_go dc_147_47, fk_5_62_5, am_go dc_147_50, J_sipush, c16_162, am_go dc_147_53, am_go dc_147_56, am_go dc_147_57, am_go dc_147_60, am_go dc_147_61, cv_5_75_1 own_147, am_go dc_147_64, J_if_eq, am_go dc_147_67, am_go dc_147_68, am_go dc_147_71, am_go dc_147_72, cv_5_79_1 own_147, am_go dc_147_75, J_if_ne, am_go dc_147_78, am_go dc_147_79, fk_5_11_5, am_go dc_147_82, am_go dc_147_83, am_go dc_147_86, am_go dc_147_87, J_iastore, am_go dc_147_88, am_go dc_147_89, am_go dc_147_92, am_go dc_147_93, am_go dc_147_94, am_go dc_147_97, am_go dc_147_98, am_go dc_147_99, J_dup_i, J_dup_r, am_go dc_147_100, am_go dc_147_103, c32_1, am_go dc_147_104, J_iadd, am_go dc_147_105, am_go dc_147_108, J_iinc, pinc_go, am_go dc_147_111, J_goto, am_go dc_147_114, J_ret_v ret_147, wg_3, wg_0, pf_a pk_5_15_5 rfl, wp_2, pf_i pk_5_62_5 rfl, wg_2, wg_1, wH_0, wH_1, ww_1, zI_add, zI_mul, zI_lt, zI_le, zI_eq, zI_neg, zI_pos, zI_ne0, zI_gt0, zB_0, lg_cmp_ge, lg_cmp_le, lg_cmp_gt, lg_cmp_lt, lg_cmp_eq, ail_r, abl_r, all_r, ais_r, abs_r, als_r, aal_r, aal_q, aln_r, vrf_s, vrf_n, z32, hSp, kc, c, t0, mS_s, mS_o, mS_2, mI_1, mI_2, mI_s, mI_o, mI_3, mI_I, mS_S, mJ_1, mJ_2, mJ_3, mJ_s, mJ_o, mJ_J, mL_1, mL_2, mL_s, mL_o, List.length_cons, List.length_nil, Nat.reduceAdd, Nat.reduceLT, Nat.reduceLeDiff, Nat.reduceEqDiff, ↓reduceIte, bind_s, if_true, if_false, not_true_eq_false, not_false_eq_true, Nat.zero_add]
  · have hfr : ∀ x, (t ≤ x ∧ x < t + 8) ∨ C x → am_up h sA (.inl (.int, sN, .inl (u.1 3))) x = h x := fun x hx => up_x (h2 x hx).2.1
    have hT1 : tS C (am_up h sA (.inl (.int, sN, .inl (u.1 3)))) t T S := h1.fr (fun x q1 q2 => hfr x (Or.inl ⟨q1, q2⟩)) (fun x hx => hfr x (Or.inr hx)) (fun _ hx => hx)
    have hs1 : wSe C w t z.1 mA := fun x hx => ⟨(h2 x hx).1, by have := h10 x hx; omega, (h2 x hx).2.2⟩
    have hW1 : wOkk w (t, z.1, 4 ^ wN (S 116), mA, mN) := ⟨wK_ge h7, h3.2.1, by show z.1 ≠ mA; omega⟩
    have hS1 := hs1.tS (sN := 4 ^ wN (S 116)) (mN := mN) hT1
    obtain ⟨u', n, s1, s2, s3, s4⟩ := w_find_l (X := X) (d := d) (z := (z.1 + 1, z.2 + 4 ^ wN (S 116))) hS1 hW1 (Nat.le_refl _) (by omega) (4 ^ wN (S 116)) 0 0 (mI (mS u 3 (fun _ => 0)) 2 (zI 0)) (Nat.zero_add _) (i0 _)
    refine ⟨am_up h sA (.inl (.int, sN, .inl (u.1 3))), u', z.1, 4 ^ wN (S 116), (z.1 + 1, z.2 + 4 ^ wN (S 116)), n, Eq.trans ?_ s1, ⟨hT1, hs1, hW1, by omega, h5, fun x hx => ?_, by show w + 2 ≤ z.1 + 1; omega, by show z.1 < z.1 + 1; omega, by show mA < z.1 + 1; omega, fun x hx => by have := h10 x hx; show x < z.1 + 1; omega⟩, s2, s3, Nat.le_refl _, ⟨s4.1, fun j hj => by rw [s4.2.1 j hj]; exact mI_o hj, s4.2.2⟩, fun x q1 q2 q3 q4 => ?_, Or.inr ⟨by omega, rfl, rfl, rfl⟩⟩
    · have hg := w_growS (h := h) (w := w) (t := t) (sA := sA) (sN := sN) (mA := mA) (mN := mN) (u := u) (q := z.1) (N := 4 ^ wN (S 116)) h7 (by omega)
      have hg0 := congrFun hg w
      rw [wH_0] at hg0
      have n1 : ∀ (H : am_H) (e : am_E), am_up H z.1 e w = H w := fun H e => up_x (by omega)
      have n2 : ∀ (H : am_H) (e : am_E), am_up H z.1 e sA = H sA := fun H e => up_x (by omega)
      rw [fU_147]
      simp (disch := first | omega | exact Nat.le_of_ble_eq_true rfl | exact wH_ci | (refine wF_lt ?_; omega) | exact (hS _).iT.ci | (simp only [List.length_set]; refine wF_lt ?_; omega)) only [own_147, am_go dc_147_0, J_aload_0, K_al, ld_0, am_go dc_147_1, J_getfield, gf_r, fk_5_15_5, am_go dc_147_4, J_alen, am_go dc_147_5, am_go dc_147_6, fk_5_22_5, am_go dc_147_9, cv_5_72_1 own_147, JR_v, JR_0, JR_ite, ci1_r, am_go dc_147_12, J_icmp_ge, am_go dc_147_15, am_go dc_147_16, am_go dc_147_17, am_go dc_147_20, am_go dc_147_23, am_go dc_147_25, J_putfield_i, J_putfield_l, J_putfield_r, ini_147, pk_5_15_5, am_go dc_147_28, am_go dc_147_29, J_iconst, c32_0, am_go dc_147_30, pk_5_62_5, am_go dc_147_33, am_go dc_147_34, J_istore_1, st1_0, st1_1, st1_s, kl_i, kl_l, kl_r, kl_n, J_iload_1, K_il, ld_1, am_go dc_147_36, am_go dc_147_37, am_go dc_147_40, am_go dc_147_43, am_go dc_147_46, am_go dc_147_47, fk_5_62_5, am_go dc_147_50, J_sipush, c16_162, am_go dc_147_53, am_go dc_147_56, am_go dc_147_57, am_go dc_147_60, am_go dc_147_61, cv_5_75_1 own_147, am_go dc_147_64, J_if_eq, am_go dc_147_67, am_go dc_147_68, am_go dc_147_71, am_go dc_147_72, cv_5_79_1 own_147, am_go dc_147_75, J_if_ne, am_go dc_147_78, am_go dc_147_79, fk_5_11_5, am_go dc_147_82, am_go dc_147_83, am_go dc_147_86, am_go dc_147_87, J_iastore, am_go dc_147_88, am_go dc_147_89, am_go dc_147_92, am_go dc_147_93, am_go dc_147_94, am_go dc_147_97, am_go dc_147_98, am_go dc_147_99, J_dup_i, J_dup_r, am_go dc_147_100, am_go dc_147_103, c32_1, am_go dc_147_104, J_iadd, am_go dc_147_105, am_go dc_147_108, J_iinc, pinc_go, am_go dc_147_111, J_goto, am_go dc_147_114, J_ret_v ret_147, wg_3, wg_0, pf_a pk_5_15_5 rfl, wp_2, pf_i pk_5_62_5 rfl, wg_2, wg_1, wH_0, wH_1, ww_1, zI_add, zI_mul, zI_lt, zI_le, zI_eq, zI_neg, zI_pos, zI_ne0, zI_gt0, zB_0, lg_cmp_ge, lg_cmp_le, lg_cmp_gt, lg_cmp_lt, lg_cmp_eq, ail_r, abl_r, all_r, ais_r, abs_r, als_r, aal_r, aal_q, aln_r, vrf_s, vrf_n, z32, hSp, kc, c, t0, J_nai, hg, hg0, n1, n2, List.length_set, mS_s, mS_o, mS_2, mI_1, mI_2, mI_s, mI_o, mI_3, mI_I, mS_S, mJ_1, mJ_2, mJ_3, mJ_s, mJ_o, mJ_J, mL_1, mL_2, mL_s, mL_o, List.length_cons, List.length_nil, Nat.reduceAdd, Nat.reduceLT, Nat.reduceLeDiff, Nat.reduceEqDiff, ↓reduceIte, bind_s, if_true, if_false, not_true_eq_false, not_false_eq_true, Nat.zero_add]
    · have hx' : z.1 + 1 ≤ x := hx
      have := h6 x (by omega)
      rw [wX (wK_ge (by omega)) (by omega) (by omega)] at this ⊢
      rw [up_x (by omega)]
      exact this
    · rw [wX q2 (by omega) q4, wX q2 q3 q4, up_x q3]
theorem w_prep_l (hS : ∀ u, tS C (wH h w (u, (t, sA, sN, mA, mN))) t T S) (hW : wOkk w (t, sA, sN, mA, mN)) (hcd : wCd S n u) (hly : u.2.2.1 5 = zI (21 * n)) (hm : mN < 1000000) (hr : rOk T S Q) (hNs : 4 ^ wN (S 116) ≤ sN) (hNs2 : sN < 1000000) (hNm : 21 * n ≤ mN) {y : Int32} : ∀ (k i : Nat) (M : Nat → Int64), i + k = n → ∃ f, am_I X (am_f X (d + 4)) 146 48 [some (.ref w), some (.int y), some (.int (zI i))] [] (wH h w (mL u 4 M, (t, sA, sN, mA, mN)), z) = some (.inl none, (wH h w (mL u 4 f, (t, sA, sN, mA, mN)), z)) ∧ (∀ kk dg, i ≤ kk → kk < n → wVd S dg → u.1 3 (pk dg) = zI kk → ∀ r, r < Q → f (r * n + kk) = (T.1.1 4 r).toInt64 * cMs S dg) ∧ (∀ kk r, kk < i → r < Q → f (r * n + kk) = M (r * n + kk)) := by
  have t0 := fun u => (hS u).iT.c0
  have t1 := fun u => (hS u).iT.c1
  have t3 := fun u => (hS u).iT.c3
  have t4 := fun u => (hS u).iT.c4
  have t6 := fun u => (hS u).iT.c6
  have hm5 := (hS u).2.1.m.2
  have hn2 := hcd.2.1
  have hn1 := hcd.1
  intro k
  induction k with
  | zero =>
    intro i M hi
    have hi' : n ≤ i := by omega
    refine ⟨M, ?_, fun kk dg h1 h2 => by omega, fun _ _ _ _ => rfl⟩
    rw [am_go dc_146_48]
    simp (disch := first | omega | exact Nat.le_of_ble_eq_true rfl | exact wH_ci | (refine wF_lt ?_; omega) | exact (hS _).iT.ci) only [own_146, am_go dc_146_0, J_aload_0, K_al, ld_0, am_go dc_146_1, cv_5_65_5 own_146, JR_v, JR_0, JR_ite, ci1_r, am_go dc_146_4, am_go dc_146_5, J_bipush, c8_21, am_go dc_146_7, am_go dc_146_8, J_getfield, gf_r, fk_5_62_5, am_go dc_146_11, J_imul, am_go dc_146_12, J_putfield_i, J_putfield_l, J_putfield_r, ini_146, pk_5_45_5, am_go dc_146_15, am_go dc_146_16, fk_5_45_5, am_go dc_146_19, am_go dc_146_20, fk_5_22_5, am_go dc_146_23, fk_5_29_1, am_go dc_146_26, J_iconst, c32_1, am_go dc_146_27, J_iadd, am_go dc_146_28, am_go dc_146_29, J_istore_1, st1_0, st1_1, st1_s, kl_i, kl_l, kl_r, kl_n, am_go dc_146_30, am_go dc_146_31, fk_5_18_5, am_go dc_146_34, J_alen, am_go dc_146_35, J_iload_1, K_il, ld_1, am_go dc_146_36, J_icmp_ge, am_go dc_146_39, am_go dc_146_40, am_go dc_146_41, am_go dc_146_43, pk_5_18_5, am_go dc_146_46, c32_0, am_go dc_146_47, J_istore_2, J_iload_2, ld_2, am_go dc_146_49, am_go dc_146_50, am_go dc_146_53, am_go dc_146_56, am_go dc_146_57, am_go dc_146_58, fk_5_11_5, am_go dc_146_61, am_go dc_146_62, J_iaload, am_go dc_146_63, cv_5_68_5 own_146, am_go dc_146_66, J_iinc, pinc_go, am_go dc_146_69, J_goto, am_go dc_146_72, J_ret_v ret_146, wg_2, wp_5, pf_i pk_5_45_5 rfl, wg_5, wg_0, tg_1, wg_4, pf_a pk_5_18_5 rfl, wg_1, wH_0, wH_1, ww_1, zI_add, zI_mul, zI_lt, zI_le, zI_eq, zI_neg, zI_pos, zI_ne0, zI_gt0, zB_0, lg_cmp_ge, lg_cmp_le, lg_cmp_gt, lg_cmp_lt, lg_cmp_eq, ail_r, abl_r, all_r, ais_r, abs_r, als_r, aal_r, aal_q, aln_r, vrf_s, vrf_n, z32, t0, t1, t3, t4, t6, hn1, hi', mS_s, mS_o, mS_2, mI_1, mI_2, mI_s, mI_o, mI_3, mI_I, mS_S, mJ_1, mJ_2, mJ_3, mJ_s, mJ_o, mJ_J, mL_1, mL_2, mL_s, mL_o, List.length_cons, List.length_nil, Nat.reduceAdd, Nat.reduceLT, Nat.reduceLeDiff, Nat.reduceEqDiff, ↓reduceIte, bind_s, if_true, if_false, not_true_eq_false, not_false_eq_true, Nat.zero_add]
  | succ k ih =>
    intro i M hi
    have hlt : ¬ n ≤ i := by omega
    obtain ⟨dg, hv, e1, e2⟩ := hcd.2.2.1 i (by omega)
    obtain ⟨f1, g1, g2, g3⟩ := w_stop (X := X) (d := d) (z := z) (u := u) (n := n) (M := M) (dg := dg) hS hW hcd hly hm hr hNs hNs2 hv e2 (by omega) hNm
    obtain ⟨f, s1, s2, s3⟩ := ih (i + 1) f1 (by omega)
    refine ⟨f, Eq.trans ?_ s1, fun kk dg' h1 h2 h3 h4 r h6 => ?_, fun kk r h1 h2 => ?_⟩
    · rw [am_go dc_146_48]
      simp (disch := first | omega | exact Nat.le_of_ble_eq_true rfl | exact wH_ci | (refine wF_lt ?_; omega) | exact (hS _).iT.ci) only [own_146, am_go dc_146_0, J_aload_0, K_al, ld_0, am_go dc_146_1, cv_5_65_5 own_146, JR_v, JR_0, JR_ite, ci1_r, am_go dc_146_4, am_go dc_146_5, J_bipush, c8_21, am_go dc_146_7, am_go dc_146_8, J_getfield, gf_r, fk_5_62_5, am_go dc_146_11, J_imul, am_go dc_146_12, J_putfield_i, J_putfield_l, J_putfield_r, ini_146, pk_5_45_5, am_go dc_146_15, am_go dc_146_16, fk_5_45_5, am_go dc_146_19, am_go dc_146_20, fk_5_22_5, am_go dc_146_23, fk_5_29_1, am_go dc_146_26, J_iconst, c32_1, am_go dc_146_27, J_iadd, am_go dc_146_28, am_go dc_146_29, J_istore_1, st1_0, st1_1, st1_s, kl_i, kl_l, kl_r, kl_n, am_go dc_146_30, am_go dc_146_31, fk_5_18_5, am_go dc_146_34, J_alen, am_go dc_146_35, J_iload_1, K_il, ld_1, am_go dc_146_36, J_icmp_ge, am_go dc_146_39, am_go dc_146_40, am_go dc_146_41, am_go dc_146_43, pk_5_18_5, am_go dc_146_46, c32_0, am_go dc_146_47, J_istore_2, J_iload_2, ld_2, am_go dc_146_49, am_go dc_146_50, am_go dc_146_53, am_go dc_146_56, am_go dc_146_57, am_go dc_146_58, fk_5_11_5, am_go dc_146_61, am_go dc_146_62, J_iaload, am_go dc_146_63, cv_5_68_5 own_146, am_go dc_146_66, J_iinc, pinc_go, am_go dc_146_69, J_goto, am_go dc_146_72, J_ret_v ret_146, wg_2, wp_5, pf_i pk_5_45_5 rfl, wg_5, wg_0, tg_1, wg_4, pf_a pk_5_18_5 rfl, wg_1, wH_0, wH_1, ww_1, zI_add, zI_mul, zI_lt, zI_le, zI_eq, zI_neg, zI_pos, zI_ne0, zI_gt0, zB_0, lg_cmp_ge, lg_cmp_le, lg_cmp_gt, lg_cmp_lt, lg_cmp_eq, ail_r, abl_r, all_r, ais_r, abs_r, als_r, aal_r, aal_q, aln_r, vrf_s, vrf_n, z32, t0, t1, t3, t4, t6, hn1, hlt, e1, g1, mS_s, mS_o, mS_2, mI_1, mI_2, mI_s, mI_o, mI_3, mI_I, mS_S, mJ_1, mJ_2, mJ_3, mJ_s, mJ_o, mJ_J, mL_1, mL_2, mL_s, mL_o, List.length_cons, List.length_nil, Nat.reduceAdd, Nat.reduceLT, Nat.reduceLeDiff, Nat.reduceEqDiff, ↓reduceIte, bind_s, if_true, if_false, not_true_eq_false, not_false_eq_true, Nat.zero_add]
    · by_cases e : kk = i
      · subst e
        have := hcd.uq hm5 h3 hv h4 h2 e1
        subst this
        rw [s3 kk r (by omega) h6, g2 r h6]
      · exact s2 kk dg' (by omega) h2 h3 h4 r h6
    · rw [s3 kk r (by omega) h2, g3 _ (fun r' h1' e => by
        have := (ix_inj (n := n) (r := r) (r' := r') (k := kk) (k' := i) (by omega) (by omega) (by omega)).2
        omega)]
/-- how much the rows have grown -/
def stGr (S : Nat → Int32) (n sA sA' sN sN' mA mA' mN mN' : Nat) (z z' : Nat × Nat) : Prop := ∃ z1 : Nat × Nat, ((sN' = sN ∧ sA' = sA ∧ z1 = z) ∨ (sN < sN' ∧ sN' = 4 ^ wN (S 116) ∧ sA' = z.1 ∧ z1 = (z.1 + 1, z.2 + sN'))) ∧ ((mN' = mN ∧ mA' = mA ∧ z' = z1) ∨ (mN < mN' ∧ mN' = 21 * n * (wN (S 116) + 1) ∧ mA' = z1.1 ∧ z' = (z1.1 + 1, z1.2 + mN')))
theorem w_prepare (hP : stOk C h w t sA sN mA mN T S u z) (hr : rOk T S Q) : ∃ h' u' sA' sN' mA' mN' z' n, am_f X (d + 5) 146 [.ref w] (wH h w (u, (t, sA, sN, mA, mN)), z) = some (.inl none, (wH h' w (u', (t, sA', sN', mA', mN')), z')) ∧ stOk C h' w t sA' sN' mA' mN' T S u' z' ∧ wCd S n u' ∧ n ≤ wNb (wN (S 116)) ∧ 4 ^ wN (S 116) ≤ sN' ∧ u'.2.2.1 5 = zI (21 * n) ∧ 21 * n * (wN (S 116) + 1) ≤ mN' ∧ (∀ dg r, wVd S dg → r < Q → wTt (u'.1 3) (u'.2.1 4) n 0 dg r = (T.1.1 4 r).toInt64 * cMs S dg) ∧ (∀ x, x < z.1 → wK w x → x ≠ sA → x ≠ mA → wH h' w (u', (t, sA', sN', mA', mN')) x = wH h w (u, (t, sA, sN, mA, mN)) x) ∧ stGr S n sA sA' sN sN' mA mA' mN mN' z z' := by
  obtain ⟨h1, u1, sA1, sN1, z1, n, f1, f2, f3, f4, f5, f6, f7, f8⟩ := w_find (X := X) (d := d + 1) hP
  have hS := f2.st
  have hG := f2.1.2.1
  have hm5 := hG.m.2
  have hsz := (hS u1).sz
  obtain ⟨g1, g2, g3, g4, g5, g6, g7, g8, g9, g10⟩ := f2
  have hn2 := f3.2.1
  have hn1 := f3.1
  have hM2 := wMn (h := h1) (u := mI u1 5 (zI (21 * n))) g3
  have hmul : 21 * n * (wN (S 116) + 1) ≤ 21 * 162 * 6 := Nat.mul_le_mul (by omega) (by omega)
  have hmul1 : 21 * n * 1 ≤ 21 * n * (wN (S 116) + 1) := Nat.mul_le_mul_left _ (by omega)
  have h510 := hP.2.2.2.2.2.2.2.1
  have hzz : z.1 ≤ z1.1 ∧ (sA1 = sA ∨ z.1 ≤ sA1) := by
    rcases f8 with q | q
    · exact ⟨by rw [q.2.2]; exact Nat.le_refl _, Or.inl q.2.1⟩
    · exact ⟨by rw [q.2.2.2]; show z.1 ≤ z.1 + 1; omega, Or.inr (by rw [q.2.2.1]; exact Nat.le_refl _)⟩
  have c15 : zI 21 * zI n = zI (21 * n) := zI_mul
  have t0 := fun u => (hS u).iT.c0
  by_cases c : 21 * n * (wN (S 116) + 1) ≤ mN
  · obtain ⟨f, s1, s2, s3⟩ := w_prep_l (X := X) (d := d) (z := z1) (u := mI u1 5 (zI (21 * n))) (n := n) (y := zI (21 * n * (wN (S 116) + 1))) hS g3 f3 rfl g5 hr f5 g4 (by omega) n 0 (u1.2.1 4) (Nat.zero_add _)
    have hid : mL (mI u1 5 (zI (21 * n))) 4 (u1.2.1 4) = mI u1 5 (zI (21 * n)) := by
      unfold mL
      simp only [mI_2, mI_1]
      congr 2
      funext k
      by_cases e : k = 4
      · subst e
        rfl
      · simp [e]
    rw [hid] at s1
    refine ⟨h1, mL (mI u1 5 (zI (21 * n))) 4 f, sA1, sN1, mA, mN, z1, n, Eq.trans ?_ s1, stOk.uu (u := u1) ⟨g1, g2, g3, g4, g5, g6, g7, g8, g9, g10⟩, f3, f4, f5, rfl, c, fun dg r hv hrq => ?_, fun x q1 q2 q3 q4 => ?_, ⟨z1, f8, Or.inl ⟨rfl, rfl, rfl⟩⟩⟩
    · rw [fU_146]
      simp (disch := first | omega | exact Nat.le_of_ble_eq_true rfl | exact wH_ci | (refine wF_lt ?_; omega) | exact (hS _).iT.ci | (simp only [List.length_set]; refine wF_lt ?_; omega)) only [own_146, am_go dc_146_0, J_aload_0, K_al, ld_0, am_go dc_146_1, cv_5_65_5 own_146, JR_v, JR_0, JR_ite, ci1_r, am_go dc_146_4, am_go dc_146_5, J_bipush, c8_21, am_go dc_146_7, am_go dc_146_8, J_getfield, gf_r, fk_5_62_5, am_go dc_146_11, J_imul, am_go dc_146_12, J_putfield_i, J_putfield_l, J_putfield_r, ini_146, pk_5_45_5, am_go dc_146_15, am_go dc_146_16, fk_5_45_5, am_go dc_146_19, am_go dc_146_20, fk_5_22_5, am_go dc_146_23, fk_5_29_1, am_go dc_146_26, J_iconst, c32_1, am_go dc_146_27, J_iadd, am_go dc_146_28, am_go dc_146_29, J_istore_1, st1_0, st1_1, st1_s, kl_i, kl_l, kl_r, kl_n, am_go dc_146_30, am_go dc_146_31, fk_5_18_5, am_go dc_146_34, J_alen, am_go dc_146_35, J_iload_1, K_il, ld_1, am_go dc_146_36, J_icmp_ge, am_go dc_146_39, am_go dc_146_40, am_go dc_146_41, am_go dc_146_43, pk_5_18_5, am_go dc_146_46, c32_0, am_go dc_146_47, J_istore_2, J_iload_2, ld_2, am_go dc_146_49, am_go dc_146_50, am_go dc_146_53, am_go dc_146_56, am_go dc_146_57, am_go dc_146_58, fk_5_11_5, am_go dc_146_61, am_go dc_146_62, J_iaload, am_go dc_146_63, cv_5_68_5 own_146, am_go dc_146_66, J_iinc, pinc_go, am_go dc_146_69, J_goto, am_go dc_146_72, J_ret_v ret_146, wg_2, wp_5, pf_i pk_5_45_5 rfl, wg_5, wg_0, tg_1, wg_4, pf_a pk_5_18_5 rfl, wg_1, wH_0, wH_1, ww_1, zI_add, zI_mul, zI_lt, zI_le, zI_eq, zI_neg, zI_pos, zI_ne0, zI_gt0, zB_0, lg_cmp_ge, lg_cmp_le, lg_cmp_gt, lg_cmp_lt, lg_cmp_eq, ail_r, abl_r, all_r, ais_r, abs_r, als_r, aal_r, aal_q, aln_r, vrf_s, vrf_n, z32, f1, hn1, c15, t0, hsz, hM2, c, mS_s, mS_o, mS_2, mI_1, mI_2, mI_s, mI_o, mI_3, mI_I, mS_S, mJ_1, mJ_2, mJ_3, mJ_s, mJ_o, mJ_J, mL_1, mL_2, mL_s, mL_o, List.length_cons, List.length_nil, Nat.reduceAdd, Nat.reduceLT, Nat.reduceLeDiff, Nat.reduceEqDiff, ↓reduceIte, bind_s, if_true, if_false, not_true_eq_false, not_false_eq_true, Nat.zero_add]
    · obtain ⟨k, k1, -, k3⟩ := f3.2.2.2.1 dg hv
      have e := s2 k dg (by omega) k1 hv k3 r hrq
      unfold wTt
      rw [mL_s]
      show f (0 * (21 * n) + (r * n + wN (u1.1 3 (pk dg)))) = _
      rw [k3, wN_zI (by omega), Nat.zero_mul, Nat.zero_add]
      exact e
    · rw [← f7 x q1 q2 q3 q4]
      have : x ≠ sA1 := by omega
      rw [wX q2 this q4, wX q2 this q4]
  · have hfr : ∀ x, (t ≤ x ∧ x < t + 8) ∨ C x → am_up h1 mA (.inl (.long, mN, .inr (.inl (u1.2.1 4)))) x = h1 x := fun x hx => up_x (g2 x hx).2.2
    have hT1 : tS C (am_up h1 mA (.inl (.long, mN, .inr (.inl (u1.2.1 4))))) t T S := g1.fr (fun x q1 q2 => hfr x (Or.inl ⟨q1, q2⟩)) (fun x hx => hfr x (Or.inr hx)) (fun _ hx => hx)
    have hs1 : wSe C w t sA1 z1.1 := fun x hx => ⟨(g2 x hx).1, (g2 x hx).2.1, by have := g10 x hx; omega⟩
    have hW1 : wOkk w (t, sA1, sN1, z1.1, 21 * n * (wN (S 116) + 1)) := ⟨g3.1, wK_ge g7, by show sA1 ≠ z1.1; omega⟩
    have hS1 := hs1.tS (sN := sN1) (mN := 21 * n * (wN (S 116) + 1)) hT1
    obtain ⟨f, s1, s2, s3⟩ := w_prep_l (X := X) (d := d) (z := (z1.1 + 1, z1.2 + 21 * n * (wN (S 116) + 1))) (u := mI u1 5 (zI (21 * n))) (n := n) (y := zI (21 * n * (wN (S 116) + 1))) hS1 hW1 f3 rfl (by omega) hr f5 g4 (by omega) n 0 (fun _ => 0) (Nat.zero_add _)
    refine ⟨am_up h1 mA (.inl (.long, mN, .inr (.inl (u1.2.1 4)))), mL (mI u1 5 (zI (21 * n))) 4 f, sA1, sN1, z1.1, 21 * n * (wN (S 116) + 1), (z1.1 + 1, z1.2 + 21 * n * (wN (S 116) + 1)), n, Eq.trans ?_ s1, ⟨hT1, hs1, hW1, g4, by omega, fun x hx => ?_, by show w + 2 ≤ z1.1 + 1; omega, by show sA1 < z1.1 + 1; omega, by show z1.1 < z1.1 + 1; omega, fun x hx => by have := g10 x hx; show x < z1.1 + 1; omega⟩, f3, f4, f5, rfl, Nat.le_refl _, fun dg r hv hrq => ?_, fun x q1 q2 q3 q4 => ?_, ⟨z1, f8, Or.inr ⟨by omega, rfl, rfl, rfl⟩⟩⟩
    · have hg := w_growM (h := h1) (w := w) (t := t) (sA := sA1) (sN := sN1) (mA := mA) (mN := mN) (u := mI u1 5 (zI (21 * n))) (q := z1.1) (N := 21 * n * (wN (S 116) + 1)) g7 (by omega) g3.2.2
      have hg0 := congrFun hg w
      rw [wH_0] at hg0
      have n1 : ∀ (H : am_H) (e : am_E), am_up H z1.1 e w = H w := fun H e => up_x (by omega)
      rw [fU_146]
      simp (disch := first | omega | exact Nat.le_of_ble_eq_true rfl | exact wH_ci | (refine wF_lt ?_; omega) | exact (hS _).iT.ci | (simp only [List.length_set]; refine wF_lt ?_; omega)) only [own_146, am_go dc_146_0, J_aload_0, K_al, ld_0, am_go dc_146_1, cv_5_65_5 own_146, JR_v, JR_0, JR_ite, ci1_r, am_go dc_146_4, am_go dc_146_5, J_bipush, c8_21, am_go dc_146_7, am_go dc_146_8, J_getfield, gf_r, fk_5_62_5, am_go dc_146_11, J_imul, am_go dc_146_12, J_putfield_i, J_putfield_l, J_putfield_r, ini_146, pk_5_45_5, am_go dc_146_15, am_go dc_146_16, fk_5_45_5, am_go dc_146_19, am_go dc_146_20, fk_5_22_5, am_go dc_146_23, fk_5_29_1, am_go dc_146_26, J_iconst, c32_1, am_go dc_146_27, J_iadd, am_go dc_146_28, am_go dc_146_29, J_istore_1, st1_0, st1_1, st1_s, kl_i, kl_l, kl_r, kl_n, am_go dc_146_30, am_go dc_146_31, fk_5_18_5, am_go dc_146_34, J_alen, am_go dc_146_35, J_iload_1, K_il, ld_1, am_go dc_146_36, J_icmp_ge, am_go dc_146_39, am_go dc_146_40, am_go dc_146_41, am_go dc_146_43, pk_5_18_5, am_go dc_146_46, c32_0, am_go dc_146_47, J_istore_2, J_iload_2, ld_2, am_go dc_146_49, am_go dc_146_50, am_go dc_146_53, am_go dc_146_56, am_go dc_146_57, am_go dc_146_58, fk_5_11_5, am_go dc_146_61, am_go dc_146_62, J_iaload, am_go dc_146_63, cv_5_68_5 own_146, am_go dc_146_66, J_iinc, pinc_go, am_go dc_146_69, J_goto, am_go dc_146_72, J_ret_v ret_146, wg_2, wp_5, pf_i pk_5_45_5 rfl, wg_5, wg_0, tg_1, wg_4, pf_a pk_5_18_5 rfl, wg_1, wH_0, wH_1, ww_1, zI_add, zI_mul, zI_lt, zI_le, zI_eq, zI_neg, zI_pos, zI_ne0, zI_gt0, zB_0, lg_cmp_ge, lg_cmp_le, lg_cmp_gt, lg_cmp_lt, lg_cmp_eq, ail_r, abl_r, all_r, ais_r, abs_r, als_r, aal_r, aal_q, aln_r, vrf_s, vrf_n, z32, f1, hn1, c15, t0, hsz, hM2, c, J_nal, hg, hg0, n1, List.length_set, mS_s, mS_o, mS_2, mI_1, mI_2, mI_s, mI_o, mI_3, mI_I, mS_S, mJ_1, mJ_2, mJ_3, mJ_s, mJ_o, mJ_J, mL_1, mL_2, mL_s, mL_o, List.length_cons, List.length_nil, Nat.reduceAdd, Nat.reduceLT, Nat.reduceLeDiff, Nat.reduceEqDiff, ↓reduceIte, bind_s, if_true, if_false, not_true_eq_false, not_false_eq_true, Nat.zero_add]
    · have hx' : z1.1 + 1 ≤ x := hx
      have := g6 x (by omega)
      rw [wX (wK_ge (by omega)) (by omega) (by omega)] at this ⊢
      rw [up_x (by omega)]
      exact this
    · obtain ⟨k, k1, -, k3⟩ := f3.2.2.2.1 dg hv
      have e := s2 k dg (by omega) k1 hv k3 r hrq
      unfold wTt
      rw [mL_s]
      show f (0 * (21 * n) + (r * n + wN (u1.1 3 (pk dg)))) = _
      rw [k3, wN_zI (by omega), Nat.zero_mul, Nat.zero_add]
      exact e
    · rw [← f7 x q1 q2 q3 q4]
      have : x ≠ sA1 := by omega
      rw [wX q2 this (by omega), wX q2 this q4, up_x q4]
end SC
