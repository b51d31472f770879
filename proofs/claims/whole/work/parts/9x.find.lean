/-! Street: findCodes -/
def wNb (m : Nat) : Nat := if m = 0 then 1 else 2 * 3 ^ (m - 1)
/-- the codes below c -/
def wI (S : Nat → Int32) (c n : Nat) (u : mU) : Prop := u.2.2.1 2 = zI n ∧ n ≤ wNb (wN (S 116)) ∧ (∀ k, k < n → ∃ dg, wVd S dg ∧ pk dg < c ∧ u.1 1 k = zI (pk dg) ∧ u.1 3 (pk dg) = zI k) ∧ (∀ dg, wVd S dg → pk dg < c → ∃ k, k < n ∧ u.1 1 k = zI (pk dg) ∧ u.1 3 (pk dg) = zI k) ∧ (∀ dg, wVd S dg → c ≤ pk dg → n ≤ wIx dg) ∧ (0 < c → u.1 3 0 = zI 0)
/-- what findCodes leaves as it was -/
def wFr (u u' : mU) : Prop := u'.2.1 = u.2.1 ∧ (∀ j, j ≠ 2 → u'.2.2.1 j = u.2.2.1 j) ∧ u'.2.2.2 = u.2.2.2
section SB
variable {X : am_X} {C : Nat → Prop} {h : am_H} {w t sA sN mA mN d n L Q b r : Nat} {T : mU × (Nat → Option Nat)} {S : Nat → Int32} {z : Nat × Nat} {u : mU} {dg : Nat → Nat}
theorem wNb_le {m : Nat} (h : m ≤ 5) : wNb m ≤ 162 := by
  rcases (by omega : m = 0 ∨ m = 1 ∨ m = 2 ∨ m = 3 ∨ m = 4 ∨ m = 5) with rfl | rfl | rfl | rfl | rfl | rfl <;> decide
theorem wIx_nb (hG : qG S) (h : wVd S dg) : wIx dg < wNb (wN (S 116)) := by
  have h5 := hG.m.2
  have d0 := h.d hG 0 (by omega)
  have d1 := h.d hG 1 (by omega)
  have d2 := h.d hG 2 (by omega)
  have d3 := h.d hG 3 (by omega)
  have d4 := h.d hG 4 (by omega)
  have z := h.1.2
  have a0 : dg 0 < 4 := by omega
  have a1 : dg 1 < 4 := by omega
  have a2 : dg 2 < 4 := by omega
  have a3 : dg 3 < 4 := by omega
  have a4 : dg 4 < 4 := by omega
  clear d0 d1 d2 d3 d4
  unfold wIx
  generalize wN (S 116) = m at *
  rcases (by omega : m = 0 ∨ m = 1 ∨ m = 2 ∨ m = 3 ∨ m = 4 ∨ m = 5) with rfl | rfl | rfl | rfl | rfl | rfl
  · have z0 := z 0 (by omega)
    have z1 := z 1 (by omega)
    have z2 := z 2 (by omega)
    have z3 := z 3 (by omega)
    have z4 := z 4 (by omega)
    rw [show wNb 0 = 1 from rfl]
    omega
  · have z1 := z 1 (by omega)
    have z2 := z 2 (by omega)
    have z3 := z 3 (by omega)
    have z4 := z 4 (by omega)
    rw [show wNb 1 = 2 from rfl]
    omega
  · have z2 := z 2 (by omega)
    have z3 := z 3 (by omega)
    have z4 := z 4 (by omega)
    rw [show wNb 2 = 6 from rfl]
    omega
  · have z3 := z 3 (by omega)
    have z4 := z 4 (by omega)
    rw [show wNb 3 = 18 from rfl]
    omega
  · have z4 := z 4 (by omega)
    rw [show wNb 4 = 54 from rfl]
    omega
  · rw [show wNb 5 = 162 from rfl]
    omega
theorem wI.cd {c : Nat} (hG : qG S) (h : wI S c n u) (hc0 : 0 < c) (hall : ∀ dg, wVd S dg → pk dg < c) : wCd S n u := by
  have h5 := hG.m.2
  obtain ⟨h1, h2, h3, h4, -, h6⟩ := h
  refine ⟨h1, Nat.le_trans h2 (wNb_le h5), fun k hk => ?_, fun dg hv => h4 dg hv (hall dg hv), h6 hc0⟩
  obtain ⟨dg, q1, -, q3, q4⟩ := h3 k hk
  exact ⟨dg, q1, q3, q4⟩
theorem w_find_l (hS : ∀ u, tS C (wH h w (u, (t, sA, sN, mA, mN))) t T S) (hW : wOkk w (t, sA, sN, mA, mN)) (hNs : 4 ^ wN (S 116) ≤ sN) (hNs2 : sN < 1000000) : ∀ (k c n : Nat) (u : mU), c + k = 4 ^ wN (S 116) → wI S c n u → ∃ u' n', am_I X (am_f X (d + 2)) 147 35 [some (.ref w), some (.int (zI c))] [] (wH h w (u, (t, sA, sN, mA, mN)), z) = some (.inl none, (wH h w (u', (t, sA, sN, mA, mN)), z)) ∧ wCd S n' u' ∧ n' ≤ wNb (wN (S 116)) ∧ wFr u u' := by
  have t0 := fun u => (hS u).iT.c0
  have t1 := fun u => (hS u).iT.c1
  have t3 := fun u => (hS u).iT.c3
  have t4 := fun u => (hS u).iT.c4
  have t6 := fun u => (hS u).iT.c6
  intro k
  induction k with
  | zero =>
    intro c n u hc hI
    have hG := (hS u).2.1
    have hm5 := hG.m.2
    have h1024 := four_le hm5
    have hc' : 4 ^ wN (S 116) ≤ c := by omega
    have kc : am_f X (d + 2) 110 [.ref t] (wH h w (u, (t, sA, sN, mA, mN)), z) = _ := c_codes (X := X) (d := d + 1) (z := z) (hS u)
    refine ⟨u, n, ?_, hI.cd hG (by have := Nat.pow_pos (n := wN (S 116)) (show 0 < 4 by omega); omega) (fun dg hv => by have := pkm_lt hv.1 hm5; omega), hI.2.1, rfl, fun _ _ => rfl, rfl⟩
    rw [am_go dc_147_35]
    simp (disch := first | omega | exact Nat.le_of_ble_eq_true rfl | exact wH_ci | (refine wF_lt ?_; omega) | exact (hS _).iT.ci) only [own_147, am_go dc_147_0, J_aload_0, K_al, ld_0, am_go dc_147_1, J_getfield, gf_r, fk_5_15_5, am_go dc_147_4, J_alen, am_go dc_147_5, am_go dc_147_6, fk_5_22_5, am_go dc_147_9, cv_5_72_1 own_147, JR_v, JR_0, JR_ite, ci1_r, am_go dc_147_12, J_icmp_ge, am_go dc_147_15, am_go dc_147_16, am_go dc_147_17, am_go dc_147_20, am_go dc_147_23, am_go dc_147_25, J_putfield_i, J_putfield_l, J_putfield_r, ini_147, pk_5_15_5, am_go dc_147_28, am_go dc_147_29, J_iconst, c32_0, am_go dc_147_30, pk_5_62_5, am_go dc_147_33, am_go dc_147_34, J_istore_1, st1_0, st1_1, st1_s, kl_i, kl_l, kl_r, kl_n, J_iload_1, K_il, ld_1, am_go dc_147_36, am_go dc_147_37, am_go dc_147_40, am_go dc_147_43, am_go dc_147_46, am_go dc_147_47, fk_5_62_5, am_go dc_147_50, J_sipush, c16_162, am_go dc_147_53, am_go dc_147_56, am_go dc_147_57, am_go dc_147_60, am_go dc_147_61, cv_5_75_1 own_147, am_go dc_147_64, J_if_eq, am_go dc_147_67, am_go dc_147_68, am_go dc_147_71, am_go dc_147_72, cv_5_79_1 own_147, am_go dc_147_75, J_if_ne, am_go dc_147_78, am_go dc_147_79, fk_5_11_5, am_go dc_147_82, am_go dc_147_83, am_go dc_147_86, am_go dc_147_87, J_iastore, am_go dc_147_88, am_go dc_147_89, am_go dc_147_92, am_go dc_147_93, am_go dc_147_94, am_go dc_147_97, am_go dc_147_98, am_go dc_147_99, J_dup_i, J_dup_r, am_go dc_147_100, am_go dc_147_103, c32_1, am_go dc_147_104, J_iadd, am_go dc_147_105, am_go dc_147_108, J_iinc, pinc_go, am_go dc_147_111, J_goto, am_go dc_147_114, J_ret_v ret_147, wg_3, wg_0, pf_a pk_5_15_5 rfl, wp_2, pf_i pk_5_62_5 rfl, wg_2, wg_1, wH_0, wH_1, ww_1, zI_add, zI_mul, zI_lt, zI_le, zI_eq, zI_neg, zI_pos, zI_ne0, zI_gt0, zB_0, lg_cmp_ge, lg_cmp_le, lg_cmp_gt, lg_cmp_lt, lg_cmp_eq, ail_r, abl_r, all_r, ais_r, abs_r, als_r, aal_r, aal_q, aln_r, vrf_s, vrf_n, z32, t0, t1, t3, t4, t6, kc, hc', List.length_cons, List.length_nil, Nat.reduceAdd, Nat.reduceLT, Nat.reduceLeDiff, Nat.reduceEqDiff, ↓reduceIte, bind_s, if_true, if_false, not_true_eq_false, not_false_eq_true, Nat.zero_add]
  | succ k ih =>
    intro c n u hc hI
    have hG := (hS u).2.1
    have hm5 := hG.m.2
    have h1024 := four_le hm5
    have hc' : ¬ 4 ^ wN (S 116) ≤ c := by omega
    have kc : am_f X (d + 2) 110 [.ref t] (wH h w (u, (t, sA, sN, mA, mN)), z) = _ := c_codes (X := X) (d := d + 1) (z := z) (hS u)
    obtain ⟨i1, i2, i3, i4, i5, i6⟩ := hI
    have h162 := wNb_le hm5
    by_cases g : 162 ≤ n
    · refine ⟨u, n, ?_, wI.cd (c := c) hG ⟨i1, i2, i3, i4, i5, i6⟩ (by obtain ⟨dg, -, q2, -⟩ := i3 0 (by omega); omega) (fun dg hv => ?_), i2, rfl, fun _ _ => rfl, rfl⟩
      · rw [am_go dc_147_35]
        simp (disch := first | omega | exact Nat.le_of_ble_eq_true rfl | exact wH_ci | (refine wF_lt ?_; omega) | exact (hS _).iT.ci) only [own_147, am_go dc_147_0, J_aload_0, K_al, ld_0, am_go dc_147_1, J_getfield, gf_r, fk_5_15_5, am_go dc_147_4, J_alen, am_go dc_147_5, am_go dc_147_6, fk_5_22_5, am_go dc_147_9, cv_5_72_1 own_147, JR_v, JR_0, JR_ite, ci1_r, am_go dc_147_12, J_icmp_ge, am_go dc_147_15, am_go dc_147_16, am_go dc_147_17, am_go dc_147_20, am_go dc_147_23, am_go dc_147_25, J_putfield_i, J_putfield_l, J_putfield_r, ini_147, pk_5_15_5, am_go dc_147_28, am_go dc_147_29, J_iconst, c32_0, am_go dc_147_30, pk_5_62_5, am_go dc_147_33, am_go dc_147_34, J_istore_1, st1_0, st1_1, st1_s, kl_i, kl_l, kl_r, kl_n, J_iload_1, K_il, ld_1, am_go dc_147_36, am_go dc_147_37, am_go dc_147_40, am_go dc_147_43, am_go dc_147_46, am_go dc_147_47, fk_5_62_5, am_go dc_147_50, J_sipush, c16_162, am_go dc_147_53, am_go dc_147_56, am_go dc_147_57, am_go dc_147_60, am_go dc_147_61, cv_5_75_1 own_147, am_go dc_147_64, J_if_eq, am_go dc_147_67, am_go dc_147_68, am_go dc_147_71, am_go dc_147_72, cv_5_79_1 own_147, am_go dc_147_75, J_if_ne, am_go dc_147_78, am_go dc_147_79, fk_5_11_5, am_go dc_147_82, am_go dc_147_83, am_go dc_147_86, am_go dc_147_87, J_iastore, am_go dc_147_88, am_go dc_147_89, am_go dc_147_92, am_go dc_147_93, am_go dc_147_94, am_go dc_147_97, am_go dc_147_98, am_go dc_147_99, J_dup_i, J_dup_r, am_go dc_147_100, am_go dc_147_103, c32_1, am_go dc_147_104, J_iadd, am_go dc_147_105, am_go dc_147_108, J_iinc, pinc_go, am_go dc_147_111, J_goto, am_go dc_147_114, J_ret_v ret_147, wg_3, wg_0, pf_a pk_5_15_5 rfl, wp_2, pf_i pk_5_62_5 rfl, wg_2, wg_1, wH_0, wH_1, ww_1, zI_add, zI_mul, zI_lt, zI_le, zI_eq, zI_neg, zI_pos, zI_ne0, zI_gt0, zB_0, lg_cmp_ge, lg_cmp_le, lg_cmp_gt, lg_cmp_lt, lg_cmp_eq, ail_r, abl_r, all_r, ais_r, abs_r, als_r, aal_r, aal_q, aln_r, vrf_s, vrf_n, z32, t0, t1, t3, t4, t6, kc, hc', i1, g, List.length_cons, List.length_nil, Nat.reduceAdd, Nat.reduceLT, Nat.reduceLeDiff, Nat.reduceEqDiff, ↓reduceIte, bind_s, if_true, if_false, not_true_eq_false, not_false_eq_true, Nat.zero_add]
      · rcases Nat.lt_or_ge (pk dg) c with q | q
        · exact q
        · have := i5 dg hv q
          have := wIx_lt hG hv
          omega
    · have hpk : pk (dgc c) = c := pk_dgc (by omega)
      have hdi : dIn S (dgc c) := dgc_in (by omega)
      have kb : am_f X (d + 2) 112 [.ref t, .int (zI c)] (wH h w (u, (t, sA, sN, mA, mN)), z) = some (.inl (some (.int (zB (cCan S (dgc c))))), (wH h w (u, (t, sA, sN, mA, mN)), z)) := by
        have := c_canBe (X := X) (d := d) (z := z) (hS u) hdi.1
        rw [hpk] at this
        exact this
      have kp : am_f X (d + 2) 148 [.ref t, .int (zI c)] (wH h w (u, (t, sA, sN, mA, mN)), z) = some (.inl (some (.int (zB (cPp S (dgc c))))), (wH h w (u, (t, sA, sN, mA, mN)), z)) := by
        have := c_hasPeeped (X := X) (d := d) (z := z) (hS u) hdi.1
        rw [hpk] at this
        exact this
      have hv0 : wVd S (dgc 0) := ⟨dgc_in (Nat.pow_pos (by omega)), (wVd_iff (dgc_in (Nat.pow_pos (by omega)))).mpr (fun b _ => Or.inl (by unfold dgc; rw [Nat.zero_div]))⟩
      have skip : ¬ wVd S (dgc c) → wI S (c + 1) n u := fun hn => by
        refine ⟨i1, i2, fun k hk => ?_, fun dg hv hl => ?_, fun dg hv hl => i5 dg hv (by omega), fun _ => i6 (by
          rcases Nat.eq_zero_or_pos c with q | q
          · subst q
            exact absurd hv0 hn
          · exact q)⟩
        · obtain ⟨dg, q1, q2, q3⟩ := i3 k hk
          exact ⟨dg, q1, by omega, q3⟩
        · refine i4 dg hv ?_
          rcases Nat.lt_or_ge (pk dg) c with q | q
          · exact q
          · exfalso
            have e : dg = dgc c := dg_inj hm5 hv.1 hdi (by omega)
            rw [e] at hv
            exact hn hv
      cases cb : cCan S (dgc c) with
      | false =>
        rw [cb] at kb
        obtain ⟨u', n', s1, s2, s3⟩ := ih (c + 1) n u (by omega) (skip (fun hv => by rw [hv.can] at cb; cases cb))
        refine ⟨u', n', Eq.trans ?_ s1, s2, s3⟩
        rw [am_go dc_147_35]
        simp (disch := first | omega | exact Nat.le_of_ble_eq_true rfl | exact wH_ci | (refine wF_lt ?_; omega) | exact (hS _).iT.ci) only [own_147, am_go dc_147_0, J_aload_0, K_al, ld_0, am_go dc_147_1, J_getfield, gf_r, fk_5_15_5, am_go dc_147_4, J_alen, am_go dc_147_5, am_go dc_147_6, fk_5_22_5, am_go dc_147_9, cv_5_72_1 own_147, JR_v, JR_0, JR_ite, ci1_r, am_go dc_147_12, J_icmp_ge, am_go dc_147_15, am_go dc_147_16, am_go dc_147_17, am_go dc_147_20, am_go dc_147_23, am_go dc_147_25, J_putfield_i, J_putfield_l, J_putfield_r, ini_147, pk_5_15_5, am_go dc_147_28, am_go dc_147_29, J_iconst, c32_0, am_go dc_147_30, pk_5_62_5, am_go dc_147_33, am_go dc_147_34, J_istore_1, st1_0, st1_1, st1_s, kl_i, kl_l, kl_r, kl_n, J_iload_1, K_il, ld_1, am_go dc_147_36, am_go dc_147_37, am_go dc_147_40, am_go dc_147_43, am_go dc_147_46, am_go dc_147_47, fk_5_62_5, am_go dc_147_50, J_sipush, c16_162, am_go dc_147_53, am_go dc_147_56, am_go dc_147_57, am_go dc_147_60, am_go dc_147_61, cv_5_75_1 own_147, am_go dc_147_64, J_if_eq, am_go dc_147_67, am_go dc_147_68, am_go dc_147_71, am_go dc_147_72, cv_5_79_1 own_147, am_go dc_147_75, J_if_ne, am_go dc_147_78, am_go dc_147_79, fk_5_11_5, am_go dc_147_82, am_go dc_147_83, am_go dc_147_86, am_go dc_147_87, J_iastore, am_go dc_147_88, am_go dc_147_89, am_go dc_147_92, am_go dc_147_93, am_go dc_147_94, am_go dc_147_97, am_go dc_147_98, am_go dc_147_99, J_dup_i, J_dup_r, am_go dc_147_100, am_go dc_147_103, c32_1, am_go dc_147_104, J_iadd, am_go dc_147_105, am_go dc_147_108, J_iinc, pinc_go, am_go dc_147_111, J_goto, am_go dc_147_114, J_ret_v ret_147, wg_3, wg_0, pf_a pk_5_15_5 rfl, wp_2, pf_i pk_5_62_5 rfl, wg_2, wg_1, wH_0, wH_1, ww_1, zI_add, zI_mul, zI_lt, zI_le, zI_eq, zI_neg, zI_pos, zI_ne0, zI_gt0, zB_0, lg_cmp_ge, lg_cmp_le, lg_cmp_gt, lg_cmp_lt, lg_cmp_eq, ail_r, abl_r, all_r, ais_r, abs_r, als_r, aal_r, aal_q, aln_r, vrf_s, vrf_n, z32, t0, t1, t3, t4, t6, kc, hc', i1, g, kb, zB_t, zB_f, List.length_cons, List.length_nil, Nat.reduceAdd, Nat.reduceLT, Nat.reduceLeDiff, Nat.reduceEqDiff, ↓reduceIte, bind_s, if_true, if_false, not_true_eq_false, not_false_eq_true, Nat.zero_add]
      | true =>
        rw [cb] at kb
        cases cp : cPp S (dgc c) with
        | true =>
          rw [cp] at kp
          obtain ⟨u', n', s1, s2, s3⟩ := ih (c + 1) n u (by omega) (skip (fun hv => by rw [hv.2] at cp; cases cp))
          refine ⟨u', n', Eq.trans ?_ s1, s2, s3⟩
          rw [am_go dc_147_35]
          simp (disch := first | omega | exact Nat.le_of_ble_eq_true rfl | exact wH_ci | (refine wF_lt ?_; omega) | exact (hS _).iT.ci) only [own_147, am_go dc_147_0, J_aload_0, K_al, ld_0, am_go dc_147_1, J_getfield, gf_r, fk_5_15_5, am_go dc_147_4, J_alen, am_go dc_147_5, am_go dc_147_6, fk_5_22_5, am_go dc_147_9, cv_5_72_1 own_147, JR_v, JR_0, JR_ite, ci1_r, am_go dc_147_12, J_icmp_ge, am_go dc_147_15, am_go dc_147_16, am_go dc_147_17, am_go dc_147_20, am_go dc_147_23, am_go dc_147_25, J_putfield_i, J_putfield_l, J_putfield_r, ini_147, pk_5_15_5, am_go dc_147_28, am_go dc_147_29, J_iconst, c32_0, am_go dc_147_30, pk_5_62_5, am_go dc_147_33, am_go dc_147_34, J_istore_1, st1_0, st1_1, st1_s, kl_i, kl_l, kl_r, kl_n, J_iload_1, K_il, ld_1, am_go dc_147_36, am_go dc_147_37, am_go dc_147_40, am_go dc_147_43, am_go dc_147_46, am_go dc_147_47, fk_5_62_5, am_go dc_147_50, J_sipush, c16_162, am_go dc_147_53, am_go dc_147_56, am_go dc_147_57, am_go dc_147_60, am_go dc_147_61, cv_5_75_1 own_147, am_go dc_147_64, J_if_eq, am_go dc_147_67, am_go dc_147_68, am_go dc_147_71, am_go dc_147_72, cv_5_79_1 own_147, am_go dc_147_75, J_if_ne, am_go dc_147_78, am_go dc_147_79, fk_5_11_5, am_go dc_147_82, am_go dc_147_83, am_go dc_147_86, am_go dc_147_87, J_iastore, am_go dc_147_88, am_go dc_147_89, am_go dc_147_92, am_go dc_147_93, am_go dc_147_94, am_go dc_147_97, am_go dc_147_98, am_go dc_147_99, J_dup_i, J_dup_r, am_go dc_147_100, am_go dc_147_103, c32_1, am_go dc_147_104, J_iadd, am_go dc_147_105, am_go dc_147_108, J_iinc, pinc_go, am_go dc_147_111, J_goto, am_go dc_147_114, J_ret_v ret_147, wg_3, wg_0, pf_a pk_5_15_5 rfl, wp_2, pf_i pk_5_62_5 rfl, wg_2, wg_1, wH_0, wH_1, ww_1, zI_add, zI_mul, zI_lt, zI_le, zI_eq, zI_neg, zI_pos, zI_ne0, zI_gt0, zB_0, lg_cmp_ge, lg_cmp_le, lg_cmp_gt, lg_cmp_lt, lg_cmp_eq, ail_r, abl_r, all_r, ais_r, abs_r, als_r, aal_r, aal_q, aln_r, vrf_s, vrf_n, z32, t0, t1, t3, t4, t6, kc, hc', i1, g, kb, kp, zB_t, zB_f, List.length_cons, List.length_nil, Nat.reduceAdd, Nat.reduceLT, Nat.reduceLeDiff, Nat.reduceEqDiff, ↓reduceIte, bind_s, if_true, if_false, not_true_eq_false, not_false_eq_true, Nat.zero_add]
        | false =>
          rw [cp] at kp
          have hv : wVd S (dgc c) := ⟨hdi, cp⟩
          have hix := i5 _ hv (by omega)
          have hnb := wIx_nb hG hv
          have hI' : wI S (c + 1) (n + 1) (mI (mS (mS u 1 (upd (u.1 1) n (zI c))) 3 (upd (u.1 3) c (zI n))) 2 (zI (n + 1))) := by
            refine ⟨rfl, by omega, fun k hk => ?_, fun dg hv' hl => ?_, fun dg hv' hl => ?_, fun _ => ?_⟩
            · by_cases e : k = n
              · subst e
                refine ⟨dgc c, hv, by omega, ?_, ?_⟩
                · rw [hpk]
                  exact upd_s
                · rw [hpk]
                  exact upd_s
              · obtain ⟨dg, q1, q2, q3, q4⟩ := i3 k (by omega)
                refine ⟨dg, q1, by omega, ?_, ?_⟩
                · rw [← q3]
                  exact upd_o e
                · rw [← q4]
                  exact upd_o (by omega)
            · by_cases e : pk dg = c
              · refine ⟨n, by omega, ?_, ?_⟩
                · rw [e]
                  exact upd_s
                · rw [e]
                  exact upd_s
              · obtain ⟨k, q1, q2, q3⟩ := i4 dg hv' (by omega)
                refine ⟨k, by omega, ?_, ?_⟩
                · rw [← q2]
                  exact upd_o (by omega)
                · rw [← q3]
                  exact upd_o e
            · have := wIx_mono hG hv hv' (by omega)
              omega
            · by_cases e : c = 0
              · subst e
                have : n = 0 := by
                  rcases Nat.eq_zero_or_pos n with q | q
                  · exact q
                  · obtain ⟨dg, -, q2, -⟩ := i3 0 q
                    omega
                subst this
                show upd (u.1 3) 0 (zI 0) 0 = zI 0
                exact upd_s
              · rw [← i6 (by omega)]
                show upd (u.1 3) c (zI n) 0 = u.1 3 0
                exact upd_o (fun q => e q.symm)
          obtain ⟨u', n', s1, s2, s3, s4⟩ := ih (c + 1) (n + 1) _ (by omega) hI'
          refine ⟨u', n', Eq.trans ?_ s1, s2, s3, s4.1, fun j hj => ?_, s4.2.2⟩
          · have hSp := wSp (h := h) (u := mS u 1 (upd (u.1 1) n (zI c))) hW
            have hSw := fun f => wSw (h := h) (u := mS u 1 (upd (u.1 1) n (zI c))) (f := f) hW
            rw [am_go dc_147_35]
            simp (disch := first | omega | exact Nat.le_of_ble_eq_true rfl | exact wH_ci | (refine wF_lt ?_; omega) | exact (hS _).iT.ci) only [own_147, am_go dc_147_0, J_aload_0, K_al, ld_0, am_go dc_147_1, J_getfield, gf_r, fk_5_15_5, am_go dc_147_4, J_alen, am_go dc_147_5, am_go dc_147_6, fk_5_22_5, am_go dc_147_9, cv_5_72_1 own_147, JR_v, JR_0, JR_ite, ci1_r, am_go dc_147_12, J_icmp_ge, am_go dc_147_15, am_go dc_147_16, am_go dc_147_17, am_go dc_147_20, am_go dc_147_23, am_go dc_147_25, J_putfield_i, J_putfield_l, J_putfield_r, ini_147, pk_5_15_5, am_go dc_147_28, am_go dc_147_29, J_iconst, c32_0, am_go dc_147_30, pk_5_62_5, am_go dc_147_33, am_go dc_147_34, J_istore_1, st1_0, st1_1, st1_s, kl_i, kl_l, kl_r, kl_n, J_iload_1, K_il, ld_1, am_go dc_147_36, am_go dc_147_37, am_go dc_147_40, am_go dc_147_43, am_go dc_147_46, am_go dc_147_47, fk_5_62_5, am_go dc_147_50, J_sipush, c16_162, am_go dc_147_53, am_go dc_147_56, am_go dc_147_57, am_go dc_147_60, am_go dc_147_61, cv_5_75_1 own_147, am_go dc_147_64, J_if_eq, am_go dc_147_67, am_go dc_147_68, am_go dc_147_71, am_go dc_147_72, cv_5_79_1 own_147, am_go dc_147_75, J_if_ne, am_go dc_147_78, am_go dc_147_79, fk_5_11_5, am_go dc_147_82, am_go dc_147_83, am_go dc_147_86, am_go dc_147_87, J_iastore, am_go dc_147_88, am_go dc_147_89, am_go dc_147_92, am_go dc_147_93, am_go dc_147_94, am_go dc_147_97, am_go dc_147_98, am_go dc_147_99, J_dup_i, J_dup_r, am_go dc_147_100, am_go dc_147_103, c32_1, am_go dc_147_104, J_iadd, am_go dc_147_105, am_go dc_147_108, J_iinc, pinc_go, am_go dc_147_111, J_goto, am_go dc_147_114, J_ret_v ret_147, wg_3, wg_0, pf_a pk_5_15_5 rfl, wp_2, pf_i pk_5_62_5 rfl, wg_2, wg_1, wH_0, wH_1, ww_1, zI_add, zI_mul, zI_lt, zI_le, zI_eq, zI_neg, zI_pos, zI_ne0, zI_gt0, zB_0, lg_cmp_ge, lg_cmp_le, lg_cmp_gt, lg_cmp_lt, lg_cmp_eq, ail_r, abl_r, all_r, ais_r, abs_r, als_r, aal_r, aal_q, aln_r, vrf_s, vrf_n, z32, t0, t1, t3, t4, t6, kc, hc', i1, g, kb, kp, zB_t, zB_f, hSp, hSw, mS_s, mS_o, mS_2, mI_1, mI_2, mI_s, mI_o, mI_3, mI_I, mS_S, mJ_1, mJ_2, mJ_3, mJ_s, mJ_o, mJ_J, mL_1, mL_2, mL_s, mL_o, List.length_cons, List.length_nil, Nat.reduceAdd, Nat.reduceLT, Nat.reduceLeDiff, Nat.reduceEqDiff, ↓reduceIte, bind_s, if_true, if_false, not_true_eq_false, not_false_eq_true, Nat.zero_add]
          · rw [s4.2.1 j hj]
            exact mI_o hj
end SB
