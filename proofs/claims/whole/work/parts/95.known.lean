/-! Plan: know -/
theorem lK_ne {l x : Nat} : lK l x ∨ x = l ∨ x = l + 1 ∨ x = l + 4 ∨ x = l + 5 ∨ x = l + 6 ∨ x = l + 7 ∨ x = l + 8 := by
  unfold lK
  omega
theorem lK_ge {l x : Nat} (h : l + 9 ≤ x) : lK l x := ⟨by omega, by omega, by omega, by omega, by omega, by omega, by omega⟩
section PG
variable {X : am_X} {C : Nat → Prop} {h : am_H} {l t m a N d R : Nat} {T : mU × (Nat → Option Nat)} {S : Nat → Int32} {z : Nat × Nat} {u : mU}
theorem l_grow {q n : Nat} (hq : l + 9 ≤ q) : am_up (am_up (am_up (am_up (lH h l (u, (t, m, a, N))) q (.inl (.long, n, .inr (.inl (fun _ => 0))))) l (.inr (4, (lF l (u, (t, m, a, N))).set 3 (.ref q)))) (q + 1) (.inl (.int, n, .inl (fun _ => 0)))) l (.inr (4, ((lF l (u, (t, m, a, N))).set 3 (.ref q)).set 4 (.ref (q + 1)))) = lH (lB h (u, (t, m, a, N))) l (mS (mL u 3 (fun _ => 0)) 4 (fun _ => 0), (t, q, q + 1, n)) := by
  funext x
  by_cases e0 : x = l
  · subst e0
    rw [up_r, lH_0]
    rfl
  · rw [up_x e0]
    by_cases e1 : x = q + 1
    · subst e1
      rw [up_r, lH_b (lK_ge (by omega))]
      unfold lB
      rw [up_r]
      rfl
    · rw [up_x e1, up_x e0]
      by_cases e2 : x = q
      · subst e2
        rw [up_r, lH_b (lK_ge (by omega))]
        unfold lB
        rw [up_x (by omega), up_r]
        rfl
      · rw [up_x e2]
        rcases lK_ne (l := l) (x := x) with k | k | k | k | k | k | k | k
        · rw [lH_b k, lH_b k]
          show lB h (u, (t, m, a, N)) x = am_up (am_up (lB h (u, (t, m, a, N))) q _) (q + 1) _ x
          rw [up_x e1, up_x e2]
        · exact absurd k e0
        · subst k
          rw [lH_1, lH_1]
          rfl
        · subst k
          rw [lH_4, lH_4]
          rfl
        · subst k
          rw [lH_5, lH_5]
          rfl
        · subst k
          rw [lH_6, lH_6]
          rfl
        · subst k
          rw [lH_7, lH_7]
          rfl
        · subst k
          rw [lH_8, lH_8]
          rfl
/-- the plan known -/
theorem l_know (hT0 : tS C h t T S) (hs : lSe C l t m a) (hL : lOkk l (t, m, a, N)) (hN2 : N < 1000000) (hR : T.1.2.2.1 5 = zI R) (hR21 : R ≤ 21) (hz : ∀ x, z.1 ≤ x → lH h l (u, (t, m, a, N)) x = none) (hlz : l + 9 ≤ z.1) (hmz : m < z.1) (haz : a < z.1) (hCz : ∀ x, (t ≤ x ∧ x < t + 8) ∨ C x → x < z.1) (hk : u.2.2.1 2 = zI 0) : ∃ h' u' m' a' N' z', am_f X (d + 7) 109 [.ref l] (lH h l (u, (t, m, a, N)), z) = some (.inl none, (lH h' l (u', (t, m', a', N')), z')) ∧ tabOk S T R u' ∧ (∀ j, j < wN (S 116) → u'.1 1 j = S (18 * j + 1)) ∧ (∀ j, j ≠ 3 → u'.2.1 j = u.2.1 j) ∧ u'.2.2.1 2 = zI 1 ∧ 21 * 4 ^ wN (S 116) ≤ N' ∧ N' < 1000000 ∧ lOkk l (t, m', a', N') ∧ tS C h' t T S ∧ lSe C l t m' a' ∧ (∀ x, x < z.1 → lK l x → x ≠ m → x ≠ a → lH h' l (u', (t, m', a', N')) x = lH h l (u, (t, m, a, N)) x) ∧ (∀ x, z'.1 ≤ x → lH h' l (u', (t, m', a', N')) x = none) ∧ m' < z'.1 ∧ a' < z'.1 ∧ ((N' = N ∧ z' = z ∧ m' = m ∧ a' = a) ∨ (N < N' ∧ N' = 21 * 4 ^ wN (S 116) ∧ z' = (z.1 + 2, z.2 + N' + N') ∧ m' = z.1 ∧ a' = z.1 + 1)) := by
  have hS := hs.tS (N := N) hT0
  have hsz := (hS u).sz
  have hm5 := (hS u).m5
  have h1024 := four_le hm5
  have t0 := (hS u).iT.c0
  have hM := lM (h := h) (u := u) hL
  have kc : am_f X (d + 6) 110 [.ref t] (lH h l (u, (t, m, a, N)), z) = _ := c_codes (X := X) (d := d + 5) (z := z) (hS u)
  by_cases c : 21 * 4 ^ wN (S 116) ≤ N
  · obtain ⟨u', s1, s2, s3, s4, s5⟩ := l_know_t (X := X) (d := d) (z := z) (u := u) (x1 := zI (21 * 4 ^ wN (S 116))) (v2 := none) hS hL c hN2 hR hR21
    refine ⟨h, u', m, a, N, z, Eq.trans ?_ s1, s2, s3, s4, s5, c, hN2, hL, hT0, hs, fun x h1 h2 h3 h4 => by rw [lX h2 h3 h4, lX h2 h3 h4], fun x hx => ?_, hmz, haz, Or.inl ⟨rfl, rfl, rfl, rfl⟩⟩
    · rw [fU_109]
      simp (disch := first | omega | exact Nat.le_of_ble_eq_true rfl | exact lH_ci | (refine lF_lt ?_; omega) | exact (hS _).iT.ci) only [own_109, am_go dc_109_0, J_aload_0, K_al, ld_0, am_go dc_109_1, J_getfield, gf_r, fk_4_42_4, am_go dc_109_4, J_if_eq, am_go dc_109_8, J_bipush, c8_21, am_go dc_109_10, am_go dc_109_11, fk_4_38_4, am_go dc_109_14, cv_4_46_1 own_109, JR_v, JR_0, JR_ite, ci1_r, am_go dc_109_17, J_imul, am_go dc_109_18, J_istore_1, st1_0, st1_1, st1_s, kl_i, kl_l, kl_r, kl_n, am_go dc_109_19, am_go dc_109_20, fk_4_15_4, am_go dc_109_23, J_alen, am_go dc_109_24, J_iload_1, K_il, ld_1, am_go dc_109_25, J_icmp_ge, lg_2, lg_0, lg_3, pf_a pk_4_15_4 rfl, pf_a pk_4_19_4 rfl, tg_1, lg_1, tg_0, lp_2, pf_z0 pk_4_42_4 rfl, pf_z1 pk_4_42_4 rfl, pf_zB pk_4_42_4 rfl, lH_0, lH_1, lH_4, lH_5, lH_6, lH_7, lH_8, lw_1, lw_4, lw_5, lw_6, lw_7, lw_8, zI_add, zI_mul, zI_lt, zI_le, zI_eq, zI_neg, zI_pos, zI_ne0, zI_gt0, zB_0, lg_cmp_ge, lg_cmp_le, lg_cmp_gt, lg_cmp_lt, lg_cmp_eq, ail_r, abl_r, all_r, ais_r, abs_r, als_r, aal_r, aal_q, aln_r, vrf_s, vrf_n, z32, hk, t0, kc, hM, c, List.length_cons, List.length_nil, Nat.reduceAdd, Nat.reduceLT, Nat.reduceLeDiff, Nat.reduceEqDiff, ↓reduceIte, bind_s, if_true, if_false, not_true_eq_false, not_false_eq_true, Nat.zero_add]
    · have := hz x hx
      rw [lX (lK_ge (by omega)) (by omega) (by omega)] at this ⊢
      exact this
  · have hfr : ∀ x, (t ≤ x ∧ x < t + 8) ∨ C x → lB h (u, (t, m, a, N)) x = h x := fun x hx => by
      obtain ⟨q1, q2, q3⟩ := hs x hx
      unfold lB
      rw [up_x q3, up_x q2]
    have hT1 : tS C (lB h (u, (t, m, a, N))) t T S := hT0.fr (fun x h1 h2 => hfr x (Or.inl ⟨h1, h2⟩)) (fun x hx => hfr x (Or.inr hx)) (fun _ hx => hx)
    have hs1 : lSe C l t z.1 (z.1 + 1) := fun x hx => ⟨(hs x hx).1, by have := hCz x hx; omega, by have := hCz x hx; omega⟩
    have hL1 : lOkk l (t, z.1, z.1 + 1, 21 * 4 ^ wN (S 116)) := ⟨lK_ge (by show l + 9 ≤ z.1; omega), lK_ge (by show l + 9 ≤ z.1 + 1; omega), by show z.1 ≠ z.1 + 1; omega⟩
    have hS1 := hs1.tS (N := 21 * 4 ^ wN (S 116)) hT1
    obtain ⟨u', s1, s2, s3, s4, s5⟩ := l_know_t (X := X) (d := d) (z := (z.1 + 2, z.2 + 21 * 4 ^ wN (S 116) + 21 * 4 ^ wN (S 116))) (u := mS (mL u 3 (fun _ => 0)) 4 (fun _ => 0)) (x1 := zI (21 * 4 ^ wN (S 116))) (v2 := none) hS1 hL1 (Nat.le_refl _) (by omega) hR hR21
    refine ⟨lB h (u, (t, m, a, N)), u', z.1, z.1 + 1, 21 * 4 ^ wN (S 116), (z.1 + 2, z.2 + 21 * 4 ^ wN (S 116) + 21 * 4 ^ wN (S 116)), Eq.trans ?_ s1, s2, s3, fun j hj => ?_, s5, Nat.le_refl _, by omega, hL1, hT1, hs1, fun x h1 h2 h3 h4 => ?_, fun x hx => ?_, by show z.1 < z.1 + 2; omega, by show z.1 + 1 < z.1 + 2; omega, Or.inr ⟨by omega, rfl, rfl, rfl, rfl⟩⟩
    · have hg := l_grow (h := h) (l := l) (t := t) (m := m) (a := a) (N := N) (u := u) (q := z.1) (n := 21 * 4 ^ wN (S 116)) hlz
      rw [← hg]
      have n1 : ∀ (H : am_H) (e : am_E), am_up H z.1 e l = H l := fun H e => up_x (by omega)
      have n2 : ∀ (H : am_H) (e : am_E), am_up H (z.1 + 1) e l = H l := fun H e => up_x (by omega)
      rw [fU_109]
      simp (disch := first | omega | exact Nat.le_of_ble_eq_true rfl | exact lH_ci | (refine lF_lt ?_; omega) | exact (hS _).iT.ci | (simp only [List.length_set]; refine lF_lt ?_; omega)) only [own_109, am_go dc_109_0, J_aload_0, K_al, ld_0, am_go dc_109_1, J_getfield, gf_r, fk_4_42_4, am_go dc_109_4, J_if_eq, am_go dc_109_8, J_bipush, c8_21, am_go dc_109_10, am_go dc_109_11, fk_4_38_4, am_go dc_109_14, cv_4_46_1 own_109, JR_v, JR_0, JR_ite, ci1_r, am_go dc_109_17, J_imul, am_go dc_109_18, J_istore_1, st1_0, st1_1, st1_s, kl_i, kl_l, kl_r, kl_n, am_go dc_109_19, am_go dc_109_20, fk_4_15_4, am_go dc_109_23, J_alen, am_go dc_109_24, J_iload_1, K_il, ld_1, am_go dc_109_25, J_icmp_ge, am_go dc_109_28, am_go dc_109_29, am_go dc_109_30, am_go dc_109_32, J_putfield_i, J_putfield_l, J_putfield_r, ini_109, pk_4_15_4, am_go dc_109_35, am_go dc_109_36, am_go dc_109_37, am_go dc_109_39, pk_4_19_4, lg_2, lg_0, lg_3, pf_a pk_4_15_4 rfl, pf_a pk_4_19_4 rfl, tg_1, lg_1, tg_0, lp_2, pf_z0 pk_4_42_4 rfl, pf_z1 pk_4_42_4 rfl, pf_zB pk_4_42_4 rfl, lH_0, lH_1, lH_4, lH_5, lH_6, lH_7, lH_8, lw_1, lw_4, lw_5, lw_6, lw_7, lw_8, zI_add, zI_mul, zI_lt, zI_le, zI_eq, zI_neg, zI_pos, zI_ne0, zI_gt0, zB_0, lg_cmp_ge, lg_cmp_le, lg_cmp_gt, lg_cmp_lt, lg_cmp_eq, ail_r, abl_r, all_r, ais_r, abs_r, als_r, aal_r, aal_q, aln_r, vrf_s, vrf_n, z32, hk, t0, kc, hM, c, J_nal, J_nai, n1, n2, up_r, Nat.add_assoc, List.length_cons, List.length_nil, Nat.reduceAdd, Nat.reduceLT, Nat.reduceLeDiff, Nat.reduceEqDiff, ↓reduceIte, bind_s, if_true, if_false, not_true_eq_false, not_false_eq_true, Nat.zero_add]
    · rw [s4 j hj]
      show (if j = 3 then _ else u.2.1 j) = u.2.1 j
      rw [if_neg hj]
    · rw [lX h2 (by omega) (by omega), lX h2 h3 h4]
      unfold lB
      rw [up_x h4, up_x h3]
    · have hx' : z.1 + 2 ≤ x := hx
      have := hz x (by omega)
      rw [lX (lK_ge (by omega)) (by omega) (by omega)] at this ⊢
      unfold lB
      rw [up_x (show x ≠ a by omega), up_x (show x ≠ m by omega)]
      exact this
end PG
