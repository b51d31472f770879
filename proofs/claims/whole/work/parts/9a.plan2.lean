/-! Plan: what it stands on; act and mean at a place -/
def plOk (C : Nat → Prop) (h : am_H) (l t m a N : Nat) (T : mU × (Nat → Option Nat)) (S : Nat → Int32) (u : mU) (z : Nat × Nat) : Prop := tS C h t T S ∧ lSe C l t m a ∧ lOkk l (t, m, a, N) ∧ N < 1000000 ∧ (∀ x, z.1 ≤ x → lH h l (u, (t, m, a, N)) x = none) ∧ l + 9 ≤ z.1 ∧ m < z.1 ∧ a < z.1 ∧ ∀ x, (t ≤ x ∧ x < t + 8) ∨ C x → x < z.1
def plKn (S : Nat → Int32) (T : mU × (Nat → Option Nat)) (Q : Nat) (u : mU) (N : Nat) : Prop := u.2.2.1 2 = zI 1 ∧ tabOk S T Q u ∧ (∀ j, j < wN (S 116) → u.1 1 j = S (18 * j + 1)) ∧ 21 * 4 ^ wN (S 116) ≤ N
/-- how much the tables have grown -/
def plGr (S : Nat → Int32) (N N' m m' a a' : Nat) (z z' : Nat × Nat) : Prop := (N' = N ∧ z' = z ∧ m' = m ∧ a' = a) ∨ (N < N' ∧ N' = 21 * 4 ^ wN (S 116) ∧ z' = (z.1 + 2, z.2 + N' + N') ∧ m' = z.1 ∧ a' = z.1 + 1)
section PA
variable {X : am_X} {C : Nat → Prop} {h : am_H} {l t m a N d Q : Nat} {T : mU × (Nat → Option Nat)} {S : Nat → Int32} {z : Nat × Nat} {u : mU}
theorem qRw.rf : qRw S S := fun _ _ => rfl
theorem tS.rk {H : am_H} (hS : tS C H t T S) : ∃ Q, rOk T S Q := hS.2.2.2.2
theorem plOk.st (hP : plOk C h l t m a N T S u z) : ∀ u, tS C (lH h l (u, (t, m, a, N))) t T S := hP.2.1.tS hP.1
theorem plOk.uu {u' : mU} (hP : plOk C h l t m a N T S u z) : plOk C h l t m a N T S u' z := by
  obtain ⟨h1, h2, h3, h4, h5, h6, h7, h8, h9⟩ := hP
  refine ⟨h1, h2, h3, h4, fun x hx => ?_, h6, h7, h8, h9⟩
  have := h5 x hx
  rw [lX (lK_ge (by omega)) (by omega) (by omega)] at this ⊢
  exact this
theorem l_knows (hP : plOk C h l t m a N T S u z) (hr : rOk T S Q) (hk : u.2.2.1 2 = zI 0 ∨ plKn S T Q u N) : ∃ h' u' m' a' N' z', am_f X (d + 7) 109 [.ref l] (lH h l (u, (t, m, a, N)), z) = some (.inl none, (lH h' l (u', (t, m', a', N')), z')) ∧ plOk C h' l t m' a' N' T S u' z' ∧ plKn S T Q u' N' ∧ (∀ j, j ≠ 3 → u'.2.1 j = u.2.1 j) ∧ (∀ x, x < z.1 → lK l x → x ≠ m → x ≠ a → lH h' l (u', (t, m', a', N')) x = lH h l (u, (t, m, a, N)) x) ∧ plGr S N N' m m' a a' z z' := by
  obtain ⟨h1, h2, h3, h4, h5, h6, h7, h8, h9⟩ := hP
  rcases hk with hk | hk
  · obtain ⟨h', u', m', a', N', z', e1, e2, e3, e4, e5, e6, e7, e8, e9, e10, e11, e12, e13, e14, e15⟩ := l_know (X := X) (d := d) h1 h2 h3 h4 hr.1 hr.2.2.1 h5 h6 h7 h8 h9 hk
    have hzz : z.1 ≤ z'.1 := by
      rcases e15 with q | q
      · rw [q.2.1]
        exact Nat.le_refl _
      · rw [q.2.2.1]
        show z.1 ≤ z.1 + 2
        omega
    exact ⟨h', u', m', a', N', z', e1, ⟨e9, e10, e8, e7, e12, by omega, e13, e14, fun x hx => by have := h9 x hx; omega⟩, ⟨e5, e2, e3, e6⟩, e4, e11, e15⟩
  · exact ⟨h, u, m, a, N, z, l_known hk.1, ⟨h1, h2, h3, h4, h5, h6, h7, h8, h9⟩, hk, fun _ _ => rfl, fun _ _ _ _ _ => rfl, Or.inl ⟨rfl, rfl, rfl, rfl⟩⟩
theorem plKn.at (hP : plOk C h l t m a N T S u z) (hr : rOk T S Q) (hk : plKn S T Q u N) {S' : Nat → Int32} (hR : qRw S S') (hL : qPl S') : u.2.1 3 (ix S (qDg S') (rkN T S')) = (qB S').1 ∧ u.1 4 (ix S (qDg S') (rkN T S')) = (qB S').2 ∧ ix S (qDg S') (rkN T S') < N := by
  have hG := hP.1.2.1
  have e := tab_q hr hG hk.2.1 hk.2.2.1 11 S' hR hL (by have := meas_le S'; omega)
  obtain ⟨-, e1, -, -⟩ := lk_rk hr hG hR hL
  have hQ := hr.2.2.1
  exact ⟨congrArg Prod.fst e, congrArg Prod.snd e, idx_lt (lk_in hR) hG.m.2 (by omega) hk.2.2.2⟩
theorem l_actAt (hP : plOk C h l t m a N T S u z) (hr : rOk T S Q) (hk : u.2.2.1 2 = zI 0 ∨ plKn S T Q u N) (hL : qPl S) : ∃ h' u' m' a' N' z', am_f X (d + 8) 108 [.ref l, .int (zI (pk (qDg S))), .int (zI (rkN T S))] (lH h l (u, (t, m, a, N)), z) = some (.inl (some (.int (qB S).2)), (lH h' l (u', (t, m', a', N')), z')) ∧ plOk C h' l t m' a' N' T S u' z' ∧ plKn S T Q u' N' ∧ (∀ j, j ≠ 3 → u'.2.1 j = u.2.1 j) ∧ (∀ x, x < z.1 → lK l x → x ≠ m → x ≠ a → lH h' l (u', (t, m', a', N')) x = lH h l (u, (t, m, a, N)) x) ∧ plGr S N N' m m' a a' z z' := by
  obtain ⟨h', u', m', a', N', z', e1, e2, e3, e4, e5, e6⟩ := l_knows (X := X) (d := d) hP hr hk
  refine ⟨h', u', m', a', N', z', ?_, e2, e3, e4, e5, e6⟩
  obtain ⟨q1, q2, q3⟩ := e3.at e2 hr qRw.rf hL
  obtain ⟨-, r1, -, -⟩ := lk_rk hr e2.1.2.1 qRw.rf hL
  have hQ := hr.2.2.1
  have hS := e2.st
  have t0 := fun u => (hS u).iT.c0
  have hi : am_f X (d + 7) 122 [.ref t, .int (zI (pk (qDg S))), .int (zI (rkN T S))] (lH h' l (u', (t, m', a', N')), z') = some (.inl (some (.int (zI (ix S (qDg S) (rkN T S))))), (lH h' l (u', (t, m', a', N')), z')) := c_index (X := X) (d := d + 6) (z := z') (dg := qDg S) (hS u') (by omega)
  have hA := lA (h := h') (u := u') e2.2.2.1
  have hN := e2.2.2.2.1
  rw [fU_108]
  simp (disch := first | omega | exact Nat.le_of_ble_eq_true rfl | exact lH_ci | exact (hS _).iT.ci) only [own_108, am_go dc_108_0, J_aload_0, K_al, ld_0, am_go dc_108_1, cv_4_173_4 own_108, JR_v, JR_0, JR_ite, ci1_r, am_go dc_108_4, am_go dc_108_5, J_getfield, gf_r, fk_4_19_4, am_go dc_108_8, am_go dc_108_9, fk_4_38_4, am_go dc_108_12, J_iload_1, K_il, ld_1, am_go dc_108_13, J_iload_2, ld_2, am_go dc_108_14, cv_4_150_1 own_108, am_go dc_108_17, J_iaload, am_go dc_108_18, J_ret_i ret_108, lg_4, lg_0, lH_0, lH_1, lH_4, lH_5, lH_6, lH_7, lH_8, lw_1, lw_4, lw_5, lw_6, lw_7, lw_8, zI_add, zI_mul, zI_lt, zI_le, zI_eq, zI_neg, zI_pos, zI_ne0, zI_gt0, zB_0, lg_cmp_ge, lg_cmp_le, lg_cmp_gt, lg_cmp_lt, lg_cmp_eq, ail_r, abl_r, all_r, ais_r, abs_r, als_r, aal_r, aal_q, aln_r, vrf_s, vrf_n, z32, e1, hi, hA, List.length_cons, List.length_nil, Nat.reduceAdd, Nat.reduceLT, Nat.reduceLeDiff, Nat.reduceEqDiff, ↓reduceIte, bind_s, if_true, if_false, not_true_eq_false, not_false_eq_true, Nat.zero_add]
  rw [q2]
theorem l_meanAt (hP : plOk C h l t m a N T S u z) (hr : rOk T S Q) (hk : u.2.2.1 2 = zI 0 ∨ plKn S T Q u N) (hL : qPl S) : ∃ h' u' m' a' N' z', am_f X (d + 8) 125 [.ref l, .int (zI (pk (qDg S))), .int (zI (rkN T S))] (lH h l (u, (t, m, a, N)), z) = some (.inl (some (.long (qB S).1)), (lH h' l (u', (t, m', a', N')), z')) ∧ plOk C h' l t m' a' N' T S u' z' ∧ plKn S T Q u' N' ∧ (∀ j, j ≠ 3 → u'.2.1 j = u.2.1 j) ∧ (∀ x, x < z.1 → lK l x → x ≠ m → x ≠ a → lH h' l (u', (t, m', a', N')) x = lH h l (u, (t, m, a, N)) x) ∧ plGr S N N' m m' a a' z z' := by
  obtain ⟨h', u', m', a', N', z', e1, e2, e3, e4, e5, e6⟩ := l_knows (X := X) (d := d) hP hr hk
  refine ⟨h', u', m', a', N', z', ?_, e2, e3, e4, e5, e6⟩
  obtain ⟨q1, q2, q3⟩ := e3.at e2 hr qRw.rf hL
  obtain ⟨-, r1, -, -⟩ := lk_rk hr e2.1.2.1 qRw.rf hL
  have hQ := hr.2.2.1
  have hS := e2.st
  have hi : am_f X (d + 7) 122 [.ref t, .int (zI (pk (qDg S))), .int (zI (rkN T S))] (lH h' l (u', (t, m', a', N')), z') = some (.inl (some (.int (zI (ix S (qDg S) (rkN T S))))), (lH h' l (u', (t, m', a', N')), z')) := c_index (X := X) (d := d + 6) (z := z') (dg := qDg S) (hS u') (by omega)
  have hA := lM (h := h') (u := u') e2.2.2.1
  have hN := e2.2.2.2.1
  rw [fU_125]
  simp (disch := first | omega | exact Nat.le_of_ble_eq_true rfl | exact lH_ci | exact (hS _).iT.ci) only [own_125, am_go dc_125_0, J_aload_0, K_al, ld_0, am_go dc_125_1, cv_4_173_4 own_125, JR_v, JR_0, JR_ite, ci1_r, am_go dc_125_4, am_go dc_125_5, J_getfield, gf_r, fk_4_15_4, am_go dc_125_8, am_go dc_125_9, fk_4_38_4, am_go dc_125_12, J_iload_1, K_il, ld_1, am_go dc_125_13, J_iload_2, ld_2, am_go dc_125_14, cv_4_150_1 own_125, am_go dc_125_17, J_laload, am_go dc_125_18, J_ret_l ret_125, lg_3, lg_0, lH_0, lH_1, lH_4, lH_5, lH_6, lH_7, lH_8, lw_1, lw_4, lw_5, lw_6, lw_7, lw_8, zI_add, zI_mul, zI_lt, zI_le, zI_eq, zI_neg, zI_pos, zI_ne0, zI_gt0, zB_0, lg_cmp_ge, lg_cmp_le, lg_cmp_gt, lg_cmp_lt, lg_cmp_eq, ail_r, abl_r, all_r, ais_r, abs_r, als_r, aal_r, aal_q, aln_r, vrf_s, vrf_n, z32, e1, hi, hA, List.length_cons, List.length_nil, Nat.reduceAdd, Nat.reduceLT, Nat.reduceLeDiff, Nat.reduceEqDiff, ↓reduceIte, bind_s, if_true, if_false, not_true_eq_false, not_false_eq_true, Nat.zero_add]
  rw [q1]
end PA
