/-! the whole, rebuilt behind a call that writes -/
section GU
variable {X : am_X} {d l : Nat} {C C' : Nat → Prop} {H H' : am_H} {o k k' m a N sA sN mA mN : Nat} {D T TI : mU × (Nat → Option Nat)} {P PI lu wu v v' : mU} {z z' : Nat × Nat}
theorem l_forget {t : Nat} (hL : cL H l (lu, (t, m, a, N))) : ∃ H1, am_f X (d + 1) 45 [.ref l] (H, z) = some (.inl none, (H1, z)) ∧ (∀ q, q ≠ l → H1 q = H q) ∧ cL H1 l (mI lu 2 (zI 0), (t, m, a, N)) := by
  have e : am_f X (d + 1) 45 [.ref l] (lH H l (lu, (t, m, a, N)), z) = some (.inl none, (lH H l (mI lu 2 (zI 0), (t, m, a, N)), z)) := by
    rw [fU_45]
    simp (disch := first | omega | exact Nat.le_of_ble_eq_true rfl | exact lH_ci | (refine lF_lt ?_; omega)) only [own_45, am_go dc_45_0, J_aload_0, K_al, ld_0, am_go dc_45_1, J_iconst, c32_0, am_go dc_45_2, J_putfield_i, J_putfield_l, J_putfield_r, ini_45, pk_4_42_4, am_go dc_45_5, J_ret_v ret_45, lp_2, pf_z0 pk_4_42_4 rfl, pf_z1 pk_4_42_4 rfl, pf_zB pk_4_42_4 rfl, lH_0, lH_1, lH_4, lH_5, lH_6, lH_7, lH_8, zI_add, zI_mul, zI_lt, zI_le, zI_eq, zI_neg, zI_pos, zI_ne0, zI_gt0, zB_0, lg_cmp_ge, lg_cmp_le, lg_cmp_gt, lg_cmp_lt, lg_cmp_eq, ail_r, abl_r, all_r, ais_r, abs_r, als_r, aal_r, aal_q, aln_r, vrf_s, vrf_n, z32, List.length_cons, List.length_nil, Nat.reduceAdd, Nat.reduceLT, Nat.reduceLeDiff, Nat.reduceEqDiff, ↓reduceIte, bind_s, if_true, if_false, not_true_eq_false, not_false_eq_true, Nat.zero_add]
  rw [hL.2] at e
  refine ⟨_, e, fun q hq => ?_, cL_is hL.1⟩
  have := lp_2 (h := H) (l := l) (D := (lu, (t, m, a, N))) (x := zI 0)
  rw [hL.2] at this
  show lH H l (mI lu 2 (zI 0), (t, m, a, N)) q = _
  rw [← this]
  exact up_x hq
theorem g_up (h : gK o k H z v) : ∃ C D T P TI PI lu m a N, isX H o D ∧ gT C H o T P v ∧ gIm C H o D TI PI v ∧ gE H o ∧ gL H o T lu m a N v ∧ gS C H D v ∧ ((m = o + 42 ∨ o + 87 ≤ m) ∧ m < z.1) ∧ ((a = o + 43 ∨ o + 87 ≤ a) ∧ a < z.1) ∧ (∀ x, C x → o + 87 ≤ x ∧ x < z.1) ∧ o + 87 ≤ z.1 ∧ (∀ x, z.1 ≤ x → H x = none) ∧
    ∀ H' z' C' D' T' P' TI' PI' lu' v', (∀ x, x < z.1 → (o + 41 ≤ x ∧ x < o + 53) ∨ o + 66 ≤ x → H' x = H x) → (∀ x, x < o → H' x = H x) → isX H' o D' → gT C' H' o T' P' v' → gIm C' H' o D' TI' PI' v' → gE H' o → gL H' o T' lu' m a N v' → gS C' H' D' v' → (∀ x, C' x → C x ∨ (z.1 ≤ x ∧ x < z'.1)) → z.1 ≤ z'.1 → z'.1 ≤ z.1 + 25 → z'.2 ≤ z.2 + 100 → (∀ x, z'.1 ≤ x → H' x = none) → gK o (k + 1) H' z' v' ∧ (∀ x, o + 66 ≤ x → x < o + 86 → H' x = H x) := by
  obtain ⟨C, D, T, P, TI, PI, lu, m, a, N, wu, sA, sN, mA, mN, h1, h2, h3, h4, h5, h6, h7, h8, h9, h10, h11, h12⟩ := h
  obtain ⟨a0, ⟨a1, a1'⟩, ⟨a2, a2'⟩, ⟨a3, a3'⟩, ⟨a4, a4'⟩, a5, a6⟩ := h9
  refine ⟨C, D, T, P, TI, PI, lu, m, a, N, h1, h2, h3, h4, h5, h7, ⟨a1, a1'⟩, ⟨a2, a2'⟩, fun x hx => ⟨(a6 x hx).1, (a6 x hx).2.1⟩, a0, h12, ?_⟩
  intro H' z' C' D' T' P' TI' PI' lu' v' f1 f2 g1 g2 g3 g4 g5 g6 g8 g9 g10 g11 g12
  refine ⟨⟨C', D', T', P', TI', PI', lu', m, a, N, wu, sA, sN, mA, mN, g1, g2, g3, g4, g5, h6.fr (fun x hx => f1 x (by omega) (by omega)), g6, h8.fr (f1 _ (by omega) (by omega)), ⟨by omega, ⟨a1, by omega⟩, ⟨a2, by omega⟩, ⟨a3, by omega⟩, ⟨a4, by omega⟩, a5, fun x hx => ?_⟩, h10.up g10 g11, fun x hx => ?_, g12⟩, fun x q1 q2 => f1 x (by omega) (by omega)⟩
  · rcases g8 x hx with q | q
    · have := a6 x q
      omega
    · omega
  · rw [f2 x hx]
    exact h11 x hx
/-- the plan behind a change of what is told -/
theorem gL.no (h : gL H o T lu m a N v) (hH : ∀ x, (o + 40 ≤ x ∧ x < o + 49) ∨ x = m ∨ x = a → H' x = H x) : cL H' (o + 40) (lu, (o + 1, m, a, N)) := (h.fr hH).1
end GU
