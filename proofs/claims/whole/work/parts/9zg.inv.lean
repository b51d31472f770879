/-! between calls: the class -/
def gT (C : Nat → Prop) (H : am_H) (o : Nat) (T : mU × (Nat → Option Nat)) (P v : mU) : Prop := tSN C H (o + 1) T (v.1 1) ∧ isP H (o + 9) P ∧ pS P (v.1 1) ∧ rI (v.1 1)
def gIm (C : Nat → Prop) (H : am_H) (o : Nat) (D TI : mU × (Nat → Option Nat)) (PI v : mU) : Prop := isT H (o + 14) TI ∧ TI.1.1 4 0 = 0 ∧ isP H (o + 22) PI ∧ D.1.2.2.1 4 = v.2.2.1 10 ∧ (v.2.2.1 10 = zI 0 ∨ (v.2.2.1 10 = zI 1 ∧ tSN C H (o + 14) TI (v.1 2) ∧ pS PI (v.1 2) ∧ rI (v.1 2)))
def gE (H : am_H) (o : Nat) : Prop := ∃ (eu : mU) (r0 : Nat) (TD : mU × (Nat → Option Nat)), isE H (o + 27) (eu, r0) ∧ isT H (o + 29) TD ∧ TD.1.1 4 0 = 0
def gL (H : am_H) (o : Nat) (T : mU × (Nat → Option Nat)) (lu : mU) (m a N : Nat) (v : mU) : Prop := cL H (o + 40) (lu, (o + 1, m, a, N)) ∧ N < 1000000 ∧ (lu.2.2.1 2 = zI 0 ∨ ∀ Q, rOk T (v.1 1) Q → plKn (v.1 1) T Q lu N)
def gW (H : am_H) (o : Nat) (wu : mU) (sA sN mA mN : Nat) : Prop := cW H (o + 49) (wu, (o + 1, sA, sN, mA, mN)) ∧ sN < 1000000 ∧ mN < 1000000
def gSb (C : Nat → Prop) (H : am_H) (D : mU × (Nat → Option Nat)) (v : mU) (e : Nat) : Prop := ∃ a bb id f on g, D.2 e = some a ∧ bIn C a bb ∧ isB H a bb id f on g ∧ v.1 9 e = bHeft f ∧ v.1 10 e = (if bFails f = true then bToss f id else -15)
def gSe (D : mU × (Nat → Option Nat)) (v : mU) (e : Nat) : Prop := D.1.1 8 e = v.1 5 e ∧ D.1.1 11 e = v.1 6 e ∧ D.1.1 12 e = v.1 7 e ∧ (v.1 5 e = zI 0 ∨ v.1 5 e = zI 1 ∨ v.1 5 e = zI 2) ∧ (v.1 6 e = zI 0 ∨ v.1 6 e = zI 1 ∨ v.1 6 e = zI 2) ∧ (∃ n, n ≤ 120 ∧ v.1 7 e = zI n) ∧ ∀ i, i < 120 → D.1.1 (56 + e) i = v.1 8 (120 * e + i)
def gS (C : Nat → Prop) (H : am_H) (D : mU × (Nat → Option Nat)) (v : mU) : Prop := ∀ e, e < 8 → gSe D v e ∧ (v.1 5 e = zI 1 → gSb C H D v e)
def gO (H : am_H) (o : Nat) : Prop := ∃ f, H (o + 86) = some (.inl (.long, 1, .inr (.inl f)))
def gA (C : Nat → Prop) (o : Nat) (z : Nat × Nat) (m a sA mA : Nat) : Prop := o + 87 ≤ z.1 ∧ ((m = o + 42 ∨ o + 87 ≤ m) ∧ m < z.1) ∧ ((a = o + 43 ∨ o + 87 ≤ a) ∧ a < z.1) ∧ ((sA = o + 51 ∨ o + 87 ≤ sA) ∧ sA < z.1) ∧ ((mA = o + 52 ∨ o + 87 ≤ mA) ∧ mA < z.1) ∧ (m ≠ a ∧ m ≠ sA ∧ m ≠ mA ∧ a ≠ sA ∧ a ≠ mA ∧ sA ≠ mA) ∧ ∀ x, C x → o + 87 ≤ x ∧ x < z.1 ∧ x ≠ m ∧ x ≠ a ∧ x ≠ sA ∧ x ≠ mA
def gK (o k : Nat) (H : am_H) (z : Nat × Nat) (v : mU) : Prop := ∃ (C : Nat → Prop) (D T : mU × (Nat → Option Nat)) (P : mU) (TI : mU × (Nat → Option Nat)) (PI lu : mU) (m a N : Nat) (wu : mU) (sA sN mA mN : Nat), isX H o D ∧ gT C H o T P v ∧ gIm C H o D TI PI v ∧ gE H o ∧ gL H o T lu m a N v ∧ gW H o wu sA sN mA mN ∧ gS C H D v ∧ gO H o ∧ gA C o z m a sA mA ∧ gB o k z N sN mN ∧ (∀ x, x < o → H x = none) ∧ (∀ x, z.1 ≤ x → H x = none)
/-- the data that the class follows -/
def mQ (v v' : mU) : Prop := (∀ j, j = 1 ∨ j = 2 ∨ (5 ≤ j ∧ j ≤ 10) → v'.1 j = v.1 j) ∧ v'.2.2.1 10 = v.2.2.1 10
section GK
variable {C C' : Nat → Prop} {H H' : am_H} {o k k' m a N sA sN mA mN : Nat} {D T TI : mU × (Nat → Option Nat)} {P PI lu wu v v' : mU} {z z' : Nat × Nat}
theorem mQ.rf : mQ v v := ⟨fun _ _ => rfl, rfl⟩
theorem mQ.tr {v'' : mU} (h : mQ v v') (h2 : mQ v' v'') : mQ v v'' := ⟨fun j hj => (h2.1 j hj).trans (h.1 j hj), h2.2.trans h.2⟩
theorem gT.fr (h : gT C H o T P v) (hH : ∀ x, o + 1 ≤ x → x < o + 14 → H' x = H x) (hC : ∀ x, C x → H' x = H x) (hm : ∀ x, C x → C' x) : gT C' H' o T P v := ⟨h.1.fr (fun x h1 h2 => hH x h1 (by omega)) hC hm, h.2.1.fr (fun x h1 h2 => hH x (by omega) (by omega)), h.2.2⟩
theorem gIm.fr (h : gIm C H o D TI PI v) (hH : ∀ x, o + 14 ≤ x → x < o + 27 → H' x = H x) (hC : ∀ x, C x → H' x = H x) (hm : ∀ x, C x → C' x) : gIm C' H' o D TI PI v := by
  obtain ⟨h1, h2, h3, h4, h5⟩ := h
  refine ⟨h1.fr (fun x q1 q2 => hH x q1 (by omega)), h2, h3.fr (fun x q1 q2 => hH x (by omega) (by omega)), h4, ?_⟩
  rcases h5 with q | ⟨q1, q2, q3⟩
  · exact Or.inl q
  · exact Or.inr ⟨q1, q2.fr (fun x a1 a2 => hH x a1 (by omega)) hC hm, q3⟩
theorem gE.fr (h : gE H o) (hH : ∀ x, o + 27 ≤ x → x < o + 40 → H' x = H x) : gE H' o := by
  obtain ⟨eu, r0, TD, h1, h2, h3⟩ := h
  exact ⟨eu, r0, TD, h1.fr (fun x q1 q2 => hH x q1 (by omega)), h2.fr (fun x q1 q2 => hH x (by omega) (by omega)), h3⟩
theorem gL.fr (h : gL H o T lu m a N v) (hH : ∀ x, (o + 40 ≤ x ∧ x < o + 49) ∨ x = m ∨ x = a → H' x = H x) : gL H' o T lu m a N v := by
  refine ⟨h.1.fr (fun x hx => hH x ?_), h.2⟩
  rcases hx with q | q | q
  · left
    unfold lK at q
    omega
  · exact Or.inr (Or.inl q)
  · exact Or.inr (Or.inr q)
theorem gW.fr (h : gW H o wu sA sN mA mN) (hH : ∀ x, (o + 49 ≤ x ∧ x < o + 53) ∨ x = sA ∨ x = mA → H' x = H x) : gW H' o wu sA sN mA mN := by
  refine ⟨h.1.fr (fun x hx => hH x ?_), h.2⟩
  rcases hx with q | q | q
  · left
    unfold wK at q
    omega
  · exact Or.inr (Or.inl q)
  · exact Or.inr (Or.inr q)
theorem gSb.fr {e : Nat} (h : gSb C H D v e) (hC : ∀ x, C x → H' x = H x) (hm : ∀ x, C x → C' x) : gSb C' H' D v e := by
  obtain ⟨a, bb, id, f, on, g, h1, h2, h3, h4⟩ := h
  refine ⟨a, bb, id, f, on, g, h1, ⟨hm _ h2.1, hm _ h2.2.1, hm _ h2.2.2.1, fun q => hm _ (h2.2.2.2 q)⟩, h3.fr (hC _ h2.1) (hC _ h2.2.1) (hC _ h2.2.2.1) (fun q => hC _ (h2.2.2.2 q)), h4⟩
theorem gS.fr (h : gS C H D v) (hC : ∀ x, C x → H' x = H x) (hm : ∀ x, C x → C' x) : gS C' H' D v := fun e he => ⟨(h e he).1, fun q => ((h e he).2 q).fr hC hm⟩
theorem gO.fr (h : gO H o) (hH : H' (o + 86) = H (o + 86)) : gO H' o := by
  obtain ⟨f, h1⟩ := h
  exact ⟨f, hH.trans h1⟩
theorem gT.q (h : gT C H o T P v) (q : mQ v v') : gT C H o T P v' := by
  unfold gT at *
  rw [q.1 1 (Or.inl rfl)]
  exact h
theorem gIm.q (h : gIm C H o D TI PI v) (q : mQ v v') : gIm C H o D TI PI v' := by
  unfold gIm at *
  rw [q.1 2 (Or.inr (Or.inl rfl)), q.2]
  exact h
theorem gL.q (h : gL H o T lu m a N v) (q : mQ v v') : gL H o T lu m a N v' := by
  unfold gL at *
  rw [q.1 1 (Or.inl rfl)]
  exact h
theorem gS.q (h : gS C H D v) (q : mQ v v') : gS C H D v' := by
  unfold gS gSe gSb at *
  rw [q.1 5 (by omega), q.1 6 (by omega), q.1 7 (by omega), q.1 8 (by omega), q.1 9 (by omega), q.1 10 (by omega)]
  exact h
theorem gB.le (h : gB o k z N sN mN) (hk : k ≤ k') : gB o k' z N sN mN := ⟨by have := h.1; omega, by have := h.2; omega⟩
/-- the reference has moved -/
theorem gK.rf (h : gK o k H z v) (hH : ∀ x, x < o + 66 ∨ o + 86 ≤ x → H' x = H x) (q : mQ v v') : gK o k H' z v' := by
  obtain ⟨C, D, T, P, TI, PI, lu, m, a, N, wu, sA, sN, mA, mN, h1, h2, h3, h4, h5, h6, h7, h8, h9, h10, h11, h12⟩ := h
  have hA := h9
  obtain ⟨a0, ⟨a1, a1'⟩, ⟨a2, a2'⟩, ⟨a3, a3'⟩, ⟨a4, a4'⟩, a5, a6⟩ := h9
  have hC : ∀ x, C x → H' x = H x := fun x hx => hH x (by have := a6 x hx; omega)
  refine ⟨C, D, T, P, TI, PI, lu, m, a, N, wu, sA, sN, mA, mN, h1.fr (fun x hx => hH x (by unfold xK at hx; omega)), (h2.q q).fr (fun x q1 q2 => hH x (by omega)) hC (fun _ h => h), (h3.q q).fr (fun x q1 q2 => hH x (by omega)) hC (fun _ h => h), h4.fr (fun x q1 q2 => hH x (by omega)), (h5.q q).fr (fun x hx => hH x (by omega)), h6.fr (fun x hx => hH x (by omega)), (h7.q q).fr hC (fun _ h => h), h8.fr (hH _ (by omega)), hA, h10, fun x hx => ?_, fun x hx => ?_⟩
  · rw [hH x (by omega)]
    exact h11 x hx
  · rw [hH x (by omega)]
    exact h12 x hx
theorem gK.le (h : gK o k H z v) (hk : k ≤ k') : gK o k' H z v := by
  obtain ⟨C, D, T, P, TI, PI, lu, m, a, N, wu, sA, sN, mA, mN, h1, h2, h3, h4, h5, h6, h7, h8, h9, h10, h11, h12⟩ := h
  exact ⟨C, D, T, P, TI, PI, lu, m, a, N, wu, sA, sN, mA, mN, h1, h2, h3, h4, h5, h6, h7, h8, h9, h10.le hk, h11, h12⟩
theorem rOk.u {S : Nat → Int32} {Q Q' : Nat} (h : rOk T S Q) (h' : rOk T S Q') : Q' = Q := by
  have e := h.1
  rw [h'.1, zI_eq (by have := h'.2.2.1; omega) (by have := h.2.2.1; omega)] at e
  exact e
/-- what a plan's call needs, and what holds behind it -/
theorem g_plan (h : gK o k H z v) : ∃ C D T P Q lu m a N, isX H o D ∧ tSN C H (o + 1) T (v.1 1) ∧ isP H (o + 9) P ∧ pS P (v.1 1) ∧ rI (v.1 1) ∧ plOk C H (o + 40) (o + 1) m a N T (v.1 1) lu z ∧ rOk T (v.1 1) Q ∧ (lu.2.2.1 2 = zI 0 ∨ plKn (v.1 1) T Q lu N) ∧ lH H (o + 40) (lu, (o + 1, m, a, N)) = H ∧ (∀ x, x < o → lK (o + 40) x ∧ x ≠ m ∧ x ≠ a ∧ H x = none ∧ x < z.1) ∧
    ∀ h' u' m' a' N' z', plOk C h' (o + 40) (o + 1) m' a' N' T (v.1 1) u' z' → (u'.2.2.1 2 = zI 0 ∨ plKn (v.1 1) T Q u' N') → (∀ x, x < z.1 → lK (o + 40) x → x ≠ m → x ≠ a → lH h' (o + 40) (u', (o + 1, m', a', N')) x = H x) → plGr (v.1 1) N N' m m' a a' z z' → gK o (k + 1) (lH h' (o + 40) (u', (o + 1, m', a', N'))) z' v ∧ (∀ x, o + 66 ≤ x → x < o + 86 → lH h' (o + 40) (u', (o + 1, m', a', N')) x = H x) ∧ isX (lH h' (o + 40) (u', (o + 1, m', a', N'))) o D := by
  obtain ⟨C, D, T, P, TI, PI, lu, m, a, N, wu, sA, sN, mA, mN, h1, h2, h3, h4, h5, h6, h7, h8, h9, h10, h11, h12⟩ := h
  obtain ⟨Q, hr⟩ := h2.1.1.rk
  have hA := h9
  obtain ⟨a0, ⟨a1, a1'⟩, ⟨a2, a2'⟩, ⟨a3, a3'⟩, ⟨a4, a4'⟩, a5, a6⟩ := h9
  have hm5 := h2.2.2.2.1.m.2
  refine ⟨C, D, T, P, Q, lu, m, a, N, h1, h2.1, h2.2.1, h2.2.2.1, h2.2.2.2, ⟨h2.1.1, fun x hx => ?_, h5.1.1, h5.2.1, fun x hx => ?_, by omega, a1', a2', fun x hx => ?_⟩, hr, ?_, h5.1.2, fun x hx => ⟨⟨by omega, by omega, by omega, by omega, by omega, by omega, by omega⟩, by omega, by omega, h11 x hx, by omega⟩, ?_⟩
  · rcases hx with q | q
    · exact ⟨⟨by omega, by omega, by omega, by omega, by omega, by omega, by omega⟩, by omega, by omega⟩
    · have := a6 x q
      exact ⟨⟨by omega, by omega, by omega, by omega, by omega, by omega, by omega⟩, by omega, by omega⟩
  · rw [h5.1.2]
    exact h12 x hx
  · rcases hx with q | q
    · omega
    · have := a6 x q
      omega
  · rcases h5.2.2 with q | q
    · exact Or.inl q
    · exact Or.inr (q Q hr)
  · intro h' u' m' a' N' z' p1 p2 p3 p4
    have fr : ∀ x, x < z.1 → (x < o + 40 ∨ o + 49 ≤ x) → x ≠ m → x ≠ a → lH h' (o + 40) (u', (o + 1, m', a', N')) x = H x := fun x q1 q2 q3 q4 => p3 x q1 ⟨by omega, by omega, by omega, by omega, by omega, by omega, by omega⟩ q3 q4
    have hC : ∀ x, C x → lH h' (o + 40) (u', (o + 1, m', a', N')) x = H x := fun x hx => by
      have := a6 x hx
      exact fr x (by omega) (by omega) (by omega) (by omega)
    have hz : z.1 ≤ z'.1 ∧ ((m' = m ∨ z.1 ≤ m') ∧ (a' = a ∨ z.1 ≤ a')) := by
      rcases p4 with q | q
      · rw [q.2.1]
        exact ⟨Nat.le_refl _, Or.inl q.2.2.1, Or.inl q.2.2.2⟩
      · obtain ⟨-, -, q3, q4, q5⟩ := q
        rw [q3]
        exact ⟨by show z.1 ≤ z.1 + 2; omega, Or.inr (by omega), Or.inr (by omega)⟩
    obtain ⟨-, s2, s3, s4, s5, s6, s7, s8, s9⟩ := p1
    have s3' : m' ≠ a' := s3.2.2
    have hX1 : isX (lH h' (o + 40) (u', (o + 1, m', a', N'))) o D := h1.fr (fun x hx => fr x (by unfold xK at hx; omega) (by unfold xK at hx; omega) (by unfold xK at hx; omega) (by unfold xK at hx; omega))
    refine ⟨⟨C, D, T, P, TI, PI, u', m', a', N', wu, sA, sN, mA, mN, hX1, h2.fr (fun x q1 q2 => fr x (by omega) (by omega) (by omega) (by omega)) hC (fun _ h => h), h3.fr (fun x q1 q2 => fr x (by omega) (by omega) (by omega) (by omega)) hC (fun _ h => h), h4.fr (fun x q1 q2 => fr x (by omega) (by omega) (by omega) (by omega)), ⟨cL_is s3, s4, ?_⟩, h6.fr (fun x hx => fr x (by omega) (by omega) (by omega) (by omega)), h7.fr hC (fun _ h => h), h8.fr (fr _ (by omega) (by omega) (by omega) (by omega)), ⟨by omega, ⟨by omega, s7⟩, ⟨by omega, s8⟩, ⟨by omega, by omega⟩, ⟨by omega, by omega⟩, by omega, fun x hx => ?_⟩, gB.pl hm5 h10 p4, fun x hx => ?_, s5⟩, fun x q1 q2 => fr x (by omega) (by omega) (by omega) (by omega), hX1⟩
    · rcases p2 with q | q
      · exact Or.inl q
      · refine Or.inr (fun Q' hr' => ?_)
        rw [hr.u hr']
        exact q
    · have := a6 x hx
      have := (s2 x (Or.inr hx)).2
      omega
    · rw [fr x (by omega) (by omega) (by omega) (by omega)]
      exact h11 x hx
end GK
