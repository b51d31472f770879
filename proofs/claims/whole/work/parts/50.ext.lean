/-! what the plans depend on -/
def qA (S S' : Nat → Int32) : Prop := ∀ j, (j < 95 ∨ j = 116 ∨ j = 117) → S' j = S j
section EX
variable {S S' : Nat → Int32} {b i : Nat}
theorem qA.up {x : Int32} (h : qA S S') : qA (upd S (90 + b) x) (upd S' (90 + b) x) := by
  intro j hj
  by_cases e : j = 90 + b
  · subst e
    rw [upd_s, upd_s]
  · rw [upd_o e, upd_o e]
    exact h j hj
theorem qA.m (h : qA S S') : S' 116 = S 116 := h 116 (by omega)
theorem qA.r (h : qA S S') {j : Nat} (hj : j < 95) : S' j = S j := h j (Or.inl hj)
theorem wN_m4 : wN (-4) = 0 := rfl
theorem wN_neg {x : Int32} (h : x < 0) : wN x = 0 := by
  have : x.toInt < 0 := by simpa using Int32.lt_iff_toInt_lt.mp h
  show x.toInt.toNat = 0
  omega
theorem qW.kin (hq : qW S) (hb : b < wN (S 116)) : wN (S (18 * b + 5)) ≤ 4 := by
  rcases (hq.2.1 b hb).1 with h | h
  · rw [wN_neg h]
    omega
  · exact (h.z (by omega)).2
theorem qA.W (h : qA S S') (hq : qW S) : qW S' := by
  have hm := hq.m.2
  refine ⟨fun b hb => ?_, fun b hb => ?_, ?_⟩
  · obtain ⟨k, h1, h2⟩ := hq.1 b hb
    exact ⟨k, by rw [h.r (by omega)]; exact h1, h2⟩
  · rw [h.m] at hb
    rw [h.r (j := 18 * b) (by omega), h.r (j := 18 * b + 5) (by omega)]
    obtain ⟨h1, h2⟩ := hq.2.1 b hb
    refine ⟨?_, ?_⟩
    · rcases h1 with h1 | ⟨k, h3, h4⟩
      · exact Or.inl h1
      · exact Or.inr ⟨k, by rw [h.r (by omega)]; exact h3, h4⟩
    · intro e
      obtain ⟨k, h3, h4⟩ := h2 e
      exact ⟨k, by rw [h.r (by omega)]; exact h3, h4⟩
  · obtain ⟨k, h3, h4⟩ := hq.2.2
    exact ⟨k, by rw [h.m]; exact h3, h4⟩
theorem qSpent_x (h : qA S S') (hq : qW S) : qSpent S' = qSpent S := by
  have hm := hq.m.2
  unfold qSpent
  rw [h.m]
  apply fo_congr
  intro j h1 h2 a
  unfold q_spent
  rw [h.r (j := 90 + j) (by omega), h.r (j := 18 * j + 2) (by omega)]
theorem qChance_x (h : qA S S') (hq : qW S) (hb : b < wN (S 116)) (hi : i < 4) : qChance S' b i = qChance S b i := by
  have hm := hq.m.2
  have hk := hq.kin hb
  unfold qChance
  rw [h.r (j := 18 * b + 5) (by omega), h.r (j := 18 * b + (10 + i)) (by omega), h.r (j := 18 * b + (14 + i)) (by omega), h.r (j := 90 + wN (S (18 * b + 5))) (by omega)]
theorem qShows_x (h : qA S S') (hq : qW S) (hb : b < wN (S 116)) (hi : i < 4) : qShows S' b i = qShows S b i := by
  have hm := hq.m.2
  unfold qShows
  rw [h.r (j := 90 + b) (by omega), qChance_x h hq hb hi]
theorem qMay_x (h : qA S S') (hq : qW S) (hb : b < wN (S 116)) : qMay S' b = qMay S b := by
  have hm := hq.m.2
  unfold qMay
  rw [h.r (j := 90 + b) (by omega), h.r (j := 18 * b) (by omega), h.r (j := 18 * b + 2) (by omega), h.r (j := 18 * b + 4) (by omega), h 117 (by omega), qSpent_x h hq]
  by_cases e : S (18 * b) = zI 3
  · have h4 := (((hq.2.1 b hb).2 e).z (by omega)).2
    rw [h.r (j := 90 + wN (S (18 * b + 4))) (by omega)]
  · simp only [if_neg e]
theorem qPeep_x (h : qA S S') (hq : qW S) (hb : b < wN (S 116)) : qPeep S' b = qPeep S b := by
  have hm := hq.m.2
  unfold qPeep
  rw [h.r (j := 90 + b) (by omega), h.r (j := 18 * b) (by omega), qMay_x h hq hb]
theorem qHas_x (h : qA S S') (hq : qW S) : qHas S' = qHas S := by
  have hm := hq.m.2
  unfold qHas
  rw [h.m]
  apply fo_congr
  intro j h1 h2 a
  have hw := ((hq.1 j (by omega)).z (by omega)).2
  unfold q_has
  rw [h.r (j := 90 + j) (by omega), h.r (j := 18 * j + (6 + (wN (S (90 + j)) - 3))) (by omega)]
theorem qMass_x (h : qA S S') (hq : qW S) : qMass S' = qMass S := by
  have hm := hq.m.2
  unfold qMass
  rw [h.m]
  apply fo_congr
  intro j h1 h2 a
  unfold q_mass
  rw [h.r (j := 90 + j) (by omega), qChance_x h hq (by omega) (by omega)]
theorem qBd_x (h : qA S S') (hq : qW S) (hb : b < wN (S 116)) (h4 : wN (S (18 * b + 3)) ≤ 4) : qBd S' b = qBd S b := by
  have hm := hq.m.2
  unfold qBd
  rw [h.r (j := 18 * b + 3) (by omega), qMass_x h hq]
  congr 1
  apply fo_congr
  intro j h1 h2 a
  unfold q_bd
  rw [qChance_x h hq hb (by omega), h.r (j := 18 * b + (6 + j)) (by omega)]
theorem nbR_cg {p : Int32} {n : Nat} {ch w ch' w' : Nat → Int32} (h : ∀ i, i < n → ch i = ch' i ∧ w i = w' i) : nbR p n ch w = nbR p n ch' w' := by
  unfold nbR
  apply fo_congr
  intro j h1 h2 a
  unfold q_nb
  rw [(h j (by omega)).1, (h j (by omega)).2]
theorem nbT_cg {p : Int32} {n : Nat} {ch w ch' w' : Nat → Int32} (h : ∀ i, i < n → ch i = ch' i ∧ w i = w' i) : nbT p n ch w = nbT p n ch' w' := by
  unfold nbT nbC
  rw [nbR_cg h]
theorem nbF_cg {p : Int32} {n : Nat} {ch w ch' w' : Nat → Int32} (h : ∀ i, i < n → ch i = ch' i ∧ w i = w' i) : nbF p n ch w = nbF p n ch' w' := by
  unfold nbF nbC
  rw [nbR_cg h]
theorem qNT_x (h : qA S S') (hq : qW S) (hb : b < wN (S 116)) (h4 : wN (S (18 * b + 3)) ≤ 4) : qNT S' b = qNT S b ∧ qNF S' b = qNF S b := by
  have hm := hq.m.2
  unfold qNT qNF
  rw [h.r (j := 18 * b + 1) (by omega), h.r (j := 18 * b + 3) (by omega)]
  have hc : ∀ i, i < wN (S (18 * b + 3)) → qChance S' b i = qChance S b i ∧ qWt S' b i = qWt S b i := fun i hi => ⟨qChance_x h hq hb (by omega), by
    unfold qWt
    exact h.r (by omega)⟩
  exact ⟨nbT_cg hc, nbF_cg hc⟩
theorem qRl_x (h : qA S S') (hq : qW S) (hn : qNn S) : qRl S' = qRl S := by
  have hm := hq.m.2
  have e : qRl0 S' = qRl0 S := by
    unfold qRl0
    rw [h.m]
    apply fo_congr
    intro j h1 h2 a
    obtain ⟨q1, q2⟩ := qNT_x h hq (b := j) (by omega) (hn.2 j (by omega))
    unfold q_rl
    rw [qMay_x h hq (by omega), q1, q2]
  unfold qRl
  rw [e, qHas_x h hq]
theorem qW.up {x : Nat} (hq : qW S) (hx : x ≤ 6) (hb : b < 5) : qW (upd S (90 + b) (zI x)) := by
  have hm := hq.m.2
  have e : upd S (90 + b) (zI x) 116 = S 116 := upd_o (by omega)
  refine ⟨qHw.up hq.1 hx, fun c hc => ?_, ?_⟩
  · rw [e] at hc
    rw [upd_o (j := 18 * c + 5) (by omega), upd_o (j := 18 * c) (by omega)]
    obtain ⟨h1, h2⟩ := hq.2.1 c hc
    refine ⟨?_, ?_⟩
    · rcases h1 with h1 | ⟨k, h3, h4⟩
      · exact Or.inl h1
      · exact Or.inr ⟨k, by rw [upd_o (by omega)]; exact h3, h4⟩
    · intro e
      obtain ⟨k, h3, h4⟩ := h2 e
      exact ⟨k, by rw [upd_o (by omega)]; exact h3, h4⟩
  · obtain ⟨k, h3, h4⟩ := hq.2.2
    exact ⟨k, by rw [e]; exact h3, h4⟩
theorem qOpn_x {V V' : (Nat → Int32) → Int64} (h : qA S S') (hq : qW S) (hb : b < wN (S 116)) (h4 : wN (S (18 * b + 3)) ≤ 4) (hv : ∀ i, i < 4 → V' (upd S' (90 + b) (zI (3 + i))) = V (upd S (90 + b) (zI (3 + i)))) : qOpn S' V' b = qOpn S V b := by
  have hm := hq.m.2
  unfold qOpn
  rw [h.r (j := 18 * b + 1) (by omega), h.r (j := 18 * b + 3) (by omega), qMass_x h hq]
  apply fo_congr
  intro i h1 h2 a
  unfold q_opn
  rw [qShows_x h hq hb (by omega), hv i (by omega)]
theorem qPee_x {V V' : (Nat → Int32) → Int64} (h : qA S S') (hq : qW S) (hb : b < wN (S 116)) (hv : ∀ k, 1 ≤ k → k < 3 → V' (upd S' (90 + b) (zI k)) = V (upd S (90 + b) (zI k))) : qPee S' V' b = qPee S V b := by
  have hm := hq.m.2
  unfold qPee
  rw [h.r (j := 18 * b + 4) (by omega), qMass_x h hq]
  apply fo_congr
  intro i h1 h2 a
  unfold q_pee
  rw [hv i (by omega) (by omega), qMass_x (h.up (b := b)) (hq.up (by omega) (by omega))]
theorem qStep_x {V V' : (Nat → Int32) → Int64} (h : qA S S') (hq : qW S) (hn : qNn S) (hv : ∀ b x, b < 5 → x ≤ 6 → V' (upd S' (90 + b) (zI x)) = V (upd S (90 + b) (zI x))) : qStep S' V' = qStep S V := by
  have hm := hq.m.2
  unfold qStep
  rw [h.m, qHas_x h hq, qMass_x h hq]
  have e0 : ∀ s, fo (q_bl S') 0 (wN (S 116)) s = fo (q_bl S) 0 (wN (S 116)) s := by
    intro s
    apply fo_congr
    intro b hb1 hb2 a
    unfold q_bl
    rw [h.r (j := 18 * b) (by omega), h.r (j := 90 + b) (by omega), qBd_x h hq (by omega) (hn.2 b (by omega))]
  have e1 : ∀ s, fo (q_ob S' V') 0 (wN (S 116)) s = fo (q_ob S V) 0 (wN (S 116)) s := by
    intro s
    apply fo_congr
    intro b hb1 hb2 a
    unfold q_ob
    rw [qMay_x h hq (by omega), qOpn_x h hq (by omega) (hn.2 b (by omega)) (fun i hi => hv b (3 + i) (by omega) (by omega))]
  have e2 : ∀ s, fo (q_pb S' V') 0 (wN (S 116)) s = fo (q_pb S V) 0 (wN (S 116)) s := by
    intro s
    apply fo_congr
    intro b hb1 hb2 a
    unfold q_pb
    rw [qPeep_x h hq (by omega), qPee_x h hq (by omega) (fun k h1 h2 => hv b k (by omega) (by omega))]
  rw [e0, e1, e2]
end EX
theorem qV_x : ∀ (n : Nat) (S S' : Nat → Int32), qA S S' → qW S → qNn S → qV n S' = qV n S
  | 0, _, _, _, _, _ => rfl
  | n + 1, S, S', h, hq, hn => qStep_x h hq hn (fun b x hb hx => by
    show (qV n _).1 = (qV n _).1
    rw [qV_x n _ _ (h.up (b := b)) (hq.up hx hb) (hn.up hb)])
theorem qRu_x : ∀ (n : Nat) (S S' : Nat → Int32), qA S S' → qW S → qNn S → qRu n S' = qRu n S
  | 0, _, _, _, _, _ => rfl
  | n + 1, S, S', h, hq, hn => by
    show qRs S' (qRu n) = qRs S (qRu n)
    unfold qRs
    rw [qRl_x h hq hn, qHas_x h hq, qMass_x h hq]
    split
    · rfl
    · rename_i hc
      rcases qRl_inv hn with h1 | ⟨b, h2, h3, h4, h5⟩
      · exact absurd (by rw [h1]; decide) hc
      · have := hn.1
        rw [h5]
        exact qOpn_x h hq h2 (hn.2 b h2) (fun i hi => qRu_x n _ _ (h.up (b := b)) (hq.up (by omega) (by omega)) (hn.up (by omega)))
/-! the number of a place -/
def qC7 (S : Nat → Int32) : Nat := wN (S 90) + 7 * wN (S 91) + 49 * wN (S 92) + 343 * wN (S 93) + 2401 * wN (S 94)
theorem qC7_eq {S : Nat → Int32} (h : qHw S) : qCode7 S = zI (qC7 S) ∧ qC7 S < 16807 := by
  obtain ⟨k0, h0, g0⟩ := h 0 (by omega)
  obtain ⟨k1, h1, g1⟩ := h 1 (by omega)
  obtain ⟨k2, h2, g2⟩ := h 2 (by omega)
  obtain ⟨k3, h3, g3⟩ := h 3 (by omega)
  obtain ⟨k4, h4, g4⟩ := h 4 (by omega)
  simp only [Nat.reduceAdd, Nat.add_zero] at h0 h1 h2 h3 h4
  unfold qCode7 qC7
  rw [h0, h1, h2, h3, h4, wN_zI (by omega), wN_zI (by omega), wN_zI (by omega), wN_zI (by omega), wN_zI (by omega)]
  refine ⟨?_, by omega⟩
  simp only [zI_mul, zI_add]
  congr 1
  omega
theorem qC7_inj {S S' : Nat → Int32} (h : qHw S) (h' : qHw S') (e : qC7 S' = qC7 S) : ∀ b, b < 5 → S' (90 + b) = S (90 + b) := by
  have g : ∀ b, b < 5 → wN (S' (90 + b)) = wN (S (90 + b)) → S' (90 + b) = S (90 + b) := by
    intro b hb he
    rw [((h b hb).z (by omega)).1, ((h' b hb).z (by omega)).1, he]
  have k0 := ((h 0 (by omega)).z (by omega)).2
  have k1 := ((h 1 (by omega)).z (by omega)).2
  have k2 := ((h 2 (by omega)).z (by omega)).2
  have k3 := ((h 3 (by omega)).z (by omega)).2
  have k4 := ((h 4 (by omega)).z (by omega)).2
  have l0 := ((h' 0 (by omega)).z (by omega)).2
  have l1 := ((h' 1 (by omega)).z (by omega)).2
  have l2 := ((h' 2 (by omega)).z (by omega)).2
  have l3 := ((h' 3 (by omega)).z (by omega)).2
  have l4 := ((h' 4 (by omega)).z (by omega)).2
  unfold qC7 at e
  simp only [Nat.reduceAdd, Nat.add_zero] at k0 k1 k2 k3 k4 l0 l1 l2 l3 l4
  intro b hb
  apply g b hb
  rcases (by omega : b = 0 ∨ b = 1 ∨ b = 2 ∨ b = 3 ∨ b = 4) with rfl | rfl | rfl | rfl | rfl <;> simp only [Nat.reduceAdd, Nat.add_zero] <;> omega
