/-! the best plan, the rule's mean, as functions of the rows and of how all are -/
def q_opn (S : Nat → Int32) (V : (Nat → Int32) → Int64) (b i : Nat) (v : Int64) : Int64 := if qShows S b i = 0 then v else v + (qShows S b i).toInt64 * V (upd S (90 + b) (zI (3 + i)))
def qOpn (S : Nat → Int32) (V : (Nat → Int32) → Int64) (b : Nat) : Int64 := fo (q_opn S V b) 0 (wN (S (18 * b + 3))) ((-S (18 * b + 1)).toInt64 * qMass S)
def q_pee (S : Nat → Int32) (V : (Nat → Int32) → Int64) (b k : Nat) (v : Int64) : Int64 := v + (if qMass (upd S (90 + b) (zI k)) = 0 then 0 else V (upd S (90 + b) (zI k)))
def qPee (S : Nat → Int32) (V : (Nat → Int32) → Int64) (b : Nat) : Int64 := fo (q_pee S V b) 1 2 ((-S (18 * b + 4)).toInt64 * qMass S)
def q_bl (S : Nat → Int32) (b : Nat) (s : Int64 × Int32) : Int64 × Int32 := if S (18 * b) = zI 2 then (if S (90 + b) = 0 then (if s.1 < qBd S b then (qBd S b, zI (30 + b)) else s) else s) else s
def q_ob (S : Nat → Int32) (V : (Nat → Int32) → Int64) (b : Nat) (s : Int64 × Int32) : Int64 × Int32 := if qMay S b = true then (if s.1 < qOpn S V b then (qOpn S V b, zI (10 + b)) else s) else s
def q_pb (S : Nat → Int32) (V : (Nat → Int32) → Int64) (b : Nat) (s : Int64 × Int32) : Int64 × Int32 := if qPeep S b = true then (if s.1 < qPee S V b then (qPee S V b, zI (20 + b)) else s) else s
def qStep (S : Nat → Int32) (V : (Nat → Int32) → Int64) : Int64 × Int32 := fo (q_pb S V) 0 (wN (S 116)) (fo (q_ob S V) 0 (wN (S 116)) (fo (q_bl S) 0 (wN (S 116)) ((qHas S).toInt64 * qMass S, zI 0)))
def qV : Nat → (Nat → Int32) → Int64 × Int32
  | 0, _ => (0, 0)
  | n + 1, S => qStep S (fun S' => (qV n S').1)
def qRs (S : Nat → Int32) (V : (Nat → Int32) → Int64) : Int64 := if qRl S < 0 then (qHas S).toInt64 * qMass S else qOpn S V (wN (qRl S))
def qRu : Nat → (Nat → Int32) → Int64
  | 0, _ => 0
  | n + 1, S => qRs S (qRu n)
def qHw (S : Nat → Int32) : Prop := ∀ b, b < 5 → qN S (90 + b) 6
theorem qHw.up {S : Nat → Int32} {b x : Nat} (h : qHw S) (hx : x ≤ 6) : qHw (upd S (90 + b) (zI x)) := by
  intro c hc
  by_cases e : c = b
  · subst e
    exact ⟨x, upd_s, hx⟩
  · obtain ⟨k, h1, h2⟩ := h c hc
    exact ⟨k, by rw [upd_o (by omega)]; exact h1, h2⟩
def lev (w : Nat) : Nat := if w = 0 then 2 else if w ≤ 2 then 1 else 0
def meas (S : Nat → Int32) : Nat := lev (wN (S 90)) + lev (wN (S 91)) + lev (wN (S 92)) + lev (wN (S 93)) + lev (wN (S 94))
theorem lev_le (w : Nat) : lev w ≤ 2 := by
  unfold lev
  split
  · omega
  · split <;> omega
theorem meas_le (S : Nat → Int32) : meas S ≤ 10 := by
  have h0 := lev_le (wN (S 90))
  have h1 := lev_le (wN (S 91))
  have h2 := lev_le (wN (S 92))
  have h3 := lev_le (wN (S 93))
  have h4 := lev_le (wN (S 94))
  unfold meas
  omega
theorem meas_up {S : Nat → Int32} {b x : Nat} (hb : b < 5) (hx : x ≤ 6) (hl : lev x < lev (wN (S (90 + b)))) : meas (upd S (90 + b) (zI x)) < meas S := by
  have hw : wN (zI x) = x := wN_zI (by omega)
  have hs : upd S (90 + b) (zI x) (90 + b) = zI x := upd_s
  have ho : ∀ c, c ≠ b → upd S (90 + b) (zI x) (90 + c) = S (90 + c) := fun c hc => upd_o (by omega)
  unfold meas
  rcases (by omega : b = 0 ∨ b = 1 ∨ b = 2 ∨ b = 3 ∨ b = 4) with rfl | rfl | rfl | rfl | rfl
  · have q1 := ho 1 (by omega); have q2 := ho 2 (by omega); have q3 := ho 3 (by omega); have q4 := ho 4 (by omega)
    simp only [Nat.reduceAdd, Nat.add_zero] at hs q1 q2 q3 q4 hl ⊢
    rw [hs, q1, q2, q3, q4, hw]
    omega
  · have q1 := ho 0 (by omega); have q2 := ho 2 (by omega); have q3 := ho 3 (by omega); have q4 := ho 4 (by omega)
    simp only [Nat.reduceAdd, Nat.add_zero] at hs q1 q2 q3 q4 hl ⊢
    rw [hs, q1, q2, q3, q4, hw]
    omega
  · have q1 := ho 0 (by omega); have q2 := ho 1 (by omega); have q3 := ho 3 (by omega); have q4 := ho 4 (by omega)
    simp only [Nat.reduceAdd, Nat.add_zero] at hs q1 q2 q3 q4 hl ⊢
    rw [hs, q1, q2, q3, q4, hw]
    omega
  · have q1 := ho 0 (by omega); have q2 := ho 1 (by omega); have q3 := ho 2 (by omega); have q4 := ho 4 (by omega)
    simp only [Nat.reduceAdd, Nat.add_zero] at hs q1 q2 q3 q4 hl ⊢
    rw [hs, q1, q2, q3, q4, hw]
    omega
  · have q1 := ho 0 (by omega); have q2 := ho 1 (by omega); have q3 := ho 2 (by omega); have q4 := ho 3 (by omega)
    simp only [Nat.reduceAdd, Nat.add_zero] at hs q1 q2 q3 q4 hl ⊢
    rw [hs, q1, q2, q3, q4, hw]
    omega
theorem qMay_lev {S : Nat → Int32} {b i : Nat} (h : qHw S) (hb : b < 5) (hm : qMay S b = true) : lev (3 + i) < lev (wN (S (90 + b))) := by
  obtain ⟨h1, h2⟩ := (h b hb).z (by omega)
  have h3 : ¬ zI 2 < S (90 + b) := by
    intro h3
    unfold qMay at hm
    rw [if_pos h3] at hm
    cases hm
  rw [h1, zI_lt (by omega) (by omega)] at h3
  have h4 : lev (3 + i) = 0 := by
    unfold lev
    rw [if_neg (by omega), if_neg (by omega)]
  rw [h4]
  unfold lev
  split
  · omega
  · rw [if_pos (by omega)]
    omega
theorem qPeep_lev {S : Nat → Int32} {b k : Nat} (hk : 1 ≤ k) (hm : qPeep S b = true) : lev k < lev (wN (S (90 + b))) := by
  unfold qPeep at hm
  simp only [Bool.and_eq_true, decide_eq_true_eq] at hm
  rw [hm.2.1]
  have : lev (wN 0) = 2 := rfl
  rw [this]
  unfold lev
  rw [if_neg (by omega)]
  split <;> omega
theorem qOpn_cg {S : Nat → Int32} {V V' : (Nat → Int32) → Int64} {b : Nat} (h4 : wN (S (18 * b + 3)) ≤ 4) (hv : ∀ i, i < 4 → V (upd S (90 + b) (zI (3 + i))) = V' (upd S (90 + b) (zI (3 + i)))) : qOpn S V b = qOpn S V' b := by
  unfold qOpn
  apply fo_congr
  intro i h1 h2 a
  unfold q_opn
  rw [hv i (by omega)]
theorem qPee_cg {S : Nat → Int32} {V V' : (Nat → Int32) → Int64} {b : Nat} (hv : ∀ k, 1 ≤ k → k < 3 → V (upd S (90 + b) (zI k)) = V' (upd S (90 + b) (zI k))) : qPee S V b = qPee S V' b := by
  unfold qPee
  apply fo_congr
  intro i h1 h2 a
  unfold q_pee
  rw [hv i (by omega) (by omega)]
def qNn (S : Nat → Int32) : Prop := wN (S 116) ≤ 5 ∧ ∀ b, b < wN (S 116) → wN (S (18 * b + 3)) ≤ 4
theorem qG.nn {S : Nat → Int32} (h : qG S) : qNn S := ⟨h.m.2, fun _ hb => (h.n hb).2.2⟩
theorem qNn.up {S : Nat → Int32} {b : Nat} {x : Int32} (h : qNn S) (hb : b < 5) : qNn (upd S (90 + b) x) := by
  have e : upd S (90 + b) x 116 = S 116 := upd_o (by omega)
  refine ⟨by rw [e]; exact h.1, fun c hc => ?_⟩
  rw [e] at hc
  have := h.1
  rw [upd_o (by omega)]
  exact h.2 c hc
theorem qStep_cg {S : Nat → Int32} {V V' : (Nat → Int32) → Int64} (hn : qNn S) (h1 : ∀ b, b < 5 → qMay S b = true → ∀ i, i < 4 → V (upd S (90 + b) (zI (3 + i))) = V' (upd S (90 + b) (zI (3 + i)))) (h2 : ∀ b, b < 5 → qPeep S b = true → ∀ k, 1 ≤ k → k < 3 → V (upd S (90 + b) (zI k)) = V' (upd S (90 + b) (zI k))) : qStep S V = qStep S V' := by
  unfold qStep
  have e1 : ∀ s, fo (q_ob S V) 0 (wN (S 116)) s = fo (q_ob S V') 0 (wN (S 116)) s := by
    intro s
    apply fo_congr
    intro b hb1 hb2 a
    unfold q_ob
    by_cases c : qMay S b = true
    · rw [if_pos c, if_pos c, qOpn_cg (hn.2 b (by omega)) (h1 b (by have := hn.1; omega) c)]
    · rw [if_neg c, if_neg c]
  have e2 : ∀ s, fo (q_pb S V) 0 (wN (S 116)) s = fo (q_pb S V') 0 (wN (S 116)) s := by
    intro s
    apply fo_congr
    intro b hb1 hb2 a
    unfold q_pb
    by_cases c : qPeep S b = true
    · rw [if_pos c, if_pos c, qPee_cg (h2 b (by have := hn.1; omega) c)]
    · rw [if_neg c, if_neg c]
  rw [e1, e2]
theorem qV_st : ∀ (n : Nat) (S : Nat → Int32), qHw S → qNn S → meas S < n → qV n S = qV (n + 1) S
  | 0, S, _, _, h => by omega
  | n + 1, S, hw, hn, h => by
    show qStep S (fun S' => (qV n S').1) = qStep S (fun S' => (qV (n + 1) S').1)
    apply qStep_cg hn
    · intro b hb c i hi
      have := meas_up hb (x := 3 + i) (by omega) (qMay_lev (i := i) hw hb c)
      show (qV n _).1 = (qV (n + 1) _).1
      rw [qV_st n _ (hw.up (by omega)) (hn.up hb) (by omega)]
    · intro b hb c k h1 h2
      have := meas_up hb (x := k) (by omega) (qPeep_lev h1 c)
      show (qV n _).1 = (qV (n + 1) _).1
      rw [qV_st n _ (hw.up (by omega)) (hn.up hb) (by omega)]
/-- the best plan's mean and act -/
def qB (S : Nat → Int32) : Int64 × Int32 := qV 11 S
theorem qB_step {S : Nat → Int32} (hw : qHw S) (hn : qNn S) : qB S = qStep S (fun S' => (qB S').1) := by
  unfold qB
  rw [qV_st 11 S hw hn (by have := meas_le S; omega)]
  rfl
/-- the numbers by which the rule goes -/
theorem qRl0_inv {S : Nat → Int32} : (qRl0 S).1 = -4 ∨ ∃ b, b < wN (S 116) ∧ (qRl0 S).1 = zI b ∧ qMay S b = true := by
  have := fo_inv (f := q_rl S) (fun k s => s.1 = -4 ∨ ∃ b, b < k ∧ s.1 = zI b ∧ qMay S b = true) (wN (S 116)) 0 (-4, 0, 1) (Or.inl rfl) (by
    intro j s h1 h2 hs
    have hs' : s.1 = -4 ∨ ∃ b, b < j + 1 ∧ s.1 = zI b ∧ qMay S b = true := by
      rcases hs with h | ⟨b, h3, h4⟩
      · exact Or.inl h
      · exact Or.inr ⟨b, by omega, h4⟩
    unfold q_rl
    by_cases c : qMay S j = true
    · rw [if_pos c]
      split
      · exact Or.inr ⟨j, by omega, rfl, c⟩
      · split
        · exact Or.inr ⟨j, by omega, rfl, c⟩
        · exact hs'
    · rw [if_neg c]
      exact hs')
  rw [Nat.zero_add] at this
  exact this
theorem qRl_inv {S : Nat → Int32} (hn : qNn S) : qRl S = -4 ∨ ∃ b, b < wN (S 116) ∧ qRl S = zI b ∧ qMay S b = true ∧ wN (qRl S) = b := by
  unfold qRl
  split
  · exact Or.inl rfl
  · split
    · exact Or.inl rfl
    · rcases qRl0_inv (S := S) with h | ⟨b, h1, h2, h3⟩
      · exact Or.inl h
      · have := hn.1
        exact Or.inr ⟨b, h1, h2, h3, by rw [h2]; exact wN_zI (by omega)⟩
theorem qRs_cg {S : Nat → Int32} {V V' : (Nat → Int32) → Int64} (hn : qNn S) (h1 : ∀ b, b < 5 → qMay S b = true → ∀ i, i < 4 → V (upd S (90 + b) (zI (3 + i))) = V' (upd S (90 + b) (zI (3 + i)))) : qRs S V = qRs S V' := by
  unfold qRs
  split
  · rfl
  · rcases qRl_inv hn with h | ⟨b, h2, h3, h4, h5⟩
    · rename_i hc
      exact absurd (by rw [h]; decide) hc
    · rw [h5]
      have := hn.1
      exact qOpn_cg (hn.2 b h2) (h1 b (by omega) h4)
theorem qRu_st : ∀ (n : Nat) (S : Nat → Int32), qHw S → qNn S → meas S < n → qRu n S = qRu (n + 1) S
  | 0, S, _, _, h => by omega
  | n + 1, S, hw, hn, h => by
    show qRs S (qRu n) = qRs S (qRu (n + 1))
    apply qRs_cg hn
    intro b hb c i hi
    have := meas_up hb (x := 3 + i) (by omega) (qMay_lev (i := i) hw hb c)
    exact qRu_st n _ (hw.up (by omega)) (hn.up hb) (by omega)
def qRm (S : Nat → Int32) : Int64 := qRu 11 S
theorem qRm_step {S : Nat → Int32} (hw : qHw S) (hn : qNn S) : qRm S = qRs S qRm := by
  unfold qRm
  rw [qRu_st 11 S hw hn (by have := meas_le S; omega)]
  rfl
