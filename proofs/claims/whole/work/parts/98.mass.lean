/-! links: the mass as a number -/
theorem fo_2 {α : Type} {f : Nat → α → α} {a : α} : fo f 1 2 a = f 2 (f 1 a) := rfl
def mf (R S : Nat → Int32) (b : Nat) : Nat := if hw S b = 0 then 100 else if hw S b = 1 then wN (R (18 * b + 10)) else if hw S b = 2 then 100 - wN (R (18 * b + 10)) else 1
def mP (R S : Nat → Int32) (k : Nat) : Nat := fo (fun b v => v * mf R S b) 0 k 1
section LM
variable {R S : Nat → Int32} {b i Q : Nat} {T : mU × (Nat → Option Nat)}
theorem qG.c0 (hG : qG R) (hb : b < wN (R 116)) : R (18 * b + 10) = zI (wN (R (18 * b + 10))) ∧ wN (R (18 * b + 10)) ≤ 100 ∧ 1 ≤ wN (R (18 * b + 10)) := by
  have hn := hG.n hb
  obtain ⟨-, h2, h3, -⟩ := (hG.2.2 b hb).2.2.2.2.2.2.2.1 0 (by omega)
  obtain ⟨q1, q2⟩ := h2.z (by omega)
  exact ⟨q1, q2, h3⟩
theorem ms_v (hG : qG R) (hR : qRw R S) (hL : qPl S) : ∀ k, k ≤ wN (R 116) → fo (q_mass S) 0 k 1 = jI (mP R S k : Nat) ∧ mP R S k ≤ 100 ^ k := by
  have h5 := hG.m.2
  intro k
  induction k with
  | zero => exact fun _ => ⟨rfl, Nat.le_refl _⟩
  | succ k ih =>
    intro hk
    obtain ⟨i1, i2⟩ := ih (by omega)
    have hk' : k < wN (R 116) := by omega
    have e : mP R S (k + 1) = mP R S k * mf R S k := by
      unfold mP
      rw [fo_succ, Nat.zero_add]
    obtain ⟨c1, c2, c3⟩ := hG.c0 hk'
    have hf : mf R S k ≤ 100 := by
      unfold mf
      split
      · omega
      · split
        · omega
        · split <;> omega
    rw [fo_succ, Nat.zero_add, e, i1]
    constructor
    · unfold q_mass mf
      have e0 : (S (90 + k) = 0) = (hw S k = 0) := hw_eq hL (show k < 5 by omega) (k := 0) (by omega)
      simp only [e0, hw_eq hL (show k < 5 by omega) (show 1 < 100 by omega), hw_eq hL (show k < 5 by omega) (show 2 < 100 by omega)]
      rw [Int.natCast_mul, ← jI_mul]
      congr 1
      by_cases w0 : hw S k = 0
      · rw [if_pos w0, if_pos w0]
        rfl
      · rw [if_neg w0, if_neg w0]
        by_cases w1 : hw S k = 1
        · rw [if_pos w1, if_pos w1, pee_n hG hR hL hk' (by omega) (Or.inl w1), show 18 * k + (10 + 0) = 18 * k + 10 from rfl]
          conv => lhs; rw [c1]
          exact jI_z (by omega)
        · rw [if_neg w1, if_neg w1]
          by_cases w2 : hw S k = 2
          · rw [if_pos w2, if_pos w2, pee_n hG hR hL hk' (by omega) (Or.inr w2), show 18 * k + (10 + 0) = 18 * k + 10 from rfl]
            conv => lhs; rw [c1, zI_sub (by omega)]
            exact jI_z (by omega)
          · rw [if_neg w2, if_neg w2]
            rfl
    · rw [Nat.pow_succ]
      exact Nat.mul_le_mul i2 hf
theorem ms_m (hG : qG R) (hR : qRw R S) (hL : qPl S) : qMass S = jI (mP R S (wN (R 116)) : Nat) ∧ mP R S (wN (R 116)) ≤ 10000000000 := by
  have h5 := hG.m.2
  obtain ⟨h1, h2⟩ := ms_v hG hR hL _ (Nat.le_refl _)
  have : (100 : Nat) ^ wN (R 116) ≤ 100 ^ 5 := Nat.pow_le_pow_right (by omega) h5
  unfold qMass
  rw [hR.m]
  exact ⟨h1, by omega⟩
theorem mP_0 : ∀ k, mP R S k = 0 → ∃ b, b < k ∧ mf R S b = 0 := by
  intro k
  induction k with
  | zero => intro h; cases h
  | succ k ih =>
    intro h
    have e : mP R S (k + 1) = mP R S k * mf R S k := by
      unfold mP
      rw [fo_succ, Nat.zero_add]
    rw [e] at h
    rcases Nat.mul_eq_zero.mp h with h | h
    · obtain ⟨b, b1, b2⟩ := ih h
      exact ⟨b, by omega, b2⟩
    · exact ⟨k, by omega, h⟩
theorem mP_z : ∀ k, b < k → mf R S b = 0 → mP R S k = 0 := by
  intro k
  induction k with
  | zero => intro h; omega
  | succ k ih =>
    intro hb h
    have e : mP R S (k + 1) = mP R S k * mf R S k := by
      unfold mP
      rw [fo_succ, Nat.zero_add]
    rw [e]
    by_cases c : b = k
    · subst c
      rw [h, Nat.mul_zero]
    · rw [ih (by omega) h, Nat.zero_mul]
/-- a box that can't be as it is -/
def Z0 (R S : Nat → Int32) : Prop := ∃ b, b < wN (R 116) ∧ hw S b = 2 ∧ wN (R (18 * b + 10)) = 100
theorem Z0_ms (hG : qG R) (hR : qRw R S) (hL : qPl S) : qMass S = 0 ↔ Z0 R S := by
  obtain ⟨h1, h2⟩ := ms_m hG hR hL
  have e : (qMass S = 0) = (mP R S (wN (R 116)) = 0) := by
    rw [h1, show (0 : Int64) = jI 0 from rfl, jI_eq (by omega) (by omega) (by omega) (by omega)]
    exact propext (by omega)
  rw [e]
  constructor
  · intro h
    obtain ⟨b, b1, b2⟩ := mP_0 _ h
    obtain ⟨c1, c2, c3⟩ := hG.c0 b1
    refine ⟨b, b1, ?_⟩
    unfold mf at b2
    by_cases w0 : hw S b = 0
    · rw [if_pos w0] at b2
      omega
    · rw [if_neg w0] at b2
      by_cases w1 : hw S b = 1
      · rw [if_pos w1] at b2
        omega
      · rw [if_neg w1] at b2
        by_cases w2 : hw S b = 2
        · rw [if_pos w2] at b2
          exact ⟨w2, by omega⟩
        · rw [if_neg w2] at b2
          omega
  · rintro ⟨b, b1, b2, b3⟩
    refine mP_z _ b1 ?_
    unfold mf
    rw [if_neg (by omega), if_neg (by omega), if_pos b2, b3]
theorem has_v (hr : rOk T R Q) (hG : qG R) (hR : qRw R S) (hL : qPl S) : ∃ n, qHas S = zI n ∧ n ≤ 999 := by
  have h5 := hG.m.2
  have : ∀ k, k ≤ wN (R 116) → ∃ n, fo (q_has S) 0 k (zI 0) = zI n ∧ n ≤ 999 := by
    intro k
    induction k with
    | zero => exact fun _ => ⟨0, rfl, by omega⟩
    | succ k ih =>
      intro hk
      obtain ⟨n, n1, n2⟩ := ih (by omega)
      have hk' : k < wN (R 116) := by omega
      rw [fo_succ, Nat.zero_add, n1]
      unfold q_has
      simp only [hw_le2 hL (show k < 5 by omega)]
      rw [show wN (S (90 + k)) = hw S k from rfl]
      by_cases c : hw S k ≤ 2
      · rw [if_pos c]
        exact ⟨n, rfl, n2⟩
      · rw [if_neg c]
        have hst := st_lt hR hL hk' h5 (by omega)
        have hn4 := (hG.n hk').2.2
        obtain ⟨w1, w2⟩ := ((hG.2.2 k hk').2.2.2.2.2.2.2.1 _ hst).1.z (by omega)
        rw [hR.r (by omega) (by omega)]
        split
        · exact ⟨n, rfl, n2⟩
        · exact ⟨_, w1, w2⟩
  unfold qHas
  rw [hR.m]
  exact this _ (Nat.le_refl _)
theorem stop_nn (hr : rOk T R Q) (hG : qG R) (hR : qRw R S) (hL : qPl S) : ¬ (qHas S).toInt64 * qMass S < 0 := by
  obtain ⟨n, n1, n2⟩ := has_v hr hG hR hL
  obtain ⟨h1, h2⟩ := ms_m hG hR hL
  rw [n1, h1, jI_z (by omega), jI_mul, show (0 : Int64) = jI 0 from rfl]
  have hb : (n : Int) * (mP R S (wN (R 116)) : Nat) ≤ 999 * 10000000000 := by
    rw [← Int.natCast_mul]
    have := Nat.mul_le_mul n2 h2
    omega
  have hp : (0 : Int) ≤ (n : Int) * (mP R S (wN (R 116)) : Nat) := by
    rw [← Int.natCast_mul]
    exact Int.natCast_nonneg _
  rw [jI_lt (by omega) (by omega) (by omega) (by omega)]
  omega
theorem qPl.op (hR : qRw R S) (hL : qPl S) (hG : qG R) (hb : b < wN (R 116)) (hi : i < wN (R (18 * b + 3))) : qPl (upd S (90 + b) (zI (3 + i))) := by
  have h5 := hG.m.2
  have hn4 := (hG.n hb).2.2
  intro c hc
  have e6 : upd S (90 + b) (zI (3 + i)) 116 = S 116 := upd_o (by omega)
  rw [e6]
  by_cases e : c = b
  · subst e
    rw [upd_s, upd_o (by omega), upd_o (by omega)]
    refine ⟨⟨3 + i, upd_s, by omega⟩, fun q => ?_, fun q => ⟨fun q1 => ?_, fun _ => ?_⟩⟩
    · rw [hR.m] at q
      omega
    · rw [zI_eq (by omega) (by omega), zI_eq (by omega) (by omega)] at q1
      omega
    · rw [wN_zI (by omega), hR.r (by omega) (by omega)]
      omega
  · obtain ⟨h1, h2, h3⟩ := hL c hc
    rw [upd_o (show 90 + c ≠ 90 + b by omega), upd_o (by omega), upd_o (by omega)]
    obtain ⟨k, k1, k2⟩ := h1
    exact ⟨⟨k, by rw [upd_o (by omega)]; exact k1, k2⟩, h2, h3⟩
theorem qPl.pe {x : Nat} (hR : qRw R S) (hL : qPl S) (hG : qG R) (hb : b < wN (R 116)) (hx : x = 1 ∨ x = 2) (h1 : R (18 * b) = zI 1) : qPl (upd S (90 + b) (zI x)) := by
  have h5 := hG.m.2
  intro c hc
  have e6 : upd S (90 + b) (zI x) 116 = S 116 := upd_o (by omega)
  rw [e6]
  by_cases e : c = b
  · subst e
    rw [upd_s, upd_o (by omega), upd_o (by omega)]
    refine ⟨⟨x, upd_s, by omega⟩, fun q => ?_, fun q => ⟨fun _ => ?_, fun q1 => ?_⟩⟩
    · rw [hR.m] at q
      omega
    · rw [hR.r0 (by omega)]
      exact h1
    · rw [wN_zI (by omega)] at q1
      omega
  · obtain ⟨h1, h2, h3⟩ := hL c hc
    rw [upd_o (show 90 + c ≠ 90 + b by omega), upd_o (by omega), upd_o (by omega)]
    obtain ⟨k, k1, k2⟩ := h1
    exact ⟨⟨k, by rw [upd_o (by omega)]; exact k1, k2⟩, h2, h3⟩
theorem Z0.up {x : Int32} (h : Z0 R S) (hb : ∀ c, c < wN (R 116) → hw S c = 2 → wN (R (18 * c + 10)) = 100 → c ≠ b) : Z0 R (upd S (90 + b) x) := by
  obtain ⟨c, c1, c2, c3⟩ := h
  exact ⟨c, c1, by rw [hw_uo (hb c c1 c2 c3)]; exact c2, c3⟩
theorem one_step (hG : qG R) (hb : b < wN (R 116)) (h : wN (R (18 * b + 10)) = 100) : wN (R (18 * b + 3)) = 1 := by
  obtain ⟨hn, hn1, hn4⟩ := hG.n hb
  have hst := (hG.2.2 b hb).2.2.2.2.2.2.2.1
  have hs := (hG.2.2 b hb).2.2.2.2.2.2.2.2.1
  obtain ⟨k, hk⟩ : ∃ k, wN (R (18 * b + 3)) = k + 1 := ⟨wN (R (18 * b + 3)) - 1, by omega⟩
  rw [hk] at hs hst ⊢
  have e : fsum (fun i => wN (R (18 * b + (10 + i)))) 0 (k + 1) = 100 := hs
  have e0 : wN (R (18 * b + (10 + 0))) = 100 := h
  cases k with
  | zero => rfl
  | succ k =>
    rw [fsum_s, fsum_s] at e
    have e1 := (hst 1 (by omega)).2.2.1
    simp only [Nat.zero_add] at e e0 e1
    rw [e0] at e
    omega
/-- what can't be is worth nothing -/
theorem Z0_V (hG : qG R) : ∀ (n : Nat) (S : Nat → Int32), qRw R S → qPl S → Z0 R S → (qV n S).1 = 0 := by
  have h5 := hG.m.2
  intro n
  induction n with
  | zero => intros; rfl
  | succ n ih =>
    intro S hR hL hZ
    have hm0 : qMass S = 0 := (Z0_ms hG hR hL).mpr hZ
    have zz : ∀ x : Int64, x * 0 = 0 := fun x => Int64.mul_zero
    have bd : ∀ b, qBd S b = 0 := fun b => by
      unfold qBd
      rw [hm0, show (0 : Int64) / 100 = 0 by decide]
      exact zz _
    have n0 : ¬ (0 : Int64) < 0 := by decide
    have inv : ∀ (f : Nat → Int64 × Int32 → Int64 × Int32), (∀ b s, b < wN (R 116) → s.1 = 0 → (f b s).1 = 0) → ∀ s, s.1 = 0 → (fo f 0 (wN (R 116)) s).1 = 0 := fun f hf s hs =>
      fo_inv (f := f) (fun _ s => s.1 = 0) (wN (R 116)) 0 s hs (fun j s h1 h2 h3 => hf j s (by omega) h3)
    show (qStep S (fun S' => (qV n S').1)).1 = 0
    unfold qStep
    rw [hR.m]
    refine inv _ (fun b s hb hs => ?_) _ (inv _ (fun b s hb hs => ?_) _ (inv _ (fun b s hb hs => ?_) _ ?_))
    · unfold q_pb
      by_cases c : qPeep S b = true
      · rw [if_pos c]
        have hp : hw S b = 0 ∧ R (18 * b) = zI 1 := by
          unfold qPeep at c
          simp only [Bool.and_eq_true, decide_eq_true_eq] at c
          have e0 : (S (90 + b) = 0) = (hw S b = 0) := hw_eq hL (show b < 5 by omega) (k := 0) (by omega)
          rw [e0, hR.r0 (by omega)] at c
          exact ⟨c.2.1, c.1⟩
        have v0 : ∀ k, k = 1 ∨ k = 2 → (qV n (upd S (90 + b) (zI k))).1 = 0 := fun k hk => ih _ (hR.up (by omega)) (hL.pe hR hG hb hk hp.2) (hZ.up (fun c _ c2 _ e => by
          subst e
          omega))
        have : qPee S (fun S' => (qV n S').1) b = 0 := by
          unfold qPee
          rw [fo_2]
          unfold q_pee
          rw [hm0, zz]
          simp only [v0 1 (Or.inl rfl), v0 2 (Or.inr rfl), ite_self]
          rfl
        rw [this, hs, if_neg n0]
        exact hs
      · rw [if_neg c]
        exact hs
    · unfold q_ob
      by_cases c : qMay S b = true
      · rw [if_pos c]
        have ho : hw S b ≤ 2 := by
          unfold qMay at c
          rcases Nat.lt_or_ge 2 (hw S b) with q | q
          · rw [if_pos (by rw [hw_gt2 hL (by omega)]; exact q)] at c
            cases c
          · omega
        have : qOpn S (fun S' => (qV n S').1) b = 0 := by
          unfold qOpn
          rw [hm0, zz, hR.r (by omega) (by omega)]
          refine fo_inv (f := q_opn S (fun S' => (qV n S').1) b) (fun _ v => v = 0) (wN (R (18 * b + 3))) 0 0 rfl (fun j v h1 h2 h3 => ?_)
          have hn4 := (hG.n hb).2.2
          unfold q_opn
          by_cases q : qShows S b j = 0
          · rw [if_pos q]
            exact h3
          · rw [if_neg q, h3]
            have : (qV n (upd S (90 + b) (zI (3 + j)))).1 = 0 := by
              refine ih _ (hR.up (by omega)) (hL.op hR hG hb (by omega)) (hZ.up (fun c c1 c2 c3 e => q ?_))
              subst e
              have := one_step hG hb c3
              unfold qShows
              rw [if_pos (Or.inr ⟨by rw [hw_eq hL (by omega) (by omega)]; exact c2, by omega⟩)]
              rfl
            simp only [this, zz]
            rfl
        rw [this, hs, if_neg n0]
        exact hs
      · rw [if_neg c]
        exact hs
    · unfold q_bl
      split
      · split
        · rw [bd, hs, if_neg n0]
          exact hs
        · exact hs
      · exact hs
    · show (qHas S).toInt64 * qMass S = 0
      rw [hm0]
      exact zz _
end LM
