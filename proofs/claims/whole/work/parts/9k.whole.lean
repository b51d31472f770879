/-! means as whole numbers -/
def vI (S : Nat → Int32) : Int := (qB S).1.toInt
theorem vI_j (S : Nat → Int32) : (qB S).1 = jI (vI S) := jI_of _
def MM (R S : Nat → Int32) : Int := ((mP R S (wN (R 116)) : Nat) : Int)
def oI (R S : Nat → Int32) (c : Nat) : Int := fo (fun i (w : Int) => w + (qSn S c i : Int) * vI (upd S (90 + c) (zI (3 + i)))) 0 (wN (R (18 * c + 3))) (-(wN (R (18 * c + 1)) : Int) * MM R S)
def pI (R S : Nat → Int32) (c : Nat) : Int := -(wN (R (18 * c + 4)) : Int) * MM R S + vI (upd S (90 + c) (zI 1)) + vI (upd S (90 + c) (zI 2))
section LI
variable {R S : Nat → Int32} {b c i Q : Nat} {T : mU × (Nat → Option Nat)}
theorem qG.p1 (hG : qG R) (hc : c < wN (R 116)) : R (18 * c + 1) = zI (wN (R (18 * c + 1))) ∧ wN (R (18 * c + 1)) ≤ 999 := (hG.2.2 c hc).1.2.1.z (by omega)
theorem neg_z : ∀ k, k < 1000 → (-zI k).toInt64 = jI (-(k : Int)) := by decide +kernel
theorem MM_nn : 0 ≤ MM R S := Int.natCast_nonneg _
theorem MM_le (hG : qG R) (hR : qRw R S) (hL : qPl S) : MM R S ≤ 10000000000 := by
  have := (ms_m hG hR hL).2
  unfold MM
  omega
theorem MM_j (hG : qG R) (hR : qRw R S) (hL : qPl S) : qMass S = jI (MM R S) := (ms_m hG hR hL).1
theorem sn_v (hG : qG R) (hR : qRw R S) (hc : c < wN (R 116)) (hi : i < wN (R (18 * c + 3))) : qShows S c i = zI (qSn S c i) ∧ qSn S c i ≤ 100 := by
  have h5 := hG.m.2
  exact qSh_ok (qG_R hG hR) (by rw [hR.m]; exact hc) (by rw [hR.r (by omega) (by omega)]; exact hi)
theorem o_jI (hG : qG R) (hR : qRw R S) (hL : qPl S) (hc : c < wN (R 116)) : qOpn S (fun S => (qB S).1) c = jI (oI R S c) := by
  have h5 := hG.m.2
  have hn4 := (hG.n hc).2.2
  obtain ⟨p1, p2⟩ := hG.p1 hc
  unfold qOpn oI
  rw [hR.r (by omega) (by omega), hR.r (by omega) (by omega), MM_j hG hR hL]
  have e0 : (-R (18 * c + 1)).toInt64 * jI (MM R S) = jI (-(wN (R (18 * c + 1)) : Int) * MM R S) := by
    conv => lhs; rw [p1]
    rw [neg_z _ (by omega), jI_mul]
  rw [e0]
  have key : ∀ (k i : Nat) (w : Int), i + k ≤ wN (R (18 * c + 3)) → fo (q_opn S (fun S => (qB S).1) c) i k (jI w) = jI (fo (fun i (w : Int) => w + (qSn S c i : Int) * vI (upd S (90 + c) (zI (3 + i)))) i k w) := by
    intro k
    induction k with
    | zero => intros; rfl
    | succ k ih =>
      intro i w hk
      show fo (q_opn S (fun S => (qB S).1) c) (i + 1) k (q_opn S (fun S => (qB S).1) c i (jI w)) = jI (fo _ (i + 1) k (w + (qSn S c i : Int) * vI (upd S (90 + c) (zI (3 + i)))))
      rw [← ih (i + 1) _ (by omega)]
      congr 1
      obtain ⟨s1, s2⟩ := sn_v hG hR hc (show i < wN (R (18 * c + 3)) by omega)
      unfold q_opn
      simp only [vI_j]
      rw [s1]
      have ez : (zI (qSn S c i) = 0) = (qSn S c i = 0) := zI_ne0 (by omega)
      simp only [ez]
      by_cases q : qSn S c i = 0
      · rw [if_pos q, q]
        congr 1
        omega
      · rw [if_neg q, jI_z (by omega), jI_mul, jI_add]
  exact key _ 0 _ (by omega)
theorem p_jI (hG : qG R) (hR : qRw R S) (hL : qPl S) (hc : c < wN (R 116)) (h1 : R (18 * c) = zI 1) : qPee S (fun S => (qB S).1) c = jI (pI R S c) := by
  have h5 := hG.m.2
  obtain ⟨k1, k2⟩ := ((hG.2.2 c hc).2.2.1 h1).z (by omega)
  have x : ∀ k, k = 1 ∨ k = 2 → (if qMass (upd S (90 + c) (zI k)) = 0 then 0 else (qB (upd S (90 + c) (zI k))).1) = jI (vI (upd S (90 + c) (zI k))) := fun k hk => by
    have hL' := hL.pe hR hG hc hk h1
    rw [← vI_j]
    by_cases q : qMass (upd S (90 + c) (zI k)) = 0
    · rw [if_pos q]
      exact (Z0_V hG 11 _ (hR.up (by omega)) hL' ((Z0_ms hG (hR.up (by omega)) hL').mp q)).symm
    · rw [if_neg q]
  unfold qPee pI
  rw [fo_2]
  unfold q_pee
  rw [x 1 (Or.inl rfl), x 2 (Or.inr rfl), MM_j hG hR hL, hR.r (by omega) (by omega)]
  have e0 : (-R (18 * c + 4)).toInt64 * jI (MM R S) = jI (-(wN (R (18 * c + 4)) : Int) * MM R S) := by
    conv => lhs; rw [k1]
    rw [neg_z _ (by omega), jI_mul]
  rw [e0, jI_add, jI_add]
/-- the chances of a box that isn't open, together -/
theorem sa_mf (hG : qG R) (hR : qRw R S) (hL : qPl S) (hc : c < wN (R 116)) (ho : hw S c ≤ 2) : fsum (qSn S c) 0 (wN (R (18 * c + 3))) = mf R S c := by
  have h5 := hG.m.2
  obtain ⟨c1, c2, c3⟩ := hG.c0 hc
  obtain ⟨q1, q2, q3⟩ := qSa_eq (qG_R hG hR) (show c < wN (S 116) by rw [hR.m]; exact hc) (fun e => by
    rw [hw_eq hL (by omega) (by omega), hw_eq hL (by omega) (by omega)] at e
    rw [hR.r0 (by omega)]
    exact pee_k hR hL hc h5 e)
  rw [hw_eq hL (by omega) (by omega)] at q1 q2 q3
  rw [hw_eq hL (by omega) (by omega)] at q3
  rw [hR.r (by omega) (by omega)] at q1 q2
  have e : fsum (qSn S c) 0 (wN (R (18 * c + 3))) = qSa S c := by
    unfold qSa
    rw [hR.r (by omega) (by omega)]
  rw [e]
  unfold mf
  by_cases w0 : hw S c = 0
  · rw [if_pos w0]
    exact q3 (by omega) (by omega)
  · rw [if_neg w0]
    by_cases w1 : hw S c = 1
    · rw [if_pos w1]
      exact q1 w1
    · rw [if_neg w1, if_pos (by omega)]
      have := q2 (by omega)
      omega
/-- masses behind a box opened: together with the chances, the mass -/
theorem MM_op (hG : qG R) (hR : qRw R S) (hL : qPl S) (hc : c < wN (R 116)) (ho : hw S c ≤ 2) (hi : i < 4) : ((fsum (qSn S c) 0 (wN (R (18 * c + 3))) : Nat) : Int) * MM R (upd S (90 + c) (zI (3 + i))) = MM R S := by
  rw [sa_mf hG hR hL hc ho]
  have := ms_op (S := S) (i := i) hG hc hi
  unfold MM
  rw [← Int.natCast_mul, this]
theorem MM_op0 (hG : qG R) (hc : c < wN (R 116)) {j : Nat} (hi : i < 4) (hj : j < 4) : MM R (upd S (90 + c) (zI (3 + i))) = MM R (upd S (90 + c) (zI (3 + j))) := by
  have h5 := hG.m.2
  unfold MM
  congr 1
  unfold mP
  refine fo_congr _ _ _ (fun k _ hk v => ?_)
  congr 1
  unfold mf
  by_cases e : k = c
  · subst e
    rw [hw_up (by omega), hw_up (by omega), if_neg (show ¬ 3 + i = 0 by omega), if_neg (show ¬ 3 + i = 1 by omega), if_neg (show ¬ 3 + i = 2 by omega), if_neg (show ¬ 3 + j = 0 by omega), if_neg (show ¬ 3 + j = 1 by omega), if_neg (show ¬ 3 + j = 2 by omega)]
  · rw [hw_uo e, hw_uo e]
theorem MM_pe (hG : qG R) (hc : c < wN (R 116)) (h0 : hw S c = 0) : MM R (upd S (90 + c) (zI 1)) + MM R (upd S (90 + c) (zI 2)) = MM R S := by
  have h5 := hG.m.2
  obtain ⟨c1, c2, c3⟩ := hG.c0 hc
  have e1 := mP_ch (R := R) (S := S) (S' := upd S (90 + c) (zI 1)) (b := c) (fun k hk => mf_uo hk) (wN (R 116) - (c + 1))
  have e2 := mP_ch (R := R) (S := S) (S' := upd S (90 + c) (zI 2)) (b := c) (fun k hk => mf_uo hk) (wN (R 116) - (c + 1))
  rw [show c + 1 + (wN (R 116) - (c + 1)) = wN (R 116) by omega] at e1 e2
  have f0 : mf R S c = 100 := if_pos h0
  have f1 : mf R (upd S (90 + c) (zI 1)) c = wN (R (18 * c + 10)) := by
    unfold mf
    rw [hw_up (by omega)]
    rfl
  have f2 : mf R (upd S (90 + c) (zI 2)) c = 100 - wN (R (18 * c + 10)) := by
    unfold mf
    rw [hw_up (by omega)]
    rfl
  rw [f0, f1] at e1
  rw [f0, f2, Nat.sub_mul] at e2
  have := Nat.mul_le_mul_right (mP R S (wN (R 116))) c2
  unfold MM
  omega
/-- sums by the chances -/
theorem fo_lin {s : Nat → Nat} {x y : Nat → Int} {k1 : Int} : ∀ (k i : Nat) (w1 w2 : Int), (∀ j, i ≤ j → j < i + k → y j ≤ x j ∧ x j - k1 ≤ y j) → (fo (fun j (w : Int) => w + (s j : Int) * y j) i k w2 - w2 ≤ fo (fun j (w : Int) => w + (s j : Int) * x j) i k w1 - w1 ∧ fo (fun j (w : Int) => w + (s j : Int) * x j) i k w1 - w1 - ((fsum s i k : Nat) : Int) * k1 ≤ fo (fun j (w : Int) => w + (s j : Int) * y j) i k w2 - w2) := by
  intro k
  induction k with
  | zero =>
    intro i w1 w2 _
    show w2 - w2 ≤ w1 - w1 ∧ w1 - w1 - ((0 : Nat) : Int) * k1 ≤ w2 - w2
    omega
  | succ k ih =>
    intro i w1 w2 h
    obtain ⟨a1, a2⟩ := ih (i + 1) (w1 + (s i : Int) * x i) (w2 + (s i : Int) * y i) (fun j h1 h2 => h j (by omega) (by omega))
    obtain ⟨b1, b2⟩ := h i (by omega) (by omega)
    have c1 : (s i : Int) * y i ≤ (s i : Int) * x i := Int.mul_le_mul_of_nonneg_left b1 (Int.natCast_nonneg _)
    have c2 : (s i : Int) * (x i - k1) ≤ (s i : Int) * y i := Int.mul_le_mul_of_nonneg_left b2 (Int.natCast_nonneg _)
    rw [Int.mul_sub] at c2
    show fo _ (i + 1) k (w2 + (s i : Int) * y i) - w2 ≤ fo _ (i + 1) k (w1 + (s i : Int) * x i) - w1 ∧ fo _ (i + 1) k (w1 + (s i : Int) * x i) - w1 - ((fsum s i (k + 1) : Nat) : Int) * k1 ≤ fo _ (i + 1) k (w2 + (s i : Int) * y i) - w2
    rw [fsum_s, Int.natCast_add, Int.add_mul]
    omega
end LI
