/-! bounds of means -/
theorem fo_cst {s : Nat → Nat} {K : Int} : ∀ (k i : Nat) (w : Int), fo (fun j (w : Int) => w + (s j : Int) * K) i k w = w + ((fsum s i k : Nat) : Int) * K := by
  intro k
  induction k with
  | zero =>
    intro i w
    show w = w + ((0 : Nat) : Int) * K
    omega
  | succ k ih =>
    intro i w
    show fo _ (i + 1) k (w + (s i : Int) * K) = _
    rw [ih, fsum_s, Int.natCast_add, Int.add_mul]
    omega
section LB
variable {R S : Nat → Int32} {b c i Q : Nat} {T : mU × (Nat → Option Nat)}
theorem oI_bd (hG : qG R) (hR : qRw R S) (hL : qPl S) (hc : c < wN (R 116)) (ho : hw S c ≤ 2) (hv : ∀ i, i < wN (R (18 * c + 3)) → 0 ≤ vI (upd S (90 + c) (zI (3 + i))) ∧ vI (upd S (90 + c) (zI (3 + i))) ≤ 999 * MM R (upd S (90 + c) (zI (3 + i)))) : -(999 * MM R S) ≤ oI R S c ∧ oI R S c ≤ 999 * MM R S := by
  have h5 := hG.m.2
  obtain ⟨hn0, hn1, hn4⟩ := hG.n hc
  obtain ⟨p1, p2⟩ := hG.p1 hc
  have hM := MM_op (i := 0) hG hR hL hc ho (by omega)
  have hnn := MM_nn (R := R) (S := S)
  unfold oI
  obtain ⟨a1, a2⟩ := fo_lin (s := qSn S c) (x := fun _ => 999 * MM R (upd S (90 + c) (zI (3 + 0)))) (y := fun i => vI (upd S (90 + c) (zI (3 + i)))) (k1 := 999 * MM R (upd S (90 + c) (zI (3 + 0)))) (wN (R (18 * c + 3))) 0 0 (-(wN (R (18 * c + 1)) : Int) * MM R S) (fun j _ hj => by
    obtain ⟨v1, v2⟩ := hv j (by omega)
    rw [MM_op0 (i := j) (j := 0) hG hc (by omega) (by omega)] at v2
    show vI _ ≤ 999 * _ ∧ 999 * _ - 999 * _ ≤ vI _
    omega)
  rw [fo_cst] at a1 a2
  have e : ((fsum (qSn S c) 0 (wN (R (18 * c + 3))) : Nat) : Int) * (999 * MM R (upd S (90 + c) (zI (3 + 0)))) = 999 * MM R S := by
    rw [← hM, ← Int.mul_assoc, Int.mul_comm _ 999, Int.mul_assoc]
  rw [e] at a1 a2
  have hp : (wN (R (18 * c + 1)) : Int) * MM R S ≤ 999 * MM R S := Int.mul_le_mul_of_nonneg_right (by omega) hnn
  have hp0 : 0 ≤ (wN (R (18 * c + 1)) : Int) * MM R S := Int.mul_nonneg (by omega) hnn
  rw [Int.neg_mul] at a1 a2 ⊢
  omega
theorem pI_bd (hG : qG R) (hc : c < wN (R 116)) (h0 : hw S c = 0) (h1 : R (18 * c) = zI 1) (hv : ∀ k, k = 1 ∨ k = 2 → 0 ≤ vI (upd S (90 + c) (zI k)) ∧ vI (upd S (90 + c) (zI k)) ≤ 999 * MM R (upd S (90 + c) (zI k))) : -(999 * MM R S) ≤ pI R S c ∧ pI R S c ≤ 999 * MM R S := by
  obtain ⟨k1, k2⟩ := ((hG.2.2 c hc).2.2.1 h1).z (by omega)
  have hM := MM_pe hG hc h0
  have hnn := MM_nn (R := R) (S := S)
  obtain ⟨v1, v2⟩ := hv 1 (Or.inl rfl)
  obtain ⟨v3, v4⟩ := hv 2 (Or.inr rfl)
  have hp : (wN (R (18 * c + 4)) : Int) * MM R S ≤ 999 * MM R S := Int.mul_le_mul_of_nonneg_right (by omega) hnn
  have hp0 : 0 ≤ (wN (R (18 * c + 4)) : Int) * MM R S := Int.mul_nonneg (by omega) hnn
  unfold pI
  rw [Int.neg_mul]
  omega
theorem bd_bd (hG : qG R) (hR : qRw R S) (hL : qPl S) (hc : c < wN (R 116)) (h0 : hw S c = 0) : (qBd S c).toInt ≤ 999 * MM R S := by
  have h5 := hG.m.2
  obtain ⟨hn0, hn1, hn4⟩ := hG.n hc
  have hle := MM_le hG hR hL
  have hnn := MM_nn (R := R) (S := S)
  -- the sum of chances times worths
  have hs : ∀ (k i : Nat) (w : Nat), i + k ≤ wN (R (18 * c + 3)) → ∃ w', fo (q_bd S c) i k (jI (w : Int)) = jI ((w' : Nat) : Int) ∧ w' ≤ w + 999 * fsum (qSn S c) i k := by
    intro k
    induction k with
    | zero => exact fun i w _ => ⟨w, rfl, by omega⟩
    | succ k ih =>
      intro i w hk
      obtain ⟨s1, s2⟩ := sn_v hG hR hc (show i < wN (R (18 * c + 3)) by omega)
      have sq : qChance S c i = zI (qSn S c i) := by
        rw [← s1]
        unfold qShows
        simp only [hw_eq hL (show c < 5 by omega) (show 1 < 100 by omega), hw_eq hL (show c < 5 by omega) (show 2 < 100 by omega)]
        rw [if_neg (by omega)]
      obtain ⟨w1, w2⟩ := ((hG.2.2 c hc).2.2.2.2.2.2.2.1 i (by omega)).1.z (by omega)
      have ws : S (18 * c + (6 + i)) = R (18 * c + (6 + i)) := hR.r (by omega) (by omega)
      have e : q_bd S c i (jI (w : Int)) = jI (((w + qSn S c i * wN (R (18 * c + (6 + i))) : Nat)) : Int) := by
        unfold q_bd
        rw [sq, ws]
        conv => lhs; rw [w1]
        rw [zI_mul, jI_z (by have := Nat.mul_le_mul s2 w2; omega), jI_add, Int.natCast_add]
      obtain ⟨w', x1, x2⟩ := ih (i + 1) (w + qSn S c i * wN (R (18 * c + (6 + i)))) (by omega)
      refine ⟨w', ?_, ?_⟩
      · show fo (q_bd S c) (i + 1) k (q_bd S c i (jI (w : Int))) = _
        rw [e]
        exact x1
      · rw [fsum_s]
        have := Nat.mul_le_mul_left (qSn S c i) w2
        have e2 : 999 * (qSn S c i + fsum (qSn S c) (i + 1) k) = qSn S c i * 999 + 999 * fsum (qSn S c) (i + 1) k := by omega
        omega
  obtain ⟨w', x1, x2⟩ := hs (wN (R (18 * c + 3))) 0 0 (by omega)
  rw [sa_mf hG hR hL hc (by omega), show mf R S c = 100 from if_pos h0] at x2
  unfold qBd
  rw [hR.r (by omega) (by omega), show (0 : Int64) = jI ((0 : Nat) : Int) from rfl, x1, MM_j hG hR hL, show (100 : Int64) = jI 100 from rfl, jI_div hnn (by omega) (by omega) (by omega), jI_mul]
  have e1 : (w' : Int) * (MM R S / 100) ≤ 99900 * (MM R S / 100) := Int.mul_le_mul_of_nonneg_right (by omega) (Int.ediv_nonneg hnn (by omega))
  have e0 : 0 ≤ (w' : Int) * (MM R S / 100) := Int.mul_nonneg (by omega) (Int.ediv_nonneg hnn (by omega))
  have e2 : 100 * (MM R S / 100) ≤ MM R S := by omega
  rw [jI_t (by omega) (by omega)]
  omega
theorem peep_v (hR : qRw R S) (hL : qPl S) (hc : c < 5) (h : qPeep S c = true) : hw S c = 0 ∧ R (18 * c) = zI 1 := by
  unfold qPeep at h
  simp only [Bool.and_eq_true, decide_eq_true_eq] at h
  have e0 : (S (90 + c) = 0) = (hw S c = 0) := hw_eq hL hc (k := 0) (by omega)
  rw [e0, hR.r0 hc] at h
  exact ⟨h.2.1, h.1⟩
theorem st_i (hr : rOk T R Q) (hG : qG R) (hR : qRw R S) (hL : qPl S) : ((qHas S).toInt64 * qMass S).toInt = (wN (qHas S) : Int) * MM R S ∧ wN (qHas S) ≤ 999 := by
  obtain ⟨n, n1, n2⟩ := has_v hr hG hR hL
  have hle := MM_le hG hR hL
  have hnn := MM_nn (R := R) (S := S)
  rw [n1, wN_zI (by omega), jI_z (by omega), MM_j hG hR hL, jI_mul]
  have hp : (n : Int) * MM R S ≤ 999 * MM R S := Int.mul_le_mul_of_nonneg_right (by omega) hnn
  have hp0 : 0 ≤ (n : Int) * MM R S := Int.mul_nonneg (by omega) hnn
  rw [jI_t (by omega) (by omega)]
  exact ⟨rfl, n2⟩
/-- means lie between nothing and the greatest worth -/
theorem vI_bd (hr : rOk T R Q) (hG : qG R) : ∀ (n : Nat) (S : Nat → Int32), qRw R S → qPl S → meas S < n → 0 ≤ vI S ∧ vI S ≤ 999 * MM R S := by
  have h5 := hG.m.2
  intro n
  induction n with
  | zero => intro S _ _ h; omega
  | succ n ih =>
    intro S hR hL hm
    have hhw : qHw S := fun c hc => (hL c hc).1
    have hnn' : qNn S := (qG_R hG hR).nn
    have hle := MM_le hG hR hL
    have hnn := MM_nn (R := R) (S := S)
    have inv : ∀ (f : Nat → Int64 × Int32 → Int64 × Int32), (∀ c s, c < wN (R 116) → 0 ≤ s.1.toInt ∧ s.1.toInt ≤ 999 * MM R S → 0 ≤ (f c s).1.toInt ∧ (f c s).1.toInt ≤ 999 * MM R S) → ∀ s : Int64 × Int32, 0 ≤ s.1.toInt ∧ s.1.toInt ≤ 999 * MM R S → 0 ≤ (fo f 0 (wN (R 116)) s).1.toInt ∧ (fo f 0 (wN (R 116)) s).1.toInt ≤ 999 * MM R S := fun f hf s hs =>
      fo_inv (f := f) (fun _ s => 0 ≤ s.1.toInt ∧ s.1.toInt ≤ 999 * MM R S) (wN (R 116)) 0 s hs (fun j s h1 h2 h3 => hf j s (by omega) h3)
    unfold vI
    rw [qB_step hhw hnn']
    unfold qStep
    rw [hR.m]
    refine inv _ (fun c s hc hs => ?_) _ (inv _ (fun c s hc hs => ?_) _ (inv _ (fun c s hc hs => ?_) _ ?_))
    · unfold q_pb
      by_cases q : qPeep S c = true
      · rw [if_pos q]
        obtain ⟨h0, h1⟩ := peep_v hR hL (by omega) q
        obtain ⟨x1, x2⟩ := pI_bd hG hc h0 h1 (fun k hk => by
          have := meas_up (S := S) (b := c) (x := k) (by omega) (by omega) (qPeep_lev (by omega) q)
          exact ih _ (hR.up (by omega)) (hL.pe hR hG hc hk h1) (by omega))
        rw [p_jI hG hR hL hc h1]
        by_cases q2 : s.1 < jI (pI R S c)
        · rw [if_pos q2]
          rw [Int64.lt_iff_toInt_lt, jI_t (by omega) (by omega)] at q2
          show 0 ≤ (jI (pI R S c)).toInt ∧ (jI (pI R S c)).toInt ≤ _
          rw [jI_t (by omega) (by omega)]
          omega
        · rw [if_neg q2]
          exact hs
      · rw [if_neg q]
        exact hs
    · unfold q_ob
      by_cases q : qMay S c = true
      · rw [if_pos q]
        have ho := qMay_le hL (by omega) q
        have hn4 := (hG.n hc).2.2
        obtain ⟨x1, x2⟩ := oI_bd hG hR hL hc ho (fun i hi => by
          have := meas_up (S := S) (b := c) (x := 3 + i) (by omega) (by omega) (qMay_lev hhw (by omega) q)
          exact ih _ (hR.up (by omega)) (hL.op hR hG hc hi) (by omega))
        rw [o_jI hG hR hL hc]
        by_cases q2 : s.1 < jI (oI R S c)
        · rw [if_pos q2]
          rw [Int64.lt_iff_toInt_lt, jI_t (by omega) (by omega)] at q2
          show 0 ≤ (jI (oI R S c)).toInt ∧ (jI (oI R S c)).toInt ≤ _
          rw [jI_t (by omega) (by omega)]
          omega
        · rw [if_neg q2]
          exact hs
      · rw [if_neg q]
        exact hs
    · unfold q_bl
      split
      · split
        · rename_i e0
          have e1 : (S (90 + c) = 0) = (hw S c = 0) := hw_eq hL (show c < 5 by omega) (k := 0) (by omega)
          rw [e1] at e0
          by_cases q2 : s.1 < qBd S c
          · rw [if_pos q2]
            rw [Int64.lt_iff_toInt_lt] at q2
            exact ⟨by show 0 ≤ (qBd S c).toInt; omega, bd_bd hG hR hL hc e0⟩
          · rw [if_neg q2]
            exact hs
        · exact hs
      · exact hs
    · obtain ⟨e1, e2⟩ := st_i hr hG hR hL
      show 0 ≤ ((qHas S).toInt64 * qMass S).toInt ∧ ((qHas S).toInt64 * qMass S).toInt ≤ _
      rw [e1]
      exact ⟨Int.mul_nonneg (by omega) hnn, Int.mul_le_mul_of_nonneg_right (by omega) hnn⟩
theorem vI_b (hr : rOk T R Q) (hG : qG R) (hR : qRw R S) (hL : qPl S) : 0 ≤ vI S ∧ vI S ≤ 999 * MM R S := vI_bd hr hG 11 S hR hL (by have := meas_le S; omega)
theorem o_t (hr : rOk T R Q) (hG : qG R) (hR : qRw R S) (hL : qPl S) (hc : c < wN (R 116)) (ho : hw S c ≤ 2) : (qOpn S (fun S => (qB S).1) c).toInt = oI R S c := by
  have h5 := hG.m.2
  have hn4 := (hG.n hc).2.2
  have hle := MM_le hG hR hL
  have hnn := MM_nn (R := R) (S := S)
  obtain ⟨x1, x2⟩ := oI_bd hG hR hL hc ho (fun i hi => vI_b hr hG (hR.up (by omega)) (hL.op hR hG hc hi))
  rw [o_jI hG hR hL hc, jI_t (by omega) (by omega)]
theorem p_t (hr : rOk T R Q) (hG : qG R) (hR : qRw R S) (hL : qPl S) (hc : c < wN (R 116)) (h0 : hw S c = 0) (h1 : R (18 * c) = zI 1) : (qPee S (fun S => (qB S).1) c).toInt = pI R S c := by
  have h5 := hG.m.2
  have hle := MM_le hG hR hL
  have hnn := MM_nn (R := R) (S := S)
  obtain ⟨x1, x2⟩ := pI_bd hG hc h0 h1 (fun k hk => vI_b hr hG (hR.up (by omega)) (hL.pe hR hG hc hk h1))
  rw [p_jI hG hR hL hc h1, jI_t (by omega) (by omega)]
end LB
