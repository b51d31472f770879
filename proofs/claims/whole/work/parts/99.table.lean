/-! links: the table -/
section LT
variable {R S : Nat → Int32} {b i Q r : Nat} {T : mU × (Nat → Option Nat)}
theorem qMay_le (hL : qPl S) (hb : b < 5) (c : qMay S b = true) : hw S b ≤ 2 := by
  unfold qMay at c
  rcases Nat.lt_or_ge 2 (hw S b) with q | q
  · rw [if_pos (by rw [hw_gt2 hL hb]; exact q)] at c
    cases c
  · omega
theorem lk_dg0 (hR : qRw R S) (hb : b < wN (R 116)) (h5 : wN (R 116) ≤ 5) : (qDg S b = 0) = (hw S b = 0) := by
  rw [dg_v hR hb h5]
  by_cases c : hw S b ≤ 2
  · rw [if_pos c]
  · rw [if_neg c]
    refine propext ⟨fun q => ?_, fun q => by omega⟩
    split at q <;> omega
theorem lk_bd (hG : qG R) (hR : qRw R S) (hL : qPl S) (hb : b < wN (R 116)) (h0 : hw S b = 0) : cBd R (qDg S) b = qBd S b := by
  have h5 := hG.m.2
  have hn4 := (hG.n hb).2.2
  unfold cBd qBd
  rw [lk_ms hG hR hL, Int64.mul_comm, hR.r (by omega) (by omega)]
  congr 1
  refine fo_congr _ _ _ (fun j _ hj v => ?_)
  unfold cBdS q_bd
  have e : cCh R (qDg S) b j = qChance S b j := by
    rw [lk_ch hG hR hL hb (by omega) (by omega)]
    unfold qShows
    simp only [hw_eq hL (show b < 5 by omega) (show 1 < 100 by omega), hw_eq hL (show b < 5 by omega) (show 2 < 100 by omega)]
    exact if_neg (by omega)
  rw [e, hR.r (by omega) (by omega)]
  congr 1
  have hst := (hG.2.2 b hb).2.2.2.2.2.2.2.1 j (by omega)
  obtain ⟨w1, w2⟩ := hst.1.z (by omega)
  have hc : ∃ c, qChance S b j = zI c ∧ c ≤ 100 := by
    rw [lk_chance hG hR hL hb (by omega), lk_to hG hR hL hb]
    by_cases k : (!decide (R (18 * b + 5) < 0) && decide (S (90 + wN (R (18 * b + 5))) = zI 3)) = true
    · rw [if_pos k]
      simp only [Bool.and_eq_true, Bool.not_eq_true', decide_eq_false_iff_not] at k
      obtain ⟨q1, q2⟩ := (hst.2.2.2 (fun e => k.1 (by rw [e]; exact m4_neg))).z (by omega)
      exact ⟨_, q1, q2⟩
    · rw [if_neg k]
      obtain ⟨q1, q2⟩ := hst.2.1.z (by omega)
      exact ⟨_, q1, q2⟩
  obtain ⟨c, c1, c2⟩ := hc
  generalize wN (R (18 * b + (6 + j))) = w at *
  rw [c1, w1, zI_mul, jI_z (by omega), jI_z (by omega), jI_z (by have := Nat.mul_le_mul c2 w2; omega), jI_mul, Int.natCast_mul]
theorem lk_s0 (hr : rOk T R Q) (hG : qG R) (hR : qRw R S) (hL : qPl S) : cS0 R T (qDg S) (rkN T S) = fo (q_bl S) 0 (wN (R 116)) ((qHas S).toInt64 * qMass S, zI 0) := by
  have h5 := hG.m.2
  obtain ⟨-, -, e3, -⟩ := lk_rk hr hG hR hL
  unfold cS0
  rw [e3, lk_ms hG hR hL]
  have hn := stop_nn hr hG hR hL
  generalize (qHas S).toInt64 * qMass S = st at *
  have key : ∀ k, k ≤ wN (R 116) → fo (q_bl S) 0 k (st, zI 0) = if st < (fo (c_bl R (qDg S)) 0 k (-4, 0)).2 then ((fo (c_bl R (qDg S)) 0 k (-4, 0)).2, zI 30 + (fo (c_bl R (qDg S)) 0 k (-4, 0)).1) else (st, zI 0) := by
    intro k
    induction k with
    | zero =>
      intro _
      show (st, zI 0) = if st < 0 then _ else (st, zI 0)
      rw [if_neg hn]
    | succ k ih =>
      intro hk
      have i := ih (by omega)
      have hk' : k < wN (R 116) := by omega
      rw [fo_succ, fo_succ, Nat.zero_add, i]
      generalize fo (c_bl R (qDg S)) 0 k (-4, 0) = B at *
      unfold q_bl c_bl
      have e0 : (S (90 + k) = 0) = (hw S k = 0) := hw_eq hL (show k < 5 by omega) (k := 0) (by omega)
      rw [hR.r0 (by omega)]
      simp only [e0, lk_dg0 hR hk' h5]
      by_cases c1 : R (18 * k) = zI 2
      · by_cases c2 : hw S k = 0
        · rw [if_pos c1, if_pos c2, lk_bd hG hR hL hk' c2]
          simp only [c1, c2, true_and]
          generalize qBd S k = x
          by_cases c3 : st < B.2
          · simp only [if_pos c3]
            by_cases c4 : B.2 < x
            · rw [if_pos c4, if_pos c4, if_pos (Int64.lt_trans c3 c4), zI_add]
            · rw [if_neg c4, if_neg c4, if_pos c3]
          · simp only [if_neg c3]
            by_cases c4 : st < x
            · rw [if_pos c4, if_pos (Int64.lt_of_le_of_lt (Int64.not_lt.mp c3) c4), if_pos c4, zI_add]
            · rw [if_neg c4]
              by_cases c6 : B.2 < x
              · rw [if_pos c6, if_neg c4]
              · rw [if_neg c6, if_neg c3]
        · rw [if_pos c1, if_neg c2]
          simp only [c2, false_and, and_false, if_false]
      · rw [if_neg c1]
        simp only [c1, false_and, if_false]
  unfold cBl
  exact (key _ (Nat.le_refl _)).symm
theorem lk_step {cs : Nat → Int32} {V : (Nat → Nat) → Nat → Int64} {V' : (Nat → Int32) → Int64} (hr : rOk T R Q) (hG : qG R) (hR : qRw R S) (hL : qPl S) (hcs : ∀ b, b < wN (R 116) → cs b = R (18 * b + 1)) (hV1 : ∀ b i, b < wN (R 116) → qMay S b = true → i < wN (R (18 * b + 3)) → V (qDg (upd S (90 + b) (zI (3 + i)))) (rkN T (upd S (90 + b) (zI (3 + i)))) = V' (upd S (90 + b) (zI (3 + i)))) (hV2 : ∀ b k, b < wN (R 116) → qPeep S b = true → k = 1 ∨ k = 2 → V (qDg (upd S (90 + b) (zI k))) (rkN T (upd S (90 + b) (zI k))) = V' (upd S (90 + b) (zI k)) ∧ (qMass (upd S (90 + b) (zI k)) = 0 → V' (upd S (90 + b) (zI k)) = 0)) : cStep R T cs V (qDg S) (rkN T S) = qStep S V' := by
  have h5 := hG.m.2
  unfold cStep qStep
  rw [lk_s0 hr hG hR hL, hR.m]
  have e1 : ∀ s, fo (c_ob R T cs V (qDg S) (rkN T S)) 0 (wN (R 116)) s = fo (q_ob S V') 0 (wN (R 116)) s := fun s => by
    refine fo_congr _ _ _ (fun b _ hb v => ?_)
    have hb' : b < wN (R 116) := by omega
    have hn4 := (hG.n hb').2.2
    unfold c_ob q_ob
    rw [lk_may hG hR hL hb']
    by_cases c : qMay S b = true
    · have ho := qMay_le hL (by omega) c
      have : cOpn R T cs V (qDg S) (rkN T S) b = qOpn S V' b := by
        unfold cOpn qOpn
        rw [hcs b hb', lk_ms hG hR hL, hR.r (by omega) (by omega), hR.r (by omega) (by omega)]
        refine fo_congr _ _ _ (fun j _ hj w => ?_)
        unfold oSt q_opn
        simp only
        rw [lk_ch hG hR hL hb' (by omega) ho, lk_ao hR hL hb' h5 (by omega) ho, ← lk_mx hr hG hR hL (hL.op hR hG hb' (by omega)) hb' (by omega) ho, hV1 b j hb' c (by omega)]
        by_cases q : qShows S b j = 0
        · rw [if_pos q, q, show (0 : Int32).toInt64 = 0 from rfl, Int64.zero_mul, Int64.add_zero]
        · rw [if_neg q]
      rw [this]
    · rw [if_neg c, if_neg c]
  rw [e1]
  refine fo_congr _ _ _ (fun b _ hb v => ?_)
  have hb' : b < wN (R 116) := by omega
  unfold c_pb q_pb
  have e0 : (S (90 + b) = 0) = (hw S b = 0) := hw_eq hL (show b < 5 by omega) (k := 0) (by omega)
  have hc : (cMay R (qDg S) b = true ∧ qDg S b = 0 ∧ R (18 * b) = zI 1) = (qPeep S b = true) := by
    rw [lk_may hG hR hL hb', lk_dg0 hR hb' h5]
    unfold qPeep
    rw [hR.r0 (by omega)]
    simp only [Bool.and_eq_true, decide_eq_true_eq, e0]
    exact propext ⟨fun q => ⟨q.2.2, q.2.1, q.1⟩, fun q => ⟨q.2.2, q.2.1, q.1⟩⟩
  simp only [hc]
  by_cases c : qPeep S b = true
  · rw [if_pos c, if_pos c]
    rw [← hc] at c
    obtain ⟨c1, c2, c3⟩ := c
    have c' : qPeep S b = true := by rw [← hc]; exact ⟨c1, c2, c3⟩
    rw [lk_dg0 hR hb' h5] at c2
    obtain ⟨a1, a2⟩ := hV2 b 1 hb' c' (Or.inl rfl)
    obtain ⟨b1, b2⟩ := hV2 b 2 hb' c' (Or.inr rfl)
    have : cPee R V (qDg S) (rkN T S) b = qPee S V' b := by
      unfold cPee qPee
      rw [lk_ap hR hb' h5 c2, lk_ap hR hb' h5 c2, if_pos rfl, if_neg (by simp), fo_2]
      unfold q_pee
      have r1 := lk_pk hr hG hR hL (hL.pe hR hG hb' (Or.inl rfl) c3) hb' (by omega) (by omega)
      have r2 := lk_pk hr hG hR hL (hL.pe hR hG hb' (Or.inr rfl) c3) hb' (by omega) (by omega)
      rw [r1] at a1
      rw [r2] at b1
      rw [a1, b1, lk_ms hG hR hL, hR.r (by omega) (by omega)]
      have x1 : (if qMass (upd S (90 + b) (zI 1)) = 0 then 0 else V' (upd S (90 + b) (zI 1))) = V' (upd S (90 + b) (zI 1)) := by
        by_cases q : qMass (upd S (90 + b) (zI 1)) = 0
        · rw [if_pos q, a2 q]
        · rw [if_neg q]
      have x2 : (if qMass (upd S (90 + b) (zI 2)) = 0 then 0 else V' (upd S (90 + b) (zI 2))) = V' (upd S (90 + b) (zI 2)) := by
        by_cases q : qMass (upd S (90 + b) (zI 2)) = 0
        · rw [if_pos q, b2 q]
        · rw [if_neg q]
      rw [x1, x2]
      obtain ⟨k1, k2⟩ := ((hG.2.2 b hb').2.2.1 c3).z (by omega)
      have x3 : (-R (18 * b + 4)).toInt64 = -(R (18 * b + 4)).toInt64 := by
        rw [k1]
        generalize wN (R (18 * b + 4)) = k at *
        have : ∀ k, k < 1000 → (-zI k).toInt64 = -(zI k).toInt64 := by decide +kernel
        exact this k (by omega)
      rw [x3, Int64.neg_mul, Int64.sub_eq_add_neg, Int64.add_assoc, Int64.add_comm]
      generalize V' (upd S (90 + b) (zI 1)) = p1
      generalize V' (upd S (90 + b) (zI 2)) = p2
      generalize -((R (18 * b + 4)).toInt64 * qMass S) = p3
      rw [Int64.add_comm p2 p3, Int64.add_assoc, Int64.add_comm p2 p1, ← Int64.add_assoc]
    rw [this]
  · rw [if_neg c, if_neg c]
/-- the table holds the best -/
theorem tab_q {u : mU} (hr : rOk T R Q) (hG : qG R) (htab : tabOk R T Q u) (hcs : ∀ b, b < wN (R 116) → u.1 1 b = R (18 * b + 1)) : ∀ (n : Nat) (S : Nat → Int32), qRw R S → qPl S → meas S < n → (u.2.1 3 (ix R (qDg S) (rkN T S)), u.1 4 (ix R (qDg S) (rkN T S))) = qV n S := by
  have h5 := hG.m.2
  intro n
  induction n with
  | zero => intro S _ _ h; omega
  | succ n ih =>
    intro S hR hL hm
    obtain ⟨-, e1, -, -⟩ := lk_rk hr hG hR hL
    rw [htab (qDg S) (lk_in hR) (lk_can hR hL h5) (rkN T S) e1 (lk_seen hr hG hR hL)]
    have hw : qHw S := fun c hc => (hL c hc).1
    refine lk_step hr hG hR hL hcs (fun b i hb hmay hi => ?_) (fun b k hb hpe hk => ?_)
    · have hn4 := (hG.n hb).2.2
      have := ih (upd S (90 + b) (zI (3 + i))) (hR.up (by omega)) (hL.op hR hG hb hi) (by
        have := meas_up (S := S) (b := b) (x := 3 + i) (by omega) (by omega) (qMay_lev hw (by omega) hmay)
        omega)
      exact congrArg Prod.fst this
    · have hk1 : R (18 * b) = zI 1 := by
        unfold qPeep at hpe
        simp only [Bool.and_eq_true, decide_eq_true_eq] at hpe
        rw [hR.r0 (by omega)] at hpe
        exact hpe.1
      have hL' := hL.pe hR hG hb hk hk1
      have := ih (upd S (90 + b) (zI k)) (hR.up (by omega)) hL' (by
        have := meas_up (S := S) (b := b) (x := k) (by omega) (by omega) (qPeep_lev (by omega) hpe)
        omega)
      exact ⟨congrArg Prod.fst this, fun q => Z0_V hG n _ (hR.up (by omega)) hL' ((Z0_ms hG (hR.up (by omega)) hL').mp q)⟩
end LT
