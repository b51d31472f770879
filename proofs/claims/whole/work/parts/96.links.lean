/-! links: what the class finds at the digits of a place, the reference finds at the place -/
def qRw (R S : Nat → Int32) : Prop := ∀ j, j < 90 ∨ j = 116 ∨ j = 117 → S j = R j
section LK
variable {R S : Nat → Int32} {b i : Nat}
theorem qRw.r (h : qRw R S) {b k : Nat} (hb : b < 5) (hk : k < 18) : S (18 * b + k) = R (18 * b + k) := h _ (by omega)
theorem qRw.r0 (h : qRw R S) {b : Nat} (hb : b < 5) : S (18 * b) = R (18 * b) := h _ (by omega)
theorem qRw.m (h : qRw R S) : S 116 = R 116 := h _ (by omega)
theorem qRw.bl (h : qRw R S) : S 117 = R 117 := h _ (by omega)
theorem qRw.up {x : Int32} (h : qRw R S) (hb : b < 5) : qRw R (upd S (90 + b) x) := fun j hj => by rw [upd_o (by omega)]; exact h j hj
/-- how box b is -/
def hw (S : Nat → Int32) (b : Nat) : Nat := wN (S (90 + b))
theorem qPl.w (hL : qPl S) (hb : b < 5) : S (90 + b) = zI (hw S b) ∧ hw S b ≤ 6 := (hL b hb).1.z (by omega)
theorem hw_le2 (hL : qPl S) (hb : b < 5) : (S (90 + b) ≤ zI 2) = (hw S b ≤ 2) := by
  obtain ⟨h1, h2⟩ := hL.w hb
  rw [h1, zI_le (by omega) (by omega)]
theorem hw_gt2 (hL : qPl S) (hb : b < 5) : (zI 2 < S (90 + b)) = (2 < hw S b) := by
  obtain ⟨h1, h2⟩ := hL.w hb
  rw [h1, zI_lt (by omega) (by omega)]
theorem hw_eq (hL : qPl S) (hb : b < 5) {k : Nat} (hk : k < 100) : (S (90 + b) = zI k) = (hw S b = k) := by
  obtain ⟨h1, h2⟩ := hL.w hb
  rw [h1, zI_eq (by omega) (by omega)]
theorem dg_v (hR : qRw R S) (hb : b < wN (R 116)) (h5 : wN (R 116) ≤ 5) : qDg S b = if hw S b ≤ 2 then hw S b else if hw S b = 3 ∧ R (18 * b) = zI 4 then 1 else 3 := by
  unfold qDg
  rw [hR.m, if_neg (by omega), hR.r0 (by omega)]
  rfl
theorem pee_k (hR : qRw R S) (hL : qPl S) (hb : b < wN (R 116)) (h5 : wN (R 116) ≤ 5) (h : hw S b = 1 ∨ hw S b = 2) : R (18 * b) = zI 1 := by
  obtain ⟨h1, h2⟩ := hL.w (show b < 5 by omega)
  have := ((hL b (by omega)).2.2 (by rw [hR.m]; exact hb)).1
  rw [hR.r0 (by omega), h1, zI_eq (by omega) (by omega), zI_eq (by omega) (by omega)] at this
  exact this h
theorem k_ne {x : Int32} {a c : Nat} (h : x = zI a) (hac : a ≠ c) (ha : a < 100) (hc : c < 100) : ¬ x = zI c := fun e => by
  rw [h, zI_eq (by omega) (by omega)] at e
  exact hac e
/-- open -/
theorem lk_op (hR : qRw R S) (hL : qPl S) (hb : b < wN (R 116)) (h5 : wN (R 116) ≤ 5) : cOp R (qDg S) b = decide (3 ≤ hw S b) := by
  unfold cOp
  rw [dg_v hR hb h5]
  by_cases c : hw S b ≤ 2
  · rw [if_pos c, decide_eq_false (show ¬ 3 ≤ hw S b by omega), decide_eq_false (show ¬ hw S b = 3 by omega), Bool.false_or]
    by_cases c1 : hw S b = 1
    · have := k_ne (c := 4) (pee_k hR hL hb h5 (Or.inl c1)) (by omega) (by omega) (by omega)
      rw [decide_eq_false this, Bool.and_false]
    · rw [decide_eq_false c1, Bool.false_and]
  · rw [if_neg c, decide_eq_true (show 3 ≤ hw S b by omega)]
    by_cases c1 : hw S b = 3 ∧ R (18 * b) = zI 4
    · rw [if_pos c1]
      simp [c1.2]
    · rw [if_neg c1]
      rfl
theorem lk_sp (hR : qRw R S) (hL : qPl S) (h5 : wN (R 116) ≤ 5) : cSp R (cOO R (qDg S)) = qSpent S := by
  unfold cSp qSpent
  rw [hR.m]
  refine fo_congr _ _ _ (fun b _ hb v => ?_)
  have hb' : b < wN (R 116) := by omega
  unfold c_sp q_spent
  rw [bt_OO h5 hb', lk_op hR hL hb' h5, hR.r (by omega) (by omega)]
  simp only [hw_le2 hL (show b < 5 by omega)]
  by_cases c : hw S b ≤ 2
  · rw [decide_eq_false (by omega), if_neg (by simp), if_pos c]
    exact (Int32.add_zero v).symm
  · rw [decide_eq_true (by omega), if_pos rfl, if_neg c]
theorem lk_may (hG : qG R) (hR : qRw R S) (hL : qPl S) (hb : b < wN (R 116)) : cMay R (qDg S) b = qMay S b := by
  have h5 := hG.m.2
  unfold cMay cAm qMay
  rw [lk_sp hR hL h5, bt_OO h5 hb, lk_op hR hL hb h5, hR.bl, hR.r (by omega) (by omega), hR.r0 (by omega), hR.r (by omega) (by omega)]
  simp only [hw_gt2 hL (show b < 5 by omega)]
  by_cases c : 2 < hw S b
  · rw [if_pos c, decide_eq_true (by omega)]
    rfl
  · rw [if_neg c, decide_eq_false (by omega), Bool.not_false, Bool.true_and]
    by_cases c2 : R 117 < qSpent S + R (18 * b + 2)
    · rw [if_pos c2, decide_eq_false (Int32.not_le.mpr c2), Bool.false_and]
    · rw [if_neg c2, decide_eq_true (Int32.not_lt.mp c2), Bool.true_and]
      unfold bAmid
      rw [show qRow R b 0 = R (18 * b) from rfl, show qRow R b 4 = R (18 * b + 4) from rfl]
      by_cases c3 : R (18 * b) = zI 3
      · rw [if_pos c3, if_pos c3]
        obtain ⟨l1, l2⟩ := (hG.2.2 b hb).2.2.2.1 c3
        obtain ⟨l3, l4⟩ := l1.z (by omega)
        have hL' : wN (R (18 * b + 4)) < wN (R 116) := by omega
        simp only [hw_gt2 hL (show wN (R (18 * b + 4)) < 5 by omega)]
        have e : (!decide (cOO R (qDg S) &&& (zI 1 <<< (R (18 * b + 4) &&& 31)) = 0)) = bt (cOO R (qDg S)) (wN (R (18 * b + 4))) := by
          conv => lhs; rw [l3]
          rfl
        rw [e, bt_OO h5 hL', lk_op hR hL hL' h5]
        rfl
      · rw [if_neg c3, if_neg c3]
/-- told of -/
theorem lk_to (hG : qG R) (hR : qRw R S) (hL : qPl S) (hb : b < wN (R 116)) : cTo R (qDg S) b = (!decide (R (18 * b + 5) < 0) && decide (S (90 + wN (R (18 * b + 5))) = zI 3)) := by
  have h5 := hG.m.2
  unfold cTo
  by_cases c : R (18 * b + 5) < 0
  · rw [decide_eq_true c]
    rfl
  · rw [decide_eq_false c, Bool.not_false, Bool.true_and, Bool.true_and]
    rcases (hG.2.2 b hb).2.2.2.2.2.2.1 with e | ⟨k1, k2, k3, k4, k5, k6⟩
    · rw [e] at c
      exact absurd m4_neg c
    · have hk5 : wN (R (18 * b + 5)) < 5 := by omega
      rw [dg_v hR k2 h5]
      simp only [hw_eq hL hk5 (show 3 < 100 by omega)]
      congr 1
      by_cases c1 : hw S (wN (R (18 * b + 5))) ≤ 2
      · rw [if_pos c1]
        refine propext ⟨fun e => ?_, fun e => by omega⟩
        have := pee_k hR hL k2 h5 (Or.inl e)
        rw [k4, zI_eq (by omega) (by omega)] at this
        omega
      · rw [if_neg c1]
        refine propext ⟨fun e => ?_, fun e => by rw [if_pos ⟨e, k4⟩]⟩
        by_cases c2 : hw S (wN (R (18 * b + 5))) = 3 ∧ R (18 * wN (R (18 * b + 5))) = zI 4
        · exact c2.1
        · rw [if_neg c2] at e
          omega
theorem lk_chance (hG : qG R) (hR : qRw R S) (hL : qPl S) (hb : b < wN (R 116)) (hi : i < 4) : qChance S b i = if cTo R (qDg S) b = true then R (18 * b + (14 + i)) else R (18 * b + (10 + i)) := by
  have h5 := hG.m.2
  unfold qChance
  rw [lk_to hG hR hL hb, hR.r (by omega) (by omega), hR.r (by omega) (by omega), hR.r (by omega) (by omega)]
  by_cases c : R (18 * b + 5) < 0
  · rw [if_pos c, decide_eq_true c, if_neg (by simp)]
  · rw [if_neg c, decide_eq_false c, Bool.not_false, Bool.true_and]
    by_cases c2 : S (90 + wN (R (18 * b + 5))) = zI 3
    · rw [if_pos c2, if_pos (decide_eq_true c2)]
    · rw [if_neg c2, if_neg (by simp [c2])]
theorem pee_n (hG : qG R) (hR : qRw R S) (hL : qPl S) (hb : b < wN (R 116)) (hi : i < 4) (h : hw S b = 1 ∨ hw S b = 2) : qChance S b i = R (18 * b + (10 + i)) := by
  have h5 := hG.m.2
  rw [lk_chance hG hR hL hb hi, lk_to hG hR hL hb]
  have k := pee_k hR hL hb h5 h
  rcases (hG.2.2 b hb).2.2.2.2.2.2.1 with e | ⟨k1, k2, k3, k4, k5, k6⟩
  · rw [e, decide_eq_true m4_neg, if_neg (by simp)]
  · exact absurd k k6
theorem lk_ch (hG : qG R) (hR : qRw R S) (hL : qPl S) (hb : b < wN (R 116)) (hi : i < 4) (ho : hw S b ≤ 2) : cCh R (qDg S) b i = qShows S b i := by
  have h5 := hG.m.2
  unfold cCh qShows
  rw [dg_v hR hb h5, if_pos ho]
  simp only [hw_eq hL (show b < 5 by omega) (show 1 < 100 by omega), hw_eq hL (show b < 5 by omega) (show 2 < 100 by omega)]
  by_cases c1 : hw S b = 1
  · rw [if_pos c1, pee_n hG hR hL hb hi (Or.inl c1)]
    by_cases c2 : i = 0
    · rw [if_pos c2, if_neg (by omega)]
    · rw [if_neg c2, if_pos (by omega)]
  · rw [if_neg c1]
    by_cases c2 : hw S b = 2
    · rw [if_pos c2, pee_n hG hR hL hb hi (Or.inr c2)]
      by_cases c3 : i = 0
      · rw [if_pos c3, if_pos (by omega)]
      · rw [if_neg c3, if_neg (by omega)]
    · rw [if_neg c2, if_neg (show ¬ (hw S b = 1 ∧ 0 < i ∨ hw S b = 2 ∧ i = 0) by omega), lk_chance hG hR hL hb hi]
theorem lk_ms (hG : qG R) (hR : qRw R S) (hL : qPl S) : cMs R (qDg S) = qMass S := by
  have h5 := hG.m.2
  unfold cMs qMass
  rw [hR.m]
  refine fo_congr _ _ _ (fun b _ hb v => ?_)
  have hb' : b < wN (R 116) := by omega
  unfold c_ms q_mass cTg
  rw [lk_op hR hL hb' h5, dg_v hR hb' h5]
  have e0 : (S (90 + b) = 0) = (hw S b = 0) := hw_eq hL (show b < 5 by omega) (k := 0) (by omega)
  simp only [e0, hw_eq hL (show b < 5 by omega) (show 1 < 100 by omega), hw_eq hL (show b < 5 by omega) (show 2 < 100 by omega)]
  congr 1
  by_cases c : 3 ≤ hw S b
  · rw [decide_eq_true c, if_pos rfl, if_neg (by omega), if_neg (by omega), if_neg (by omega)]
    rfl
  · rw [decide_eq_false c, if_neg (by simp), if_pos (show hw S b ≤ 2 by omega)]
    rcases (by omega : hw S b = 0 ∨ hw S b = 1 ∨ hw S b = 2) with e | e | e
    · rw [e]; rfl
    · rw [pee_n hG hR hL hb' (by omega) (Or.inl e), e]; rfl
    · rw [pee_n hG hR hL hb' (by omega) (Or.inr e), e]; rfl
theorem lk_in (hR : qRw R S) : dIn R (qDg S) := ⟨qDg_ok, fun c hc => by
  unfold qDg
  rw [hR.m, if_pos hc]⟩
theorem hw_up {x : Nat} (hx : x ≤ 6) : hw (upd S (90 + b) (zI x)) b = x := by
  unfold hw
  rw [upd_s, wN_zI (by omega)]
theorem hw_uo {x : Int32} {c : Nat} (hc : c ≠ b) : hw (upd S (90 + b) x) c = hw S c := by
  unfold hw
  rw [upd_o (by omega)]
theorem dg_uo {x : Int32} {c : Nat} (hR : qRw R S) (hb : b < 5) (h5 : wN (R 116) ≤ 5) (hc : c ≠ b) : qDg (upd S (90 + b) x) c = qDg S c := by
  by_cases c5 : c < wN (R 116)
  · rw [dg_v (hR.up hb) c5 h5, dg_v hR c5 h5, hw_uo hc]
  · rw [(lk_in (hR.up hb)).2 c (by omega), (lk_in hR).2 c (by omega)]
theorem lk_ao (hR : qRw R S) (hL : qPl S) (hb : b < wN (R 116)) (h5 : wN (R 116) ≤ 5) (hi : i < 4) (ho : hw S b ≤ 2) : cAo R (qDg S) b i = qDg (upd S (90 + b) (zI (3 + i))) := by
  funext c
  unfold cAo
  by_cases e : c = b
  · subst e
    rw [dset_s, dg_v (hR.up (by omega)) hb h5, hw_up (by omega), if_neg (show ¬ 3 + i ≤ 2 by omega)]
    by_cases c1 : i = 0 ∧ R (18 * c) = zI 4
    · rw [if_pos c1, if_pos ⟨by omega, c1.2⟩, dg_v hR hb h5, if_pos ho]
      have : hw S c = 0 := by
        rcases (by omega : hw S c = 0 ∨ hw S c = 1 ∨ hw S c = 2) with q | q
        · exact q
        · have := pee_k hR hL hb h5 q
          rw [c1.2, zI_eq (by omega) (by omega)] at this
          omega
      rw [this]
      rfl
    · rw [if_neg c1, if_neg (fun q => c1 ⟨by omega, q.2⟩)]
  · rw [dset_o e, dg_uo hR (by omega) h5 e]
theorem lk_ap {g : Bool} (hR : qRw R S) (hb : b < wN (R 116)) (h5 : wN (R 116) ≤ 5) (ho : hw S b = 0) : cAp (qDg S) b g = qDg (upd S (90 + b) (zI (if g = true then 1 else 2))) := by
  funext c
  unfold cAp
  by_cases e : c = b
  · subst e
    rw [dset_s, dg_v (hR.up (by omega)) hb h5, hw_up (by split <;> omega), dg_v hR hb h5, ho]
    cases g <;> simp
  · rw [dset_o e, dg_uo hR (by omega) h5 e]
theorem lk_can (hR : qRw R S) (hL : qPl S) (h5 : wN (R 116) ≤ 5) : cCan R (qDg S) = true := by
  unfold cCan
  rw [fall_iff]
  intro b _ hb
  have hb' : b < wN (R 116) := by omega
  unfold c_can
  rw [lk_op hR hL hb' h5, dg_v hR hb' h5]
  by_cases c : 3 ≤ hw S b
  · rw [decide_eq_true c, Bool.true_or, Bool.or_true]
  · rw [if_pos (by omega)]
    by_cases c0 : hw S b = 0
    · rw [decide_eq_true c0, Bool.true_or]
    · rw [decide_eq_true (pee_k hR hL hb' h5 (by omega)), Bool.or_true, Bool.or_true]
end LK
