/-! ranks, kept -/
/-- R worths from 0 on, rising -/
def wOk (T : mU × (Nat → Option Nat)) (R : Nat) : Prop := T.1.2.2.1 5 = zI R ∧ 1 ≤ R ∧ T.1.1 4 0 = 0 ∧ ∀ i j, i < j → j < R → T.1.1 4 i < T.1.1 4 j
def wHas (T : mU × (Nat → Option Nat)) (R : Nat) (x : Int32) : Prop := ∃ r, r < R ∧ T.1.1 4 r = x
section WO
variable {T : mU × (Nat → Option Nat)} {R : Nat} {x : Int32}
theorem wOk.le {i j : Nat} (hW : wOk T R) (hij : i ≤ j) (hj : j < R) : T.1.1 4 i ≤ T.1.1 4 j := by
  by_cases e : i = j
  · rw [e]
    exact Int32.le_refl _
  · exact Int32.le_of_lt (hW.2.2.2 i j (by omega) hj)
/-- the rank of a worth that is there -/
theorem wOk.rk (hW : wOk T R) (hx : wHas T R x) : rkO (T.1.1 4) x R 0 < R ∧ T.1.1 4 (rkO (T.1.1 4) x R 0) = x := by
  obtain ⟨r, hr, he⟩ := hx
  have hle := rkO_le (W := T.1.1 4) (x := x) R 0
  have h1 := rkO_lt (W := T.1.1 4) (x := x) R 0
  have h2 := rkO_ge (W := T.1.1 4) (x := x) R 0
  generalize rkO (T.1.1 4) x R 0 = w at *
  have hwr : w ≤ r := by
    by_cases c : w ≤ r
    · exact c
    · have := h1 r (by omega) (by omega)
      rw [he] at this
      exact absurd this Int32.lt_irrefl
  have h3 := h2 (by omega)
  by_cases c : w = r
  · rw [c]
    exact ⟨hr, he⟩
  · have := hW.2.2.2 w r (by omega) hr
    rw [he] at this
    exact absurd this h3
theorem tAw_2 : (tAw T R x).2 = T.2 := by
  unfold tAw
  split <;> rfl
theorem tAw_o {j : Nat} (h : j ≠ 4) : (tAw T R x).1.1 j = T.1.1 j := by
  unfold tAw
  split
  · rfl
  · show (mI (mS T.1 4 _) 5 _).1 j = _
    rw [mI_1, mS_o h]
theorem tAw_i {j : Nat} (h : j ≠ 5) : (tAw T R x).1.2.2.1 j = T.1.2.2.1 j := by
  unfold tAw
  split
  · rfl
  · show (mI (mS T.1 4 _) 5 _).2.2.1 j = _
    rw [mI_o h, mS_2]
theorem tAw_l : (tAw T R x).1.2.1 = T.1.2.1 := by
  unfold tAw
  split <;> rfl
/-- one worth more: the ranks stay in order, and no worth is lost -/
theorem tAw_ok (hW : wOk T R) (hR : R < 21) (hx : 0 ≤ x) : ∃ R', R ≤ R' ∧ R' ≤ R + 1 ∧ wOk (tAw T R x) R' ∧ wHas (tAw T R x) R' x ∧ ∀ y, wHas T R y → wHas (tAw T R x) R' y := by
  have hle := rkO_le (W := T.1.1 4) (x := x) R 0
  have h1 := rkO_lt (W := T.1.1 4) (x := x) R 0
  have h2 := rkO_ge (W := T.1.1 4) (x := x) R 0
  unfold tAw
  generalize rkO (T.1.1 4) x R 0 = w at *
  by_cases c : w < R ∧ T.1.1 4 w = x
  · rw [if_pos (Or.inl c)]
    exact ⟨R, Nat.le_refl _, by omega, hW, ⟨w, c.1, c.2⟩, fun y hy => hy⟩
  · rw [if_neg (by
      intro h
      rcases h with h | h
      · exact c h
      · omega)]
    obtain ⟨hr, hr1, h0, hs⟩ := hW
    have hw0 : 0 < w := by
      by_cases e : w = 0
      · subst e
        have h3 := h2 (by omega)
        rw [h0] at h3
        refine absurd ⟨by omega, ?_⟩ c
        rw [h0]
        exact Int32.le_antisymm hx (Int32.not_lt.mp h3)
      · omega
    have hgt : ∀ j, w ≤ j → j < R → x < T.1.1 4 j := by
      intro j hj hjR
      have h3 := h2 (by omega)
      have h4 : x < T.1.1 4 w := Int32.lt_of_le_of_ne (Int32.not_lt.mp h3) (fun e => c ⟨by omega, e.symm⟩)
      by_cases e : j = w
      · rw [e]
        exact h4
      · exact Int32.lt_trans h4 (hs w j (by omega) hjR)
    have hv : ∀ j, (mI (mS T.1 4 (upd (shW (T.1.1 4) w (R - w)) w x)) 5 (zI (R + 1))).1 4 j = if j = w then x else if w < j ∧ j ≤ w + (R - w) then T.1.1 4 (j - 1) else T.1.1 4 j := by
      intro j
      rw [mI_1, mS_s]
      rfl
    refine ⟨R + 1, by omega, Nat.le_refl _, ⟨mI_s, by omega, ?_, fun i j hij hj => ?_⟩, ⟨w, by omega, ?_⟩, fun y hy => ?_⟩
    · show (mI (mS T.1 4 (upd (shW (T.1.1 4) w (R - w)) w x)) 5 (zI (R + 1))).1 4 0 = 0
      rw [hv, if_neg (by omega), if_neg (by omega), h0]
    · show (mI (mS T.1 4 (upd (shW (T.1.1 4) w (R - w)) w x)) 5 (zI (R + 1))).1 4 i < (mI (mS T.1 4 (upd (shW (T.1.1 4) w (R - w)) w x)) 5 (zI (R + 1))).1 4 j
      rw [hv, hv]
      by_cases a1 : i < w
      · rw [if_neg (show ¬ i = w by omega), if_neg (show ¬ (w < i ∧ i ≤ w + (R - w)) by omega)]
        by_cases a2 : j = w
        · rw [if_pos a2]
          exact h1 i (by omega) a1
        · rw [if_neg a2]
          by_cases a3 : w < j
          · rw [if_pos (by omega)]
            by_cases a4 : i = j - 1
            · omega
            · exact hs i (j - 1) (by omega) (by omega)
          · rw [if_neg (by omega)]
            exact hs i j hij (by omega)
      · by_cases a2 : i = w
        · rw [if_pos a2, if_neg (show ¬ j = w by omega), if_pos (by omega)]
          exact hgt (j - 1) (by omega) (by omega)
        · rw [if_neg a2, if_pos (show w < i ∧ i ≤ w + (R - w) by omega), if_neg (show ¬ j = w by omega), if_pos (show w < j ∧ j ≤ w + (R - w) by omega)]
          exact hs (i - 1) (j - 1) (by omega) (by omega)
    · show (mI (mS T.1 4 (upd (shW (T.1.1 4) w (R - w)) w x)) 5 (zI (R + 1))).1 4 w = x
      rw [hv, if_pos rfl]
    · obtain ⟨r, hr2, he⟩ := hy
      by_cases a1 : r < w
      · refine ⟨r, by omega, ?_⟩
        show (mI (mS T.1 4 (upd (shW (T.1.1 4) w (R - w)) w x)) 5 (zI (R + 1))).1 4 r = y
        rw [hv, if_neg (by omega), if_neg (by omega), he]
      · refine ⟨r + 1, by omega, ?_⟩
        show (mI (mS T.1 4 (upd (shW (T.1.1 4) w (R - w)) w x)) 5 (zI (R + 1))).1 4 (r + 1) = y
        rw [hv, if_neg (by omega), if_pos (by omega), Nat.add_sub_cancel, he]
end WO
