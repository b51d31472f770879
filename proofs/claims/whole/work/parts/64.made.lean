/-! a box made: what the array holds then -/
section MK
variable {S : Nat → Int32} {D : pD}
theorem fo_wc {a : Nat} {W C : Nat → Int32} : ∀ (k : Nat) (f : Nat → Int32), k ≤ 4 → fo (s_wc a W C) 0 k f = updr (updr f (a + 6) k W) (a + 10) k C
  | 0, f, _ => by
    funext j
    unfold updr
    rw [if_neg (by omega), if_neg (by omega)]
    rfl
  | k + 1, f, hk => by
    rw [fo_succ, fo_wc k f (by omega), Nat.zero_add]
    funext j
    unfold s_wc updr
    by_cases e : j = a + 10 + k
    · subst e
      rw [upd_s, if_pos (by omega), Nat.add_sub_cancel_left]
    · rw [upd_o e]
      by_cases e2 : j = a + 6 + k
      · subst e2
        rw [upd_s, if_neg (by omega), if_pos (by omega), Nat.add_sub_cancel_left]
      · rw [upd_o e2]
        by_cases e3 : a + 10 ≤ j ∧ j < a + 10 + k
        · rw [if_pos e3, if_pos (by omega)]
        · rw [if_neg e3]
          by_cases e4 : a + 6 ≤ j ∧ j < a + 6 + k
          · rw [if_pos e4, if_neg (by omega), if_pos (by omega)]
          · rw [if_neg e4, if_neg (by omega), if_neg (by omega)]
/-- numbers as they are read -/
def pDok (D : pD) : Prop := (∃ a, D.1 = zI a ∧ a ≤ 999) ∧ (∃ a, D.2.1 = zI a ∧ a ≤ 999) ∧ D.2.2.1 < 120 ∧ (∀ j, j < D.2.2.1 → (∃ a, D.2.2.2.1 j = zI a ∧ a ≤ 999) ∧ ∃ a, D.2.2.2.2.1 j = zI a ∧ a ≤ 999) ∧ (sKd D.2.2.2.2.2.1 ≠ 0 → sKd D.2.2.2.2.2.1 ≠ 2 → ∃ a, D.2.2.2.2.2.2.1 = zI a ∧ a ≤ 999) ∧ D.2.2.2.2.2.2.2.1 < 120 ∧ ∀ j, j < D.2.2.2.2.2.2.2.1 → ∃ a, D.2.2.2.2.2.2.2.2 j = zI a ∧ a ≤ 999
/-- what a box that is as told keeps to -/
def sWf (S : Nat → Int32) (D : pD) : Prop := wN (S 116) < 5 ∧ 1 ≤ D.2.2.1 ∧ D.2.2.1 ≤ 4 ∧ (sKd D.2.2.2.2.2.1 = 4 → D.2.2.2.2.2.2.1 = zI (wN D.2.2.2.2.2.2.1) ∧ wN D.2.2.2.2.2.2.1 < wN (S 116) ∧ D.2.2.2.2.2.2.2.1 = wN (S (18 * wN D.2.2.2.2.2.2.1 + 3)) ∧ D.2.2.2.2.2.2.2.1 ≤ 4 ∧ S (18 * wN D.2.2.2.2.2.2.1) ≠ zI 1 ∧ S (18 * wN D.2.2.2.2.2.2.1 + 5) < 0)
theorem sOk_wf (hG : qG S) (hD : pDok D) (ok : sOk S D = true) : sWf S D := by
  obtain ⟨hm, hm5⟩ := hG.m
  unfold sOk at ok
  simp only [Bool.and_eq_true, Bool.not_eq_true', decide_eq_false_iff_not, decide_eq_true_eq, Bool.or_eq_true] at ok
  obtain ⟨o1, o2, o3, o4, o5, o6⟩ := ok
  have hb5 : wN (S 116) < 5 := by
    rcases Nat.lt_or_ge (wN (S 116)) 5 with h | h
    · exact h
    · exact absurd (by rw [hm, show wN (S 116) = 5 by omega]) o1
  refine ⟨hb5, (sStp_4 o3).1, (sStp_4 o3).2, fun e => ?_⟩
  rcases o5 with o5 | o5
  · exact absurd e o5
  · unfold sOth at o5
    simp only [Bool.and_eq_true, Bool.not_eq_true', decide_eq_false_iff_not, decide_eq_true_eq] at o5
    obtain ⟨p1, p2⟩ := qIs_get o5.1
    have hn := hG.n p2
    have q := o5.2.2.2.1
    have hon : D.2.2.2.2.2.2.2.1 = wN (S (18 * wN D.2.2.2.2.2.2.1 + 3)) := by
      have q' := congrArg wN q
      have hbig := hD.2.2.2.2.2.1
      rw [wN_zI (by omega)] at q'
      exact q'
    exact ⟨p1, p2, hon, by omega, o5.2.1, o5.2.2.1⟩
end MK
section MK2
variable {S : Nat → Int32} {D : pD}
theorem mk_hi (hw : sWf S D) {j : Nat} (hj : 90 ≤ j) : sMk S D j = if j = 116 then zI (wN (S 116) + 1) else if j = 115 ∨ j < 95 then zI 0 else S j := by
  obtain ⟨h5, h1, h4, hk⟩ := hw
  unfold sMk
  rw [fo_updr]
  have e2 : sMk2 S (wN (S 116)) D j = S j := by
    have e1 : sMk1 S (wN (S 116)) D j = S j := by
      unfold sMk1
      rw [fo_wc _ _ h4]
      unfold updr
      rw [if_neg (by omega), if_neg (by omega), upd_o (by omega), upd_o (by omega), upd_o (by omega), upd_o (by omega), upd_o (by omega), upd_o (by omega), fo_updr]
      exact if_neg (by omega)
    unfold sMk2
    by_cases c : sKd D.2.2.2.2.2.1 = 4
    · have := hk c
      rw [if_pos c, fo_updr]
      unfold updr
      rw [if_neg (by omega), upd_o (by omega)]
      exact e1
    · rw [if_neg c]
      exact e1
  by_cases c1 : j = 115
  · subst c1
    rw [upd_s, if_neg (by omega), if_pos (by omega)]
  · rw [upd_o c1]
    unfold updr
    by_cases c2 : j < 95
    · rw [if_pos (by omega), if_neg (by omega), if_pos (by omega)]
    · rw [if_neg (by omega)]
      by_cases c3 : j = 116
      · subst c3
        rw [upd_s, if_pos rfl]
      · rw [upd_o c3, e2, if_neg c3, if_neg (by omega)]
theorem mk_lo (hw : sWf S D) {j : Nat} (hj : j < 90) : sMk S D j = sMk2 S (wN (S 116)) D j := by
  unfold sMk
  rw [upd_o (by omega), fo_updr]
  unfold updr
  rw [if_neg (by omega), upd_o (by omega)]
theorem mk1_old (hw : sWf S D) {j : Nat} (hj : j < 18 * wN (S 116) ∨ 18 * wN (S 116) + 18 ≤ j) : sMk1 S (wN (S 116)) D j = S j := by
  obtain ⟨h5, h1, h4, hk⟩ := hw
  unfold sMk1
  rw [fo_wc _ _ h4]
  unfold updr
  rw [if_neg (by omega), if_neg (by omega), upd_o (by omega), upd_o (by omega), upd_o (by omega), upd_o (by omega), upd_o (by omega), upd_o (by omega), fo_updr]
  exact if_neg (by omega)
theorem mk2_row (hw : sWf S D) {t : Nat} (ht : t < 18) : sMk2 S (wN (S 116)) D (18 * wN (S 116) + t) = sMk1 S (wN (S 116)) D (18 * wN (S 116) + t) := by
  unfold sMk2
  by_cases c : sKd D.2.2.2.2.2.1 = 4
  · have := hw.2.2.2 c
    rw [if_pos c, fo_updr]
    unfold updr
    rw [if_neg (by omega), upd_o (by omega)]
  · rw [if_neg c]
/-- the new row -/
theorem mk_row (hw : sWf S D) : sMk S D (18 * wN (S 116)) = zI (sKd D.2.2.2.2.2.1) ∧ sMk S D (18 * wN (S 116) + 1) = D.1 ∧ sMk S D (18 * wN (S 116) + 2) = D.2.1 ∧ sMk S D (18 * wN (S 116) + 3) = zI D.2.2.1 ∧ sMk S D (18 * wN (S 116) + 4) = (if sKd D.2.2.2.2.2.1 = 0 ∨ sKd D.2.2.2.2.2.1 = 2 then -4 else D.2.2.2.2.2.2.1) ∧ sMk S D (18 * wN (S 116) + 5) = -4 ∧ (∀ i, i < D.2.2.1 → sMk S D (18 * wN (S 116) + (6 + i)) = D.2.2.2.1 i ∧ sMk S D (18 * wN (S 116) + (10 + i)) = D.2.2.2.2.1 i) := by
  have h5 := hw.1
  have h4 := hw.2.2.1
  have key : ∀ t, t < 18 → sMk S D (18 * wN (S 116) + t) = sMk1 S (wN (S 116)) D (18 * wN (S 116) + t) := fun t ht => by
    rw [mk_lo hw (by omega), mk2_row hw ht]
  have k0 := key 0 (by omega)
  rw [Nat.add_zero] at k0
  rw [k0, key 1 (by omega), key 2 (by omega), key 3 (by omega), key 4 (by omega), key 5 (by omega)]
  refine ⟨?_, ?_, ?_, ?_, ?_, ?_, fun i hi => ?_⟩
  · unfold sMk1
    rw [fo_wc _ _ h4]
    unfold updr
    rw [if_neg (by omega), if_neg (by omega), upd_o (by omega), upd_o (by omega), upd_o (by omega), upd_o (by omega), upd_o (by omega), upd_s]
  · unfold sMk1
    rw [fo_wc _ _ h4]
    unfold updr
    rw [if_neg (by omega), if_neg (by omega), upd_o (by omega), upd_o (by omega), upd_o (by omega), upd_o (by omega), upd_s]
  · unfold sMk1
    rw [fo_wc _ _ h4]
    unfold updr
    rw [if_neg (by omega), if_neg (by omega), upd_o (by omega), upd_o (by omega), upd_o (by omega), upd_s]
  · unfold sMk1
    rw [fo_wc _ _ h4]
    unfold updr
    rw [if_neg (by omega), if_neg (by omega), upd_o (by omega), upd_o (by omega), upd_s]
  · unfold sMk1
    rw [fo_wc _ _ h4]
    unfold updr
    rw [if_neg (by omega), if_neg (by omega), upd_o (by omega), upd_s]
  · unfold sMk1
    rw [fo_wc _ _ h4]
    unfold updr
    rw [if_neg (by omega), if_neg (by omega), upd_s]
  · rw [key (6 + i) (by omega), key (10 + i) (by omega)]
    unfold sMk1
    rw [fo_wc _ _ h4]
    unfold updr
    rw [if_neg (by omega), if_pos (by omega), if_pos (by omega)]
    rw [show 18 * wN (S 116) + (6 + i) - (18 * wN (S 116) + 6) = i by omega, show 18 * wN (S 116) + (10 + i) - (18 * wN (S 116) + 10) = i by omega]
    exact ⟨rfl, rfl⟩
/-- the rows ahead of it -/
theorem mk_old (hw : sWf S D) {c t : Nat} (hc : c < wN (S 116)) (ht : t < 18) : sMk S D (18 * c + t) = if sKd D.2.2.2.2.2.1 = 4 ∧ c = wN D.2.2.2.2.2.2.1 then (if t = 5 then zI (wN (S 116)) else if 14 ≤ t ∧ t < 14 + D.2.2.2.2.2.2.2.1 then D.2.2.2.2.2.2.2.2 (t - 14) else S (18 * c + t)) else S (18 * c + t) := by
  have h5 := hw.1
  have h1 := mk1_old hw (j := 18 * c + t) (by omega)
  rw [mk_lo hw (by omega)]
  unfold sMk2
  by_cases k : sKd D.2.2.2.2.2.1 = 4
  · obtain ⟨p1, p2, p3, p4, -⟩ := hw.2.2.2 k
    rw [if_pos k, fo_updr]
    unfold updr
    by_cases e : c = wN D.2.2.2.2.2.2.1
    · subst e
      rw [if_pos (show sKd D.2.2.2.2.2.1 = 4 ∧ _ from ⟨k, rfl⟩)]
      by_cases e2 : 14 ≤ t ∧ t < 14 + D.2.2.2.2.2.2.2.1
      · rw [if_pos (by omega), if_neg (by omega), if_pos e2, show 18 * wN D.2.2.2.2.2.2.1 + t - (18 * wN D.2.2.2.2.2.2.1 + 14) = t - 14 by omega]
      · rw [if_neg (by omega)]
        by_cases e3 : t = 5
        · subst e3
          rw [upd_s, if_pos rfl]
        · rw [upd_o (by omega), h1, if_neg e3, if_neg e2]
    · rw [if_neg (by omega), upd_o (by omega), h1, if_neg (fun q => e q.2)]
  · rw [if_neg k, h1, if_neg (fun q => k q.1)]
end MK2
