/-! boxes: objects of six classes -/
def bF (b : Nat × Nat × Nat × Nat) (id : Int32) (f : Nat → Int32) : List Value := match b.1 with
  | 1 => [.int id, .int (f 1), .int (f 2), .ref b.2.1, .ref b.2.2.1, .int (f 4)]
  | 3 => [.int id, .int (f 1), .int (f 2), .ref b.2.1, .ref b.2.2.1, .int (f 4)]
  | 4 => [.int id, .int (f 1), .int (f 2), .ref b.2.1, .ref b.2.2.1, .int (f 4), .ref b.2.2.2]
  | 5 => [.int id, .int (f 1), .int (f 2), .ref b.2.1, .ref b.2.2.1, .int (f 4)]
  | _ => [.int id, .int (f 1), .int (f 2), .ref b.2.1, .ref b.2.2.1]
/-- at a stands a box with number id, row f (kind, price, hours, steps, more, -, worths, chances) and, if it tells of another, on other chances g -/
def isB (H : am_H) (a : Nat) (b : Nat × Nat × Nat × Nat) (id : Int32) (f : Nat → Int32) (on : Nat) (g : Nat → Int32) : Prop :=
  (b.1 ≤ 5 ∧ f 0 = zI b.1) ∧ (f 3 = zI (wN (f 3)) ∧ 1 ≤ wN (f 3) ∧ wN (f 3) ≤ 4) ∧ (b.1 = 0 ∨ b.1 = 2 → f 4 = -4) ∧ H a = some (.inr (6 + b.1, bF b id f)) ∧
  (∃ w : Nat → Int32, H b.2.1 = some (.inl (.int, wN (f 3), .inl w)) ∧ ∀ i, i < wN (f 3) → w i = f (6 + i)) ∧
  (∃ c : Nat → Int32, H b.2.2.1 = some (.inl (.int, wN (f 3), .inl c)) ∧ ∀ i, i < wN (f 3) → c i = f (10 + i)) ∧
  (b.1 = 4 → on ≤ 4 ∧ ∃ e : Nat → Int32, H b.2.2.2 = some (.inl (.int, on, .inl e)) ∧ ∀ i, i < on → e i = g i)
section BX
variable {X : am_X} {rec : am_O} {H : am_H} {a d t pc nx tg on : Nat} {b : Nat × Nat × Nat × Nat} {id : Int32} {f g : Nat → Int32} {z : Nat × Nat} {lv : am_L} {rest : List Value}
theorem isB.n (hB : isB H a b id f on g) : f 3 = zI (wN (f 3)) ∧ 1 ≤ wN (f 3) ∧ wN (f 3) ≤ 4 := hB.2.1
theorem isB.at (hB : isB H a b id f on g) : H a = some (.inr (6 + b.1, bF b id f)) := hB.2.2.2.1
theorem isB.ci (hB : isB H a b id f on g) : am_ci1 ((H, z).1 a) = some (6 + b.1) := by
  show am_ci1 (H a) = _
  rw [hB.at]
  rfl
theorem isB.w {x : Option (Nat × (Nat → Int32))} {i : Nat} (hB : isB H a b id f on g) (hi : i < wN (f 3)) : am_ail (H b.2.1) x (zI i) = some (f (6 + i)) := by
  obtain ⟨w, h1, h2⟩ := hB.2.2.2.2.1
  have := hB.n
  rw [h1, ail_r hi (by omega), h2 i hi]
theorem isB.c {x : Option (Nat × (Nat → Int32))} {i : Nat} (hB : isB H a b id f on g) (hi : i < wN (f 3)) : am_ail (H b.2.2.1) x (zI i) = some (f (10 + i)) := by
  obtain ⟨w, h1, h2⟩ := hB.2.2.2.2.2.1
  have := hB.n
  rw [h1, ail_r hi (by omega), h2 i hi]
theorem isB.wl {x : Option (Nat × (Nat → Int32))} (hB : isB H a b id f on g) : am_aln (H b.2.1) x = some (wN (f 3)) := by
  obtain ⟨w, h1, h2⟩ := hB.2.2.2.2.1
  rw [h1]
  rfl
theorem isB.o (hB : isB H a b id f on g) (h4 : f 0 = zI 4) : on ≤ 4 ∧ ∃ e : Nat → Int32, H b.2.2.2 = some (.inl (.int, on, .inl e)) ∧ ∀ i, i < on → e i = g i := hB.2.2.2.2.2.2 (by
  have h5 := hB.1.1
  have h := hB.1.2
  rw [h4, zI_eq (by omega) (by omega)] at h
  exact h.symm)
theorem isB.k (hB : isB H a b id f on g) : b.1 = 0 ∨ b.1 = 1 ∨ b.1 = 2 ∨ b.1 = 3 ∨ b.1 = 4 ∨ b.1 = 5 := by
  have := hB.1.1
  omega
theorem isB.fr {H' : am_H} (hB : isB H a b id f on g) (h1 : H' a = H a) (h2 : H' b.2.1 = H b.2.1) (h3 : H' b.2.2.1 = H b.2.2.1) (h4 : b.1 = 4 → H' b.2.2.2 = H b.2.2.2) : isB H' a b id f on g := by
  unfold isB
  rw [h1, h2, h3]
  exact ⟨hB.1, hB.2.1, hB.2.2.1, hB.2.2.2.1, hB.2.2.2.2.1, hB.2.2.2.2.2.1, fun e => by rw [h4 e]; exact hB.2.2.2.2.2.2 e⟩
theorem bf_0_104 (hB : isB H a b id f on g) : am_gf (H a) (am_fk 0 104) = some (.int (f 1)) := by
  rw [hB.at, gf_r]
  obtain ⟨k, wa, ca, oa⟩ := b
  rcases hB.k with h | h | h | h | h | h <;> (dsimp only at h; subst h)
  · rw [show 6 + (0, wa, ca, oa).1 = 6 from rfl, fk_0_104_6]
    rfl
  · rw [show 6 + (1, wa, ca, oa).1 = 7 from rfl, fk_0_104_7]
    rfl
  · rw [show 6 + (2, wa, ca, oa).1 = 8 from rfl, fk_0_104_8]
    rfl
  · rw [show 6 + (3, wa, ca, oa).1 = 9 from rfl, fk_0_104_9]
    rfl
  · rw [show 6 + (4, wa, ca, oa).1 = 10 from rfl, fk_0_104_10]
    rfl
  · rw [show 6 + (5, wa, ca, oa).1 = 11 from rfl, fk_0_104_11]
    rfl
theorem bf_0_107 (hB : isB H a b id f on g) : am_gf (H a) (am_fk 0 107) = some (.int (f 2)) := by
  rw [hB.at, gf_r]
  obtain ⟨k, wa, ca, oa⟩ := b
  rcases hB.k with h | h | h | h | h | h <;> (dsimp only at h; subst h)
  · rw [show 6 + (0, wa, ca, oa).1 = 6 from rfl, fk_0_107_6]
    rfl
  · rw [show 6 + (1, wa, ca, oa).1 = 7 from rfl, fk_0_107_7]
    rfl
  · rw [show 6 + (2, wa, ca, oa).1 = 8 from rfl, fk_0_107_8]
    rfl
  · rw [show 6 + (3, wa, ca, oa).1 = 9 from rfl, fk_0_107_9]
    rfl
  · rw [show 6 + (4, wa, ca, oa).1 = 10 from rfl, fk_0_107_10]
    rfl
  · rw [show 6 + (5, wa, ca, oa).1 = 11 from rfl, fk_0_107_11]
    rfl
theorem bf_0_123 (hB : isB H a b id f on g) : am_gf (H a) (am_fk 0 123) = some (.ref b.2.1) := by
  rw [hB.at, gf_r]
  obtain ⟨k, wa, ca, oa⟩ := b
  rcases hB.k with h | h | h | h | h | h <;> (dsimp only at h; subst h)
  · rw [show 6 + (0, wa, ca, oa).1 = 6 from rfl, fk_0_123_6]
    rfl
  · rw [show 6 + (1, wa, ca, oa).1 = 7 from rfl, fk_0_123_7]
    rfl
  · rw [show 6 + (2, wa, ca, oa).1 = 8 from rfl, fk_0_123_8]
    rfl
  · rw [show 6 + (3, wa, ca, oa).1 = 9 from rfl, fk_0_123_9]
    rfl
  · rw [show 6 + (4, wa, ca, oa).1 = 10 from rfl, fk_0_123_10]
    rfl
  · rw [show 6 + (5, wa, ca, oa).1 = 11 from rfl, fk_0_123_11]
    rfl
theorem bf_0_126 (hB : isB H a b id f on g) : am_gf (H a) (am_fk 0 126) = some (.ref b.2.2.1) := by
  rw [hB.at, gf_r]
  obtain ⟨k, wa, ca, oa⟩ := b
  rcases hB.k with h | h | h | h | h | h <;> (dsimp only at h; subst h)
  · rw [show 6 + (0, wa, ca, oa).1 = 6 from rfl, fk_0_126_6]
    rfl
  · rw [show 6 + (1, wa, ca, oa).1 = 7 from rfl, fk_0_126_7]
    rfl
  · rw [show 6 + (2, wa, ca, oa).1 = 8 from rfl, fk_0_126_8]
    rfl
  · rw [show 6 + (3, wa, ca, oa).1 = 9 from rfl, fk_0_126_9]
    rfl
  · rw [show 6 + (4, wa, ca, oa).1 = 10 from rfl, fk_0_126_10]
    rfl
  · rw [show 6 + (5, wa, ca, oa).1 = 11 from rfl, fk_0_126_11]
    rfl
theorem bf_1_78 (hB : isB H a b id f on g) : am_gf (H a) (am_fk 1 78) = some (.ref b.2.1) := by
  rw [hB.at, gf_r]
  obtain ⟨k, wa, ca, oa⟩ := b
  rcases hB.k with h | h | h | h | h | h <;> (dsimp only at h; subst h)
  · rw [show 6 + (0, wa, ca, oa).1 = 6 from rfl, fk_1_78_6]
    rfl
  · rw [show 6 + (1, wa, ca, oa).1 = 7 from rfl, fk_1_78_7]
    rfl
  · rw [show 6 + (2, wa, ca, oa).1 = 8 from rfl, fk_1_78_8]
    rfl
  · rw [show 6 + (3, wa, ca, oa).1 = 9 from rfl, fk_1_78_9]
    rfl
  · rw [show 6 + (4, wa, ca, oa).1 = 10 from rfl, fk_1_78_10]
    rfl
  · rw [show 6 + (5, wa, ca, oa).1 = 11 from rfl, fk_1_78_11]
    rfl
theorem bf_1_106 (hB : isB H a b id f on g) : am_gf (H a) (am_fk 1 106) = some (.int (f 2)) := by
  rw [hB.at, gf_r]
  obtain ⟨k, wa, ca, oa⟩ := b
  rcases hB.k with h | h | h | h | h | h <;> (dsimp only at h; subst h)
  · rw [show 6 + (0, wa, ca, oa).1 = 6 from rfl, fk_1_106_6]
    rfl
  · rw [show 6 + (1, wa, ca, oa).1 = 7 from rfl, fk_1_106_7]
    rfl
  · rw [show 6 + (2, wa, ca, oa).1 = 8 from rfl, fk_1_106_8]
    rfl
  · rw [show 6 + (3, wa, ca, oa).1 = 9 from rfl, fk_1_106_9]
    rfl
  · rw [show 6 + (4, wa, ca, oa).1 = 10 from rfl, fk_1_106_10]
    rfl
  · rw [show 6 + (5, wa, ca, oa).1 = 11 from rfl, fk_1_106_11]
    rfl
theorem bf_1_122 (hB : isB H a b id f on g) : am_gf (H a) (am_fk 1 122) = some (.ref b.2.2.1) := by
  rw [hB.at, gf_r]
  obtain ⟨k, wa, ca, oa⟩ := b
  rcases hB.k with h | h | h | h | h | h <;> (dsimp only at h; subst h)
  · rw [show 6 + (0, wa, ca, oa).1 = 6 from rfl, fk_1_122_6]
    rfl
  · rw [show 6 + (1, wa, ca, oa).1 = 7 from rfl, fk_1_122_7]
    rfl
  · rw [show 6 + (2, wa, ca, oa).1 = 8 from rfl, fk_1_122_8]
    rfl
  · rw [show 6 + (3, wa, ca, oa).1 = 9 from rfl, fk_1_122_9]
    rfl
  · rw [show 6 + (4, wa, ca, oa).1 = 10 from rfl, fk_1_122_10]
    rfl
  · rw [show 6 + (5, wa, ca, oa).1 = 11 from rfl, fk_1_122_11]
    rfl
theorem bf_1_133 (hB : isB H a b id f on g) : am_gf (H a) (am_fk 1 133) = some (.int (f 1)) := by
  rw [hB.at, gf_r]
  obtain ⟨k, wa, ca, oa⟩ := b
  rcases hB.k with h | h | h | h | h | h <;> (dsimp only at h; subst h)
  · rw [show 6 + (0, wa, ca, oa).1 = 6 from rfl, fk_1_133_6]
    rfl
  · rw [show 6 + (1, wa, ca, oa).1 = 7 from rfl, fk_1_133_7]
    rfl
  · rw [show 6 + (2, wa, ca, oa).1 = 8 from rfl, fk_1_133_8]
    rfl
  · rw [show 6 + (3, wa, ca, oa).1 = 9 from rfl, fk_1_133_9]
    rfl
  · rw [show 6 + (4, wa, ca, oa).1 = 10 from rfl, fk_1_133_10]
    rfl
  · rw [show 6 + (5, wa, ca, oa).1 = 11 from rfl, fk_1_133_11]
    rfl
theorem bf_4_60 (hB : isB H a b id f on g) : am_gf (H a) (am_fk 4 60) = some (.int (f 1)) := by
  rw [hB.at, gf_r]
  obtain ⟨k, wa, ca, oa⟩ := b
  rcases hB.k with h | h | h | h | h | h <;> (dsimp only at h; subst h)
  · rw [show 6 + (0, wa, ca, oa).1 = 6 from rfl, fk_4_60_6]
    rfl
  · rw [show 6 + (1, wa, ca, oa).1 = 7 from rfl, fk_4_60_7]
    rfl
  · rw [show 6 + (2, wa, ca, oa).1 = 8 from rfl, fk_4_60_8]
    rfl
  · rw [show 6 + (3, wa, ca, oa).1 = 9 from rfl, fk_4_60_9]
    rfl
  · rw [show 6 + (4, wa, ca, oa).1 = 10 from rfl, fk_4_60_10]
    rfl
  · rw [show 6 + (5, wa, ca, oa).1 = 11 from rfl, fk_4_60_11]
    rfl
theorem bf_4_160 (hB : isB H a b id f on g) : am_gf (H a) (am_fk 4 160) = some (.ref b.2.1) := by
  rw [hB.at, gf_r]
  obtain ⟨k, wa, ca, oa⟩ := b
  rcases hB.k with h | h | h | h | h | h <;> (dsimp only at h; subst h)
  · rw [show 6 + (0, wa, ca, oa).1 = 6 from rfl, fk_4_160_6]
    rfl
  · rw [show 6 + (1, wa, ca, oa).1 = 7 from rfl, fk_4_160_7]
    rfl
  · rw [show 6 + (2, wa, ca, oa).1 = 8 from rfl, fk_4_160_8]
    rfl
  · rw [show 6 + (3, wa, ca, oa).1 = 9 from rfl, fk_4_160_9]
    rfl
  · rw [show 6 + (4, wa, ca, oa).1 = 10 from rfl, fk_4_160_10]
    rfl
  · rw [show 6 + (5, wa, ca, oa).1 = 11 from rfl, fk_4_160_11]
    rfl
theorem bf_5_106 (hB : isB H a b id f on g) : am_gf (H a) (am_fk 5 106) = some (.int (f 1)) := by
  rw [hB.at, gf_r]
  obtain ⟨k, wa, ca, oa⟩ := b
  rcases hB.k with h | h | h | h | h | h <;> (dsimp only at h; subst h)
  · rw [show 6 + (0, wa, ca, oa).1 = 6 from rfl, fk_5_106_6]
    rfl
  · rw [show 6 + (1, wa, ca, oa).1 = 7 from rfl, fk_5_106_7]
    rfl
  · rw [show 6 + (2, wa, ca, oa).1 = 8 from rfl, fk_5_106_8]
    rfl
  · rw [show 6 + (3, wa, ca, oa).1 = 9 from rfl, fk_5_106_9]
    rfl
  · rw [show 6 + (4, wa, ca, oa).1 = 10 from rfl, fk_5_106_10]
    rfl
  · rw [show 6 + (5, wa, ca, oa).1 = 11 from rfl, fk_5_106_11]
    rfl
theorem bf_6_9 (hB : isB H a b id f on g) : am_gf (H a) (am_fk 6 9) = some (.int id) := by
  rw [hB.at, gf_r]
  obtain ⟨k, wa, ca, oa⟩ := b
  rcases hB.k with h | h | h | h | h | h <;> (dsimp only at h; subst h)
  · rw [show 6 + (0, wa, ca, oa).1 = 6 from rfl, fk_6_9_6]
    rfl
  · rw [show 6 + (1, wa, ca, oa).1 = 7 from rfl, fk_6_9_7]
    rfl
  · rw [show 6 + (2, wa, ca, oa).1 = 8 from rfl, fk_6_9_8]
    rfl
  · rw [show 6 + (3, wa, ca, oa).1 = 9 from rfl, fk_6_9_9]
    rfl
  · rw [show 6 + (4, wa, ca, oa).1 = 10 from rfl, fk_6_9_10]
    rfl
  · rw [show 6 + (5, wa, ca, oa).1 = 11 from rfl, fk_6_9_11]
    rfl
theorem bf_6_15 (hB : isB H a b id f on g) : am_gf (H a) (am_fk 6 15) = some (.int (f 1)) := by
  rw [hB.at, gf_r]
  obtain ⟨k, wa, ca, oa⟩ := b
  rcases hB.k with h | h | h | h | h | h <;> (dsimp only at h; subst h)
  · rw [show 6 + (0, wa, ca, oa).1 = 6 from rfl, fk_6_15_6]
    rfl
  · rw [show 6 + (1, wa, ca, oa).1 = 7 from rfl, fk_6_15_7]
    rfl
  · rw [show 6 + (2, wa, ca, oa).1 = 8 from rfl, fk_6_15_8]
    rfl
  · rw [show 6 + (3, wa, ca, oa).1 = 9 from rfl, fk_6_15_9]
    rfl
  · rw [show 6 + (4, wa, ca, oa).1 = 10 from rfl, fk_6_15_10]
    rfl
  · rw [show 6 + (5, wa, ca, oa).1 = 11 from rfl, fk_6_15_11]
    rfl
theorem bf_6_18 (hB : isB H a b id f on g) : am_gf (H a) (am_fk 6 18) = some (.int (f 2)) := by
  rw [hB.at, gf_r]
  obtain ⟨k, wa, ca, oa⟩ := b
  rcases hB.k with h | h | h | h | h | h <;> (dsimp only at h; subst h)
  · rw [show 6 + (0, wa, ca, oa).1 = 6 from rfl, fk_6_18_6]
    rfl
  · rw [show 6 + (1, wa, ca, oa).1 = 7 from rfl, fk_6_18_7]
    rfl
  · rw [show 6 + (2, wa, ca, oa).1 = 8 from rfl, fk_6_18_8]
    rfl
  · rw [show 6 + (3, wa, ca, oa).1 = 9 from rfl, fk_6_18_9]
    rfl
  · rw [show 6 + (4, wa, ca, oa).1 = 10 from rfl, fk_6_18_10]
    rfl
  · rw [show 6 + (5, wa, ca, oa).1 = 11 from rfl, fk_6_18_11]
    rfl
theorem bf_6_21 (hB : isB H a b id f on g) : am_gf (H a) (am_fk 6 21) = some (.ref b.2.1) := by
  rw [hB.at, gf_r]
  obtain ⟨k, wa, ca, oa⟩ := b
  rcases hB.k with h | h | h | h | h | h <;> (dsimp only at h; subst h)
  · rw [show 6 + (0, wa, ca, oa).1 = 6 from rfl, fk_6_21_6]
    rfl
  · rw [show 6 + (1, wa, ca, oa).1 = 7 from rfl, fk_6_21_7]
    rfl
  · rw [show 6 + (2, wa, ca, oa).1 = 8 from rfl, fk_6_21_8]
    rfl
  · rw [show 6 + (3, wa, ca, oa).1 = 9 from rfl, fk_6_21_9]
    rfl
  · rw [show 6 + (4, wa, ca, oa).1 = 10 from rfl, fk_6_21_10]
    rfl
  · rw [show 6 + (5, wa, ca, oa).1 = 11 from rfl, fk_6_21_11]
    rfl
theorem bf_6_25 (hB : isB H a b id f on g) : am_gf (H a) (am_fk 6 25) = some (.ref b.2.2.1) := by
  rw [hB.at, gf_r]
  obtain ⟨k, wa, ca, oa⟩ := b
  rcases hB.k with h | h | h | h | h | h <;> (dsimp only at h; subst h)
  · rw [show 6 + (0, wa, ca, oa).1 = 6 from rfl, fk_6_25_6]
    rfl
  · rw [show 6 + (1, wa, ca, oa).1 = 7 from rfl, fk_6_25_7]
    rfl
  · rw [show 6 + (2, wa, ca, oa).1 = 8 from rfl, fk_6_25_8]
    rfl
  · rw [show 6 + (3, wa, ca, oa).1 = 9 from rfl, fk_6_25_9]
    rfl
  · rw [show 6 + (4, wa, ca, oa).1 = 10 from rfl, fk_6_25_10]
    rfl
  · rw [show 6 + (5, wa, ca, oa).1 = 11 from rfl, fk_6_25_11]
    rfl
theorem bf_7_13 (hB : isB H a b id f on g) : am_gf (H a) (am_fk 7 13) = some (.int id) := by
  rw [hB.at, gf_r]
  obtain ⟨k, wa, ca, oa⟩ := b
  rcases hB.k with h | h | h | h | h | h <;> (dsimp only at h; subst h)
  · rw [show 6 + (0, wa, ca, oa).1 = 6 from rfl, fk_7_13_6]
    rfl
  · rw [show 6 + (1, wa, ca, oa).1 = 7 from rfl, fk_7_13_7]
    rfl
  · rw [show 6 + (2, wa, ca, oa).1 = 8 from rfl, fk_7_13_8]
    rfl
  · rw [show 6 + (3, wa, ca, oa).1 = 9 from rfl, fk_7_13_9]
    rfl
  · rw [show 6 + (4, wa, ca, oa).1 = 10 from rfl, fk_7_13_10]
    rfl
  · rw [show 6 + (5, wa, ca, oa).1 = 11 from rfl, fk_7_13_11]
    rfl
theorem bf_7_16 (hB : isB H a b id f on g) : am_gf (H a) (am_fk 7 16) = some (.int (f 2)) := by
  rw [hB.at, gf_r]
  obtain ⟨k, wa, ca, oa⟩ := b
  rcases hB.k with h | h | h | h | h | h <;> (dsimp only at h; subst h)
  · rw [show 6 + (0, wa, ca, oa).1 = 6 from rfl, fk_7_16_6]
    rfl
  · rw [show 6 + (1, wa, ca, oa).1 = 7 from rfl, fk_7_16_7]
    rfl
  · rw [show 6 + (2, wa, ca, oa).1 = 8 from rfl, fk_7_16_8]
    rfl
  · rw [show 6 + (3, wa, ca, oa).1 = 9 from rfl, fk_7_16_9]
    rfl
  · rw [show 6 + (4, wa, ca, oa).1 = 10 from rfl, fk_7_16_10]
    rfl
  · rw [show 6 + (5, wa, ca, oa).1 = 11 from rfl, fk_7_16_11]
    rfl
theorem bf_7_19 (hB : isB H a b id f on g) : am_gf (H a) (am_fk 7 19) = some (.ref b.2.1) := by
  rw [hB.at, gf_r]
  obtain ⟨k, wa, ca, oa⟩ := b
  rcases hB.k with h | h | h | h | h | h <;> (dsimp only at h; subst h)
  · rw [show 6 + (0, wa, ca, oa).1 = 6 from rfl, fk_7_19_6]
    rfl
  · rw [show 6 + (1, wa, ca, oa).1 = 7 from rfl, fk_7_19_7]
    rfl
  · rw [show 6 + (2, wa, ca, oa).1 = 8 from rfl, fk_7_19_8]
    rfl
  · rw [show 6 + (3, wa, ca, oa).1 = 9 from rfl, fk_7_19_9]
    rfl
  · rw [show 6 + (4, wa, ca, oa).1 = 10 from rfl, fk_7_19_10]
    rfl
  · rw [show 6 + (5, wa, ca, oa).1 = 11 from rfl, fk_7_19_11]
    rfl
theorem bf_7_23 (hB : isB H a b id f on g) : am_gf (H a) (am_fk 7 23) = some (.ref b.2.2.1) := by
  rw [hB.at, gf_r]
  obtain ⟨k, wa, ca, oa⟩ := b
  rcases hB.k with h | h | h | h | h | h <;> (dsimp only at h; subst h)
  · rw [show 6 + (0, wa, ca, oa).1 = 6 from rfl, fk_7_23_6]
    rfl
  · rw [show 6 + (1, wa, ca, oa).1 = 7 from rfl, fk_7_23_7]
    rfl
  · rw [show 6 + (2, wa, ca, oa).1 = 8 from rfl, fk_7_23_8]
    rfl
  · rw [show 6 + (3, wa, ca, oa).1 = 9 from rfl, fk_7_23_9]
    rfl
  · rw [show 6 + (4, wa, ca, oa).1 = 10 from rfl, fk_7_23_10]
    rfl
  · rw [show 6 + (5, wa, ca, oa).1 = 11 from rfl, fk_7_23_11]
    rfl
theorem bf_8_9 (hB : isB H a b id f on g) : am_gf (H a) (am_fk 8 9) = some (.int id) := by
  rw [hB.at, gf_r]
  obtain ⟨k, wa, ca, oa⟩ := b
  rcases hB.k with h | h | h | h | h | h <;> (dsimp only at h; subst h)
  · rw [show 6 + (0, wa, ca, oa).1 = 6 from rfl, fk_8_9_6]
    rfl
  · rw [show 6 + (1, wa, ca, oa).1 = 7 from rfl, fk_8_9_7]
    rfl
  · rw [show 6 + (2, wa, ca, oa).1 = 8 from rfl, fk_8_9_8]
    rfl
  · rw [show 6 + (3, wa, ca, oa).1 = 9 from rfl, fk_8_9_9]
    rfl
  · rw [show 6 + (4, wa, ca, oa).1 = 10 from rfl, fk_8_9_10]
    rfl
  · rw [show 6 + (5, wa, ca, oa).1 = 11 from rfl, fk_8_9_11]
    rfl
theorem bf_8_13 (hB : isB H a b id f on g) : am_gf (H a) (am_fk 8 13) = some (.int (f 2)) := by
  rw [hB.at, gf_r]
  obtain ⟨k, wa, ca, oa⟩ := b
  rcases hB.k with h | h | h | h | h | h <;> (dsimp only at h; subst h)
  · rw [show 6 + (0, wa, ca, oa).1 = 6 from rfl, fk_8_13_6]
    rfl
  · rw [show 6 + (1, wa, ca, oa).1 = 7 from rfl, fk_8_13_7]
    rfl
  · rw [show 6 + (2, wa, ca, oa).1 = 8 from rfl, fk_8_13_8]
    rfl
  · rw [show 6 + (3, wa, ca, oa).1 = 9 from rfl, fk_8_13_9]
    rfl
  · rw [show 6 + (4, wa, ca, oa).1 = 10 from rfl, fk_8_13_10]
    rfl
  · rw [show 6 + (5, wa, ca, oa).1 = 11 from rfl, fk_8_13_11]
    rfl
theorem bf_8_16 (hB : isB H a b id f on g) : am_gf (H a) (am_fk 8 16) = some (.ref b.2.1) := by
  rw [hB.at, gf_r]
  obtain ⟨k, wa, ca, oa⟩ := b
  rcases hB.k with h | h | h | h | h | h <;> (dsimp only at h; subst h)
  · rw [show 6 + (0, wa, ca, oa).1 = 6 from rfl, fk_8_16_6]
    rfl
  · rw [show 6 + (1, wa, ca, oa).1 = 7 from rfl, fk_8_16_7]
    rfl
  · rw [show 6 + (2, wa, ca, oa).1 = 8 from rfl, fk_8_16_8]
    rfl
  · rw [show 6 + (3, wa, ca, oa).1 = 9 from rfl, fk_8_16_9]
    rfl
  · rw [show 6 + (4, wa, ca, oa).1 = 10 from rfl, fk_8_16_10]
    rfl
  · rw [show 6 + (5, wa, ca, oa).1 = 11 from rfl, fk_8_16_11]
    rfl
theorem bf_8_20 (hB : isB H a b id f on g) : am_gf (H a) (am_fk 8 20) = some (.ref b.2.2.1) := by
  rw [hB.at, gf_r]
  obtain ⟨k, wa, ca, oa⟩ := b
  rcases hB.k with h | h | h | h | h | h <;> (dsimp only at h; subst h)
  · rw [show 6 + (0, wa, ca, oa).1 = 6 from rfl, fk_8_20_6]
    rfl
  · rw [show 6 + (1, wa, ca, oa).1 = 7 from rfl, fk_8_20_7]
    rfl
  · rw [show 6 + (2, wa, ca, oa).1 = 8 from rfl, fk_8_20_8]
    rfl
  · rw [show 6 + (3, wa, ca, oa).1 = 9 from rfl, fk_8_20_9]
    rfl
  · rw [show 6 + (4, wa, ca, oa).1 = 10 from rfl, fk_8_20_10]
    rfl
  · rw [show 6 + (5, wa, ca, oa).1 = 11 from rfl, fk_8_20_11]
    rfl
theorem bf_9_13 (hB : isB H a b id f on g) : am_gf (H a) (am_fk 9 13) = some (.int id) := by
  rw [hB.at, gf_r]
  obtain ⟨k, wa, ca, oa⟩ := b
  rcases hB.k with h | h | h | h | h | h <;> (dsimp only at h; subst h)
  · rw [show 6 + (0, wa, ca, oa).1 = 6 from rfl, fk_9_13_6]
    rfl
  · rw [show 6 + (1, wa, ca, oa).1 = 7 from rfl, fk_9_13_7]
    rfl
  · rw [show 6 + (2, wa, ca, oa).1 = 8 from rfl, fk_9_13_8]
    rfl
  · rw [show 6 + (3, wa, ca, oa).1 = 9 from rfl, fk_9_13_9]
    rfl
  · rw [show 6 + (4, wa, ca, oa).1 = 10 from rfl, fk_9_13_10]
    rfl
  · rw [show 6 + (5, wa, ca, oa).1 = 11 from rfl, fk_9_13_11]
    rfl
theorem bf_9_16 (hB : isB H a b id f on g) : am_gf (H a) (am_fk 9 16) = some (.int (f 2)) := by
  rw [hB.at, gf_r]
  obtain ⟨k, wa, ca, oa⟩ := b
  rcases hB.k with h | h | h | h | h | h <;> (dsimp only at h; subst h)
  · rw [show 6 + (0, wa, ca, oa).1 = 6 from rfl, fk_9_16_6]
    rfl
  · rw [show 6 + (1, wa, ca, oa).1 = 7 from rfl, fk_9_16_7]
    rfl
  · rw [show 6 + (2, wa, ca, oa).1 = 8 from rfl, fk_9_16_8]
    rfl
  · rw [show 6 + (3, wa, ca, oa).1 = 9 from rfl, fk_9_16_9]
    rfl
  · rw [show 6 + (4, wa, ca, oa).1 = 10 from rfl, fk_9_16_10]
    rfl
  · rw [show 6 + (5, wa, ca, oa).1 = 11 from rfl, fk_9_16_11]
    rfl
theorem bf_9_19 (hB : isB H a b id f on g) : am_gf (H a) (am_fk 9 19) = some (.ref b.2.1) := by
  rw [hB.at, gf_r]
  obtain ⟨k, wa, ca, oa⟩ := b
  rcases hB.k with h | h | h | h | h | h <;> (dsimp only at h; subst h)
  · rw [show 6 + (0, wa, ca, oa).1 = 6 from rfl, fk_9_19_6]
    rfl
  · rw [show 6 + (1, wa, ca, oa).1 = 7 from rfl, fk_9_19_7]
    rfl
  · rw [show 6 + (2, wa, ca, oa).1 = 8 from rfl, fk_9_19_8]
    rfl
  · rw [show 6 + (3, wa, ca, oa).1 = 9 from rfl, fk_9_19_9]
    rfl
  · rw [show 6 + (4, wa, ca, oa).1 = 10 from rfl, fk_9_19_10]
    rfl
  · rw [show 6 + (5, wa, ca, oa).1 = 11 from rfl, fk_9_19_11]
    rfl
theorem bf_9_23 (hB : isB H a b id f on g) : am_gf (H a) (am_fk 9 23) = some (.ref b.2.2.1) := by
  rw [hB.at, gf_r]
  obtain ⟨k, wa, ca, oa⟩ := b
  rcases hB.k with h | h | h | h | h | h <;> (dsimp only at h; subst h)
  · rw [show 6 + (0, wa, ca, oa).1 = 6 from rfl, fk_9_23_6]
    rfl
  · rw [show 6 + (1, wa, ca, oa).1 = 7 from rfl, fk_9_23_7]
    rfl
  · rw [show 6 + (2, wa, ca, oa).1 = 8 from rfl, fk_9_23_8]
    rfl
  · rw [show 6 + (3, wa, ca, oa).1 = 9 from rfl, fk_9_23_9]
    rfl
  · rw [show 6 + (4, wa, ca, oa).1 = 10 from rfl, fk_9_23_10]
    rfl
  · rw [show 6 + (5, wa, ca, oa).1 = 11 from rfl, fk_9_23_11]
    rfl
theorem bf_10_13 (hB : isB H a b id f on g) : am_gf (H a) (am_fk 10 13) = some (.int id) := by
  rw [hB.at, gf_r]
  obtain ⟨k, wa, ca, oa⟩ := b
  rcases hB.k with h | h | h | h | h | h <;> (dsimp only at h; subst h)
  · rw [show 6 + (0, wa, ca, oa).1 = 6 from rfl, fk_10_13_6]
    rfl
  · rw [show 6 + (1, wa, ca, oa).1 = 7 from rfl, fk_10_13_7]
    rfl
  · rw [show 6 + (2, wa, ca, oa).1 = 8 from rfl, fk_10_13_8]
    rfl
  · rw [show 6 + (3, wa, ca, oa).1 = 9 from rfl, fk_10_13_9]
    rfl
  · rw [show 6 + (4, wa, ca, oa).1 = 10 from rfl, fk_10_13_10]
    rfl
  · rw [show 6 + (5, wa, ca, oa).1 = 11 from rfl, fk_10_13_11]
    rfl
theorem bf_10_17 (hB : isB H a b id f on g) : am_gf (H a) (am_fk 10 17) = some (.int (f 2)) := by
  rw [hB.at, gf_r]
  obtain ⟨k, wa, ca, oa⟩ := b
  rcases hB.k with h | h | h | h | h | h <;> (dsimp only at h; subst h)
  · rw [show 6 + (0, wa, ca, oa).1 = 6 from rfl, fk_10_17_6]
    rfl
  · rw [show 6 + (1, wa, ca, oa).1 = 7 from rfl, fk_10_17_7]
    rfl
  · rw [show 6 + (2, wa, ca, oa).1 = 8 from rfl, fk_10_17_8]
    rfl
  · rw [show 6 + (3, wa, ca, oa).1 = 9 from rfl, fk_10_17_9]
    rfl
  · rw [show 6 + (4, wa, ca, oa).1 = 10 from rfl, fk_10_17_10]
    rfl
  · rw [show 6 + (5, wa, ca, oa).1 = 11 from rfl, fk_10_17_11]
    rfl
theorem bf_10_20 (hB : isB H a b id f on g) : am_gf (H a) (am_fk 10 20) = some (.ref b.2.1) := by
  rw [hB.at, gf_r]
  obtain ⟨k, wa, ca, oa⟩ := b
  rcases hB.k with h | h | h | h | h | h <;> (dsimp only at h; subst h)
  · rw [show 6 + (0, wa, ca, oa).1 = 6 from rfl, fk_10_20_6]
    rfl
  · rw [show 6 + (1, wa, ca, oa).1 = 7 from rfl, fk_10_20_7]
    rfl
  · rw [show 6 + (2, wa, ca, oa).1 = 8 from rfl, fk_10_20_8]
    rfl
  · rw [show 6 + (3, wa, ca, oa).1 = 9 from rfl, fk_10_20_9]
    rfl
  · rw [show 6 + (4, wa, ca, oa).1 = 10 from rfl, fk_10_20_10]
    rfl
  · rw [show 6 + (5, wa, ca, oa).1 = 11 from rfl, fk_10_20_11]
    rfl
theorem bf_10_23 (hB : isB H a b id f on g) : am_gf (H a) (am_fk 10 23) = some (.ref b.2.2.1) := by
  rw [hB.at, gf_r]
  obtain ⟨k, wa, ca, oa⟩ := b
  rcases hB.k with h | h | h | h | h | h <;> (dsimp only at h; subst h)
  · rw [show 6 + (0, wa, ca, oa).1 = 6 from rfl, fk_10_23_6]
    rfl
  · rw [show 6 + (1, wa, ca, oa).1 = 7 from rfl, fk_10_23_7]
    rfl
  · rw [show 6 + (2, wa, ca, oa).1 = 8 from rfl, fk_10_23_8]
    rfl
  · rw [show 6 + (3, wa, ca, oa).1 = 9 from rfl, fk_10_23_9]
    rfl
  · rw [show 6 + (4, wa, ca, oa).1 = 10 from rfl, fk_10_23_10]
    rfl
  · rw [show 6 + (5, wa, ca, oa).1 = 11 from rfl, fk_10_23_11]
    rfl
theorem bf_11_13 (hB : isB H a b id f on g) : am_gf (H a) (am_fk 11 13) = some (.int id) := by
  rw [hB.at, gf_r]
  obtain ⟨k, wa, ca, oa⟩ := b
  rcases hB.k with h | h | h | h | h | h <;> (dsimp only at h; subst h)
  · rw [show 6 + (0, wa, ca, oa).1 = 6 from rfl, fk_11_13_6]
    rfl
  · rw [show 6 + (1, wa, ca, oa).1 = 7 from rfl, fk_11_13_7]
    rfl
  · rw [show 6 + (2, wa, ca, oa).1 = 8 from rfl, fk_11_13_8]
    rfl
  · rw [show 6 + (3, wa, ca, oa).1 = 9 from rfl, fk_11_13_9]
    rfl
  · rw [show 6 + (4, wa, ca, oa).1 = 10 from rfl, fk_11_13_10]
    rfl
  · rw [show 6 + (5, wa, ca, oa).1 = 11 from rfl, fk_11_13_11]
    rfl
theorem bf_11_16 (hB : isB H a b id f on g) : am_gf (H a) (am_fk 11 16) = some (.int (f 2)) := by
  rw [hB.at, gf_r]
  obtain ⟨k, wa, ca, oa⟩ := b
  rcases hB.k with h | h | h | h | h | h <;> (dsimp only at h; subst h)
  · rw [show 6 + (0, wa, ca, oa).1 = 6 from rfl, fk_11_16_6]
    rfl
  · rw [show 6 + (1, wa, ca, oa).1 = 7 from rfl, fk_11_16_7]
    rfl
  · rw [show 6 + (2, wa, ca, oa).1 = 8 from rfl, fk_11_16_8]
    rfl
  · rw [show 6 + (3, wa, ca, oa).1 = 9 from rfl, fk_11_16_9]
    rfl
  · rw [show 6 + (4, wa, ca, oa).1 = 10 from rfl, fk_11_16_10]
    rfl
  · rw [show 6 + (5, wa, ca, oa).1 = 11 from rfl, fk_11_16_11]
    rfl
theorem bf_11_19 (hB : isB H a b id f on g) : am_gf (H a) (am_fk 11 19) = some (.ref b.2.1) := by
  rw [hB.at, gf_r]
  obtain ⟨k, wa, ca, oa⟩ := b
  rcases hB.k with h | h | h | h | h | h <;> (dsimp only at h; subst h)
  · rw [show 6 + (0, wa, ca, oa).1 = 6 from rfl, fk_11_19_6]
    rfl
  · rw [show 6 + (1, wa, ca, oa).1 = 7 from rfl, fk_11_19_7]
    rfl
  · rw [show 6 + (2, wa, ca, oa).1 = 8 from rfl, fk_11_19_8]
    rfl
  · rw [show 6 + (3, wa, ca, oa).1 = 9 from rfl, fk_11_19_9]
    rfl
  · rw [show 6 + (4, wa, ca, oa).1 = 10 from rfl, fk_11_19_10]
    rfl
  · rw [show 6 + (5, wa, ca, oa).1 = 11 from rfl, fk_11_19_11]
    rfl
theorem bf_11_23 (hB : isB H a b id f on g) : am_gf (H a) (am_fk 11 23) = some (.ref b.2.2.1) := by
  rw [hB.at, gf_r]
  obtain ⟨k, wa, ca, oa⟩ := b
  rcases hB.k with h | h | h | h | h | h <;> (dsimp only at h; subst h)
  · rw [show 6 + (0, wa, ca, oa).1 = 6 from rfl, fk_11_23_6]
    rfl
  · rw [show 6 + (1, wa, ca, oa).1 = 7 from rfl, fk_11_23_7]
    rfl
  · rw [show 6 + (2, wa, ca, oa).1 = 8 from rfl, fk_11_23_8]
    rfl
  · rw [show 6 + (3, wa, ca, oa).1 = 9 from rfl, fk_11_23_9]
    rfl
  · rw [show 6 + (4, wa, ca, oa).1 = 10 from rfl, fk_11_23_10]
    rfl
  · rw [show 6 + (5, wa, ca, oa).1 = 11 from rfl, fk_11_23_11]
    rfl
theorem bk_1_62 (hB : isB H a b id f on g) (h4 : f 0 = zI 4) : am_gf (H a) (am_fk 1 62) = some (.int (f 4)) := by
  have h5 := hB.1.1
  have hk := hB.1.2
  rw [h4, zI_eq (by omega) (by omega)] at hk
  rw [hB.at, gf_r]
  obtain ⟨k, wa, ca, oa⟩ := b
  dsimp only at hk
  subst hk
  rw [show 6 + (4, wa, ca, oa).1 = 10 from rfl, fk_1_62_10]
  rfl
theorem bk_1_65 (hB : isB H a b id f on g) (h4 : f 0 = zI 4) : am_gf (H a) (am_fk 1 65) = some (.ref b.2.2.2) := by
  have h5 := hB.1.1
  have hk := hB.1.2
  rw [h4, zI_eq (by omega) (by omega)] at hk
  rw [hB.at, gf_r]
  obtain ⟨k, wa, ca, oa⟩ := b
  dsimp only at hk
  subst hk
  rw [show 6 + (4, wa, ca, oa).1 = 10 from rfl, fk_1_65_10]
  rfl
theorem kin_r (hB : isB H a b id f on g) : am_kin (H a) = some (decide (f 0 = zI 4)) := by
  have h5 := hB.1.1
  rw [hB.at]
  show some (6 + b.1 == 10) = _
  have e : (f 0 = zI 4) ↔ b.1 = 4 := by rw [hB.1.2, zI_eq (by omega) (by omega)]
  by_cases h : b.1 = 4
  · have h0 := e.mpr h
    simp [h0, h]
  · have h0 : ¬ f 0 = zI 4 := fun h1 => h (e.mp h1)
    simp [h0]
    omega
theorem J_kin {k : Nat} (hk : am_kk (am_own t) k = some 10) (hB : isB H a b id f on g) : am_J X rec t (some (.instanceof k, nx, tg)) pc lv (.ref a :: rest) (H, z) = am_I X rec t nx lv (.int (zB (decide (f 0 = zI 4))) :: rest) (H, z) := by
  rw [J_instof]
  unfold am_heap
  simp only [hk, kin_r hB]
  rfl
theorem J_castk {k : Nat} (hk : am_kk (am_own t) k = some 10) (hB : isB H a b id f on g) (h4 : f 0 = zI 4) : am_J X rec t (some (.checkcast k, nx, tg)) pc lv (.ref a :: rest) (H, z) = am_I X rec t nx lv (.ref a :: rest) (H, z) := by
  unfold am_J am_step am_pure am_heap
  simp only [hk, kin_r hB, h4, decide_true]
  rfl
theorem kk_1_60 : am_kk 1 60 = some 10 := by decide +kernel
def bAmid (f : Nat → Int32) (x y : Int32) : Bool := if f 0 = zI 3 then !decide (x &&& (zI 1 <<< (f 4 &&& 31)) = 0) else if f 0 = zI 5 then decide (y < f 4) else true
def bHeft (f : Nat → Int32) : Int32 := if f 0 = zI 1 then f 1 + f 2 + f 4 else if f 0 = zI 2 then zI 2 * (f 1 + f 2) else if f 0 = zI 3 then f 1 + f 2 + zI 10 else if f 0 = zI 4 then f 1 + f 2 + zI 10 + zI 5 else if f 0 = zI 5 then f 1 + f 2 - f 2 + f 4 else f 1 + f 2
def bFails (f : Nat → Int32) : Bool := !decide (f 0 = zI 2) && decide (1 < wN (f 3))
def bToss (f : Nat → Int32) (id : Int32) : Int32 := if f 0 = zI 4 then id + zI 100 else if f 0 = zI 5 then f 4 else id
theorem bFk0 {wa ca oa : Nat} : bF (0, wa, ca, oa) id f = [.int id, .int (f 1), .int (f 2), .ref wa, .ref ca] := rfl
theorem bFk1 {wa ca oa : Nat} : bF (1, wa, ca, oa) id f = [.int id, .int (f 1), .int (f 2), .ref wa, .ref ca, .int (f 4)] := rfl
theorem bFk2 {wa ca oa : Nat} : bF (2, wa, ca, oa) id f = [.int id, .int (f 1), .int (f 2), .ref wa, .ref ca] := rfl
theorem bFk3 {wa ca oa : Nat} : bF (3, wa, ca, oa) id f = [.int id, .int (f 1), .int (f 2), .ref wa, .ref ca, .int (f 4)] := rfl
theorem bFk4 {wa ca oa : Nat} : bF (4, wa, ca, oa) id f = [.int id, .int (f 1), .int (f 2), .ref wa, .ref ca, .int (f 4), .ref oa] := rfl
theorem bFk5 {wa ca oa : Nat} : bF (5, wa, ca, oa) id f = [.int id, .int (f 1), .int (f 2), .ref wa, .ref ca, .int (f 4)] := rfl
theorem lF0 {v0 : Value} {r : List Value} : (v0 :: r)[0]? = some v0 := rfl
theorem lF1 {v0 v1 : Value} {r : List Value} : (v0 :: v1 :: r)[1]? = some v1 := rfl
theorem lF2 {v0 v1 v2 : Value} {r : List Value} : (v0 :: v1 :: v2 :: r)[2]? = some v2 := rfl
theorem lF3 {v0 v1 v2 v3 : Value} {r : List Value} : (v0 :: v1 :: v2 :: v3 :: r)[3]? = some v3 := rfl
theorem lF4 {v0 v1 v2 v3 v4 : Value} {r : List Value} : (v0 :: v1 :: v2 :: v3 :: v4 :: r)[4]? = some v4 := rfl
theorem lF5 {v0 v1 v2 v3 v4 v5 : Value} {r : List Value} : (v0 :: v1 :: v2 :: v3 :: v4 :: v5 :: r)[5]? = some v5 := rfl
theorem lF6 {v0 v1 v2 v3 v4 v5 v6 : Value} {r : List Value} : (v0 :: v1 :: v2 :: v3 :: v4 :: v5 :: v6 :: r)[6]? = some v6 := rfl
theorem bm_steps_0 (hB : isB H a b id f on g) (hk : b.1 = 0) : am_f X (d + 1) 22 [.ref a] (H, z) = some (.inl (some (.int (zI (wN (f 3))))), (H, z)) := by
  have hwl := fun x => hB.wl (x := x)
  have hat := hB.at
  have hf0 := hB.1.2
  have h4 := hB.2.2.1
  obtain ⟨hf3, hn1, hn4⟩ := hB.n
  obtain ⟨k, wa, ca, oa⟩ := b
  dsimp only at hk hf0 hat h4 hwl
  subst hk
  simp only [Nat.reduceAdd] at hat
  have hci : am_ci1 ((H, z).1 a) = some 6 := by
    show am_ci1 (H a) = _
    rw [hat]
    rfl
  rw [fU_22]
  simp (disch := first | omega | exact hci | exact hat | exact Nat.le_of_ble_eq_true rfl) only [own_22, am_go dc_22_0, J_aload_0, K_al, ld_0, am_go dc_22_1, J_getfield, gf_r, fk_6_21_6, am_go dc_22_4, J_alen, am_go dc_22_5, J_ret_i ret_22, hat, hwl, bFk0, lF0, lF1, lF2, lF3, lF4, lF5, i8_m4, JR_v, z32, zI_le, Nat.reduceLT, List.length_cons, List.length_nil, Nat.reduceAdd, Nat.reduceLeDiff, bind_s, ci1_r]
theorem bm_steps_1 (hB : isB H a b id f on g) (hk : b.1 = 1) : am_f X (d + 1) 22 [.ref a] (H, z) = some (.inl (some (.int (zI (wN (f 3))))), (H, z)) := by
  have hwl := fun x => hB.wl (x := x)
  have hat := hB.at
  have hf0 := hB.1.2
  have h4 := hB.2.2.1
  obtain ⟨hf3, hn1, hn4⟩ := hB.n
  obtain ⟨k, wa, ca, oa⟩ := b
  dsimp only at hk hf0 hat h4 hwl
  subst hk
  simp only [Nat.reduceAdd] at hat
  have hci : am_ci1 ((H, z).1 a) = some 7 := by
    show am_ci1 (H a) = _
    rw [hat]
    rfl
  rw [fU_22]
  simp (disch := first | omega | exact hci | exact hat | exact Nat.le_of_ble_eq_true rfl) only [own_22, am_go dc_22_0, J_aload_0, K_al, ld_0, am_go dc_22_1, J_getfield, gf_r, fk_6_21_7, am_go dc_22_4, J_alen, am_go dc_22_5, J_ret_i ret_22, hat, hwl, bFk1, lF0, lF1, lF2, lF3, lF4, lF5, i8_m4, JR_v, z32, zI_le, Nat.reduceLT, List.length_cons, List.length_nil, Nat.reduceAdd, Nat.reduceLeDiff, bind_s, ci1_r]
theorem bm_steps_2 (hB : isB H a b id f on g) (hk : b.1 = 2) : am_f X (d + 1) 22 [.ref a] (H, z) = some (.inl (some (.int (zI (wN (f 3))))), (H, z)) := by
  have hwl := fun x => hB.wl (x := x)
  have hat := hB.at
  have hf0 := hB.1.2
  have h4 := hB.2.2.1
  obtain ⟨hf3, hn1, hn4⟩ := hB.n
  obtain ⟨k, wa, ca, oa⟩ := b
  dsimp only at hk hf0 hat h4 hwl
  subst hk
  simp only [Nat.reduceAdd] at hat
  have hci : am_ci1 ((H, z).1 a) = some 8 := by
    show am_ci1 (H a) = _
    rw [hat]
    rfl
  rw [fU_22]
  simp (disch := first | omega | exact hci | exact hat | exact Nat.le_of_ble_eq_true rfl) only [own_22, am_go dc_22_0, J_aload_0, K_al, ld_0, am_go dc_22_1, J_getfield, gf_r, fk_6_21_8, am_go dc_22_4, J_alen, am_go dc_22_5, J_ret_i ret_22, hat, hwl, bFk2, lF0, lF1, lF2, lF3, lF4, lF5, i8_m4, JR_v, z32, zI_le, Nat.reduceLT, List.length_cons, List.length_nil, Nat.reduceAdd, Nat.reduceLeDiff, bind_s, ci1_r]
theorem bm_steps_3 (hB : isB H a b id f on g) (hk : b.1 = 3) : am_f X (d + 1) 22 [.ref a] (H, z) = some (.inl (some (.int (zI (wN (f 3))))), (H, z)) := by
  have hwl := fun x => hB.wl (x := x)
  have hat := hB.at
  have hf0 := hB.1.2
  have h4 := hB.2.2.1
  obtain ⟨hf3, hn1, hn4⟩ := hB.n
  obtain ⟨k, wa, ca, oa⟩ := b
  dsimp only at hk hf0 hat h4 hwl
  subst hk
  simp only [Nat.reduceAdd] at hat
  have hci : am_ci1 ((H, z).1 a) = some 9 := by
    show am_ci1 (H a) = _
    rw [hat]
    rfl
  rw [fU_22]
  simp (disch := first | omega | exact hci | exact hat | exact Nat.le_of_ble_eq_true rfl) only [own_22, am_go dc_22_0, J_aload_0, K_al, ld_0, am_go dc_22_1, J_getfield, gf_r, fk_6_21_9, am_go dc_22_4, J_alen, am_go dc_22_5, J_ret_i ret_22, hat, hwl, bFk3, lF0, lF1, lF2, lF3, lF4, lF5, i8_m4, JR_v, z32, zI_le, Nat.reduceLT, List.length_cons, List.length_nil, Nat.reduceAdd, Nat.reduceLeDiff, bind_s, ci1_r]
theorem bm_steps_4 (hB : isB H a b id f on g) (hk : b.1 = 4) : am_f X (d + 1) 22 [.ref a] (H, z) = some (.inl (some (.int (zI (wN (f 3))))), (H, z)) := by
  have hwl := fun x => hB.wl (x := x)
  have hat := hB.at
  have hf0 := hB.1.2
  have h4 := hB.2.2.1
  obtain ⟨hf3, hn1, hn4⟩ := hB.n
  obtain ⟨k, wa, ca, oa⟩ := b
  dsimp only at hk hf0 hat h4 hwl
  subst hk
  simp only [Nat.reduceAdd] at hat
  have hci : am_ci1 ((H, z).1 a) = some 10 := by
    show am_ci1 (H a) = _
    rw [hat]
    rfl
  rw [fU_22]
  simp (disch := first | omega | exact hci | exact hat | exact Nat.le_of_ble_eq_true rfl) only [own_22, am_go dc_22_0, J_aload_0, K_al, ld_0, am_go dc_22_1, J_getfield, gf_r, fk_6_21_10, am_go dc_22_4, J_alen, am_go dc_22_5, J_ret_i ret_22, hat, hwl, bFk4, lF0, lF1, lF2, lF3, lF4, lF5, i8_m4, JR_v, z32, zI_le, Nat.reduceLT, List.length_cons, List.length_nil, Nat.reduceAdd, Nat.reduceLeDiff, bind_s, ci1_r]
theorem bm_steps_5 (hB : isB H a b id f on g) (hk : b.1 = 5) : am_f X (d + 1) 22 [.ref a] (H, z) = some (.inl (some (.int (zI (wN (f 3))))), (H, z)) := by
  have hwl := fun x => hB.wl (x := x)
  have hat := hB.at
  have hf0 := hB.1.2
  have h4 := hB.2.2.1
  obtain ⟨hf3, hn1, hn4⟩ := hB.n
  obtain ⟨k, wa, ca, oa⟩ := b
  dsimp only at hk hf0 hat h4 hwl
  subst hk
  simp only [Nat.reduceAdd] at hat
  have hci : am_ci1 ((H, z).1 a) = some 11 := by
    show am_ci1 (H a) = _
    rw [hat]
    rfl
  rw [fU_22]
  simp (disch := first | omega | exact hci | exact hat | exact Nat.le_of_ble_eq_true rfl) only [own_22, am_go dc_22_0, J_aload_0, K_al, ld_0, am_go dc_22_1, J_getfield, gf_r, fk_6_21_11, am_go dc_22_4, J_alen, am_go dc_22_5, J_ret_i ret_22, hat, hwl, bFk5, lF0, lF1, lF2, lF3, lF4, lF5, i8_m4, JR_v, z32, zI_le, Nat.reduceLT, List.length_cons, List.length_nil, Nat.reduceAdd, Nat.reduceLeDiff, bind_s, ci1_r]
theorem bm_kind_0 (hB : isB H a b id f on g) (hk : b.1 = 0) : am_f X (d + 1) 53 [.ref a] (H, z) = some (.inl (some (.int (f 0))), (H, z)) := by
  have hwl := fun x => hB.wl (x := x)
  have hat := hB.at
  have hf0 := hB.1.2
  have h4 := hB.2.2.1
  obtain ⟨hf3, hn1, hn4⟩ := hB.n
  obtain ⟨k, wa, ca, oa⟩ := b
  dsimp only at hk hf0 hat h4 hwl
  subst hk
  simp only [Nat.reduceAdd] at hat
  have hci : am_ci1 ((H, z).1 a) = some 6 := by
    show am_ci1 (H a) = _
    rw [hat]
    rfl
  rw [fU_53]
  simp (disch := first | omega | exact hci | exact hat | exact Nat.le_of_ble_eq_true rfl) only [own_53, am_go dc_53_0, J_iconst, c32_0, am_go dc_53_1, J_ret_i ret_53, hat, hwl, bFk0, lF0, lF1, lF2, lF3, lF4, lF5, i8_m4, JR_v, z32, zI_le, Nat.reduceLT, List.length_cons, List.length_nil, Nat.reduceAdd, Nat.reduceLeDiff, bind_s, ci1_r]
  rw [hf0]
theorem bm_kind_1 (hB : isB H a b id f on g) (hk : b.1 = 1) : am_f X (d + 1) 51 [.ref a] (H, z) = some (.inl (some (.int (f 0))), (H, z)) := by
  have hwl := fun x => hB.wl (x := x)
  have hat := hB.at
  have hf0 := hB.1.2
  have h4 := hB.2.2.1
  obtain ⟨hf3, hn1, hn4⟩ := hB.n
  obtain ⟨k, wa, ca, oa⟩ := b
  dsimp only at hk hf0 hat h4 hwl
  subst hk
  simp only [Nat.reduceAdd] at hat
  have hci : am_ci1 ((H, z).1 a) = some 7 := by
    show am_ci1 (H a) = _
    rw [hat]
    rfl
  rw [fU_51]
  simp (disch := first | omega | exact hci | exact hat | exact Nat.le_of_ble_eq_true rfl) only [own_51, am_go dc_51_0, J_iconst, c32_1, am_go dc_51_1, J_ret_i ret_51, hat, hwl, bFk1, lF0, lF1, lF2, lF3, lF4, lF5, i8_m4, JR_v, z32, zI_le, Nat.reduceLT, List.length_cons, List.length_nil, Nat.reduceAdd, Nat.reduceLeDiff, bind_s, ci1_r]
  rw [hf0]
theorem bm_kind_2 (hB : isB H a b id f on g) (hk : b.1 = 2) : am_f X (d + 1) 49 [.ref a] (H, z) = some (.inl (some (.int (f 0))), (H, z)) := by
  have hwl := fun x => hB.wl (x := x)
  have hat := hB.at
  have hf0 := hB.1.2
  have h4 := hB.2.2.1
  obtain ⟨hf3, hn1, hn4⟩ := hB.n
  obtain ⟨k, wa, ca, oa⟩ := b
  dsimp only at hk hf0 hat h4 hwl
  subst hk
  simp only [Nat.reduceAdd] at hat
  have hci : am_ci1 ((H, z).1 a) = some 8 := by
    show am_ci1 (H a) = _
    rw [hat]
    rfl
  rw [fU_49]
  simp (disch := first | omega | exact hci | exact hat | exact Nat.le_of_ble_eq_true rfl) only [own_49, am_go dc_49_0, J_iconst, c32_2, am_go dc_49_1, J_ret_i ret_49, hat, hwl, bFk2, lF0, lF1, lF2, lF3, lF4, lF5, i8_m4, JR_v, z32, zI_le, Nat.reduceLT, List.length_cons, List.length_nil, Nat.reduceAdd, Nat.reduceLeDiff, bind_s, ci1_r]
  rw [hf0]
theorem bm_kind_3 (hB : isB H a b id f on g) (hk : b.1 = 3) : am_f X (d + 1) 48 [.ref a] (H, z) = some (.inl (some (.int (f 0))), (H, z)) := by
  have hwl := fun x => hB.wl (x := x)
  have hat := hB.at
  have hf0 := hB.1.2
  have h4 := hB.2.2.1
  obtain ⟨hf3, hn1, hn4⟩ := hB.n
  obtain ⟨k, wa, ca, oa⟩ := b
  dsimp only at hk hf0 hat h4 hwl
  subst hk
  simp only [Nat.reduceAdd] at hat
  have hci : am_ci1 ((H, z).1 a) = some 9 := by
    show am_ci1 (H a) = _
    rw [hat]
    rfl
  rw [fU_48]
  simp (disch := first | omega | exact hci | exact hat | exact Nat.le_of_ble_eq_true rfl) only [own_48, am_go dc_48_0, J_iconst, c32_3, am_go dc_48_1, J_ret_i ret_48, hat, hwl, bFk3, lF0, lF1, lF2, lF3, lF4, lF5, i8_m4, JR_v, z32, zI_le, Nat.reduceLT, List.length_cons, List.length_nil, Nat.reduceAdd, Nat.reduceLeDiff, bind_s, ci1_r]
  rw [hf0]
theorem bm_kind_4 (hB : isB H a b id f on g) (hk : b.1 = 4) : am_f X (d + 1) 50 [.ref a] (H, z) = some (.inl (some (.int (f 0))), (H, z)) := by
  have hwl := fun x => hB.wl (x := x)
  have hat := hB.at
  have hf0 := hB.1.2
  have h4 := hB.2.2.1
  obtain ⟨hf3, hn1, hn4⟩ := hB.n
  obtain ⟨k, wa, ca, oa⟩ := b
  dsimp only at hk hf0 hat h4 hwl
  subst hk
  simp only [Nat.reduceAdd] at hat
  have hci : am_ci1 ((H, z).1 a) = some 10 := by
    show am_ci1 (H a) = _
    rw [hat]
    rfl
  rw [fU_50]
  simp (disch := first | omega | exact hci | exact hat | exact Nat.le_of_ble_eq_true rfl) only [own_50, am_go dc_50_0, J_iconst, c32_4, am_go dc_50_1, J_ret_i ret_50, hat, hwl, bFk4, lF0, lF1, lF2, lF3, lF4, lF5, i8_m4, JR_v, z32, zI_le, Nat.reduceLT, List.length_cons, List.length_nil, Nat.reduceAdd, Nat.reduceLeDiff, bind_s, ci1_r]
  rw [hf0]
theorem bm_kind_5 (hB : isB H a b id f on g) (hk : b.1 = 5) : am_f X (d + 1) 52 [.ref a] (H, z) = some (.inl (some (.int (f 0))), (H, z)) := by
  have hwl := fun x => hB.wl (x := x)
  have hat := hB.at
  have hf0 := hB.1.2
  have h4 := hB.2.2.1
  obtain ⟨hf3, hn1, hn4⟩ := hB.n
  obtain ⟨k, wa, ca, oa⟩ := b
  dsimp only at hk hf0 hat h4 hwl
  subst hk
  simp only [Nat.reduceAdd] at hat
  have hci : am_ci1 ((H, z).1 a) = some 11 := by
    show am_ci1 (H a) = _
    rw [hat]
    rfl
  rw [fU_52]
  simp (disch := first | omega | exact hci | exact hat | exact Nat.le_of_ble_eq_true rfl) only [own_52, am_go dc_52_0, J_iconst, c32_5, am_go dc_52_1, J_ret_i ret_52, hat, hwl, bFk5, lF0, lF1, lF2, lF3, lF4, lF5, i8_m4, JR_v, z32, zI_le, Nat.reduceLT, List.length_cons, List.length_nil, Nat.reduceAdd, Nat.reduceLeDiff, bind_s, ci1_r]
  rw [hf0]
theorem bm_extra_0 (hB : isB H a b id f on g) (hk : b.1 = 0) : am_f X (d + 1) 57 [.ref a] (H, z) = some (.inl (some (.int (f 4))), (H, z)) := by
  have hwl := fun x => hB.wl (x := x)
  have hat := hB.at
  have hf0 := hB.1.2
  have h4 := hB.2.2.1
  obtain ⟨hf3, hn1, hn4⟩ := hB.n
  obtain ⟨k, wa, ca, oa⟩ := b
  dsimp only at hk hf0 hat h4 hwl
  subst hk
  simp only [Nat.reduceAdd] at hat
  have hci : am_ci1 ((H, z).1 a) = some 6 := by
    show am_ci1 (H a) = _
    rw [hat]
    rfl
  rw [fU_57]
  simp (disch := first | omega | exact hci | exact hat | exact Nat.le_of_ble_eq_true rfl) only [own_57, am_go dc_57_0, J_bipush, i8_m4, am_go dc_57_2, J_ret_i ret_57, hat, hwl, bFk0, lF0, lF1, lF2, lF3, lF4, lF5, JR_v, z32, zI_le, Nat.reduceLT, List.length_cons, List.length_nil, Nat.reduceAdd, Nat.reduceLeDiff, bind_s, ci1_r]
  rw [h4 (by omega)]
theorem bm_extra_1 (hB : isB H a b id f on g) (hk : b.1 = 1) : am_f X (d + 1) 55 [.ref a] (H, z) = some (.inl (some (.int (f 4))), (H, z)) := by
  have hwl := fun x => hB.wl (x := x)
  have hat := hB.at
  have hf0 := hB.1.2
  have h4 := hB.2.2.1
  obtain ⟨hf3, hn1, hn4⟩ := hB.n
  obtain ⟨k, wa, ca, oa⟩ := b
  dsimp only at hk hf0 hat h4 hwl
  subst hk
  simp only [Nat.reduceAdd] at hat
  have hci : am_ci1 ((H, z).1 a) = some 7 := by
    show am_ci1 (H a) = _
    rw [hat]
    rfl
  rw [fU_55]
  simp (disch := first | omega | exact hci | exact hat | exact Nat.le_of_ble_eq_true rfl) only [own_55, am_go dc_55_0, J_aload_0, K_al, ld_0, am_go dc_55_1, J_getfield, gf_r, fk_7_7_7, am_go dc_55_4, J_ret_i ret_55, hat, hwl, bFk1, lF0, lF1, lF2, lF3, lF4, lF5, i8_m4, JR_v, z32, zI_le, Nat.reduceLT, List.length_cons, List.length_nil, Nat.reduceAdd, Nat.reduceLeDiff, bind_s, ci1_r]
theorem bm_extra_2 (hB : isB H a b id f on g) (hk : b.1 = 2) : am_f X (d + 1) 57 [.ref a] (H, z) = some (.inl (some (.int (f 4))), (H, z)) := by
  have hwl := fun x => hB.wl (x := x)
  have hat := hB.at
  have hf0 := hB.1.2
  have h4 := hB.2.2.1
  obtain ⟨hf3, hn1, hn4⟩ := hB.n
  obtain ⟨k, wa, ca, oa⟩ := b
  dsimp only at hk hf0 hat h4 hwl
  subst hk
  simp only [Nat.reduceAdd] at hat
  have hci : am_ci1 ((H, z).1 a) = some 8 := by
    show am_ci1 (H a) = _
    rw [hat]
    rfl
  rw [fU_57]
  simp (disch := first | omega | exact hci | exact hat | exact Nat.le_of_ble_eq_true rfl) only [own_57, am_go dc_57_0, J_bipush, i8_m4, am_go dc_57_2, J_ret_i ret_57, hat, hwl, bFk2, lF0, lF1, lF2, lF3, lF4, lF5, JR_v, z32, zI_le, Nat.reduceLT, List.length_cons, List.length_nil, Nat.reduceAdd, Nat.reduceLeDiff, bind_s, ci1_r]
  rw [h4 (by omega)]
theorem bm_extra_3 (hB : isB H a b id f on g) (hk : b.1 = 3) : am_f X (d + 1) 54 [.ref a] (H, z) = some (.inl (some (.int (f 4))), (H, z)) := by
  have hwl := fun x => hB.wl (x := x)
  have hat := hB.at
  have hf0 := hB.1.2
  have h4 := hB.2.2.1
  obtain ⟨hf3, hn1, hn4⟩ := hB.n
  obtain ⟨k, wa, ca, oa⟩ := b
  dsimp only at hk hf0 hat h4 hwl
  subst hk
  simp only [Nat.reduceAdd] at hat
  have hci : am_ci1 ((H, z).1 a) = some 9 := by
    show am_ci1 (H a) = _
    rw [hat]
    rfl
  rw [fU_54]
  simp (disch := first | omega | exact hci | exact hat | exact Nat.le_of_ble_eq_true rfl) only [own_54, am_go dc_54_0, J_aload_0, K_al, ld_0, am_go dc_54_1, J_getfield, gf_r, fk_9_7_9, am_go dc_54_4, J_ret_i ret_54, hat, hwl, bFk3, lF0, lF1, lF2, lF3, lF4, lF5, i8_m4, JR_v, z32, zI_le, Nat.reduceLT, List.length_cons, List.length_nil, Nat.reduceAdd, Nat.reduceLeDiff, bind_s, ci1_r]
theorem bm_extra_4 (hB : isB H a b id f on g) (hk : b.1 = 4) : am_f X (d + 1) 54 [.ref a] (H, z) = some (.inl (some (.int (f 4))), (H, z)) := by
  have hwl := fun x => hB.wl (x := x)
  have hat := hB.at
  have hf0 := hB.1.2
  have h4 := hB.2.2.1
  obtain ⟨hf3, hn1, hn4⟩ := hB.n
  obtain ⟨k, wa, ca, oa⟩ := b
  dsimp only at hk hf0 hat h4 hwl
  subst hk
  simp only [Nat.reduceAdd] at hat
  have hci : am_ci1 ((H, z).1 a) = some 10 := by
    show am_ci1 (H a) = _
    rw [hat]
    rfl
  rw [fU_54]
  simp (disch := first | omega | exact hci | exact hat | exact Nat.le_of_ble_eq_true rfl) only [own_54, am_go dc_54_0, J_aload_0, K_al, ld_0, am_go dc_54_1, J_getfield, gf_r, fk_9_7_10, am_go dc_54_4, J_ret_i ret_54, hat, hwl, bFk4, lF0, lF1, lF2, lF3, lF4, lF5, i8_m4, JR_v, z32, zI_le, Nat.reduceLT, List.length_cons, List.length_nil, Nat.reduceAdd, Nat.reduceLeDiff, bind_s, ci1_r]
theorem bm_extra_5 (hB : isB H a b id f on g) (hk : b.1 = 5) : am_f X (d + 1) 56 [.ref a] (H, z) = some (.inl (some (.int (f 4))), (H, z)) := by
  have hwl := fun x => hB.wl (x := x)
  have hat := hB.at
  have hf0 := hB.1.2
  have h4 := hB.2.2.1
  obtain ⟨hf3, hn1, hn4⟩ := hB.n
  obtain ⟨k, wa, ca, oa⟩ := b
  dsimp only at hk hf0 hat h4 hwl
  subst hk
  simp only [Nat.reduceAdd] at hat
  have hci : am_ci1 ((H, z).1 a) = some 11 := by
    show am_ci1 (H a) = _
    rw [hat]
    rfl
  rw [fU_56]
  simp (disch := first | omega | exact hci | exact hat | exact Nat.le_of_ble_eq_true rfl) only [own_56, am_go dc_56_0, J_aload_0, K_al, ld_0, am_go dc_56_1, J_getfield, gf_r, fk_11_7_11, am_go dc_56_4, J_ret_i ret_56, hat, hwl, bFk5, lF0, lF1, lF2, lF3, lF4, lF5, i8_m4, JR_v, z32, zI_le, Nat.reduceLT, List.length_cons, List.length_nil, Nat.reduceAdd, Nat.reduceLeDiff, bind_s, ci1_r]
theorem bm_canPeep_0 (hB : isB H a b id f on g) (hk : b.1 = 0) : am_f X (d + 1) 35 [.ref a] (H, z) = some (.inl (some (.int (zB (decide (f 0 = zI 1))))), (H, z)) := by
  have hwl := fun x => hB.wl (x := x)
  have hat := hB.at
  have hf0 := hB.1.2
  have h4 := hB.2.2.1
  obtain ⟨hf3, hn1, hn4⟩ := hB.n
  obtain ⟨k, wa, ca, oa⟩ := b
  dsimp only at hk hf0 hat h4 hwl
  subst hk
  simp only [Nat.reduceAdd] at hat
  have hci : am_ci1 ((H, z).1 a) = some 6 := by
    show am_ci1 (H a) = _
    rw [hat]
    rfl
  rw [fU_35]
  simp (disch := first | omega | exact hci | exact hat | exact Nat.le_of_ble_eq_true rfl) only [own_35, am_go dc_35_0, J_iconst, c32_0, am_go dc_35_1, J_ret_z0 ret_35, J_ret_z1 ret_35, J_ret_zB ret_35, hat, hwl, bFk0, lF0, lF1, lF2, lF3, lF4, lF5, i8_m4, JR_v, z32, zI_le, Nat.reduceLT, List.length_cons, List.length_nil, Nat.reduceAdd, Nat.reduceLeDiff, bind_s, ci1_r]
  simp only [hf0]
  rfl
theorem bm_canPeep_1 (hB : isB H a b id f on g) (hk : b.1 = 1) : am_f X (d + 1) 34 [.ref a] (H, z) = some (.inl (some (.int (zB (decide (f 0 = zI 1))))), (H, z)) := by
  have hwl := fun x => hB.wl (x := x)
  have hat := hB.at
  have hf0 := hB.1.2
  have h4 := hB.2.2.1
  obtain ⟨hf3, hn1, hn4⟩ := hB.n
  obtain ⟨k, wa, ca, oa⟩ := b
  dsimp only at hk hf0 hat h4 hwl
  subst hk
  simp only [Nat.reduceAdd] at hat
  have hci : am_ci1 ((H, z).1 a) = some 7 := by
    show am_ci1 (H a) = _
    rw [hat]
    rfl
  rw [fU_34]
  simp (disch := first | omega | exact hci | exact hat | exact Nat.le_of_ble_eq_true rfl) only [own_34, am_go dc_34_0, J_iconst, c32_1, am_go dc_34_1, J_ret_z0 ret_34, J_ret_z1 ret_34, J_ret_zB ret_34, hat, hwl, bFk1, lF0, lF1, lF2, lF3, lF4, lF5, i8_m4, JR_v, z32, zI_le, Nat.reduceLT, List.length_cons, List.length_nil, Nat.reduceAdd, Nat.reduceLeDiff, bind_s, ci1_r]
  simp only [hf0]
  rfl
theorem bm_canPeep_2 (hB : isB H a b id f on g) (hk : b.1 = 2) : am_f X (d + 1) 35 [.ref a] (H, z) = some (.inl (some (.int (zB (decide (f 0 = zI 1))))), (H, z)) := by
  have hwl := fun x => hB.wl (x := x)
  have hat := hB.at
  have hf0 := hB.1.2
  have h4 := hB.2.2.1
  obtain ⟨hf3, hn1, hn4⟩ := hB.n
  obtain ⟨k, wa, ca, oa⟩ := b
  dsimp only at hk hf0 hat h4 hwl
  subst hk
  simp only [Nat.reduceAdd] at hat
  have hci : am_ci1 ((H, z).1 a) = some 8 := by
    show am_ci1 (H a) = _
    rw [hat]
    rfl
  rw [fU_35]
  simp (disch := first | omega | exact hci | exact hat | exact Nat.le_of_ble_eq_true rfl) only [own_35, am_go dc_35_0, J_iconst, c32_0, am_go dc_35_1, J_ret_z0 ret_35, J_ret_z1 ret_35, J_ret_zB ret_35, hat, hwl, bFk2, lF0, lF1, lF2, lF3, lF4, lF5, i8_m4, JR_v, z32, zI_le, Nat.reduceLT, List.length_cons, List.length_nil, Nat.reduceAdd, Nat.reduceLeDiff, bind_s, ci1_r]
  simp only [hf0]
  rfl
theorem bm_canPeep_3 (hB : isB H a b id f on g) (hk : b.1 = 3) : am_f X (d + 1) 35 [.ref a] (H, z) = some (.inl (some (.int (zB (decide (f 0 = zI 1))))), (H, z)) := by
  have hwl := fun x => hB.wl (x := x)
  have hat := hB.at
  have hf0 := hB.1.2
  have h4 := hB.2.2.1
  obtain ⟨hf3, hn1, hn4⟩ := hB.n
  obtain ⟨k, wa, ca, oa⟩ := b
  dsimp only at hk hf0 hat h4 hwl
  subst hk
  simp only [Nat.reduceAdd] at hat
  have hci : am_ci1 ((H, z).1 a) = some 9 := by
    show am_ci1 (H a) = _
    rw [hat]
    rfl
  rw [fU_35]
  simp (disch := first | omega | exact hci | exact hat | exact Nat.le_of_ble_eq_true rfl) only [own_35, am_go dc_35_0, J_iconst, c32_0, am_go dc_35_1, J_ret_z0 ret_35, J_ret_z1 ret_35, J_ret_zB ret_35, hat, hwl, bFk3, lF0, lF1, lF2, lF3, lF4, lF5, i8_m4, JR_v, z32, zI_le, Nat.reduceLT, List.length_cons, List.length_nil, Nat.reduceAdd, Nat.reduceLeDiff, bind_s, ci1_r]
  simp only [hf0]
  rfl
theorem bm_canPeep_4 (hB : isB H a b id f on g) (hk : b.1 = 4) : am_f X (d + 1) 35 [.ref a] (H, z) = some (.inl (some (.int (zB (decide (f 0 = zI 1))))), (H, z)) := by
  have hwl := fun x => hB.wl (x := x)
  have hat := hB.at
  have hf0 := hB.1.2
  have h4 := hB.2.2.1
  obtain ⟨hf3, hn1, hn4⟩ := hB.n
  obtain ⟨k, wa, ca, oa⟩ := b
  dsimp only at hk hf0 hat h4 hwl
  subst hk
  simp only [Nat.reduceAdd] at hat
  have hci : am_ci1 ((H, z).1 a) = some 10 := by
    show am_ci1 (H a) = _
    rw [hat]
    rfl
  rw [fU_35]
  simp (disch := first | omega | exact hci | exact hat | exact Nat.le_of_ble_eq_true rfl) only [own_35, am_go dc_35_0, J_iconst, c32_0, am_go dc_35_1, J_ret_z0 ret_35, J_ret_z1 ret_35, J_ret_zB ret_35, hat, hwl, bFk4, lF0, lF1, lF2, lF3, lF4, lF5, i8_m4, JR_v, z32, zI_le, Nat.reduceLT, List.length_cons, List.length_nil, Nat.reduceAdd, Nat.reduceLeDiff, bind_s, ci1_r]
  simp only [hf0]
  rfl
theorem bm_canPeep_5 (hB : isB H a b id f on g) (hk : b.1 = 5) : am_f X (d + 1) 35 [.ref a] (H, z) = some (.inl (some (.int (zB (decide (f 0 = zI 1))))), (H, z)) := by
  have hwl := fun x => hB.wl (x := x)
  have hat := hB.at
  have hf0 := hB.1.2
  have h4 := hB.2.2.1
  obtain ⟨hf3, hn1, hn4⟩ := hB.n
  obtain ⟨k, wa, ca, oa⟩ := b
  dsimp only at hk hf0 hat h4 hwl
  subst hk
  simp only [Nat.reduceAdd] at hat
  have hci : am_ci1 ((H, z).1 a) = some 11 := by
    show am_ci1 (H a) = _
    rw [hat]
    rfl
  rw [fU_35]
  simp (disch := first | omega | exact hci | exact hat | exact Nat.le_of_ble_eq_true rfl) only [own_35, am_go dc_35_0, J_iconst, c32_0, am_go dc_35_1, J_ret_z0 ret_35, J_ret_z1 ret_35, J_ret_zB ret_35, hat, hwl, bFk5, lF0, lF1, lF2, lF3, lF4, lF5, i8_m4, JR_v, z32, zI_le, Nat.reduceLT, List.length_cons, List.length_nil, Nat.reduceAdd, Nat.reduceLeDiff, bind_s, ci1_r]
  simp only [hf0]
  rfl
theorem bm_canTakeShut_0 (hB : isB H a b id f on g) (hk : b.1 = 0) : am_f X (d + 1) 115 [.ref a] (H, z) = some (.inl (some (.int (zB (decide (f 0 = zI 2))))), (H, z)) := by
  have hwl := fun x => hB.wl (x := x)
  have hat := hB.at
  have hf0 := hB.1.2
  have h4 := hB.2.2.1
  obtain ⟨hf3, hn1, hn4⟩ := hB.n
  obtain ⟨k, wa, ca, oa⟩ := b
  dsimp only at hk hf0 hat h4 hwl
  subst hk
  simp only [Nat.reduceAdd] at hat
  have hci : am_ci1 ((H, z).1 a) = some 6 := by
    show am_ci1 (H a) = _
    rw [hat]
    rfl
  rw [fU_115]
  simp (disch := first | omega | exact hci | exact hat | exact Nat.le_of_ble_eq_true rfl) only [own_115, am_go dc_115_0, J_iconst, c32_0, am_go dc_115_1, J_ret_z0 ret_115, J_ret_z1 ret_115, J_ret_zB ret_115, hat, hwl, bFk0, lF0, lF1, lF2, lF3, lF4, lF5, i8_m4, JR_v, z32, zI_le, Nat.reduceLT, List.length_cons, List.length_nil, Nat.reduceAdd, Nat.reduceLeDiff, bind_s, ci1_r]
  simp only [hf0]
  rfl
theorem bm_canTakeShut_1 (hB : isB H a b id f on g) (hk : b.1 = 1) : am_f X (d + 1) 115 [.ref a] (H, z) = some (.inl (some (.int (zB (decide (f 0 = zI 2))))), (H, z)) := by
  have hwl := fun x => hB.wl (x := x)
  have hat := hB.at
  have hf0 := hB.1.2
  have h4 := hB.2.2.1
  obtain ⟨hf3, hn1, hn4⟩ := hB.n
  obtain ⟨k, wa, ca, oa⟩ := b
  dsimp only at hk hf0 hat h4 hwl
  subst hk
  simp only [Nat.reduceAdd] at hat
  have hci : am_ci1 ((H, z).1 a) = some 7 := by
    show am_ci1 (H a) = _
    rw [hat]
    rfl
  rw [fU_115]
  simp (disch := first | omega | exact hci | exact hat | exact Nat.le_of_ble_eq_true rfl) only [own_115, am_go dc_115_0, J_iconst, c32_0, am_go dc_115_1, J_ret_z0 ret_115, J_ret_z1 ret_115, J_ret_zB ret_115, hat, hwl, bFk1, lF0, lF1, lF2, lF3, lF4, lF5, i8_m4, JR_v, z32, zI_le, Nat.reduceLT, List.length_cons, List.length_nil, Nat.reduceAdd, Nat.reduceLeDiff, bind_s, ci1_r]
  simp only [hf0]
  rfl
theorem bm_canTakeShut_2 (hB : isB H a b id f on g) (hk : b.1 = 2) : am_f X (d + 1) 114 [.ref a] (H, z) = some (.inl (some (.int (zB (decide (f 0 = zI 2))))), (H, z)) := by
  have hwl := fun x => hB.wl (x := x)
  have hat := hB.at
  have hf0 := hB.1.2
  have h4 := hB.2.2.1
  obtain ⟨hf3, hn1, hn4⟩ := hB.n
  obtain ⟨k, wa, ca, oa⟩ := b
  dsimp only at hk hf0 hat h4 hwl
  subst hk
  simp only [Nat.reduceAdd] at hat
  have hci : am_ci1 ((H, z).1 a) = some 8 := by
    show am_ci1 (H a) = _
    rw [hat]
    rfl
  rw [fU_114]
  simp (disch := first | omega | exact hci | exact hat | exact Nat.le_of_ble_eq_true rfl) only [own_114, am_go dc_114_0, J_iconst, c32_1, am_go dc_114_1, J_ret_z0 ret_114, J_ret_z1 ret_114, J_ret_zB ret_114, hat, hwl, bFk2, lF0, lF1, lF2, lF3, lF4, lF5, i8_m4, JR_v, z32, zI_le, Nat.reduceLT, List.length_cons, List.length_nil, Nat.reduceAdd, Nat.reduceLeDiff, bind_s, ci1_r]
  simp only [hf0]
  rfl
theorem bm_canTakeShut_3 (hB : isB H a b id f on g) (hk : b.1 = 3) : am_f X (d + 1) 115 [.ref a] (H, z) = some (.inl (some (.int (zB (decide (f 0 = zI 2))))), (H, z)) := by
  have hwl := fun x => hB.wl (x := x)
  have hat := hB.at
  have hf0 := hB.1.2
  have h4 := hB.2.2.1
  obtain ⟨hf3, hn1, hn4⟩ := hB.n
  obtain ⟨k, wa, ca, oa⟩ := b
  dsimp only at hk hf0 hat h4 hwl
  subst hk
  simp only [Nat.reduceAdd] at hat
  have hci : am_ci1 ((H, z).1 a) = some 9 := by
    show am_ci1 (H a) = _
    rw [hat]
    rfl
  rw [fU_115]
  simp (disch := first | omega | exact hci | exact hat | exact Nat.le_of_ble_eq_true rfl) only [own_115, am_go dc_115_0, J_iconst, c32_0, am_go dc_115_1, J_ret_z0 ret_115, J_ret_z1 ret_115, J_ret_zB ret_115, hat, hwl, bFk3, lF0, lF1, lF2, lF3, lF4, lF5, i8_m4, JR_v, z32, zI_le, Nat.reduceLT, List.length_cons, List.length_nil, Nat.reduceAdd, Nat.reduceLeDiff, bind_s, ci1_r]
  simp only [hf0]
  rfl
theorem bm_canTakeShut_4 (hB : isB H a b id f on g) (hk : b.1 = 4) : am_f X (d + 1) 115 [.ref a] (H, z) = some (.inl (some (.int (zB (decide (f 0 = zI 2))))), (H, z)) := by
  have hwl := fun x => hB.wl (x := x)
  have hat := hB.at
  have hf0 := hB.1.2
  have h4 := hB.2.2.1
  obtain ⟨hf3, hn1, hn4⟩ := hB.n
  obtain ⟨k, wa, ca, oa⟩ := b
  dsimp only at hk hf0 hat h4 hwl
  subst hk
  simp only [Nat.reduceAdd] at hat
  have hci : am_ci1 ((H, z).1 a) = some 10 := by
    show am_ci1 (H a) = _
    rw [hat]
    rfl
  rw [fU_115]
  simp (disch := first | omega | exact hci | exact hat | exact Nat.le_of_ble_eq_true rfl) only [own_115, am_go dc_115_0, J_iconst, c32_0, am_go dc_115_1, J_ret_z0 ret_115, J_ret_z1 ret_115, J_ret_zB ret_115, hat, hwl, bFk4, lF0, lF1, lF2, lF3, lF4, lF5, i8_m4, JR_v, z32, zI_le, Nat.reduceLT, List.length_cons, List.length_nil, Nat.reduceAdd, Nat.reduceLeDiff, bind_s, ci1_r]
  simp only [hf0]
  rfl
theorem bm_canTakeShut_5 (hB : isB H a b id f on g) (hk : b.1 = 5) : am_f X (d + 1) 115 [.ref a] (H, z) = some (.inl (some (.int (zB (decide (f 0 = zI 2))))), (H, z)) := by
  have hwl := fun x => hB.wl (x := x)
  have hat := hB.at
  have hf0 := hB.1.2
  have h4 := hB.2.2.1
  obtain ⟨hf3, hn1, hn4⟩ := hB.n
  obtain ⟨k, wa, ca, oa⟩ := b
  dsimp only at hk hf0 hat h4 hwl
  subst hk
  simp only [Nat.reduceAdd] at hat
  have hci : am_ci1 ((H, z).1 a) = some 11 := by
    show am_ci1 (H a) = _
    rw [hat]
    rfl
  rw [fU_115]
  simp (disch := first | omega | exact hci | exact hat | exact Nat.le_of_ble_eq_true rfl) only [own_115, am_go dc_115_0, J_iconst, c32_0, am_go dc_115_1, J_ret_z0 ret_115, J_ret_z1 ret_115, J_ret_zB ret_115, hat, hwl, bFk5, lF0, lF1, lF2, lF3, lF4, lF5, i8_m4, JR_v, z32, zI_le, Nat.reduceLT, List.length_cons, List.length_nil, Nat.reduceAdd, Nat.reduceLeDiff, bind_s, ci1_r]
  simp only [hf0]
  rfl
theorem bm_opensAmid_0 {x0 : Int32} {x1 : Int32} (hB : isB H a b id f on g) (hk : b.1 = 0) : am_f X (d + 1) 83 [.ref a, .int x0, .int x1] (H, z) = some (.inl (some (.int (zB (bAmid f x0 x1)))), (H, z)) := by
  have hwl := fun x => hB.wl (x := x)
  have hat := hB.at
  have hf0 := hB.1.2
  have h4 := hB.2.2.1
  obtain ⟨hf3, hn1, hn4⟩ := hB.n
  obtain ⟨k, wa, ca, oa⟩ := b
  dsimp only at hk hf0 hat h4 hwl
  subst hk
  simp only [Nat.reduceAdd] at hat
  have hci : am_ci1 ((H, z).1 a) = some 6 := by
    show am_ci1 (H a) = _
    rw [hat]
    rfl
  rw [fU_83]
  simp (disch := first | omega | exact hci | exact hat | exact Nat.le_of_ble_eq_true rfl) only [own_83, am_go dc_83_0, J_iconst, c32_1, am_go dc_83_1, J_ret_z0 ret_83, J_ret_z1 ret_83, J_ret_zB ret_83, hat, hwl, bFk0, lF0, lF1, lF2, lF3, lF4, lF5, i8_m4, JR_v, z32, zI_le, Nat.reduceLT, List.length_cons, List.length_nil, Nat.reduceAdd, Nat.reduceLeDiff, bind_s, ci1_r]
  unfold bAmid
  simp only [hf0, zI_eq (show 0 < 2147483648 by omega) (show 3 < 2147483648 by omega), zI_eq (show 0 < 2147483648 by omega) (show 5 < 2147483648 by omega), Nat.reduceEqDiff, if_true, if_false]
  rfl
theorem bm_opensAmid_1 {x0 : Int32} {x1 : Int32} (hB : isB H a b id f on g) (hk : b.1 = 1) : am_f X (d + 1) 83 [.ref a, .int x0, .int x1] (H, z) = some (.inl (some (.int (zB (bAmid f x0 x1)))), (H, z)) := by
  have hwl := fun x => hB.wl (x := x)
  have hat := hB.at
  have hf0 := hB.1.2
  have h4 := hB.2.2.1
  obtain ⟨hf3, hn1, hn4⟩ := hB.n
  obtain ⟨k, wa, ca, oa⟩ := b
  dsimp only at hk hf0 hat h4 hwl
  subst hk
  simp only [Nat.reduceAdd] at hat
  have hci : am_ci1 ((H, z).1 a) = some 7 := by
    show am_ci1 (H a) = _
    rw [hat]
    rfl
  rw [fU_83]
  simp (disch := first | omega | exact hci | exact hat | exact Nat.le_of_ble_eq_true rfl) only [own_83, am_go dc_83_0, J_iconst, c32_1, am_go dc_83_1, J_ret_z0 ret_83, J_ret_z1 ret_83, J_ret_zB ret_83, hat, hwl, bFk1, lF0, lF1, lF2, lF3, lF4, lF5, i8_m4, JR_v, z32, zI_le, Nat.reduceLT, List.length_cons, List.length_nil, Nat.reduceAdd, Nat.reduceLeDiff, bind_s, ci1_r]
  unfold bAmid
  simp only [hf0, zI_eq (show 1 < 2147483648 by omega) (show 3 < 2147483648 by omega), zI_eq (show 1 < 2147483648 by omega) (show 5 < 2147483648 by omega), Nat.reduceEqDiff, if_true, if_false]
  rfl
theorem bm_opensAmid_2 {x0 : Int32} {x1 : Int32} (hB : isB H a b id f on g) (hk : b.1 = 2) : am_f X (d + 1) 83 [.ref a, .int x0, .int x1] (H, z) = some (.inl (some (.int (zB (bAmid f x0 x1)))), (H, z)) := by
  have hwl := fun x => hB.wl (x := x)
  have hat := hB.at
  have hf0 := hB.1.2
  have h4 := hB.2.2.1
  obtain ⟨hf3, hn1, hn4⟩ := hB.n
  obtain ⟨k, wa, ca, oa⟩ := b
  dsimp only at hk hf0 hat h4 hwl
  subst hk
  simp only [Nat.reduceAdd] at hat
  have hci : am_ci1 ((H, z).1 a) = some 8 := by
    show am_ci1 (H a) = _
    rw [hat]
    rfl
  rw [fU_83]
  simp (disch := first | omega | exact hci | exact hat | exact Nat.le_of_ble_eq_true rfl) only [own_83, am_go dc_83_0, J_iconst, c32_1, am_go dc_83_1, J_ret_z0 ret_83, J_ret_z1 ret_83, J_ret_zB ret_83, hat, hwl, bFk2, lF0, lF1, lF2, lF3, lF4, lF5, i8_m4, JR_v, z32, zI_le, Nat.reduceLT, List.length_cons, List.length_nil, Nat.reduceAdd, Nat.reduceLeDiff, bind_s, ci1_r]
  unfold bAmid
  simp only [hf0, zI_eq (show 2 < 2147483648 by omega) (show 3 < 2147483648 by omega), zI_eq (show 2 < 2147483648 by omega) (show 5 < 2147483648 by omega), Nat.reduceEqDiff, if_true, if_false]
  rfl
theorem bm_opensAmid_3 {x0 : Int32} {x1 : Int32} (hB : isB H a b id f on g) (hk : b.1 = 3) : am_f X (d + 1) 80 [.ref a, .int x0, .int x1] (H, z) = some (.inl (some (.int (zB (bAmid f x0 x1)))), (H, z)) := by
  have hwl := fun x => hB.wl (x := x)
  have hat := hB.at
  have hf0 := hB.1.2
  have h4 := hB.2.2.1
  obtain ⟨hf3, hn1, hn4⟩ := hB.n
  obtain ⟨k, wa, ca, oa⟩ := b
  dsimp only at hk hf0 hat h4 hwl
  subst hk
  simp only [Nat.reduceAdd] at hat
  have hci : am_ci1 ((H, z).1 a) = some 9 := by
    show am_ci1 (H a) = _
    rw [hat]
    rfl
  rw [fU_80]
  simp (disch := first | omega | exact hci | exact hat | exact Nat.le_of_ble_eq_true rfl) only [own_80, am_go dc_80_0, J_iload_1, K_il, ld_1, am_go dc_80_1, J_iconst, c32_1, am_go dc_80_2, J_aload_0, K_al, ld_0, am_go dc_80_3, J_getfield, gf_r, fk_9_7_9, am_go dc_80_6, J_ishl, am_go dc_80_7, J_iand, am_go dc_80_8, J_if_eq, am_go dc_80_11, am_go dc_80_12, J_goto, am_go dc_80_15, c32_0, am_go dc_80_16, J_ret_z0 ret_80, J_ret_z1 ret_80, J_ret_zB ret_80, hat, hwl, bFk3, lF0, lF1, lF2, lF3, lF4, lF5, i8_m4, JR_v, z32, zI_le, Nat.reduceLT, List.length_cons, List.length_nil, Nat.reduceAdd, Nat.reduceLeDiff, bind_s, ci1_r]
  unfold bAmid
  simp only [hf0, zI_eq (show 3 < 2147483648 by omega) (show 3 < 2147483648 by omega), zI_eq (show 3 < 2147483648 by omega) (show 5 < 2147483648 by omega), Nat.reduceEqDiff, if_true, if_false]
  unfold zB
  by_cases e : x0 &&& zI 1 <<< (f 4 &&& 31) = 0 <;> simp [e]
theorem bm_opensAmid_4 {x0 : Int32} {x1 : Int32} (hB : isB H a b id f on g) (hk : b.1 = 4) : am_f X (d + 1) 81 [.ref a, .int x0, .int x1] (H, z) = some (.inl (some (.int (zB (bAmid f x0 x1)))), (H, z)) := by
  have hwl := fun x => hB.wl (x := x)
  have hat := hB.at
  have hf0 := hB.1.2
  have h4 := hB.2.2.1
  obtain ⟨hf3, hn1, hn4⟩ := hB.n
  obtain ⟨k, wa, ca, oa⟩ := b
  dsimp only at hk hf0 hat h4 hwl
  subst hk
  simp only [Nat.reduceAdd] at hat
  have hci : am_ci1 ((H, z).1 a) = some 10 := by
    show am_ci1 (H a) = _
    rw [hat]
    rfl
  rw [fU_81]
  simp (disch := first | omega | exact hci | exact hat | exact Nat.le_of_ble_eq_true rfl) only [own_81, am_go dc_81_0, J_iconst, c32_1, am_go dc_81_1, J_ret_z0 ret_81, J_ret_z1 ret_81, J_ret_zB ret_81, hat, hwl, bFk4, lF0, lF1, lF2, lF3, lF4, lF5, i8_m4, JR_v, z32, zI_le, Nat.reduceLT, List.length_cons, List.length_nil, Nat.reduceAdd, Nat.reduceLeDiff, bind_s, ci1_r]
  unfold bAmid
  simp only [hf0, zI_eq (show 4 < 2147483648 by omega) (show 3 < 2147483648 by omega), zI_eq (show 4 < 2147483648 by omega) (show 5 < 2147483648 by omega), Nat.reduceEqDiff, if_true, if_false]
  rfl
theorem bm_opensAmid_5 {x0 : Int32} {x1 : Int32} (hB : isB H a b id f on g) (hk : b.1 = 5) : am_f X (d + 1) 82 [.ref a, .int x0, .int x1] (H, z) = some (.inl (some (.int (zB (bAmid f x0 x1)))), (H, z)) := by
  have hwl := fun x => hB.wl (x := x)
  have hat := hB.at
  have hf0 := hB.1.2
  have h4 := hB.2.2.1
  obtain ⟨hf3, hn1, hn4⟩ := hB.n
  obtain ⟨k, wa, ca, oa⟩ := b
  dsimp only at hk hf0 hat h4 hwl
  subst hk
  simp only [Nat.reduceAdd] at hat
  have hci : am_ci1 ((H, z).1 a) = some 11 := by
    show am_ci1 (H a) = _
    rw [hat]
    rfl
  rw [fU_82]
  simp (disch := first | omega | exact hci | exact hat | exact Nat.le_of_ble_eq_true rfl) only [own_82, am_go dc_82_0, J_iload_2, K_il, ld_2, am_go dc_82_1, J_aload_0, K_al, ld_0, am_go dc_82_2, J_getfield, gf_r, fk_11_7_11, am_go dc_82_5, J_icmp_ge, am_go dc_82_8, J_iconst, c32_1, am_go dc_82_9, J_goto, am_go dc_82_12, c32_0, am_go dc_82_13, J_ret_z0 ret_82, J_ret_z1 ret_82, J_ret_zB ret_82, hat, hwl, bFk5, lF0, lF1, lF2, lF3, lF4, lF5, i8_m4, JR_v, z32, zI_le, Nat.reduceLT, List.length_cons, List.length_nil, Nat.reduceAdd, Nat.reduceLeDiff, bind_s, ci1_r]
  unfold bAmid
  simp only [hf0, zI_eq (show 5 < 2147483648 by omega) (show 3 < 2147483648 by omega), zI_eq (show 5 < 2147483648 by omega) (show 5 < 2147483648 by omega), Nat.reduceEqDiff, if_true, if_false]
  unfold zB
  by_cases h9 : f 4 ≤ x1
  · have h8 : ¬ x1 < f 4 := Int32.not_lt.mpr h9
    simp [h9, h8]
  · have h8 : x1 < f 4 := Int32.not_le.mp h9
    simp [h9, h8]
theorem bm_heft_0 (hB : isB H a b id f on g) (hk : b.1 = 0) : am_f X (d + 3) 177 [.ref a] (H, z) = some (.inl (some (.int (bHeft f))), (H, z)) := by
  have hwl := fun x => hB.wl (x := x)
  have hat := hB.at
  have hf0 := hB.1.2
  have h4 := hB.2.2.1
  obtain ⟨hf3, hn1, hn4⟩ := hB.n
  obtain ⟨k, wa, ca, oa⟩ := b
  dsimp only at hk hf0 hat h4 hwl
  subst hk
  simp only [Nat.reduceAdd] at hat
  have hci : am_ci1 ((H, z).1 a) = some 6 := by
    show am_ci1 (H a) = _
    rw [hat]
    rfl
  have f177 : ∀ d, am_f X (d + 1) 177 [.ref a] (H, z) = some (.inl (some (.int (f 1 + f 2))), (H, z)) := by
    intro d
    rw [fU_177]
    simp (disch := first | omega | exact hci | exact hat | exact Nat.le_of_ble_eq_true rfl) only [own_177, am_go dc_177_0, J_aload_0, K_al, ld_0, am_go dc_177_1, J_getfield, gf_r, fk_6_15_6, am_go dc_177_4, am_go dc_177_5, fk_6_18_6, am_go dc_177_8, J_iadd, am_go dc_177_9, J_ret_i ret_177, hat, hwl, bFk0, lF0, lF1, lF2, lF3, lF4, lF5, i8_m4, JR_v, z32, zI_le, Nat.reduceLT, List.length_cons, List.length_nil, Nat.reduceAdd, Nat.reduceLeDiff, bind_s, ci1_r]
  rw [fU_177]
  simp (disch := first | omega | exact hci | exact hat | exact Nat.le_of_ble_eq_true rfl) only [own_177, am_go dc_177_0, J_aload_0, K_al, ld_0, am_go dc_177_1, J_getfield, gf_r, fk_6_15_6, am_go dc_177_4, am_go dc_177_5, fk_6_18_6, am_go dc_177_8, J_iadd, am_go dc_177_9, J_ret_i ret_177, hat, hwl, bFk0, lF0, lF1, lF2, lF3, lF4, lF5, i8_m4, f177, JR_v, z32, zI_le, Nat.reduceLT, List.length_cons, List.length_nil, Nat.reduceAdd, Nat.reduceLeDiff, bind_s, ci1_r]
  unfold bHeft
  simp only [hf0]
  rfl
theorem bm_heft_1 (hB : isB H a b id f on g) (hk : b.1 = 1) : am_f X (d + 3) 175 [.ref a] (H, z) = some (.inl (some (.int (bHeft f))), (H, z)) := by
  have hwl := fun x => hB.wl (x := x)
  have hat := hB.at
  have hf0 := hB.1.2
  have h4 := hB.2.2.1
  obtain ⟨hf3, hn1, hn4⟩ := hB.n
  obtain ⟨k, wa, ca, oa⟩ := b
  dsimp only at hk hf0 hat h4 hwl
  subst hk
  simp only [Nat.reduceAdd] at hat
  have hci : am_ci1 ((H, z).1 a) = some 7 := by
    show am_ci1 (H a) = _
    rw [hat]
    rfl
  have f177 : ∀ d, am_f X (d + 1) 177 [.ref a] (H, z) = some (.inl (some (.int (f 1 + f 2))), (H, z)) := by
    intro d
    rw [fU_177]
    simp (disch := first | omega | exact hci | exact hat | exact Nat.le_of_ble_eq_true rfl) only [own_177, am_go dc_177_0, J_aload_0, K_al, ld_0, am_go dc_177_1, J_getfield, gf_r, fk_6_15_7, am_go dc_177_4, am_go dc_177_5, fk_6_18_7, am_go dc_177_8, J_iadd, am_go dc_177_9, J_ret_i ret_177, hat, hwl, bFk1, lF0, lF1, lF2, lF3, lF4, lF5, i8_m4, JR_v, z32, zI_le, Nat.reduceLT, List.length_cons, List.length_nil, Nat.reduceAdd, Nat.reduceLeDiff, bind_s, ci1_r]
  rw [fU_175]
  simp (disch := first | omega | exact hci | exact hat | exact Nat.le_of_ble_eq_true rfl) only [own_175, am_go dc_175_0, J_aload_0, K_al, ld_0, am_go dc_175_1, cu_7_29 own_175, JR_v, am_go dc_175_4, am_go dc_175_5, J_getfield, gf_r, fk_7_7_7, am_go dc_175_8, J_iadd, am_go dc_175_9, J_ret_i ret_175, hat, hwl, bFk1, lF0, lF1, lF2, lF3, lF4, lF5, i8_m4, f177, z32, zI_le, Nat.reduceLT, List.length_cons, List.length_nil, Nat.reduceAdd, Nat.reduceLeDiff, bind_s, ci1_r]
  unfold bHeft
  simp only [hf0]
  rfl
theorem bm_heft_2 (hB : isB H a b id f on g) (hk : b.1 = 2) : am_f X (d + 3) 173 [.ref a] (H, z) = some (.inl (some (.int (bHeft f))), (H, z)) := by
  have hwl := fun x => hB.wl (x := x)
  have hat := hB.at
  have hf0 := hB.1.2
  have h4 := hB.2.2.1
  obtain ⟨hf3, hn1, hn4⟩ := hB.n
  obtain ⟨k, wa, ca, oa⟩ := b
  dsimp only at hk hf0 hat h4 hwl
  subst hk
  simp only [Nat.reduceAdd] at hat
  have hci : am_ci1 ((H, z).1 a) = some 8 := by
    show am_ci1 (H a) = _
    rw [hat]
    rfl
  have f177 : ∀ d, am_f X (d + 1) 177 [.ref a] (H, z) = some (.inl (some (.int (f 1 + f 2))), (H, z)) := by
    intro d
    rw [fU_177]
    simp (disch := first | omega | exact hci | exact hat | exact Nat.le_of_ble_eq_true rfl) only [own_177, am_go dc_177_0, J_aload_0, K_al, ld_0, am_go dc_177_1, J_getfield, gf_r, fk_6_15_8, am_go dc_177_4, am_go dc_177_5, fk_6_18_8, am_go dc_177_8, J_iadd, am_go dc_177_9, J_ret_i ret_177, hat, hwl, bFk2, lF0, lF1, lF2, lF3, lF4, lF5, i8_m4, JR_v, z32, zI_le, Nat.reduceLT, List.length_cons, List.length_nil, Nat.reduceAdd, Nat.reduceLeDiff, bind_s, ci1_r]
  rw [fU_173]
  simp (disch := first | omega | exact hci | exact hat | exact Nat.le_of_ble_eq_true rfl) only [own_173, am_go dc_173_0, J_iconst, c32_2, am_go dc_173_1, J_aload_0, K_al, ld_0, am_go dc_173_2, cu_8_24 own_173, JR_v, am_go dc_173_5, J_imul, am_go dc_173_6, J_ret_i ret_173, hat, hwl, bFk2, lF0, lF1, lF2, lF3, lF4, lF5, i8_m4, f177, z32, zI_le, Nat.reduceLT, List.length_cons, List.length_nil, Nat.reduceAdd, Nat.reduceLeDiff, bind_s, ci1_r]
  unfold bHeft
  simp only [hf0]
  rfl
theorem bm_heft_3 (hB : isB H a b id f on g) (hk : b.1 = 3) : am_f X (d + 3) 172 [.ref a] (H, z) = some (.inl (some (.int (bHeft f))), (H, z)) := by
  have hwl := fun x => hB.wl (x := x)
  have hat := hB.at
  have hf0 := hB.1.2
  have h4 := hB.2.2.1
  obtain ⟨hf3, hn1, hn4⟩ := hB.n
  obtain ⟨k, wa, ca, oa⟩ := b
  dsimp only at hk hf0 hat h4 hwl
  subst hk
  simp only [Nat.reduceAdd] at hat
  have hci : am_ci1 ((H, z).1 a) = some 9 := by
    show am_ci1 (H a) = _
    rw [hat]
    rfl
  have f177 : ∀ d, am_f X (d + 1) 177 [.ref a] (H, z) = some (.inl (some (.int (f 1 + f 2))), (H, z)) := by
    intro d
    rw [fU_177]
    simp (disch := first | omega | exact hci | exact hat | exact Nat.le_of_ble_eq_true rfl) only [own_177, am_go dc_177_0, J_aload_0, K_al, ld_0, am_go dc_177_1, J_getfield, gf_r, fk_6_15_9, am_go dc_177_4, am_go dc_177_5, fk_6_18_9, am_go dc_177_8, J_iadd, am_go dc_177_9, J_ret_i ret_177, hat, hwl, bFk3, lF0, lF1, lF2, lF3, lF4, lF5, i8_m4, JR_v, z32, zI_le, Nat.reduceLT, List.length_cons, List.length_nil, Nat.reduceAdd, Nat.reduceLeDiff, bind_s, ci1_r]
  rw [fU_172]
  simp (disch := first | omega | exact hci | exact hat | exact Nat.le_of_ble_eq_true rfl) only [own_172, am_go dc_172_0, J_aload_0, K_al, ld_0, am_go dc_172_1, cu_9_29 own_172, JR_v, am_go dc_172_4, J_bipush, c8_10, am_go dc_172_6, J_iadd, am_go dc_172_7, J_ret_i ret_172, hat, hwl, bFk3, lF0, lF1, lF2, lF3, lF4, lF5, i8_m4, f177, z32, zI_le, Nat.reduceLT, List.length_cons, List.length_nil, Nat.reduceAdd, Nat.reduceLeDiff, bind_s, ci1_r]
  unfold bHeft
  simp only [hf0]
  rfl
theorem bm_heft_4 (hB : isB H a b id f on g) (hk : b.1 = 4) : am_f X (d + 3) 174 [.ref a] (H, z) = some (.inl (some (.int (bHeft f))), (H, z)) := by
  have hwl := fun x => hB.wl (x := x)
  have hat := hB.at
  have hf0 := hB.1.2
  have h4 := hB.2.2.1
  obtain ⟨hf3, hn1, hn4⟩ := hB.n
  obtain ⟨k, wa, ca, oa⟩ := b
  dsimp only at hk hf0 hat h4 hwl
  subst hk
  simp only [Nat.reduceAdd] at hat
  have hci : am_ci1 ((H, z).1 a) = some 10 := by
    show am_ci1 (H a) = _
    rw [hat]
    rfl
  have f177 : ∀ d, am_f X (d + 1) 177 [.ref a] (H, z) = some (.inl (some (.int (f 1 + f 2))), (H, z)) := by
    intro d
    rw [fU_177]
    simp (disch := first | omega | exact hci | exact hat | exact Nat.le_of_ble_eq_true rfl) only [own_177, am_go dc_177_0, J_aload_0, K_al, ld_0, am_go dc_177_1, J_getfield, gf_r, fk_6_15_10, am_go dc_177_4, am_go dc_177_5, fk_6_18_10, am_go dc_177_8, J_iadd, am_go dc_177_9, J_ret_i ret_177, hat, hwl, bFk4, lF0, lF1, lF2, lF3, lF4, lF5, i8_m4, JR_v, z32, zI_le, Nat.reduceLT, List.length_cons, List.length_nil, Nat.reduceAdd, Nat.reduceLeDiff, bind_s, ci1_r]
  have f172 : ∀ d, am_f X (d + 2) 172 [.ref a] (H, z) = some (.inl (some (.int (f 1 + f 2 + zI 10))), (H, z)) := by
    intro d
    rw [fU_172]
    simp (disch := first | omega | exact hci | exact hat | exact Nat.le_of_ble_eq_true rfl) only [own_172, am_go dc_172_0, J_aload_0, K_al, ld_0, am_go dc_172_1, cu_9_29 own_172, JR_v, am_go dc_172_4, J_bipush, c8_10, am_go dc_172_6, J_iadd, am_go dc_172_7, J_ret_i ret_172, hat, hwl, bFk4, lF0, lF1, lF2, lF3, lF4, lF5, i8_m4, f177, z32, zI_le, Nat.reduceLT, List.length_cons, List.length_nil, Nat.reduceAdd, Nat.reduceLeDiff, bind_s, ci1_r]
  rw [fU_174]
  simp (disch := first | omega | exact hci | exact hat | exact Nat.le_of_ble_eq_true rfl) only [own_174, am_go dc_174_0, J_aload_0, K_al, ld_0, am_go dc_174_1, cu_10_32 own_174, JR_v, am_go dc_174_4, J_iconst, c32_5, am_go dc_174_5, J_iadd, am_go dc_174_6, J_ret_i ret_174, hat, hwl, bFk4, lF0, lF1, lF2, lF3, lF4, lF5, i8_m4, f177, f172, z32, zI_le, Nat.reduceLT, List.length_cons, List.length_nil, Nat.reduceAdd, Nat.reduceLeDiff, bind_s, ci1_r]
  unfold bHeft
  simp only [hf0]
  rfl
theorem bm_heft_5 (hB : isB H a b id f on g) (hk : b.1 = 5) : am_f X (d + 3) 176 [.ref a] (H, z) = some (.inl (some (.int (bHeft f))), (H, z)) := by
  have hwl := fun x => hB.wl (x := x)
  have hat := hB.at
  have hf0 := hB.1.2
  have h4 := hB.2.2.1
  obtain ⟨hf3, hn1, hn4⟩ := hB.n
  obtain ⟨k, wa, ca, oa⟩ := b
  dsimp only at hk hf0 hat h4 hwl
  subst hk
  simp only [Nat.reduceAdd] at hat
  have hci : am_ci1 ((H, z).1 a) = some 11 := by
    show am_ci1 (H a) = _
    rw [hat]
    rfl
  have f177 : ∀ d, am_f X (d + 1) 177 [.ref a] (H, z) = some (.inl (some (.int (f 1 + f 2))), (H, z)) := by
    intro d
    rw [fU_177]
    simp (disch := first | omega | exact hci | exact hat | exact Nat.le_of_ble_eq_true rfl) only [own_177, am_go dc_177_0, J_aload_0, K_al, ld_0, am_go dc_177_1, J_getfield, gf_r, fk_6_15_11, am_go dc_177_4, am_go dc_177_5, fk_6_18_11, am_go dc_177_8, J_iadd, am_go dc_177_9, J_ret_i ret_177, hat, hwl, bFk5, lF0, lF1, lF2, lF3, lF4, lF5, i8_m4, JR_v, z32, zI_le, Nat.reduceLT, List.length_cons, List.length_nil, Nat.reduceAdd, Nat.reduceLeDiff, bind_s, ci1_r]
  rw [fU_176]
  simp (disch := first | omega | exact hci | exact hat | exact Nat.le_of_ble_eq_true rfl) only [own_176, am_go dc_176_0, J_aload_0, K_al, ld_0, am_go dc_176_1, cu_11_29 own_176, JR_v, am_go dc_176_4, am_go dc_176_5, J_getfield, gf_r, fk_11_16_11, am_go dc_176_8, J_isub, am_go dc_176_9, am_go dc_176_10, fk_11_7_11, am_go dc_176_13, J_iadd, am_go dc_176_14, J_ret_i ret_176, hat, hwl, bFk5, lF0, lF1, lF2, lF3, lF4, lF5, i8_m4, f177, z32, zI_le, Nat.reduceLT, List.length_cons, List.length_nil, Nat.reduceAdd, Nat.reduceLeDiff, bind_s, ci1_r]
  unfold bHeft
  simp only [hf0]
  rfl
theorem bm_canFail_0 (hB : isB H a b id f on g) (hk : b.1 = 0) : am_f X (d + 2) 181 [.ref a] (H, z) = some (.inl (some (.int (zB (bFails f)))), (H, z)) := by
  have hwl := fun x => hB.wl (x := x)
  have hat := hB.at
  have hf0 := hB.1.2
  have h4 := hB.2.2.1
  obtain ⟨hf3, hn1, hn4⟩ := hB.n
  obtain ⟨k, wa, ca, oa⟩ := b
  dsimp only at hk hf0 hat h4 hwl
  subst hk
  simp only [Nat.reduceAdd] at hat
  have hci : am_ci1 ((H, z).1 a) = some 6 := by
    show am_ci1 (H a) = _
    rw [hat]
    rfl
  have f22 : ∀ d, am_f X (d + 1) 22 [.ref a] (H, z) = some (.inl (some (.int (zI (wN (f 3))))), (H, z)) := fun d => bm_steps_0 (b := (0, wa, ca, oa)) hB rfl
  rw [fU_181]
  simp (disch := first | omega | exact hci | exact hat | exact Nat.le_of_ble_eq_true rfl) only [own_181, am_go dc_181_0, J_aload_0, K_al, ld_0, am_go dc_181_1, cv_6_31_6 own_181, JR_v, JR_0, JR_ite, ci1_r, am_go dc_181_4, J_iconst, c32_1, am_go dc_181_5, J_icmp_le, am_go dc_181_8, am_go dc_181_9, J_goto, am_go dc_181_12, c32_0, am_go dc_181_13, J_ret_z0 ret_181, J_ret_z1 ret_181, J_ret_zB ret_181, hat, hwl, bFk0, lF0, lF1, lF2, lF3, lF4, lF5, i8_m4, f22, z32, zI_le, Nat.reduceLT, List.length_cons, List.length_nil, Nat.reduceAdd, Nat.reduceLeDiff, bind_s]
  unfold bFails
  simp only [hf0]
  have e : decide (zI 0 = zI 2) = false := by decide
  rw [e]
  by_cases h9 : 1 < wN (f 3)
  · have h8 : ¬ wN (f 3) ≤ 1 := by omega
    simp [h9, h8, zB]
  · have h8 : wN (f 3) ≤ 1 := by omega
    simp [h9, h8, zB]
theorem bm_canFail_1 (hB : isB H a b id f on g) (hk : b.1 = 1) : am_f X (d + 2) 181 [.ref a] (H, z) = some (.inl (some (.int (zB (bFails f)))), (H, z)) := by
  have hwl := fun x => hB.wl (x := x)
  have hat := hB.at
  have hf0 := hB.1.2
  have h4 := hB.2.2.1
  obtain ⟨hf3, hn1, hn4⟩ := hB.n
  obtain ⟨k, wa, ca, oa⟩ := b
  dsimp only at hk hf0 hat h4 hwl
  subst hk
  simp only [Nat.reduceAdd] at hat
  have hci : am_ci1 ((H, z).1 a) = some 7 := by
    show am_ci1 (H a) = _
    rw [hat]
    rfl
  have f22 : ∀ d, am_f X (d + 1) 22 [.ref a] (H, z) = some (.inl (some (.int (zI (wN (f 3))))), (H, z)) := fun d => bm_steps_1 (b := (1, wa, ca, oa)) hB rfl
  rw [fU_181]
  simp (disch := first | omega | exact hci | exact hat | exact Nat.le_of_ble_eq_true rfl) only [own_181, am_go dc_181_0, J_aload_0, K_al, ld_0, am_go dc_181_1, cv_6_31_7 own_181, JR_v, JR_0, JR_ite, ci1_r, am_go dc_181_4, J_iconst, c32_1, am_go dc_181_5, J_icmp_le, am_go dc_181_8, am_go dc_181_9, J_goto, am_go dc_181_12, c32_0, am_go dc_181_13, J_ret_z0 ret_181, J_ret_z1 ret_181, J_ret_zB ret_181, hat, hwl, bFk1, lF0, lF1, lF2, lF3, lF4, lF5, i8_m4, f22, z32, zI_le, Nat.reduceLT, List.length_cons, List.length_nil, Nat.reduceAdd, Nat.reduceLeDiff, bind_s]
  unfold bFails
  simp only [hf0]
  have e : decide (zI 1 = zI 2) = false := by decide
  rw [e]
  by_cases h9 : 1 < wN (f 3)
  · have h8 : ¬ wN (f 3) ≤ 1 := by omega
    simp [h9, h8, zB]
  · have h8 : wN (f 3) ≤ 1 := by omega
    simp [h9, h8, zB]
theorem bm_canFail_2 (hB : isB H a b id f on g) (hk : b.1 = 2) : am_f X (d + 2) 180 [.ref a] (H, z) = some (.inl (some (.int (zB (bFails f)))), (H, z)) := by
  have hwl := fun x => hB.wl (x := x)
  have hat := hB.at
  have hf0 := hB.1.2
  have h4 := hB.2.2.1
  obtain ⟨hf3, hn1, hn4⟩ := hB.n
  obtain ⟨k, wa, ca, oa⟩ := b
  dsimp only at hk hf0 hat h4 hwl
  subst hk
  simp only [Nat.reduceAdd] at hat
  have hci : am_ci1 ((H, z).1 a) = some 8 := by
    show am_ci1 (H a) = _
    rw [hat]
    rfl
  rw [fU_180]
  simp (disch := first | omega | exact hci | exact hat | exact Nat.le_of_ble_eq_true rfl) only [own_180, am_go dc_180_0, J_iconst, c32_0, am_go dc_180_1, J_ret_z0 ret_180, J_ret_z1 ret_180, J_ret_zB ret_180, hat, hwl, bFk2, lF0, lF1, lF2, lF3, lF4, lF5, i8_m4, JR_v, z32, zI_le, Nat.reduceLT, List.length_cons, List.length_nil, Nat.reduceAdd, Nat.reduceLeDiff, bind_s, ci1_r]
  unfold bFails
  simp only [hf0]
  rfl
theorem bm_canFail_3 (hB : isB H a b id f on g) (hk : b.1 = 3) : am_f X (d + 2) 181 [.ref a] (H, z) = some (.inl (some (.int (zB (bFails f)))), (H, z)) := by
  have hwl := fun x => hB.wl (x := x)
  have hat := hB.at
  have hf0 := hB.1.2
  have h4 := hB.2.2.1
  obtain ⟨hf3, hn1, hn4⟩ := hB.n
  obtain ⟨k, wa, ca, oa⟩ := b
  dsimp only at hk hf0 hat h4 hwl
  subst hk
  simp only [Nat.reduceAdd] at hat
  have hci : am_ci1 ((H, z).1 a) = some 9 := by
    show am_ci1 (H a) = _
    rw [hat]
    rfl
  have f22 : ∀ d, am_f X (d + 1) 22 [.ref a] (H, z) = some (.inl (some (.int (zI (wN (f 3))))), (H, z)) := fun d => bm_steps_3 (b := (3, wa, ca, oa)) hB rfl
  rw [fU_181]
  simp (disch := first | omega | exact hci | exact hat | exact Nat.le_of_ble_eq_true rfl) only [own_181, am_go dc_181_0, J_aload_0, K_al, ld_0, am_go dc_181_1, cv_6_31_9 own_181, JR_v, JR_0, JR_ite, ci1_r, am_go dc_181_4, J_iconst, c32_1, am_go dc_181_5, J_icmp_le, am_go dc_181_8, am_go dc_181_9, J_goto, am_go dc_181_12, c32_0, am_go dc_181_13, J_ret_z0 ret_181, J_ret_z1 ret_181, J_ret_zB ret_181, hat, hwl, bFk3, lF0, lF1, lF2, lF3, lF4, lF5, i8_m4, f22, z32, zI_le, Nat.reduceLT, List.length_cons, List.length_nil, Nat.reduceAdd, Nat.reduceLeDiff, bind_s]
  unfold bFails
  simp only [hf0]
  have e : decide (zI 3 = zI 2) = false := by decide
  rw [e]
  by_cases h9 : 1 < wN (f 3)
  · have h8 : ¬ wN (f 3) ≤ 1 := by omega
    simp [h9, h8, zB]
  · have h8 : wN (f 3) ≤ 1 := by omega
    simp [h9, h8, zB]
theorem bm_canFail_4 (hB : isB H a b id f on g) (hk : b.1 = 4) : am_f X (d + 2) 181 [.ref a] (H, z) = some (.inl (some (.int (zB (bFails f)))), (H, z)) := by
  have hwl := fun x => hB.wl (x := x)
  have hat := hB.at
  have hf0 := hB.1.2
  have h4 := hB.2.2.1
  obtain ⟨hf3, hn1, hn4⟩ := hB.n
  obtain ⟨k, wa, ca, oa⟩ := b
  dsimp only at hk hf0 hat h4 hwl
  subst hk
  simp only [Nat.reduceAdd] at hat
  have hci : am_ci1 ((H, z).1 a) = some 10 := by
    show am_ci1 (H a) = _
    rw [hat]
    rfl
  have f22 : ∀ d, am_f X (d + 1) 22 [.ref a] (H, z) = some (.inl (some (.int (zI (wN (f 3))))), (H, z)) := fun d => bm_steps_4 (b := (4, wa, ca, oa)) hB rfl
  rw [fU_181]
  simp (disch := first | omega | exact hci | exact hat | exact Nat.le_of_ble_eq_true rfl) only [own_181, am_go dc_181_0, J_aload_0, K_al, ld_0, am_go dc_181_1, cv_6_31_10 own_181, JR_v, JR_0, JR_ite, ci1_r, am_go dc_181_4, J_iconst, c32_1, am_go dc_181_5, J_icmp_le, am_go dc_181_8, am_go dc_181_9, J_goto, am_go dc_181_12, c32_0, am_go dc_181_13, J_ret_z0 ret_181, J_ret_z1 ret_181, J_ret_zB ret_181, hat, hwl, bFk4, lF0, lF1, lF2, lF3, lF4, lF5, i8_m4, f22, z32, zI_le, Nat.reduceLT, List.length_cons, List.length_nil, Nat.reduceAdd, Nat.reduceLeDiff, bind_s]
  unfold bFails
  simp only [hf0]
  have e : decide (zI 4 = zI 2) = false := by decide
  rw [e]
  by_cases h9 : 1 < wN (f 3)
  · have h8 : ¬ wN (f 3) ≤ 1 := by omega
    simp [h9, h8, zB]
  · have h8 : wN (f 3) ≤ 1 := by omega
    simp [h9, h8, zB]
theorem bm_canFail_5 (hB : isB H a b id f on g) (hk : b.1 = 5) : am_f X (d + 2) 181 [.ref a] (H, z) = some (.inl (some (.int (zB (bFails f)))), (H, z)) := by
  have hwl := fun x => hB.wl (x := x)
  have hat := hB.at
  have hf0 := hB.1.2
  have h4 := hB.2.2.1
  obtain ⟨hf3, hn1, hn4⟩ := hB.n
  obtain ⟨k, wa, ca, oa⟩ := b
  dsimp only at hk hf0 hat h4 hwl
  subst hk
  simp only [Nat.reduceAdd] at hat
  have hci : am_ci1 ((H, z).1 a) = some 11 := by
    show am_ci1 (H a) = _
    rw [hat]
    rfl
  have f22 : ∀ d, am_f X (d + 1) 22 [.ref a] (H, z) = some (.inl (some (.int (zI (wN (f 3))))), (H, z)) := fun d => bm_steps_5 (b := (5, wa, ca, oa)) hB rfl
  rw [fU_181]
  simp (disch := first | omega | exact hci | exact hat | exact Nat.le_of_ble_eq_true rfl) only [own_181, am_go dc_181_0, J_aload_0, K_al, ld_0, am_go dc_181_1, cv_6_31_11 own_181, JR_v, JR_0, JR_ite, ci1_r, am_go dc_181_4, J_iconst, c32_1, am_go dc_181_5, J_icmp_le, am_go dc_181_8, am_go dc_181_9, J_goto, am_go dc_181_12, c32_0, am_go dc_181_13, J_ret_z0 ret_181, J_ret_z1 ret_181, J_ret_zB ret_181, hat, hwl, bFk5, lF0, lF1, lF2, lF3, lF4, lF5, i8_m4, f22, z32, zI_le, Nat.reduceLT, List.length_cons, List.length_nil, Nat.reduceAdd, Nat.reduceLeDiff, bind_s]
  unfold bFails
  simp only [hf0]
  have e : decide (zI 5 = zI 2) = false := by decide
  rw [e]
  by_cases h9 : 1 < wN (f 3)
  · have h8 : ¬ wN (f 3) ≤ 1 := by omega
    simp [h9, h8, zB]
  · have h8 : wN (f 3) ≤ 1 := by omega
    simp [h9, h8, zB]
theorem bm_failureNumber_0 (hB : isB H a b id f on g) (hk : b.1 = 0) : am_f X (d + 2) 184 [.ref a] (H, z) = some (.inl (some (.int (bToss f id))), (H, z)) := by
  have hwl := fun x => hB.wl (x := x)
  have hat := hB.at
  have hf0 := hB.1.2
  have h4 := hB.2.2.1
  obtain ⟨hf3, hn1, hn4⟩ := hB.n
  obtain ⟨k, wa, ca, oa⟩ := b
  dsimp only at hk hf0 hat h4 hwl
  subst hk
  simp only [Nat.reduceAdd] at hat
  have hci : am_ci1 ((H, z).1 a) = some 6 := by
    show am_ci1 (H a) = _
    rw [hat]
    rfl
  rw [fU_184]
  simp (disch := first | omega | exact hci | exact hat | exact Nat.le_of_ble_eq_true rfl) only [own_184, am_go dc_184_0, J_aload_0, K_al, ld_0, am_go dc_184_1, J_getfield, gf_r, fk_6_9_6, am_go dc_184_4, J_ret_i ret_184, hat, hwl, bFk0, lF0, lF1, lF2, lF3, lF4, lF5, i8_m4, JR_v, z32, zI_le, Nat.reduceLT, List.length_cons, List.length_nil, Nat.reduceAdd, Nat.reduceLeDiff, bind_s, ci1_r]
  unfold bToss
  simp only [hf0]
  rfl
theorem bm_failureNumber_1 (hB : isB H a b id f on g) (hk : b.1 = 1) : am_f X (d + 2) 184 [.ref a] (H, z) = some (.inl (some (.int (bToss f id))), (H, z)) := by
  have hwl := fun x => hB.wl (x := x)
  have hat := hB.at
  have hf0 := hB.1.2
  have h4 := hB.2.2.1
  obtain ⟨hf3, hn1, hn4⟩ := hB.n
  obtain ⟨k, wa, ca, oa⟩ := b
  dsimp only at hk hf0 hat h4 hwl
  subst hk
  simp only [Nat.reduceAdd] at hat
  have hci : am_ci1 ((H, z).1 a) = some 7 := by
    show am_ci1 (H a) = _
    rw [hat]
    rfl
  rw [fU_184]
  simp (disch := first | omega | exact hci | exact hat | exact Nat.le_of_ble_eq_true rfl) only [own_184, am_go dc_184_0, J_aload_0, K_al, ld_0, am_go dc_184_1, J_getfield, gf_r, fk_6_9_7, am_go dc_184_4, J_ret_i ret_184, hat, hwl, bFk1, lF0, lF1, lF2, lF3, lF4, lF5, i8_m4, JR_v, z32, zI_le, Nat.reduceLT, List.length_cons, List.length_nil, Nat.reduceAdd, Nat.reduceLeDiff, bind_s, ci1_r]
  unfold bToss
  simp only [hf0]
  rfl
theorem bm_failureNumber_2 (hB : isB H a b id f on g) (hk : b.1 = 2) : am_f X (d + 2) 184 [.ref a] (H, z) = some (.inl (some (.int (bToss f id))), (H, z)) := by
  have hwl := fun x => hB.wl (x := x)
  have hat := hB.at
  have hf0 := hB.1.2
  have h4 := hB.2.2.1
  obtain ⟨hf3, hn1, hn4⟩ := hB.n
  obtain ⟨k, wa, ca, oa⟩ := b
  dsimp only at hk hf0 hat h4 hwl
  subst hk
  simp only [Nat.reduceAdd] at hat
  have hci : am_ci1 ((H, z).1 a) = some 8 := by
    show am_ci1 (H a) = _
    rw [hat]
    rfl
  rw [fU_184]
  simp (disch := first | omega | exact hci | exact hat | exact Nat.le_of_ble_eq_true rfl) only [own_184, am_go dc_184_0, J_aload_0, K_al, ld_0, am_go dc_184_1, J_getfield, gf_r, fk_6_9_8, am_go dc_184_4, J_ret_i ret_184, hat, hwl, bFk2, lF0, lF1, lF2, lF3, lF4, lF5, i8_m4, JR_v, z32, zI_le, Nat.reduceLT, List.length_cons, List.length_nil, Nat.reduceAdd, Nat.reduceLeDiff, bind_s, ci1_r]
  unfold bToss
  simp only [hf0]
  rfl
theorem bm_failureNumber_3 (hB : isB H a b id f on g) (hk : b.1 = 3) : am_f X (d + 2) 184 [.ref a] (H, z) = some (.inl (some (.int (bToss f id))), (H, z)) := by
  have hwl := fun x => hB.wl (x := x)
  have hat := hB.at
  have hf0 := hB.1.2
  have h4 := hB.2.2.1
  obtain ⟨hf3, hn1, hn4⟩ := hB.n
  obtain ⟨k, wa, ca, oa⟩ := b
  dsimp only at hk hf0 hat h4 hwl
  subst hk
  simp only [Nat.reduceAdd] at hat
  have hci : am_ci1 ((H, z).1 a) = some 9 := by
    show am_ci1 (H a) = _
    rw [hat]
    rfl
  rw [fU_184]
  simp (disch := first | omega | exact hci | exact hat | exact Nat.le_of_ble_eq_true rfl) only [own_184, am_go dc_184_0, J_aload_0, K_al, ld_0, am_go dc_184_1, J_getfield, gf_r, fk_6_9_9, am_go dc_184_4, J_ret_i ret_184, hat, hwl, bFk3, lF0, lF1, lF2, lF3, lF4, lF5, i8_m4, JR_v, z32, zI_le, Nat.reduceLT, List.length_cons, List.length_nil, Nat.reduceAdd, Nat.reduceLeDiff, bind_s, ci1_r]
  unfold bToss
  simp only [hf0]
  rfl
theorem bm_failureNumber_4 (hB : isB H a b id f on g) (hk : b.1 = 4) : am_f X (d + 2) 182 [.ref a] (H, z) = some (.inl (some (.int (bToss f id))), (H, z)) := by
  have hwl := fun x => hB.wl (x := x)
  have hat := hB.at
  have hf0 := hB.1.2
  have h4 := hB.2.2.1
  obtain ⟨hf3, hn1, hn4⟩ := hB.n
  obtain ⟨k, wa, ca, oa⟩ := b
  dsimp only at hk hf0 hat h4 hwl
  subst hk
  simp only [Nat.reduceAdd] at hat
  have hci : am_ci1 ((H, z).1 a) = some 10 := by
    show am_ci1 (H a) = _
    rw [hat]
    rfl
  have f184 : ∀ d, am_f X (d + 1) 184 [.ref a] (H, z) = some (.inl (some (.int id)), (H, z)) := by
    intro d
    rw [fU_184]
    simp (disch := first | omega | exact hci | exact hat | exact Nat.le_of_ble_eq_true rfl) only [own_184, am_go dc_184_0, J_aload_0, K_al, ld_0, am_go dc_184_1, J_getfield, gf_r, fk_6_9_10, am_go dc_184_4, J_ret_i ret_184, hat, hwl, bFk4, lF0, lF1, lF2, lF3, lF4, lF5, i8_m4, JR_v, z32, zI_le, Nat.reduceLT, List.length_cons, List.length_nil, Nat.reduceAdd, Nat.reduceLeDiff, bind_s, ci1_r]
  rw [fU_182]
  simp (disch := first | omega | exact hci | exact hat | exact Nat.le_of_ble_eq_true rfl) only [own_182, am_go dc_182_0, J_aload_0, K_al, ld_0, am_go dc_182_1, cu_10_36 own_182, JR_v, am_go dc_182_4, J_bipush, c8_100, am_go dc_182_6, J_iadd, am_go dc_182_7, J_ret_i ret_182, hat, hwl, bFk4, lF0, lF1, lF2, lF3, lF4, lF5, i8_m4, f184, z32, zI_le, Nat.reduceLT, List.length_cons, List.length_nil, Nat.reduceAdd, Nat.reduceLeDiff, bind_s, ci1_r]
  unfold bToss
  simp only [hf0]
  rfl
theorem bm_failureNumber_5 (hB : isB H a b id f on g) (hk : b.1 = 5) : am_f X (d + 2) 183 [.ref a] (H, z) = some (.inl (some (.int (bToss f id))), (H, z)) := by
  have hwl := fun x => hB.wl (x := x)
  have hat := hB.at
  have hf0 := hB.1.2
  have h4 := hB.2.2.1
  obtain ⟨hf3, hn1, hn4⟩ := hB.n
  obtain ⟨k, wa, ca, oa⟩ := b
  dsimp only at hk hf0 hat h4 hwl
  subst hk
  simp only [Nat.reduceAdd] at hat
  have hci : am_ci1 ((H, z).1 a) = some 11 := by
    show am_ci1 (H a) = _
    rw [hat]
    rfl
  rw [fU_183]
  simp (disch := first | omega | exact hci | exact hat | exact Nat.le_of_ble_eq_true rfl) only [own_183, am_go dc_183_0, J_aload_0, K_al, ld_0, am_go dc_183_1, J_getfield, gf_r, fk_11_7_11, am_go dc_183_4, J_ret_i ret_183, hat, hwl, bFk5, lF0, lF1, lF2, lF3, lF4, lF5, i8_m4, JR_v, z32, zI_le, Nat.reduceLT, List.length_cons, List.length_nil, Nat.reduceAdd, Nat.reduceLeDiff, bind_s, ci1_r]
  unfold bToss
  simp only [hf0]
  rfl
theorem vx_0_100 (ho : am_own t = 0) (hB : isB H a b id f on g) (hr : rest.length ≤ 8) : am_J X (am_f X (d + 1)) t (some (.invokevirtual 100, nx, tg)) pc lv (.ref a :: rest) (H, z) = am_I X (am_f X (d + 1)) t nx lv (.int (f 0) :: rest) (H, z) := by
  rcases hB.k with h | h | h | h | h | h
  · rw [cv_0_100_6 ho (by rw [hB.ci, h]) hr, bm_kind_0 hB h]
    rfl
  · rw [cv_0_100_7 ho (by rw [hB.ci, h]) hr, bm_kind_1 hB h]
    rfl
  · rw [cv_0_100_8 ho (by rw [hB.ci, h]) hr, bm_kind_2 hB h]
    rfl
  · rw [cv_0_100_9 ho (by rw [hB.ci, h]) hr, bm_kind_3 hB h]
    rfl
  · rw [cv_0_100_10 ho (by rw [hB.ci, h]) hr, bm_kind_4 hB h]
    rfl
  · rw [cv_0_100_11 ho (by rw [hB.ci, h]) hr, bm_kind_5 hB h]
    rfl
theorem vx_0_110 (ho : am_own t = 0) (hB : isB H a b id f on g) (hr : rest.length ≤ 8) : am_J X (am_f X (d + 1)) t (some (.invokevirtual 110, nx, tg)) pc lv (.ref a :: rest) (H, z) = am_I X (am_f X (d + 1)) t nx lv (.int (zI (wN (f 3))) :: rest) (H, z) := by
  rcases hB.k with h | h | h | h | h | h
  · rw [cv_0_110_6 ho (by rw [hB.ci, h]) hr, bm_steps_0 hB h]
    rfl
  · rw [cv_0_110_7 ho (by rw [hB.ci, h]) hr, bm_steps_1 hB h]
    rfl
  · rw [cv_0_110_8 ho (by rw [hB.ci, h]) hr, bm_steps_2 hB h]
    rfl
  · rw [cv_0_110_9 ho (by rw [hB.ci, h]) hr, bm_steps_3 hB h]
    rfl
  · rw [cv_0_110_10 ho (by rw [hB.ci, h]) hr, bm_steps_4 hB h]
    rfl
  · rw [cv_0_110_11 ho (by rw [hB.ci, h]) hr, bm_steps_5 hB h]
    rfl
theorem vx_0_113 (ho : am_own t = 0) (hB : isB H a b id f on g) (hr : rest.length ≤ 8) : am_J X (am_f X (d + 1)) t (some (.invokevirtual 113, nx, tg)) pc lv (.ref a :: rest) (H, z) = am_I X (am_f X (d + 1)) t nx lv (.int (f 4) :: rest) (H, z) := by
  rcases hB.k with h | h | h | h | h | h
  · rw [cv_0_113_6 ho (by rw [hB.ci, h]) hr, bm_extra_0 hB h]
    rfl
  · rw [cv_0_113_7 ho (by rw [hB.ci, h]) hr, bm_extra_1 hB h]
    rfl
  · rw [cv_0_113_8 ho (by rw [hB.ci, h]) hr, bm_extra_2 hB h]
    rfl
  · rw [cv_0_113_9 ho (by rw [hB.ci, h]) hr, bm_extra_3 hB h]
    rfl
  · rw [cv_0_113_10 ho (by rw [hB.ci, h]) hr, bm_extra_4 hB h]
    rfl
  · rw [cv_0_113_11 ho (by rw [hB.ci, h]) hr, bm_extra_5 hB h]
    rfl
theorem vx_0_161 (ho : am_own t = 0) (hB : isB H a b id f on g) (hr : rest.length ≤ 8) : am_J X (am_f X (d + 1)) t (some (.invokevirtual 161, nx, tg)) pc lv (.ref a :: rest) (H, z) = am_I X (am_f X (d + 1)) t nx lv (.int (zB (decide (f 0 = zI 1))) :: rest) (H, z) := by
  rcases hB.k with h | h | h | h | h | h
  · rw [cv_0_161_6 ho (by rw [hB.ci, h]) hr, bm_canPeep_0 hB h]
    rfl
  · rw [cv_0_161_7 ho (by rw [hB.ci, h]) hr, bm_canPeep_1 hB h]
    rfl
  · rw [cv_0_161_8 ho (by rw [hB.ci, h]) hr, bm_canPeep_2 hB h]
    rfl
  · rw [cv_0_161_9 ho (by rw [hB.ci, h]) hr, bm_canPeep_3 hB h]
    rfl
  · rw [cv_0_161_10 ho (by rw [hB.ci, h]) hr, bm_canPeep_4 hB h]
    rfl
  · rw [cv_0_161_11 ho (by rw [hB.ci, h]) hr, bm_canPeep_5 hB h]
    rfl
theorem vx_0_310 (ho : am_own t = 0) (hB : isB H a b id f on g) (hr : rest.length ≤ 8) : am_J X (am_f X (d + 3)) t (some (.invokevirtual 310, nx, tg)) pc lv (.ref a :: rest) (H, z) = am_I X (am_f X (d + 3)) t nx lv (.int (bHeft f) :: rest) (H, z) := by
  rcases hB.k with h | h | h | h | h | h
  · rw [cv_0_310_6 ho (by rw [hB.ci, h]) hr, bm_heft_0 hB h]
    rfl
  · rw [cv_0_310_7 ho (by rw [hB.ci, h]) hr, bm_heft_1 hB h]
    rfl
  · rw [cv_0_310_8 ho (by rw [hB.ci, h]) hr, bm_heft_2 hB h]
    rfl
  · rw [cv_0_310_9 ho (by rw [hB.ci, h]) hr, bm_heft_3 hB h]
    rfl
  · rw [cv_0_310_10 ho (by rw [hB.ci, h]) hr, bm_heft_4 hB h]
    rfl
  · rw [cv_0_310_11 ho (by rw [hB.ci, h]) hr, bm_heft_5 hB h]
    rfl
theorem vx_0_316 (ho : am_own t = 0) (hB : isB H a b id f on g) (hr : rest.length ≤ 8) : am_J X (am_f X (d + 2)) t (some (.invokevirtual 316, nx, tg)) pc lv (.ref a :: rest) (H, z) = am_I X (am_f X (d + 2)) t nx lv (.int (bToss f id) :: rest) (H, z) := by
  rcases hB.k with h | h | h | h | h | h
  · rw [cv_0_316_6 ho (by rw [hB.ci, h]) hr, bm_failureNumber_0 hB h]
    rfl
  · rw [cv_0_316_7 ho (by rw [hB.ci, h]) hr, bm_failureNumber_1 hB h]
    rfl
  · rw [cv_0_316_8 ho (by rw [hB.ci, h]) hr, bm_failureNumber_2 hB h]
    rfl
  · rw [cv_0_316_9 ho (by rw [hB.ci, h]) hr, bm_failureNumber_3 hB h]
    rfl
  · rw [cv_0_316_10 ho (by rw [hB.ci, h]) hr, bm_failureNumber_4 hB h]
    rfl
  · rw [cv_0_316_11 ho (by rw [hB.ci, h]) hr, bm_failureNumber_5 hB h]
    rfl
theorem vx_1_74 (ho : am_own t = 1) (hB : isB H a b id f on g) (hr : rest.length ≤ 8) : am_J X (am_f X (d + 1)) t (some (.invokevirtual 74, nx, tg)) pc lv (.ref a :: rest) (H, z) = am_I X (am_f X (d + 1)) t nx lv (.int (zI (wN (f 3))) :: rest) (H, z) := by
  rcases hB.k with h | h | h | h | h | h
  · rw [cv_1_74_6 ho (by rw [hB.ci, h]) hr, bm_steps_0 hB h]
    rfl
  · rw [cv_1_74_7 ho (by rw [hB.ci, h]) hr, bm_steps_1 hB h]
    rfl
  · rw [cv_1_74_8 ho (by rw [hB.ci, h]) hr, bm_steps_2 hB h]
    rfl
  · rw [cv_1_74_9 ho (by rw [hB.ci, h]) hr, bm_steps_3 hB h]
    rfl
  · rw [cv_1_74_10 ho (by rw [hB.ci, h]) hr, bm_steps_4 hB h]
    rfl
  · rw [cv_1_74_11 ho (by rw [hB.ci, h]) hr, bm_steps_5 hB h]
    rfl
theorem vx_1_99 (ho : am_own t = 1) (hB : isB H a b id f on g) (hr : rest.length ≤ 8) : am_J X (am_f X (d + 1)) t (some (.invokevirtual 99, nx, tg)) pc lv (.ref a :: rest) (H, z) = am_I X (am_f X (d + 1)) t nx lv (.int (zB (decide (f 0 = zI 1))) :: rest) (H, z) := by
  rcases hB.k with h | h | h | h | h | h
  · rw [cv_1_99_6 ho (by rw [hB.ci, h]) hr, bm_canPeep_0 hB h]
    rfl
  · rw [cv_1_99_7 ho (by rw [hB.ci, h]) hr, bm_canPeep_1 hB h]
    rfl
  · rw [cv_1_99_8 ho (by rw [hB.ci, h]) hr, bm_canPeep_2 hB h]
    rfl
  · rw [cv_1_99_9 ho (by rw [hB.ci, h]) hr, bm_canPeep_3 hB h]
    rfl
  · rw [cv_1_99_10 ho (by rw [hB.ci, h]) hr, bm_canPeep_4 hB h]
    rfl
  · rw [cv_1_99_11 ho (by rw [hB.ci, h]) hr, bm_canPeep_5 hB h]
    rfl
theorem vx_1_119 {x0 : Int32} {x1 : Int32} (ho : am_own t = 1) (hB : isB H a b id f on g) (hr : rest.length ≤ 8) : am_J X (am_f X (d + 1)) t (some (.invokevirtual 119, nx, tg)) pc lv (.int x1 :: .int x0 :: .ref a :: rest) (H, z) = am_I X (am_f X (d + 1)) t nx lv (.int (zB (bAmid f x0 x1)) :: rest) (H, z) := by
  rcases hB.k with h | h | h | h | h | h
  · rw [cv_1_119_6 ho (by rw [hB.ci, h]) hr, bm_opensAmid_0 hB h]
    rfl
  · rw [cv_1_119_7 ho (by rw [hB.ci, h]) hr, bm_opensAmid_1 hB h]
    rfl
  · rw [cv_1_119_8 ho (by rw [hB.ci, h]) hr, bm_opensAmid_2 hB h]
    rfl
  · rw [cv_1_119_9 ho (by rw [hB.ci, h]) hr, bm_opensAmid_3 hB h]
    rfl
  · rw [cv_1_119_10 ho (by rw [hB.ci, h]) hr, bm_opensAmid_4 hB h]
    rfl
  · rw [cv_1_119_11 ho (by rw [hB.ci, h]) hr, bm_opensAmid_5 hB h]
    rfl
theorem vx_3_138 (ho : am_own t = 3) (hB : isB H a b id f on g) (hr : rest.length ≤ 8) : am_J X (am_f X (d + 1)) t (some (.invokevirtual 138, nx, tg)) pc lv (.ref a :: rest) (H, z) = am_I X (am_f X (d + 1)) t nx lv (.int (zB (decide (f 0 = zI 1))) :: rest) (H, z) := by
  rcases hB.k with h | h | h | h | h | h
  · rw [cv_3_138_6 ho (by rw [hB.ci, h]) hr, bm_canPeep_0 hB h]
    rfl
  · rw [cv_3_138_7 ho (by rw [hB.ci, h]) hr, bm_canPeep_1 hB h]
    rfl
  · rw [cv_3_138_8 ho (by rw [hB.ci, h]) hr, bm_canPeep_2 hB h]
    rfl
  · rw [cv_3_138_9 ho (by rw [hB.ci, h]) hr, bm_canPeep_3 hB h]
    rfl
  · rw [cv_3_138_10 ho (by rw [hB.ci, h]) hr, bm_canPeep_4 hB h]
    rfl
  · rw [cv_3_138_11 ho (by rw [hB.ci, h]) hr, bm_canPeep_5 hB h]
    rfl
theorem vx_3_146 (ho : am_own t = 3) (hB : isB H a b id f on g) (hr : rest.length ≤ 8) : am_J X (am_f X (d + 1)) t (some (.invokevirtual 146, nx, tg)) pc lv (.ref a :: rest) (H, z) = am_I X (am_f X (d + 1)) t nx lv (.int (zI (wN (f 3))) :: rest) (H, z) := by
  rcases hB.k with h | h | h | h | h | h
  · rw [cv_3_146_6 ho (by rw [hB.ci, h]) hr, bm_steps_0 hB h]
    rfl
  · rw [cv_3_146_7 ho (by rw [hB.ci, h]) hr, bm_steps_1 hB h]
    rfl
  · rw [cv_3_146_8 ho (by rw [hB.ci, h]) hr, bm_steps_2 hB h]
    rfl
  · rw [cv_3_146_9 ho (by rw [hB.ci, h]) hr, bm_steps_3 hB h]
    rfl
  · rw [cv_3_146_10 ho (by rw [hB.ci, h]) hr, bm_steps_4 hB h]
    rfl
  · rw [cv_3_146_11 ho (by rw [hB.ci, h]) hr, bm_steps_5 hB h]
    rfl
theorem vx_4_117 (ho : am_own t = 4) (hB : isB H a b id f on g) (hr : rest.length ≤ 8) : am_J X (am_f X (d + 1)) t (some (.invokevirtual 117, nx, tg)) pc lv (.ref a :: rest) (H, z) = am_I X (am_f X (d + 1)) t nx lv (.int (zI (wN (f 3))) :: rest) (H, z) := by
  rcases hB.k with h | h | h | h | h | h
  · rw [cv_4_117_6 ho (by rw [hB.ci, h]) hr, bm_steps_0 hB h]
    rfl
  · rw [cv_4_117_7 ho (by rw [hB.ci, h]) hr, bm_steps_1 hB h]
    rfl
  · rw [cv_4_117_8 ho (by rw [hB.ci, h]) hr, bm_steps_2 hB h]
    rfl
  · rw [cv_4_117_9 ho (by rw [hB.ci, h]) hr, bm_steps_3 hB h]
    rfl
  · rw [cv_4_117_10 ho (by rw [hB.ci, h]) hr, bm_steps_4 hB h]
    rfl
  · rw [cv_4_117_11 ho (by rw [hB.ci, h]) hr, bm_steps_5 hB h]
    rfl
theorem vx_4_127 (ho : am_own t = 4) (hB : isB H a b id f on g) (hr : rest.length ≤ 8) : am_J X (am_f X (d + 1)) t (some (.invokevirtual 127, nx, tg)) pc lv (.ref a :: rest) (H, z) = am_I X (am_f X (d + 1)) t nx lv (.int (zB (decide (f 0 = zI 2))) :: rest) (H, z) := by
  rcases hB.k with h | h | h | h | h | h
  · rw [cv_4_127_6 ho (by rw [hB.ci, h]) hr, bm_canTakeShut_0 hB h]
    rfl
  · rw [cv_4_127_7 ho (by rw [hB.ci, h]) hr, bm_canTakeShut_1 hB h]
    rfl
  · rw [cv_4_127_8 ho (by rw [hB.ci, h]) hr, bm_canTakeShut_2 hB h]
    rfl
  · rw [cv_4_127_9 ho (by rw [hB.ci, h]) hr, bm_canTakeShut_3 hB h]
    rfl
  · rw [cv_4_127_10 ho (by rw [hB.ci, h]) hr, bm_canTakeShut_4 hB h]
    rfl
  · rw [cv_4_127_11 ho (by rw [hB.ci, h]) hr, bm_canTakeShut_5 hB h]
    rfl
theorem vx_4_144 (ho : am_own t = 4) (hB : isB H a b id f on g) (hr : rest.length ≤ 8) : am_J X (am_f X (d + 1)) t (some (.invokevirtual 144, nx, tg)) pc lv (.ref a :: rest) (H, z) = am_I X (am_f X (d + 1)) t nx lv (.int (zB (decide (f 0 = zI 1))) :: rest) (H, z) := by
  rcases hB.k with h | h | h | h | h | h
  · rw [cv_4_144_6 ho (by rw [hB.ci, h]) hr, bm_canPeep_0 hB h]
    rfl
  · rw [cv_4_144_7 ho (by rw [hB.ci, h]) hr, bm_canPeep_1 hB h]
    rfl
  · rw [cv_4_144_8 ho (by rw [hB.ci, h]) hr, bm_canPeep_2 hB h]
    rfl
  · rw [cv_4_144_9 ho (by rw [hB.ci, h]) hr, bm_canPeep_3 hB h]
    rfl
  · rw [cv_4_144_10 ho (by rw [hB.ci, h]) hr, bm_canPeep_4 hB h]
    rfl
  · rw [cv_4_144_11 ho (by rw [hB.ci, h]) hr, bm_canPeep_5 hB h]
    rfl
theorem vx_4_170 (ho : am_own t = 4) (hB : isB H a b id f on g) (hr : rest.length ≤ 8) : am_J X (am_f X (d + 1)) t (some (.invokevirtual 170, nx, tg)) pc lv (.ref a :: rest) (H, z) = am_I X (am_f X (d + 1)) t nx lv (.int (f 4) :: rest) (H, z) := by
  rcases hB.k with h | h | h | h | h | h
  · rw [cv_4_170_6 ho (by rw [hB.ci, h]) hr, bm_extra_0 hB h]
    rfl
  · rw [cv_4_170_7 ho (by rw [hB.ci, h]) hr, bm_extra_1 hB h]
    rfl
  · rw [cv_4_170_8 ho (by rw [hB.ci, h]) hr, bm_extra_2 hB h]
    rfl
  · rw [cv_4_170_9 ho (by rw [hB.ci, h]) hr, bm_extra_3 hB h]
    rfl
  · rw [cv_4_170_10 ho (by rw [hB.ci, h]) hr, bm_extra_4 hB h]
    rfl
  · rw [cv_4_170_11 ho (by rw [hB.ci, h]) hr, bm_extra_5 hB h]
    rfl
theorem vx_5_123 (ho : am_own t = 5) (hB : isB H a b id f on g) (hr : rest.length ≤ 8) : am_J X (am_f X (d + 1)) t (some (.invokevirtual 123, nx, tg)) pc lv (.ref a :: rest) (H, z) = am_I X (am_f X (d + 1)) t nx lv (.int (zI (wN (f 3))) :: rest) (H, z) := by
  rcases hB.k with h | h | h | h | h | h
  · rw [cv_5_123_6 ho (by rw [hB.ci, h]) hr, bm_steps_0 hB h]
    rfl
  · rw [cv_5_123_7 ho (by rw [hB.ci, h]) hr, bm_steps_1 hB h]
    rfl
  · rw [cv_5_123_8 ho (by rw [hB.ci, h]) hr, bm_steps_2 hB h]
    rfl
  · rw [cv_5_123_9 ho (by rw [hB.ci, h]) hr, bm_steps_3 hB h]
    rfl
  · rw [cv_5_123_10 ho (by rw [hB.ci, h]) hr, bm_steps_4 hB h]
    rfl
  · rw [cv_5_123_11 ho (by rw [hB.ci, h]) hr, bm_steps_5 hB h]
    rfl
theorem vx_6_31 (ho : am_own t = 6) (hB : isB H a b id f on g) (hr : rest.length ≤ 8) : am_J X (am_f X (d + 1)) t (some (.invokevirtual 31, nx, tg)) pc lv (.ref a :: rest) (H, z) = am_I X (am_f X (d + 1)) t nx lv (.int (zI (wN (f 3))) :: rest) (H, z) := by
  rcases hB.k with h | h | h | h | h | h
  · rw [cv_6_31_6 ho (by rw [hB.ci, h]) hr, bm_steps_0 hB h]
    rfl
  · rw [cv_6_31_7 ho (by rw [hB.ci, h]) hr, bm_steps_1 hB h]
    rfl
  · rw [cv_6_31_8 ho (by rw [hB.ci, h]) hr, bm_steps_2 hB h]
    rfl
  · rw [cv_6_31_9 ho (by rw [hB.ci, h]) hr, bm_steps_3 hB h]
    rfl
  · rw [cv_6_31_10 ho (by rw [hB.ci, h]) hr, bm_steps_4 hB h]
    rfl
  · rw [cv_6_31_11 ho (by rw [hB.ci, h]) hr, bm_steps_5 hB h]
    rfl
theorem vx_6_35 (ho : am_own t = 6) (hB : isB H a b id f on g) (hr : rest.length ≤ 8) : am_J X (am_f X (d + 2)) t (some (.invokevirtual 35, nx, tg)) pc lv (.ref a :: rest) (H, z) = am_I X (am_f X (d + 2)) t nx lv (.int (zB (bFails f)) :: rest) (H, z) := by
  rcases hB.k with h | h | h | h | h | h
  · rw [cv_6_35_6 ho (by rw [hB.ci, h]) hr, bm_canFail_0 hB h]
    rfl
  · rw [cv_6_35_7 ho (by rw [hB.ci, h]) hr, bm_canFail_1 hB h]
    rfl
  · rw [cv_6_35_8 ho (by rw [hB.ci, h]) hr, bm_canFail_2 hB h]
    rfl
  · rw [cv_6_35_9 ho (by rw [hB.ci, h]) hr, bm_canFail_3 hB h]
    rfl
  · rw [cv_6_35_10 ho (by rw [hB.ci, h]) hr, bm_canFail_4 hB h]
    rfl
  · rw [cv_6_35_11 ho (by rw [hB.ci, h]) hr, bm_canFail_5 hB h]
    rfl
end BX
