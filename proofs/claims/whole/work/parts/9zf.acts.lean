/-! the acts, one behind the other -/
def hOk : Nat → (Nat → Int32) → Prop
  | 0, S => qPl S
  | a + 1, S => qPl S ∧ a + 1 + meas S ≤ 10 ∧ ∃ b w, b < wN (S 116) ∧ w ≤ 2 ∧ S (95 + 2 * a) = zI b ∧ S (95 + 2 * a + 1) = zI w ∧ hOk a (upd S (90 + b) (zI w))
theorem hOk.pl {a : Nat} {S : Nat → Int32} (h : hOk a S) : qPl S := by
  cases a with
  | zero => exact h
  | succ a => exact h.1
theorem hOk.me {a : Nat} {S : Nat → Int32} (h : hOk a S) : a + meas S ≤ 10 := by
  cases a with
  | zero => have := meas_le S; omega
  | succ a => exact h.2.1
theorem qPl_cg {S S' : Nat → Int32} (h : ∀ j, (j < 90 ∧ j % 18 ≠ 1) ∨ (90 ≤ j ∧ j < 95) ∨ j = 116 → S' j = S j) (hL : qPl S) : qPl S' := fun b hb => by
  obtain ⟨h1, h2, h3⟩ := hL b hb
  rw [h 116 (by omega), h (90 + b) (by omega), h (18 * b) (by omega), h (18 * b + 3) (by omega)]
  exact ⟨qN_x (h (90 + b) (by omega)) h1, h2, h3⟩
theorem meas_cg {S S' : Nat → Int32} (h : ∀ j, 90 ≤ j ∧ j < 95 → S' j = S j) : meas S' = meas S := by
  unfold meas
  rw [h 90 (by omega), h 91 (by omega), h 92 (by omega), h 93 (by omega), h 94 (by omega)]
theorem hOk_cg : ∀ (a : Nat) (S S' : Nat → Int32), (∀ j, (j < 90 ∧ j % 18 ≠ 1) ∨ (90 ≤ j ∧ j < 95 + 2 * a) ∨ j = 116 → S' j = S j) → hOk a S → hOk a S'
  | 0, S, S', h, hk => qPl_cg (fun j hj => h j (by omega)) hk
  | a + 1, S, S', h, hk => by
    obtain ⟨h1, h2, b, w, h3, h4, h5, h6, h7⟩ := hk
    refine ⟨qPl_cg (fun j hj => h j (by omega)) h1, by rw [meas_cg (fun j hj => h j (by omega))]; exact h2, b, w, by rw [h 116 (by omega)]; exact h3, h4, by rw [h _ (by omega)]; exact h5, by rw [h _ (by omega)]; exact h6, hOk_cg a _ _ (fun j hj => ?_) h7⟩
    by_cases e : j = 90 + b
    · rw [e, upd_s, upd_s]
    · rw [upd_o e, upd_o e]
      exact h j (by omega)
/-- the rows and the place, as the reference keeps them -/
def rI (S : Nat → Int32) : Prop := qG S ∧ ∃ a, a ≤ 10 ∧ S 115 = zI a ∧ hOk a S
theorem rI.pl {S : Nat → Int32} (h : rI S) : qPl S := by
  obtain ⟨-, a, -, -, h1⟩ := h
  exact h1.pl
theorem rI.hw {S : Nat → Int32} (h : rI S) : qHw S := fun c hc => (h.pl c hc).1
theorem rI.qw {S : Nat → Int32} (h : rI S) : qW S := qW_of2 h.1 h.hw
theorem rI_cg {S S' : Nat → Int32} (h : ∀ j, j < 118 → S' j = S j) (hI : rI S) : rI S' := by
  obtain ⟨h1, a, h2, h3, h4⟩ := hI
  exact ⟨qG_x (fun j hj => h j (by omega)) h1, a, h2, by rw [h 115 (by omega)]; exact h3, hOk_cg a S S' (fun j hj => h j (by omega)) h4⟩
/-! room -/
def gN (L : List Nat) (N : Nat) : Nat := (L.filter (fun v => decide (N < v))).length
def gP (L : List Nat) (N : Nat) : Nat := (L.filter (fun v => decide (N < v))).sum
theorem gN_le {N v : Nat} (h : N < v) : ∀ L : List Nat, gN L v ≤ gN L N ∧ gP L v ≤ gP L N
  | [] => ⟨Nat.le_refl _, Nat.le_refl _⟩
  | a :: L => by
    obtain ⟨h1, h2⟩ := gN_le h L
    unfold gN gP at *
    rw [List.filter_cons, List.filter_cons]
    by_cases c : v < a
    · rw [if_pos (by simpa using c), if_pos (by simp; omega)]
      simp only [List.length_cons, List.sum_cons]
      omega
    · rw [if_neg (by simpa using c)]
      by_cases c2 : N < a
      · rw [if_pos (by simpa using c2)]
        simp only [List.length_cons, List.sum_cons]
        omega
      · rw [if_neg (by simpa using c2)]
        omega
theorem gN_g {N v : Nat} (h : N < v) : ∀ L : List Nat, v ∈ L → gN L v + 1 ≤ gN L N ∧ gP L v + v ≤ gP L N
  | [], hv => by cases hv
  | a :: L, hv => by
    by_cases e : a = v
    · obtain ⟨h1, h2⟩ := gN_le h L
      unfold gN gP at *
      rw [List.filter_cons, List.filter_cons, if_neg (by simp; omega), if_pos (by simp; omega)]
      simp only [List.length_cons, List.sum_cons]
      omega
    · have hv' : v ∈ L := by
        rcases List.mem_cons.mp hv with q | q
        · exact absurd q.symm e
        · exact q
      obtain ⟨h1, h2⟩ := gN_g h L hv'
      unfold gN gP at *
      rw [List.filter_cons, List.filter_cons]
      by_cases c : v < a
      · rw [if_pos (by simpa using c), if_pos (by simp; omega)]
        simp only [List.length_cons, List.sum_cons]
        omega
      · rw [if_neg (by simpa using c)]
        by_cases c2 : N < a
        · rw [if_pos (by simpa using c2)]
          simp only [List.length_cons, List.sum_cons]
          omega
        · rw [if_neg (by simpa using c2)]
          omega
def gLP : List Nat := [21, 84, 336, 1344, 5376, 21504]
def gLS : List Nat := [1, 4, 16, 64, 256, 1024]
def gLM : List Nat := (List.range 6).flatMap (fun m => (List.range (wNb m + 1)).map (fun n => 21 * n * (m + 1)))
theorem gT0 : 2 * gN gLP 0 + gN gLS 0 + gN gLM 0 ≤ 300 ∧ 2 * gP gLP 0 + gP gLS 0 + gP gLM 0 ≤ 2000000 := by decide +kernel
theorem gLP_m {m : Nat} (h : m ≤ 5) : 21 * 4 ^ m ∈ gLP := by
  rcases (by omega : m = 0 ∨ m = 1 ∨ m = 2 ∨ m = 3 ∨ m = 4 ∨ m = 5) with rfl | rfl | rfl | rfl | rfl | rfl <;> decide
theorem gLS_m {m : Nat} (h : m ≤ 5) : 4 ^ m ∈ gLS := by
  rcases (by omega : m = 0 ∨ m = 1 ∨ m = 2 ∨ m = 3 ∨ m = 4 ∨ m = 5) with rfl | rfl | rfl | rfl | rfl | rfl <;> decide
theorem gLM_m {m n : Nat} (h : m ≤ 5) (hn : n ≤ wNb m) : 21 * n * (m + 1) ∈ gLM := by
  unfold gLM
  rw [List.mem_flatMap]
  refine ⟨m, List.mem_range.mpr (by omega), ?_⟩
  rw [List.mem_map]
  exact ⟨n, List.mem_range.mpr (by omega), rfl⟩
def gB (o k : Nat) (z : Nat × Nat) (N sN mN : Nat) : Prop := z.1 + (2 * gN gLP N + gN gLS sN + gN gLM mN) ≤ o + 400 + 25 * k ∧ z.2 + (2 * gP gLP N + gP gLS sN + gP gLM mN) ≤ 2200000 + 100 * k
theorem gB.pl {S : Nat → Int32} {o k N N' sN mN m m' a a' : Nat} {z z' : Nat × Nat} (h5 : wN (S 116) ≤ 5) (h : gB o k z N sN mN) (hg : plGr S N N' m m' a a' z z') : gB o (k + 1) z' N' sN mN := by
  obtain ⟨h1, h2⟩ := h
  rcases hg with q | q
  · rw [q.1, q.2.1]
    exact ⟨by omega, by omega⟩
  · obtain ⟨g1, g2⟩ := gN_g q.1 gLP (by rw [q.2.1]; exact gLP_m h5)
    rw [q.2.2.1]
    constructor
    · show z.1 + 2 + _ ≤ _
      omega
    · show z.2 + N' + N' + _ ≤ _
      omega
theorem gB.st {S : Nat → Int32} {o k n N sA sA' sN sN' mA mA' mN mN' : Nat} {z z' : Nat × Nat} (h5 : wN (S 116) ≤ 5) (hn : n ≤ wNb (wN (S 116))) (h : gB o k z N sN mN) (hg : stGr S n sA sA' sN sN' mA mA' mN mN' z z') : gB o (k + 1) z' N sN' mN' := by
  obtain ⟨h1, h2⟩ := h
  obtain ⟨z1, a, b⟩ := hg
  have ha : z1.1 + gN gLS sN' ≤ z.1 + gN gLS sN ∧ z1.2 + gP gLS sN' ≤ z.2 + gP gLS sN := by
    rcases a with q | q
    · rw [q.1, q.2.2]
      exact ⟨Nat.le_refl _, Nat.le_refl _⟩
    · obtain ⟨g1, g2⟩ := gN_g q.1 gLS (by rw [q.2.1]; exact gLS_m h5)
      rw [q.2.2.2]
      constructor
      · show z.1 + 1 + _ ≤ _
        omega
      · show z.2 + sN' + _ ≤ _
        omega
  have hb : z'.1 + gN gLM mN' ≤ z1.1 + gN gLM mN ∧ z'.2 + gP gLM mN' ≤ z1.2 + gP gLM mN := by
    rcases b with q | q
    · rw [q.1, q.2.2]
      exact ⟨Nat.le_refl _, Nat.le_refl _⟩
    · obtain ⟨g1, g2⟩ := gN_g q.1 gLM (by rw [q.2.1]; exact gLM_m h5 hn)
      rw [q.2.2.2]
      constructor
      · show z1.1 + 1 + _ ≤ _
        omega
      · show z1.2 + mN' + _ ≤ _
        omega
  constructor
  · omega
  · omega
theorem gB.up {o k N sN mN : Nat} {z z' : Nat × Nat} (h : gB o k z N sN mN) (h1 : z'.1 ≤ z.1 + 25) (h2 : z'.2 ≤ z.2 + 100) : gB o (k + 1) z' N sN mN := by
  obtain ⟨q1, q2⟩ := h
  exact ⟨by omega, by omega⟩
