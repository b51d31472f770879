/-! codes of a street -/
/-- the digits of a place without peeped ones -/
def wVd (S : Nat → Int32) (dg : Nat → Nat) : Prop := dIn S dg ∧ cPp S dg = false
def wIx (dg : Nat → Nat) : Nat := dg 0 / 3 + 2 * ((dg 1 + 1) / 2 + 3 * ((dg 2 + 1) / 2 + 3 * ((dg 3 + 1) / 2 + 3 * ((dg 4 + 1) / 2))))
section WC
variable {S R : Nat → Int32} {dg dg' : Nat → Nat} {b i : Nat}
theorem fall_t {p : Nat → Bool} : ∀ (k i : Nat), fall p i k = true → ∀ j, i ≤ j → j < i + k → p j = true
  | 0, i, _, j, h1, h2 => by omega
  | k + 1, i, h, j, h1, h2 => by
    unfold fall at h
    rw [Bool.and_eq_true] at h
    by_cases e : j = i
    · rw [e]
      exact h.1
    · exact fall_t k (i + 1) h.2 j (by omega) (by omega)
theorem fall_i {p : Nat → Bool} : ∀ (k i : Nat), (∀ j, i ≤ j → j < i + k → p j = true) → fall p i k = true
  | 0, i, _ => rfl
  | k + 1, i, h => by
    unfold fall
    rw [h i (by omega) (by omega), fall_i k (i + 1) (fun j h1 h2 => h j (by omega) (by omega))]
    rfl
theorem wVd_iff (hd : dIn S dg) : cPp S dg = false ↔ ∀ b, b < wN (S 116) → dg b = 0 ∨ cOp S dg b = true := by
  unfold cPp
  constructor
  · intro h b hb
    have h' : fall (c_np S dg) 0 (wN (S 116)) = true := by simpa using h
    have := fall_t _ _ h' b (by omega) (by omega)
    unfold c_np at this
    simpa using this
  · intro h
    have : fall (c_np S dg) 0 (wN (S 116)) = true := fall_i _ _ (fun j _ h2 => by
      unfold c_np
      simpa using h j (by omega))
    rw [this]
    rfl
theorem wVd.can (h : wVd S dg) : cCan S dg = true := by
  have := (wVd_iff h.1).mp h.2
  refine fall_i _ _ (fun j _ h2 => ?_)
  unfold c_can
  rcases this j (by omega) with q | q
  · simp [q]
  · simp [q]
theorem wVd.d (hG : qG S) (h : wVd S dg) : ∀ b, b < 5 → (dg b = 0 ∨ dg b = 3 ∨ (dg b = 1 ∧ b ≠ 0)) := by
  intro b hb
  by_cases hm : b < wN (S 116)
  · rcases (wVd_iff h.1).mp h.2 b hm with q | q
    · exact Or.inl q
    · unfold cOp at q
      simp only [Bool.or_eq_true, Bool.and_eq_true, decide_eq_true_eq] at q
      rcases q with q | ⟨q1, q2⟩
      · exact Or.inr (Or.inl q)
      · refine Or.inr (Or.inr ⟨q1, fun e => ?_⟩)
        subst e
        have := ((hG.2.2 0 hm).2.2.2.2.1 q2).2.1
        omega
  · exact Or.inl (h.1.2 b (by omega))
theorem wIx_lt (hG : qG S) (h : wVd S dg) : wIx dg < 162 := by
  have d0 := h.d hG 0 (by omega)
  have d1 := h.d hG 1 (by omega)
  have d2 := h.d hG 2 (by omega)
  have d3 := h.d hG 3 (by omega)
  have d4 := h.d hG 4 (by omega)
  unfold wIx
  omega
theorem wIx_mono (hG : qG S) (h : wVd S dg) (h' : wVd S dg') (hl : pk dg < pk dg') : wIx dg < wIx dg' := by
  have d0 := h.d hG 0 (by omega)
  have d1 := h.d hG 1 (by omega)
  have d2 := h.d hG 2 (by omega)
  have d3 := h.d hG 3 (by omega)
  have d4 := h.d hG 4 (by omega)
  have e0 := h'.d hG 0 (by omega)
  have e1 := h'.d hG 1 (by omega)
  have e2 := h'.d hG 2 (by omega)
  have e3 := h'.d hG 3 (by omega)
  have e4 := h'.d hG 4 (by omega)
  unfold pk at hl
  unfold wIx
  generalize dg 0 = a0 at *
  generalize dg 1 = a1 at *
  generalize dg 2 = a2 at *
  generalize dg 3 = a3 at *
  generalize dg 4 = a4 at *
  generalize dg' 0 = b0 at *
  generalize dg' 1 = b1 at *
  generalize dg' 2 = b2 at *
  generalize dg' 3 = b3 at *
  generalize dg' 4 = b4 at *
  have st : ∀ a b : Nat, (a = 0 ∨ a = 3 ∨ a = 1) → (b = 0 ∨ b = 3 ∨ b = 1) → a < b → (a + 1) / 2 < (b + 1) / 2 := fun a b h1 h2 h3 => by
    rcases h1 with rfl | rfl | rfl <;> rcases h2 with rfl | rfl | rfl <;> omega
  have m1 : a1 < 4 ∧ b1 < 4 := by omega
  have m2 : a2 < 4 ∧ b2 < 4 := by omega
  have m3 : a3 < 4 ∧ b3 < 4 := by omega
  have m4 : a4 < 4 ∧ b4 < 4 := by omega
  have m0 : a0 < 4 ∧ b0 < 4 := by omega
  rcases Nat.lt_trichotomy a4 b4 with q | q | q
  · have := st a4 b4 (by omega) (by omega) q
    clear d1 d2 d3 d0 e0 e1 e2 e3 d4 e4 st hl
    omega
  · subst q
    rcases Nat.lt_trichotomy a3 b3 with q | q | q
    · have := st a3 b3 (by omega) (by omega) q
      clear d1 d2 d3 d0 e0 e1 e2 e3 d4 e4 st hl
      omega
    · subst q
      rcases Nat.lt_trichotomy a2 b2 with q | q | q
      · have := st a2 b2 (by omega) (by omega) q
        clear d1 d2 d3 d0 e0 e1 e2 e3 d4 e4 st hl
        omega
      · subst q
        rcases Nat.lt_trichotomy a1 b1 with q | q | q
        · have := st a1 b1 (by omega) (by omega) q
          clear d1 d2 d3 d0 e0 e1 e2 e3 d4 e4 st hl
          omega
        · subst q
          have : a0 / 3 < b0 / 3 := by omega
          clear d1 d2 d3 d0 e0 e1 e2 e3 d4 e4 st hl
          omega
        · exfalso
          clear d1 d2 d3 d0 e0 e1 e2 e3 d4 e4 st
          omega
      · exfalso
        clear d1 d2 d3 d0 e0 e1 e2 e3 d4 e4 st
        omega
    · exfalso
      clear d1 d2 d3 d0 e0 e1 e2 e3 d4 e4 st
      omega
  · exfalso
    clear d1 d2 d3 d0 e0 e1 e2 e3 d4 e4 st
    omega
/-- a mask of boxes that wait -/
def wMs (wd : Nat → Nat) : Prop := dOk wd ∧ (∀ b, wd b = 0 ∨ wd b = 3) ∧ ∀ dg, dOk dg → ((zI (pk dg) &&& zI (pk wd) = 0) ↔ ∀ b, b < 5 → wd b = 3 → dg b = 0)
theorem wMs_0 : wMs (fun _ => 0) := ⟨fun _ _ => by show 0 < 4; omega, fun _ => Or.inl rfl, fun dg _ => ⟨fun _ b _ e => (Nat.zero_ne_add_one 2 e).elim, fun _ => by
  show zI (pk dg) &&& zI 0 = 0
  exact Int32.and_zero⟩⟩
theorem m3_key : ∀ c, c < 1024 → ∀ b, b < 5 → (zI c &&& (zI 3 <<< (zI (2 * b) &&& 31)) = 0 ↔ c / 4 ^ b % 4 = 0) := by decide +kernel
theorem m3_z (h : dOk dg) (hb : b < 5) : (zI (pk dg) &&& (zI 3 <<< (zI (2 * b) &&& 31)) = 0) = (dg b = 0) := by
  rw [propext (m3_key _ (pkc_lt h) _ hb), pk_dig h hb]
theorem and_or0 {x y w : Int32} : x &&& (y ||| w) = 0 ↔ x &&& y = 0 ∧ x &&& w = 0 := by
  rw [← Int32.toBitVec_inj, ← Int32.toBitVec_inj, ← Int32.toBitVec_inj, Int32.toBitVec_and, Int32.toBitVec_or, Int32.toBitVec_and, Int32.toBitVec_and, show (0 : Int32).toBitVec = 0#32 from rfl]
  constructor
  · intro h
    constructor
    · apply BitVec.eq_of_getLsbD_eq
      intro i hi
      have := congrArg (fun v => v.getLsbD i) h
      simp at this ⊢
      intro a
      have := this a
      simp_all
    · apply BitVec.eq_of_getLsbD_eq
      intro i hi
      have := congrArg (fun v => v.getLsbD i) h
      simp at this ⊢
      intro a
      have := this a
      simp_all
  · rintro ⟨h1, h2⟩
    apply BitVec.eq_of_getLsbD_eq
    intro i hi
    have q1 := congrArg (fun v => v.getLsbD i) h1
    have q2 := congrArg (fun v => v.getLsbD i) h2
    simp at q1 q2 ⊢
    intro a
    simp_all
theorem wMs.set {wd : Nat → Nat} (h : wMs wd) (hb : b < 5) : zI (pk wd) ||| (zI 3 <<< (zI (2 * b) &&& 31)) = zI (pk (dset wd b 3)) ∧ wMs (dset wd b 3) := by
  have e := dput_3 h.1 hb
  refine ⟨e, h.1.set (by omega), fun c => ?_, fun dg hd => ?_⟩
  · by_cases q : c = b
    · rw [q, dset_s]
      exact Or.inr rfl
    · rw [dset_o q]
      exact h.2.1 c
  · rw [← e, and_or0, h.2.2 dg hd, m3_z hd hb]
    constructor
    · rintro ⟨h1, h2⟩ c hc hw
      by_cases q : c = b
      · rw [q]
        exact h2
      · rw [dset_o q] at hw
        exact h1 c hc hw
    · intro h1
      refine ⟨fun c hc hw => ?_, h1 b hb dset_s⟩
      by_cases q : c = b
      · rw [q]
        exact h1 b hb dset_s
      · exact h1 c hc (by rw [dset_o q]; exact hw)
/-- places without peeped ones have such codes -/
theorem wVd_q (hG : qG R) (hR : qRw R S) (hL : qPl S) (hp : qNp S) : wVd R (qDg S) := by
  have h5 := hG.m.2
  refine ⟨lk_in hR, (wVd_iff (lk_in hR)).mpr (fun b hb => ?_)⟩
  rw [lk_op hR hL hb h5, dg_v hR hb h5]
  rcases hp b (by omega) with q | q
  · left
    have : hw S b = 0 := by
      unfold hw
      rw [q]
      rfl
    rw [this, if_pos (by omega)]
  · right
    have : 3 ≤ hw S b := q
    simpa using this
end WC
