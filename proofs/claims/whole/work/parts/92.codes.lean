/-! codes and digits; what a step of the table looks at -/
def dgc (c b : Nat) : Nat := c / 4 ^ b % 4
theorem dgc_ok {c : Nat} : dOk (dgc c) := fun b _ => Nat.mod_lt _ (by omega)
theorem pk_dgc {c : Nat} (hc : c < 1024) : pk (dgc c) = c := by
  unfold pk dgc
  simp only [Nat.reducePow]
  omega
theorem dgc_in {S : Nat → Int32} {c : Nat} (hc : c < 4 ^ wN (S 116)) : dIn S (dgc c) := ⟨dgc_ok, fun b hb => by
  unfold dgc
  have : 4 ^ wN (S 116) ≤ 4 ^ b := Nat.pow_le_pow_right (by omega) hb
  rw [Nat.div_eq_of_lt (by omega)]⟩
theorem dIn.eq {S : Nat → Int32} {dg : Nat → Nat} (h : dIn S dg) (h5 : wN (S 116) ≤ 5) : dgc (pk dg) = dg := by
  funext b
  by_cases hb : b < 5
  · exact pk_dig h.1 hb
  · rw [h.2 b (by omega)]
    unfold dgc
    have h1 := pkc_lt h.1
    have : (1024 : Nat) ≤ 4 ^ b := by
      have : (4 : Nat) ^ 5 ≤ 4 ^ b := Nat.pow_le_pow_right (by omega) (by omega)
      omega
    rw [Nat.div_eq_of_lt (by omega)]
theorem dIn.inj {S : Nat → Int32} {dg dg' : Nat → Nat} (h : dIn S dg) (h' : dIn S dg') (h5 : wN (S 116) ≤ 5) (e : pk dg = pk dg') : dg = dg' := by rw [← h.eq h5, ← h'.eq h5, e]
theorem four_le {m : Nat} (h5 : m ≤ 5) : 4 ^ m ≤ 1024 := by
  have : (4 : Nat) ^ m ≤ 4 ^ 5 := Nat.pow_le_pow_right (by omega) h5
  omega
theorem idx_inj {S : Nat → Int32} {dg dg' : Nat → Nat} {r r' : Nat} (h : dIn S dg) (h' : dIn S dg') (h5 : wN (S 116) ≤ 5) (e : r * 4 ^ wN (S 116) + pk dg = r' * 4 ^ wN (S 116) + pk dg') : r = r' ∧ pk dg = pk dg' := by
  have l1 := pkm_lt h h5
  have l2 := pkm_lt h' h5
  have e1 : (r * 4 ^ wN (S 116) + pk dg) / 4 ^ wN (S 116) = r := by
    rw [Nat.mul_comm, Nat.mul_add_div (by omega), Nat.div_eq_of_lt l1, Nat.add_zero]
  have e2 : (r' * 4 ^ wN (S 116) + pk dg') / 4 ^ wN (S 116) = r' := by
    rw [Nat.mul_comm, Nat.mul_add_div (by omega), Nat.div_eq_of_lt l2, Nat.add_zero]
  rw [e] at e1
  have : r = r' := by omega
  subst this
  exact ⟨rfl, by omega⟩
theorem bt_oo {S : Nat → Int32} {dg : Nat → Nat} (h5 : wN (S 116) ≤ 5) : ∀ (k b : Nat), k ≤ wN (S 116) → b < 32 → bt (fo (c_oo S dg) 0 k (zI 0)) b = if b < k then cOp S dg b else false := by
  intro k
  induction k with
  | zero =>
    intro b _ hb
    rw [if_neg (by omega)]
    exact bt_z b hb
  | succ k ih =>
    intro b hk hb
    rw [fo_succ, Nat.zero_add]
    have e := ih b (by omega) hb
    generalize fo (c_oo S dg) 0 k (zI 0) = w at e
    unfold c_oo
    by_cases c : cOp S dg k = true
    · rw [if_pos c, bt_or (by omega) hb]
      by_cases e1 : k = b
      · subst e1
        rw [if_pos (by omega), decide_eq_true rfl, Bool.or_true, c]
      · rw [decide_eq_false e1, Bool.or_false, e]
        by_cases e2 : b < k
        · rw [if_pos e2, if_pos (by omega)]
        · rw [if_neg e2, if_neg (by omega)]
    · rw [if_neg c, e]
      by_cases e2 : b < k
      · rw [if_pos e2, if_pos (by omega)]
      · rw [if_neg e2]
        by_cases e1 : b = k
        · subst e1
          rw [if_pos (by omega)]
          exact (by simpa using c : cOp S dg b = false).symm
        · rw [if_neg (by omega)]
theorem bt_OO {S : Nat → Int32} {dg : Nat → Nat} {b : Nat} (h5 : wN (S 116) ≤ 5) (hb : b < wN (S 116)) : bt (cOO S dg) b = cOp S dg b := by
  unfold cOO
  rw [bt_oo h5 _ b (Nat.le_refl _) (by omega), if_pos hb]
theorem cMay_op {S : Nat → Int32} {dg : Nat → Nat} {b : Nat} (h5 : wN (S 116) ≤ 5) (hb : b < wN (S 116)) (hm : cMay S dg b = true) : cOp S dg b = false := by
  unfold cMay cAm at hm
  rw [bt_OO h5 hb] at hm
  simp only [Bool.and_eq_true, Bool.not_eq_true'] at hm
  exact hm.1
theorem pk_ao {S : Nat → Int32} {dg : Nat → Nat} {b i : Nat} (hd : dOk dg) (h5 : wN (S 116) ≤ 5) (hb : b < wN (S 116)) (ho : cOp S dg b = false) : pk dg < pk (cAo S dg b i) := by
  have h4 := hd b (by omega)
  unfold cOp at ho
  simp only [Bool.or_eq_false_iff, decide_eq_false_iff_not, Bool.and_eq_false_iff] at ho
  obtain ⟨o1, o2⟩ := ho
  have hp : 0 < 4 ^ b := Nat.pow_pos (by omega)
  unfold cAo
  by_cases c : i = 0 ∧ S (18 * b) = zI 4
  · rw [if_pos c]
    have o3 : ¬ dg b = 1 := by
      rcases o2 with o2 | o2
      · exact o2
      · exact absurd c.2 o2
    have hx : dg b < dg b ||| 1 := by
      rcases (by omega : dg b = 0 ∨ dg b = 2) with e | e <;> rw [e] <;> decide
    rw [pk_set (by omega) (by omega)]
    have : 1 * 4 ^ b ≤ ((dg b ||| 1) - dg b) * 4 ^ b := Nat.mul_le_mul_right _ (by omega)
    omega
  · rw [if_neg c, pk_set (by omega) (by omega)]
    have : 1 * 4 ^ b ≤ (3 - dg b) * 4 ^ b := Nat.mul_le_mul_right _ (by omega)
    omega
theorem pk_ap {dg : Nat → Nat} {b : Nat} {g : Bool} (hb : b < 5) (h0 : dg b = 0) : pk dg < pk (cAp dg b g) := by
  have hp : 0 < 4 ^ b := Nat.pow_pos (by omega)
  unfold cAp
  rw [h0]
  cases g with
  | true =>
    rw [if_pos rfl, pk_set hb (by omega), h0]
    have : 1 * 4 ^ b ≤ ((0 ||| 1) - 0) * 4 ^ b := Nat.mul_le_mul_right _ (by decide)
    omega
  | false =>
    rw [if_neg (by simp), pk_set hb (by omega), h0]
    have : 1 * 4 ^ b ≤ ((0 ||| 2) - 0) * 4 ^ b := Nat.mul_le_mul_right _ (by decide)
    omega
theorem cStep_cg {S : Nat → Int32} {T : mU × (Nat → Option Nat)} {cs cs' : Nat → Int32} {V V' : (Nat → Nat) → Nat → Int64} {dg : Nat → Nat} {r : Nat} (hd : dIn S dg) (h5 : wN (S 116) ≤ 5) (hV : ∀ dg' r', dIn S dg' → pk dg < pk dg' → V dg' r' = V' dg' r') (hc : ∀ b, b < wN (S 116) → cMay S dg b = true → cs b = cs' b) : cStep S T cs V dg r = cStep S T cs' V' dg r := by
  unfold cStep
  have e1 : fo (c_ob S T cs V dg r) 0 (wN (S 116)) (cS0 S T dg r) = fo (c_ob S T cs' V' dg r) 0 (wN (S 116)) (cS0 S T dg r) := by
    refine fo_congr _ _ _ (fun b _ hb s => ?_)
    have hb' : b < wN (S 116) := by omega
    unfold c_ob
    by_cases c : cMay S dg b = true
    · have ho := cMay_op h5 hb' c
      have : cOpn S T cs V dg r b = cOpn S T cs' V' dg r b := by
        unfold cOpn
        rw [hc b hb' c]
        refine fo_congr _ _ _ (fun i _ _ v => ?_)
        unfold oSt
        rw [hV _ _ (hd.ao h5 hb') (pk_ao hd.1 h5 hb' ho)]
      rw [this]
    · rw [if_neg c, if_neg c]
  rw [e1]
  refine fo_congr _ _ _ (fun b _ hb s => ?_)
  have hb' : b < wN (S 116) := by omega
  unfold c_pb
  by_cases c : cMay S dg b = true ∧ dg b = 0 ∧ S (18 * b) = zI 1
  · have : cPee S V dg r b = cPee S V' dg r b := by
      unfold cPee
      rw [hV _ _ (hd.ap h5 hb') (pk_ap (by omega) c.2.1), hV _ _ (hd.ap h5 hb') (pk_ap (by omega) c.2.1)]
    rw [this]
  · rw [if_neg c, if_neg c]
