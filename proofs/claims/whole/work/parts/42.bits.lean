/-! digits to the base 4, bits -/
def pk (dg : Nat → Nat) : Nat := dg 0 + 4 * dg 1 + 16 * dg 2 + 64 * dg 3 + 256 * dg 4
def dOk (dg : Nat → Nat) : Prop := ∀ b, b < 5 → dg b < 4
def dset (dg : Nat → Nat) (b x : Nat) : Nat → Nat := fun j => if j = b then x else dg j
theorem dset_s {dg : Nat → Nat} {b x : Nat} : dset dg b x b = x := if_pos rfl
theorem dset_o {dg : Nat → Nat} {b x j : Nat} (h : j ≠ b) : dset dg b x j = dg j := if_neg h
theorem dset_dset {dg : Nat → Nat} {b x y : Nat} : dset (dset dg b x) b y = dset dg b y := by
  funext j
  unfold dset
  split <;> rfl
theorem dset_id {dg : Nat → Nat} {b : Nat} : dset dg b (dg b) = dg := by
  funext j
  unfold dset
  split
  · rename_i h
    rw [h]
  · rfl
theorem dOk.set {dg : Nat → Nat} {b x : Nat} (h : dOk dg) (hx : x < 4) : dOk (dset dg b x) := by
  intro j hj
  unfold dset
  split
  · exact hx
  · exact h j hj
theorem pkc_lt {dg : Nat → Nat} (h : dOk dg) : pk dg < 1024 := by
  have h0 := h 0 (by omega)
  have h1 := h 1 (by omega)
  have h2 := h 2 (by omega)
  have h3 := h 3 (by omega)
  have h4 := h 4 (by omega)
  unfold pk
  omega
theorem pk_dig {dg : Nat → Nat} {b : Nat} (h : dOk dg) (hb : b < 5) : pk dg / 4 ^ b % 4 = dg b := by
  have h0 := h 0 (by omega)
  have h1 := h 1 (by omega)
  have h2 := h 2 (by omega)
  have h3 := h 3 (by omega)
  have h4 := h 4 (by omega)
  unfold pk
  rcases (by omega : b = 0 ∨ b = 1 ∨ b = 2 ∨ b = 3 ∨ b = 4) with rfl | rfl | rfl | rfl | rfl <;> simp only [Nat.reducePow] <;> omega
theorem dig_key : ∀ c, c < 1024 → ∀ b, b < 5 → zI c >>> (zI (2 * b) &&& 31) &&& zI 3 = zI (c / 4 ^ b % 4) := by decide +kernel
theorem dig_r {dg : Nat → Nat} {b : Nat} (h : dOk dg) (hb : b < 5) : zI (pk dg) >>> (zI (2 * b) &&& 31) &&& zI 3 = zI (dg b) := by
  rw [dig_key _ (pkc_lt h) _ hb, pk_dig h hb]
theorem dput_key1 : ∀ c, c < 1024 → ∀ b, b < 5 → zI c ||| (zI 1 <<< (zI (2 * b) &&& 31)) = zI (c + ((c / 4 ^ b % 4 ||| 1) - c / 4 ^ b % 4) * 4 ^ b) := by decide +kernel
theorem dput_key2 : ∀ c, c < 1024 → ∀ b, b < 5 → zI c ||| (zI 2 <<< (zI (2 * b) &&& 31)) = zI (c + ((c / 4 ^ b % 4 ||| 2) - c / 4 ^ b % 4) * 4 ^ b) := by decide +kernel
theorem dput_key3 : ∀ c, c < 1024 → ∀ b, b < 5 → zI c ||| (zI 3 <<< (zI (2 * b) &&& 31)) = zI (c + ((c / 4 ^ b % 4 ||| 3) - c / 4 ^ b % 4) * 4 ^ b) := by decide +kernel
theorem pk_set {dg : Nat → Nat} {b x : Nat} (hb : b < 5) (hx : dg b ≤ x) : pk (dset dg b x) = pk dg + (x - dg b) * 4 ^ b := by
  unfold pk dset
  rcases (by omega : b = 0 ∨ b = 1 ∨ b = 2 ∨ b = 3 ∨ b = 4) with rfl | rfl | rfl | rfl | rfl <;> simp <;> omega
theorem or_le {x y : Nat} : x ≤ x ||| y := Nat.left_le_or
theorem dput_1 {dg : Nat → Nat} {b : Nat} (h : dOk dg) (hb : b < 5) : zI (pk dg) ||| (zI 1 <<< (zI (2 * b) &&& 31)) = zI (pk (dset dg b (dg b ||| 1))) := by
  rw [dput_key1 _ (pkc_lt h) _ hb, pk_dig h hb, pk_set hb or_le]
theorem dput_2 {dg : Nat → Nat} {b : Nat} (h : dOk dg) (hb : b < 5) : zI (pk dg) ||| (zI 2 <<< (zI (2 * b) &&& 31)) = zI (pk (dset dg b (dg b ||| 2))) := by
  rw [dput_key2 _ (pkc_lt h) _ hb, pk_dig h hb, pk_set hb or_le]
theorem or_3 {x : Nat} (h : x < 4) : x ||| 3 = 3 := by
  rcases (by omega : x = 0 ∨ x = 1 ∨ x = 2 ∨ x = 3) with rfl | rfl | rfl | rfl <;> rfl
theorem dput_3 {dg : Nat → Nat} {b : Nat} (h : dOk dg) (hb : b < 5) : zI (pk dg) ||| (zI 3 <<< (zI (2 * b) &&& 31)) = zI (pk (dset dg b 3)) := by
  rw [dput_key3 _ (pkc_lt h) _ hb, pk_dig h hb, or_3 (h b hb), pk_set hb (by have := h b hb; omega)]
/-! bits of a mask -/
def bt (x : Int32) (r : Nat) : Bool := !decide (x &&& (zI 1 <<< (zI r &&& 31)) = 0)
theorem bt_0 {x : Int32} {r : Nat} : (x &&& (zI 1 <<< (zI r &&& 31)) = 0) = (bt x r = false) := by
  unfold bt
  simp
theorem bt_pow : ∀ r, r < 32 → (zI 1 <<< (zI r &&& 31)).toBitVec = BitVec.twoPow 32 r := by decide +kernel
theorem bt_bit {x : Int32} {r : Nat} (hr : r < 32) : bt x r = x.toBitVec.getLsbD r := by
  unfold bt
  have h : (x &&& (zI 1 <<< (zI r &&& 31)) = 0) ↔ x.toBitVec.getLsbD r = false := by
    rw [← Int32.toBitVec_inj, Int32.toBitVec_and, bt_pow r hr, BitVec.and_twoPow]
    cases hx : x.toBitVec.getLsbD r with
    | false => simp
    | true =>
      simp only [if_true, reduceCtorEq, iff_false]
      intro h0
      have := congrArg (fun y => y.getLsbD r) h0
      simp [hr] at this
  cases hx : x.toBitVec.getLsbD r with
  | false => simp [h.mpr hx]
  | true =>
    have : ¬ (x &&& (zI 1 <<< (zI r &&& 31)) = 0) := fun h0 => by
      rw [h.mp h0] at hx
      cases hx
    simp [this]
theorem bt_or {x : Int32} {q r : Nat} (hq : q < 32) (hr : r < 32) : bt (x ||| (zI 1 <<< (zI q &&& 31))) r = (bt x r || decide (q = r)) := by
  rw [bt_bit hr, bt_bit hr, Int32.toBitVec_or, bt_pow q hq, BitVec.getLsbD_or, BitVec.getLsbD_twoPow]
  congr 1
  simp only [hq, decide_true, Bool.true_and]
theorem bt_z : ∀ r, r < 32 → bt (zI 0) r = false := by decide +kernel
theorem bt_one : ∀ r, r < 32 → bt (zI 1) r = decide (r = 0) := by decide +kernel
