/-! the reference's object and its arrays, side by side -/
abbrev mU : Type := (Nat → Nat → Int32) × (Nat → Nat → Int64) × (Nat → Int32) × (Nat → Int64)
def mF (o : Nat) (u : mU) : List Value := [.ref (o + 1), .ref (o + 2), .ref (o + 3), .ref (o + 4), .ref (o + 5), .ref (o + 6), .ref (o + 7), .ref (o + 8), .ref (o + 9), .ref (o + 10), .int (u.2.2.1 10), .int (u.2.2.1 11), .int (u.2.2.1 12), .int (u.2.2.1 13), .int (u.2.2.1 14), .int (u.2.2.1 15), .ref (o + 11), .ref (o + 12), .ref (o + 13), .int (u.2.2.1 19), .int (u.2.2.1 20), .int (u.2.2.1 21), .int (u.2.2.1 22), .int (u.2.2.1 23), .int (u.2.2.1 24), .long (u.2.2.2 25), .long (u.2.2.2 26), .ref (o + 14), .ref (o + 15), .ref (o + 16), .ref (o + 17), .ref (o + 18), .int (u.2.2.1 32), .ref (o + 19), .long (u.2.2.2 34), .int (u.2.2.1 35), .int (u.2.2.1 36)]
def mA (u : mU) (k : Nat) : FieldType × vp_A := match k with
  | 1 => (.int, 118, .inl (u.1 1))
  | 2 => (.int, 118, .inl (u.1 2))
  | 3 => (.int, 118, .inl (u.1 3))
  | 4 => (.int, 5, .inl (u.1 4))
  | 5 => (.int, 8, .inl (u.1 5))
  | 6 => (.int, 8, .inl (u.1 6))
  | 7 => (.int, 8, .inl (u.1 7))
  | 8 => (.int, 960, .inl (u.1 8))
  | 9 => (.int, 8, .inl (u.1 9))
  | 10 => (.int, 8, .inl (u.1 10))
  | 11 => (.int, 120, .inl (u.1 11))
  | 12 => (.int, 120, .inl (u.1 12))
  | 13 => (.int, 120, .inl (u.1 13))
  | 14 => (.long, 16807, .inr (.inl (u.2.1 14)))
  | 15 => (.long, 16807, .inr (.inl (u.2.1 15)))
  | 16 => (.int, 16807, .inl (u.1 16))
  | 17 => (.boolean, 16807, .inl (u.1 17))
  | 18 => (.boolean, 16807, .inl (u.1 18))
  | 19 => (.int, 5, .inl (u.1 19))
  | _ => (.int, 0, .inl (fun _ => 0))
def mH (h : am_H) (o : Nat) (u : mU) : am_H := fun q => if q = o then some (.inr (12, mF o u)) else if o < q ∧ q < o + 20 then some (.inl (mA u (q - o))) else h q
def mS (u : mU) (k : Nat) (f : Nat → Int32) : mU := (fun j => if j = k then f else u.1 j, u.2)
def mL (u : mU) (k : Nat) (f : Nat → Int64) : mU := (u.1, fun j => if j = k then f else u.2.1 j, u.2.2)
def mI (u : mU) (k : Nat) (x : Int32) : mU := (u.1, u.2.1, fun j => if j = k then x else u.2.2.1 j, u.2.2.2)
def mJ (u : mU) (k : Nat) (x : Int64) : mU := (u.1, u.2.1, u.2.2.1, fun j => if j = k then x else u.2.2.2 j)
section MH
variable {h : am_H} {o : Nat} {u : mU}
theorem mH_o : mH h o u o = some (.inr (12, mF o u)) := by
  unfold mH
  rw [if_pos rfl]
theorem mF_len : (mF o u).length = 37 := rfl
theorem mF_lt {j : Nat} (hj : j < 37) : j < (mF o u).length := hj
theorem mH_a {k : Nat} (h1 : 0 < k) (h2 : k < 20) : mH h o u (o + k) = some (.inl (mA u k)) := by
  unfold mH
  rw [if_neg (by omega), if_pos (by omega), Nat.add_sub_cancel_left]
theorem mH_up {k : Nat} {x : FieldType × vp_A} {u' : mU} (h1 : 0 < k) (h2 : k < 20) (hk : mA u' k = x) (hF : mF o u' = mF o u) (ho : ∀ j, j ≠ k → mA u' j = mA u j) : am_up (mH h o u) (o + k) (.inl x) = mH h o u' := by
  funext q
  unfold am_up mH
  by_cases e1 : q = o + k
  · subst e1
    rw [if_pos rfl, if_neg (by omega), if_pos (by omega), Nat.add_sub_cancel_left, hk]
  · rw [if_neg e1]
    by_cases e2 : q = o
    · rw [if_pos e2, if_pos e2, hF]
    · rw [if_neg e2, if_neg e2]
      by_cases e3 : o < q ∧ q < o + 20
      · rw [if_pos e3, if_pos e3, ho _ (by omega)]
      · rw [if_neg e3, if_neg e3]
theorem mH_uf {fs : List Value} {u' : mU} (hF : mF o u' = fs) (ho : mA u' = mA u) : am_up (mH h o u) o (.inr (12, fs)) = mH h o u' := by
  funext q
  unfold am_up mH
  by_cases e1 : q = o
  · rw [if_pos e1, if_pos e1, hF]
  · rw [if_neg e1, if_neg e1, if_neg e1, ho]
theorem mH_1 : mH h o u (o + 1) = some (.inl (.int, 118, .inl (u.1 1))) := mH_a (by decide) (by decide)
theorem mw_1 {f : Nat → Int32} : am_up (mH h o u) (o + 1) (.inl (.int, 118, .inl (f))) = mH h o (mS u 1 f) := mH_up (by decide) (by decide) rfl rfl (fun j hj => by
  match j, hj with
  | 1, hj => exact absurd rfl hj
  | 2, _ => rfl
  | 3, _ => rfl
  | 4, _ => rfl
  | 5, _ => rfl
  | 6, _ => rfl
  | 7, _ => rfl
  | 8, _ => rfl
  | 9, _ => rfl
  | 10, _ => rfl
  | 11, _ => rfl
  | 12, _ => rfl
  | 13, _ => rfl
  | 14, _ => rfl
  | 15, _ => rfl
  | 16, _ => rfl
  | 17, _ => rfl
  | 18, _ => rfl
  | 19, _ => rfl
  | 0, _ => rfl
  | i + 20, _ => rfl)
theorem mH_2 : mH h o u (o + 2) = some (.inl (.int, 118, .inl (u.1 2))) := mH_a (by decide) (by decide)
theorem mw_2 {f : Nat → Int32} : am_up (mH h o u) (o + 2) (.inl (.int, 118, .inl (f))) = mH h o (mS u 2 f) := mH_up (by decide) (by decide) rfl rfl (fun j hj => by
  match j, hj with
  | 1, _ => rfl
  | 2, hj => exact absurd rfl hj
  | 3, _ => rfl
  | 4, _ => rfl
  | 5, _ => rfl
  | 6, _ => rfl
  | 7, _ => rfl
  | 8, _ => rfl
  | 9, _ => rfl
  | 10, _ => rfl
  | 11, _ => rfl
  | 12, _ => rfl
  | 13, _ => rfl
  | 14, _ => rfl
  | 15, _ => rfl
  | 16, _ => rfl
  | 17, _ => rfl
  | 18, _ => rfl
  | 19, _ => rfl
  | 0, _ => rfl
  | i + 20, _ => rfl)
theorem mH_3 : mH h o u (o + 3) = some (.inl (.int, 118, .inl (u.1 3))) := mH_a (by decide) (by decide)
theorem mw_3 {f : Nat → Int32} : am_up (mH h o u) (o + 3) (.inl (.int, 118, .inl (f))) = mH h o (mS u 3 f) := mH_up (by decide) (by decide) rfl rfl (fun j hj => by
  match j, hj with
  | 1, _ => rfl
  | 2, _ => rfl
  | 3, hj => exact absurd rfl hj
  | 4, _ => rfl
  | 5, _ => rfl
  | 6, _ => rfl
  | 7, _ => rfl
  | 8, _ => rfl
  | 9, _ => rfl
  | 10, _ => rfl
  | 11, _ => rfl
  | 12, _ => rfl
  | 13, _ => rfl
  | 14, _ => rfl
  | 15, _ => rfl
  | 16, _ => rfl
  | 17, _ => rfl
  | 18, _ => rfl
  | 19, _ => rfl
  | 0, _ => rfl
  | i + 20, _ => rfl)
theorem mH_4 : mH h o u (o + 4) = some (.inl (.int, 5, .inl (u.1 4))) := mH_a (by decide) (by decide)
theorem mw_4 {f : Nat → Int32} : am_up (mH h o u) (o + 4) (.inl (.int, 5, .inl (f))) = mH h o (mS u 4 f) := mH_up (by decide) (by decide) rfl rfl (fun j hj => by
  match j, hj with
  | 1, _ => rfl
  | 2, _ => rfl
  | 3, _ => rfl
  | 4, hj => exact absurd rfl hj
  | 5, _ => rfl
  | 6, _ => rfl
  | 7, _ => rfl
  | 8, _ => rfl
  | 9, _ => rfl
  | 10, _ => rfl
  | 11, _ => rfl
  | 12, _ => rfl
  | 13, _ => rfl
  | 14, _ => rfl
  | 15, _ => rfl
  | 16, _ => rfl
  | 17, _ => rfl
  | 18, _ => rfl
  | 19, _ => rfl
  | 0, _ => rfl
  | i + 20, _ => rfl)
theorem mH_5 : mH h o u (o + 5) = some (.inl (.int, 8, .inl (u.1 5))) := mH_a (by decide) (by decide)
theorem mw_5 {f : Nat → Int32} : am_up (mH h o u) (o + 5) (.inl (.int, 8, .inl (f))) = mH h o (mS u 5 f) := mH_up (by decide) (by decide) rfl rfl (fun j hj => by
  match j, hj with
  | 1, _ => rfl
  | 2, _ => rfl
  | 3, _ => rfl
  | 4, _ => rfl
  | 5, hj => exact absurd rfl hj
  | 6, _ => rfl
  | 7, _ => rfl
  | 8, _ => rfl
  | 9, _ => rfl
  | 10, _ => rfl
  | 11, _ => rfl
  | 12, _ => rfl
  | 13, _ => rfl
  | 14, _ => rfl
  | 15, _ => rfl
  | 16, _ => rfl
  | 17, _ => rfl
  | 18, _ => rfl
  | 19, _ => rfl
  | 0, _ => rfl
  | i + 20, _ => rfl)
theorem mH_6 : mH h o u (o + 6) = some (.inl (.int, 8, .inl (u.1 6))) := mH_a (by decide) (by decide)
theorem mw_6 {f : Nat → Int32} : am_up (mH h o u) (o + 6) (.inl (.int, 8, .inl (f))) = mH h o (mS u 6 f) := mH_up (by decide) (by decide) rfl rfl (fun j hj => by
  match j, hj with
  | 1, _ => rfl
  | 2, _ => rfl
  | 3, _ => rfl
  | 4, _ => rfl
  | 5, _ => rfl
  | 6, hj => exact absurd rfl hj
  | 7, _ => rfl
  | 8, _ => rfl
  | 9, _ => rfl
  | 10, _ => rfl
  | 11, _ => rfl
  | 12, _ => rfl
  | 13, _ => rfl
  | 14, _ => rfl
  | 15, _ => rfl
  | 16, _ => rfl
  | 17, _ => rfl
  | 18, _ => rfl
  | 19, _ => rfl
  | 0, _ => rfl
  | i + 20, _ => rfl)
theorem mH_7 : mH h o u (o + 7) = some (.inl (.int, 8, .inl (u.1 7))) := mH_a (by decide) (by decide)
theorem mw_7 {f : Nat → Int32} : am_up (mH h o u) (o + 7) (.inl (.int, 8, .inl (f))) = mH h o (mS u 7 f) := mH_up (by decide) (by decide) rfl rfl (fun j hj => by
  match j, hj with
  | 1, _ => rfl
  | 2, _ => rfl
  | 3, _ => rfl
  | 4, _ => rfl
  | 5, _ => rfl
  | 6, _ => rfl
  | 7, hj => exact absurd rfl hj
  | 8, _ => rfl
  | 9, _ => rfl
  | 10, _ => rfl
  | 11, _ => rfl
  | 12, _ => rfl
  | 13, _ => rfl
  | 14, _ => rfl
  | 15, _ => rfl
  | 16, _ => rfl
  | 17, _ => rfl
  | 18, _ => rfl
  | 19, _ => rfl
  | 0, _ => rfl
  | i + 20, _ => rfl)
theorem mH_8 : mH h o u (o + 8) = some (.inl (.int, 960, .inl (u.1 8))) := mH_a (by decide) (by decide)
theorem mw_8 {f : Nat → Int32} : am_up (mH h o u) (o + 8) (.inl (.int, 960, .inl (f))) = mH h o (mS u 8 f) := mH_up (by decide) (by decide) rfl rfl (fun j hj => by
  match j, hj with
  | 1, _ => rfl
  | 2, _ => rfl
  | 3, _ => rfl
  | 4, _ => rfl
  | 5, _ => rfl
  | 6, _ => rfl
  | 7, _ => rfl
  | 8, hj => exact absurd rfl hj
  | 9, _ => rfl
  | 10, _ => rfl
  | 11, _ => rfl
  | 12, _ => rfl
  | 13, _ => rfl
  | 14, _ => rfl
  | 15, _ => rfl
  | 16, _ => rfl
  | 17, _ => rfl
  | 18, _ => rfl
  | 19, _ => rfl
  | 0, _ => rfl
  | i + 20, _ => rfl)
theorem mH_9 : mH h o u (o + 9) = some (.inl (.int, 8, .inl (u.1 9))) := mH_a (by decide) (by decide)
theorem mw_9 {f : Nat → Int32} : am_up (mH h o u) (o + 9) (.inl (.int, 8, .inl (f))) = mH h o (mS u 9 f) := mH_up (by decide) (by decide) rfl rfl (fun j hj => by
  match j, hj with
  | 1, _ => rfl
  | 2, _ => rfl
  | 3, _ => rfl
  | 4, _ => rfl
  | 5, _ => rfl
  | 6, _ => rfl
  | 7, _ => rfl
  | 8, _ => rfl
  | 9, hj => exact absurd rfl hj
  | 10, _ => rfl
  | 11, _ => rfl
  | 12, _ => rfl
  | 13, _ => rfl
  | 14, _ => rfl
  | 15, _ => rfl
  | 16, _ => rfl
  | 17, _ => rfl
  | 18, _ => rfl
  | 19, _ => rfl
  | 0, _ => rfl
  | i + 20, _ => rfl)
theorem mH_10 : mH h o u (o + 10) = some (.inl (.int, 8, .inl (u.1 10))) := mH_a (by decide) (by decide)
theorem mw_10 {f : Nat → Int32} : am_up (mH h o u) (o + 10) (.inl (.int, 8, .inl (f))) = mH h o (mS u 10 f) := mH_up (by decide) (by decide) rfl rfl (fun j hj => by
  match j, hj with
  | 1, _ => rfl
  | 2, _ => rfl
  | 3, _ => rfl
  | 4, _ => rfl
  | 5, _ => rfl
  | 6, _ => rfl
  | 7, _ => rfl
  | 8, _ => rfl
  | 9, _ => rfl
  | 10, hj => exact absurd rfl hj
  | 11, _ => rfl
  | 12, _ => rfl
  | 13, _ => rfl
  | 14, _ => rfl
  | 15, _ => rfl
  | 16, _ => rfl
  | 17, _ => rfl
  | 18, _ => rfl
  | 19, _ => rfl
  | 0, _ => rfl
  | i + 20, _ => rfl)
theorem mH_11 : mH h o u (o + 11) = some (.inl (.int, 120, .inl (u.1 11))) := mH_a (by decide) (by decide)
theorem mw_11 {f : Nat → Int32} : am_up (mH h o u) (o + 11) (.inl (.int, 120, .inl (f))) = mH h o (mS u 11 f) := mH_up (by decide) (by decide) rfl rfl (fun j hj => by
  match j, hj with
  | 1, _ => rfl
  | 2, _ => rfl
  | 3, _ => rfl
  | 4, _ => rfl
  | 5, _ => rfl
  | 6, _ => rfl
  | 7, _ => rfl
  | 8, _ => rfl
  | 9, _ => rfl
  | 10, _ => rfl
  | 11, hj => exact absurd rfl hj
  | 12, _ => rfl
  | 13, _ => rfl
  | 14, _ => rfl
  | 15, _ => rfl
  | 16, _ => rfl
  | 17, _ => rfl
  | 18, _ => rfl
  | 19, _ => rfl
  | 0, _ => rfl
  | i + 20, _ => rfl)
theorem mH_12 : mH h o u (o + 12) = some (.inl (.int, 120, .inl (u.1 12))) := mH_a (by decide) (by decide)
theorem mw_12 {f : Nat → Int32} : am_up (mH h o u) (o + 12) (.inl (.int, 120, .inl (f))) = mH h o (mS u 12 f) := mH_up (by decide) (by decide) rfl rfl (fun j hj => by
  match j, hj with
  | 1, _ => rfl
  | 2, _ => rfl
  | 3, _ => rfl
  | 4, _ => rfl
  | 5, _ => rfl
  | 6, _ => rfl
  | 7, _ => rfl
  | 8, _ => rfl
  | 9, _ => rfl
  | 10, _ => rfl
  | 11, _ => rfl
  | 12, hj => exact absurd rfl hj
  | 13, _ => rfl
  | 14, _ => rfl
  | 15, _ => rfl
  | 16, _ => rfl
  | 17, _ => rfl
  | 18, _ => rfl
  | 19, _ => rfl
  | 0, _ => rfl
  | i + 20, _ => rfl)
theorem mH_13 : mH h o u (o + 13) = some (.inl (.int, 120, .inl (u.1 13))) := mH_a (by decide) (by decide)
theorem mw_13 {f : Nat → Int32} : am_up (mH h o u) (o + 13) (.inl (.int, 120, .inl (f))) = mH h o (mS u 13 f) := mH_up (by decide) (by decide) rfl rfl (fun j hj => by
  match j, hj with
  | 1, _ => rfl
  | 2, _ => rfl
  | 3, _ => rfl
  | 4, _ => rfl
  | 5, _ => rfl
  | 6, _ => rfl
  | 7, _ => rfl
  | 8, _ => rfl
  | 9, _ => rfl
  | 10, _ => rfl
  | 11, _ => rfl
  | 12, _ => rfl
  | 13, hj => exact absurd rfl hj
  | 14, _ => rfl
  | 15, _ => rfl
  | 16, _ => rfl
  | 17, _ => rfl
  | 18, _ => rfl
  | 19, _ => rfl
  | 0, _ => rfl
  | i + 20, _ => rfl)
theorem mH_14 : mH h o u (o + 14) = some (.inl (.long, 16807, .inr (.inl (u.2.1 14)))) := mH_a (by decide) (by decide)
theorem mw_14 {f : Nat → Int64} : am_up (mH h o u) (o + 14) (.inl (.long, 16807, .inr (.inl (f)))) = mH h o (mL u 14 f) := mH_up (by decide) (by decide) rfl rfl (fun j hj => by
  match j, hj with
  | 1, _ => rfl
  | 2, _ => rfl
  | 3, _ => rfl
  | 4, _ => rfl
  | 5, _ => rfl
  | 6, _ => rfl
  | 7, _ => rfl
  | 8, _ => rfl
  | 9, _ => rfl
  | 10, _ => rfl
  | 11, _ => rfl
  | 12, _ => rfl
  | 13, _ => rfl
  | 14, hj => exact absurd rfl hj
  | 15, _ => rfl
  | 16, _ => rfl
  | 17, _ => rfl
  | 18, _ => rfl
  | 19, _ => rfl
  | 0, _ => rfl
  | i + 20, _ => rfl)
theorem mH_15 : mH h o u (o + 15) = some (.inl (.long, 16807, .inr (.inl (u.2.1 15)))) := mH_a (by decide) (by decide)
theorem mw_15 {f : Nat → Int64} : am_up (mH h o u) (o + 15) (.inl (.long, 16807, .inr (.inl (f)))) = mH h o (mL u 15 f) := mH_up (by decide) (by decide) rfl rfl (fun j hj => by
  match j, hj with
  | 1, _ => rfl
  | 2, _ => rfl
  | 3, _ => rfl
  | 4, _ => rfl
  | 5, _ => rfl
  | 6, _ => rfl
  | 7, _ => rfl
  | 8, _ => rfl
  | 9, _ => rfl
  | 10, _ => rfl
  | 11, _ => rfl
  | 12, _ => rfl
  | 13, _ => rfl
  | 14, _ => rfl
  | 15, hj => exact absurd rfl hj
  | 16, _ => rfl
  | 17, _ => rfl
  | 18, _ => rfl
  | 19, _ => rfl
  | 0, _ => rfl
  | i + 20, _ => rfl)
theorem mH_16 : mH h o u (o + 16) = some (.inl (.int, 16807, .inl (u.1 16))) := mH_a (by decide) (by decide)
theorem mw_16 {f : Nat → Int32} : am_up (mH h o u) (o + 16) (.inl (.int, 16807, .inl (f))) = mH h o (mS u 16 f) := mH_up (by decide) (by decide) rfl rfl (fun j hj => by
  match j, hj with
  | 1, _ => rfl
  | 2, _ => rfl
  | 3, _ => rfl
  | 4, _ => rfl
  | 5, _ => rfl
  | 6, _ => rfl
  | 7, _ => rfl
  | 8, _ => rfl
  | 9, _ => rfl
  | 10, _ => rfl
  | 11, _ => rfl
  | 12, _ => rfl
  | 13, _ => rfl
  | 14, _ => rfl
  | 15, _ => rfl
  | 16, hj => exact absurd rfl hj
  | 17, _ => rfl
  | 18, _ => rfl
  | 19, _ => rfl
  | 0, _ => rfl
  | i + 20, _ => rfl)
theorem mH_17 : mH h o u (o + 17) = some (.inl (.boolean, 16807, .inl (u.1 17))) := mH_a (by decide) (by decide)
theorem mw_17 {f : Nat → Int32} : am_up (mH h o u) (o + 17) (.inl (.boolean, 16807, .inl (f))) = mH h o (mS u 17 f) := mH_up (by decide) (by decide) rfl rfl (fun j hj => by
  match j, hj with
  | 1, _ => rfl
  | 2, _ => rfl
  | 3, _ => rfl
  | 4, _ => rfl
  | 5, _ => rfl
  | 6, _ => rfl
  | 7, _ => rfl
  | 8, _ => rfl
  | 9, _ => rfl
  | 10, _ => rfl
  | 11, _ => rfl
  | 12, _ => rfl
  | 13, _ => rfl
  | 14, _ => rfl
  | 15, _ => rfl
  | 16, _ => rfl
  | 17, hj => exact absurd rfl hj
  | 18, _ => rfl
  | 19, _ => rfl
  | 0, _ => rfl
  | i + 20, _ => rfl)
theorem mH_18 : mH h o u (o + 18) = some (.inl (.boolean, 16807, .inl (u.1 18))) := mH_a (by decide) (by decide)
theorem mw_18 {f : Nat → Int32} : am_up (mH h o u) (o + 18) (.inl (.boolean, 16807, .inl (f))) = mH h o (mS u 18 f) := mH_up (by decide) (by decide) rfl rfl (fun j hj => by
  match j, hj with
  | 1, _ => rfl
  | 2, _ => rfl
  | 3, _ => rfl
  | 4, _ => rfl
  | 5, _ => rfl
  | 6, _ => rfl
  | 7, _ => rfl
  | 8, _ => rfl
  | 9, _ => rfl
  | 10, _ => rfl
  | 11, _ => rfl
  | 12, _ => rfl
  | 13, _ => rfl
  | 14, _ => rfl
  | 15, _ => rfl
  | 16, _ => rfl
  | 17, _ => rfl
  | 18, hj => exact absurd rfl hj
  | 19, _ => rfl
  | 0, _ => rfl
  | i + 20, _ => rfl)
theorem mH_19 : mH h o u (o + 19) = some (.inl (.int, 5, .inl (u.1 19))) := mH_a (by decide) (by decide)
theorem mw_19 {f : Nat → Int32} : am_up (mH h o u) (o + 19) (.inl (.int, 5, .inl (f))) = mH h o (mS u 19 f) := mH_up (by decide) (by decide) rfl rfl (fun j hj => by
  match j, hj with
  | 1, _ => rfl
  | 2, _ => rfl
  | 3, _ => rfl
  | 4, _ => rfl
  | 5, _ => rfl
  | 6, _ => rfl
  | 7, _ => rfl
  | 8, _ => rfl
  | 9, _ => rfl
  | 10, _ => rfl
  | 11, _ => rfl
  | 12, _ => rfl
  | 13, _ => rfl
  | 14, _ => rfl
  | 15, _ => rfl
  | 16, _ => rfl
  | 17, _ => rfl
  | 18, _ => rfl
  | 19, hj => exact absurd rfl hj
  | 0, _ => rfl
  | i + 20, _ => rfl)
theorem mg_0 : (mF o u)[0]? = some (.ref (o + 1)) := rfl
theorem mg_1 : (mF o u)[1]? = some (.ref (o + 2)) := rfl
theorem mg_2 : (mF o u)[2]? = some (.ref (o + 3)) := rfl
theorem mg_3 : (mF o u)[3]? = some (.ref (o + 4)) := rfl
theorem mg_4 : (mF o u)[4]? = some (.ref (o + 5)) := rfl
theorem mg_5 : (mF o u)[5]? = some (.ref (o + 6)) := rfl
theorem mg_6 : (mF o u)[6]? = some (.ref (o + 7)) := rfl
theorem mg_7 : (mF o u)[7]? = some (.ref (o + 8)) := rfl
theorem mg_8 : (mF o u)[8]? = some (.ref (o + 9)) := rfl
theorem mg_9 : (mF o u)[9]? = some (.ref (o + 10)) := rfl
theorem mg_10 : (mF o u)[10]? = some (.int (u.2.2.1 10)) := rfl
theorem mp_10 {x : Int32} : am_up (mH h o u) o (.inr (12, (mF o u).set 10 (.int x))) = mH h o (mI u 10 x) := mH_uf rfl rfl
theorem mg_11 : (mF o u)[11]? = some (.int (u.2.2.1 11)) := rfl
theorem mp_11 {x : Int32} : am_up (mH h o u) o (.inr (12, (mF o u).set 11 (.int x))) = mH h o (mI u 11 x) := mH_uf rfl rfl
theorem mg_12 : (mF o u)[12]? = some (.int (u.2.2.1 12)) := rfl
theorem mp_12 {x : Int32} : am_up (mH h o u) o (.inr (12, (mF o u).set 12 (.int x))) = mH h o (mI u 12 x) := mH_uf rfl rfl
theorem mg_13 : (mF o u)[13]? = some (.int (u.2.2.1 13)) := rfl
theorem mp_13 {x : Int32} : am_up (mH h o u) o (.inr (12, (mF o u).set 13 (.int x))) = mH h o (mI u 13 x) := mH_uf rfl rfl
theorem mg_14 : (mF o u)[14]? = some (.int (u.2.2.1 14)) := rfl
theorem mp_14 {x : Int32} : am_up (mH h o u) o (.inr (12, (mF o u).set 14 (.int x))) = mH h o (mI u 14 x) := mH_uf rfl rfl
theorem mg_15 : (mF o u)[15]? = some (.int (u.2.2.1 15)) := rfl
theorem mp_15 {x : Int32} : am_up (mH h o u) o (.inr (12, (mF o u).set 15 (.int x))) = mH h o (mI u 15 x) := mH_uf rfl rfl
theorem mg_16 : (mF o u)[16]? = some (.ref (o + 11)) := rfl
theorem mg_17 : (mF o u)[17]? = some (.ref (o + 12)) := rfl
theorem mg_18 : (mF o u)[18]? = some (.ref (o + 13)) := rfl
theorem mg_19 : (mF o u)[19]? = some (.int (u.2.2.1 19)) := rfl
theorem mp_19 {x : Int32} : am_up (mH h o u) o (.inr (12, (mF o u).set 19 (.int x))) = mH h o (mI u 19 x) := mH_uf rfl rfl
theorem mg_20 : (mF o u)[20]? = some (.int (u.2.2.1 20)) := rfl
theorem mp_20 {x : Int32} : am_up (mH h o u) o (.inr (12, (mF o u).set 20 (.int x))) = mH h o (mI u 20 x) := mH_uf rfl rfl
theorem mg_21 : (mF o u)[21]? = some (.int (u.2.2.1 21)) := rfl
theorem mp_21 {x : Int32} : am_up (mH h o u) o (.inr (12, (mF o u).set 21 (.int x))) = mH h o (mI u 21 x) := mH_uf rfl rfl
theorem mg_22 : (mF o u)[22]? = some (.int (u.2.2.1 22)) := rfl
theorem mp_22 {x : Int32} : am_up (mH h o u) o (.inr (12, (mF o u).set 22 (.int x))) = mH h o (mI u 22 x) := mH_uf rfl rfl
theorem mg_23 : (mF o u)[23]? = some (.int (u.2.2.1 23)) := rfl
theorem mp_23 {x : Int32} : am_up (mH h o u) o (.inr (12, (mF o u).set 23 (.int x))) = mH h o (mI u 23 x) := mH_uf rfl rfl
theorem mg_24 : (mF o u)[24]? = some (.int (u.2.2.1 24)) := rfl
theorem mp_24 {x : Int32} : am_up (mH h o u) o (.inr (12, (mF o u).set 24 (.int x))) = mH h o (mI u 24 x) := mH_uf rfl rfl
theorem mg_25 : (mF o u)[25]? = some (.long (u.2.2.2 25)) := rfl
theorem mp_25 {x : Int64} : am_up (mH h o u) o (.inr (12, (mF o u).set 25 (.long x))) = mH h o (mJ u 25 x) := mH_uf rfl rfl
theorem mg_26 : (mF o u)[26]? = some (.long (u.2.2.2 26)) := rfl
theorem mp_26 {x : Int64} : am_up (mH h o u) o (.inr (12, (mF o u).set 26 (.long x))) = mH h o (mJ u 26 x) := mH_uf rfl rfl
theorem mg_27 : (mF o u)[27]? = some (.ref (o + 14)) := rfl
theorem mg_28 : (mF o u)[28]? = some (.ref (o + 15)) := rfl
theorem mg_29 : (mF o u)[29]? = some (.ref (o + 16)) := rfl
theorem mg_30 : (mF o u)[30]? = some (.ref (o + 17)) := rfl
theorem mg_31 : (mF o u)[31]? = some (.ref (o + 18)) := rfl
theorem mg_32 : (mF o u)[32]? = some (.int (u.2.2.1 32)) := rfl
theorem mp_32 {x : Int32} : am_up (mH h o u) o (.inr (12, (mF o u).set 32 (.int x))) = mH h o (mI u 32 x) := mH_uf rfl rfl
theorem mg_33 : (mF o u)[33]? = some (.ref (o + 19)) := rfl
theorem mg_34 : (mF o u)[34]? = some (.long (u.2.2.2 34)) := rfl
theorem mp_34 {x : Int64} : am_up (mH h o u) o (.inr (12, (mF o u).set 34 (.long x))) = mH h o (mJ u 34 x) := mH_uf rfl rfl
theorem mg_35 : (mF o u)[35]? = some (.int (u.2.2.1 35)) := rfl
theorem mp_35 {x : Int32} : am_up (mH h o u) o (.inr (12, (mF o u).set 35 (.int x))) = mH h o (mI u 35 x) := mH_uf rfl rfl
theorem mg_36 : (mF o u)[36]? = some (.int (u.2.2.1 36)) := rfl
theorem mp_36 {x : Int32} : am_up (mH h o u) o (.inr (12, (mF o u).set 36 (.int x))) = mH h o (mI u 36 x) := mH_uf rfl rfl
end MH
