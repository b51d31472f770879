/-- the rows' addresses -/
def rwF (o : Nat) : Nat → Option Nat := fun k => if k < 8 then some (o + 55 + 1 + k) else none
theorem rwF_v {o k : Nat} (hk : k < 8) : rwF o k = some (o + 56 + k) := if_pos hk
/-! BoxSearch -/
def xF (o : Nat) (D : mU × (Nat → Option Nat)) : List Value := [.ref (o + 1), .ref (o + 9), .ref (o + 14), .ref (o + 22), .int (D.1.2.2.1 4), .ref (o + 27), .ref (o + 40), .ref (o + 49), .ref (o + 53), .ref (o + 54), .ref (o + 55), .ref (o + 64), .ref (o + 65)]
def xC (o : Nat) (D : mU × (Nat → Option Nat)) (k : Nat) : Option am_E := match k with
  | 0 => some (.inr (0, xF o D))
  | 53 => some (.inl (.int, 8, .inl (D.1.1 8)))
  | 54 => some (.inl (.object "BoxSearch$Box", 8, .inr (.inr (.inr (.inr (D.2))))))
  | 64 => some (.inl (.int, 8, .inl (D.1.1 11)))
  | 65 => some (.inl (.int, 8, .inl (D.1.1 12)))
  | 55 => some (.inl (.array .int, 8, .inr (.inr (.inr (.inr (rwF o))))))
  | 56 => some (.inl (.int, 120, .inl (D.1.1 56)))
  | 57 => some (.inl (.int, 120, .inl (D.1.1 57)))
  | 58 => some (.inl (.int, 120, .inl (D.1.1 58)))
  | 59 => some (.inl (.int, 120, .inl (D.1.1 59)))
  | 60 => some (.inl (.int, 120, .inl (D.1.1 60)))
  | 61 => some (.inl (.int, 120, .inl (D.1.1 61)))
  | 62 => some (.inl (.int, 120, .inl (D.1.1 62)))
  | 63 => some (.inl (.int, 120, .inl (D.1.1 63)))
  | _ => none
def isX (H : am_H) (o : Nat) (D : mU × (Nat → Option Nat)) : Prop := isO H o (xC o D)
def xH (h : am_H) (o : Nat) (D : mU × (Nat → Option Nat)) : am_H := ov h o (xC o D)
section OX
variable {h H : am_H} {o : Nat} {D : mU × (Nat → Option Nat)} {z : Nat × Nat}
theorem xH_is : isX (xH h o D) o D := ov_is
theorem isX.c0 (hO : isX H o D) : H o = some (.inr (0, xF o D)) := isO_g (k := 0) hO rfl
theorem isX.ci (hO : isX H o D) : am_ci1 ((H, z).1 o) = some 0 := by
  show am_ci1 (H o) = some 0
  rw [hO.c0]
  rfl
theorem xH_ci : am_ci1 ((xH h o D, z).1 o) = some 0 := xH_is.ci
theorem xH_0 : xH h o D o = some (.inr (0, xF o D)) := xH_is.c0
theorem xF_len : (xF o D).length = 13 := rfl
theorem isX.c53 (hO : isX H o D) : H (o + 53) = some (.inl (.int, 8, .inl (D.1.1 8))) := isO_g (k := 53) hO rfl
theorem xH_53 : xH h o D (o + 53) = some (.inl (.int, 8, .inl (D.1.1 8))) := xH_is.c53
theorem xw_53 {f : Nat → Int32} : am_up (xH h o D) (o + 53) (.inl (.int, 8, .inl (f))) = xH h o (mS D.1 8 f, D.2) := ov_u (fun j => by
  match j with
  | 0 => rfl
  | 1 => rfl
  | 2 => rfl
  | 3 => rfl
  | 4 => rfl
  | 5 => rfl
  | 6 => rfl
  | 7 => rfl
  | 8 => rfl
  | 9 => rfl
  | 10 => rfl
  | 11 => rfl
  | 12 => rfl
  | 13 => rfl
  | 14 => rfl
  | 15 => rfl
  | 16 => rfl
  | 17 => rfl
  | 18 => rfl
  | 19 => rfl
  | 20 => rfl
  | 21 => rfl
  | 22 => rfl
  | 23 => rfl
  | 24 => rfl
  | 25 => rfl
  | 26 => rfl
  | 27 => rfl
  | 28 => rfl
  | 29 => rfl
  | 30 => rfl
  | 31 => rfl
  | 32 => rfl
  | 33 => rfl
  | 34 => rfl
  | 35 => rfl
  | 36 => rfl
  | 37 => rfl
  | 38 => rfl
  | 39 => rfl
  | 40 => rfl
  | 41 => rfl
  | 42 => rfl
  | 43 => rfl
  | 44 => rfl
  | 45 => rfl
  | 46 => rfl
  | 47 => rfl
  | 48 => rfl
  | 49 => rfl
  | 50 => rfl
  | 51 => rfl
  | 52 => rfl
  | 53 => rfl
  | 54 => rfl
  | 55 => rfl
  | 56 => rfl
  | 57 => rfl
  | 58 => rfl
  | 59 => rfl
  | 60 => rfl
  | 61 => rfl
  | 62 => rfl
  | 63 => rfl
  | 64 => rfl
  | 65 => rfl
  | n + 66 => rfl)
theorem isX.c54 (hO : isX H o D) : H (o + 54) = some (.inl (.object "BoxSearch$Box", 8, .inr (.inr (.inr (.inr (D.2)))))) := isO_g (k := 54) hO rfl
theorem xH_54 : xH h o D (o + 54) = some (.inl (.object "BoxSearch$Box", 8, .inr (.inr (.inr (.inr (D.2)))))) := xH_is.c54
theorem xw_54 {f : Nat → Option Nat} : am_up (xH h o D) (o + 54) (.inl (.object "BoxSearch$Box", 8, .inr (.inr (.inr (.inr (f)))))) = xH h o (D.1, f) := ov_u (fun j => by
  match j with
  | 0 => rfl
  | 1 => rfl
  | 2 => rfl
  | 3 => rfl
  | 4 => rfl
  | 5 => rfl
  | 6 => rfl
  | 7 => rfl
  | 8 => rfl
  | 9 => rfl
  | 10 => rfl
  | 11 => rfl
  | 12 => rfl
  | 13 => rfl
  | 14 => rfl
  | 15 => rfl
  | 16 => rfl
  | 17 => rfl
  | 18 => rfl
  | 19 => rfl
  | 20 => rfl
  | 21 => rfl
  | 22 => rfl
  | 23 => rfl
  | 24 => rfl
  | 25 => rfl
  | 26 => rfl
  | 27 => rfl
  | 28 => rfl
  | 29 => rfl
  | 30 => rfl
  | 31 => rfl
  | 32 => rfl
  | 33 => rfl
  | 34 => rfl
  | 35 => rfl
  | 36 => rfl
  | 37 => rfl
  | 38 => rfl
  | 39 => rfl
  | 40 => rfl
  | 41 => rfl
  | 42 => rfl
  | 43 => rfl
  | 44 => rfl
  | 45 => rfl
  | 46 => rfl
  | 47 => rfl
  | 48 => rfl
  | 49 => rfl
  | 50 => rfl
  | 51 => rfl
  | 52 => rfl
  | 53 => rfl
  | 54 => rfl
  | 55 => rfl
  | 56 => rfl
  | 57 => rfl
  | 58 => rfl
  | 59 => rfl
  | 60 => rfl
  | 61 => rfl
  | 62 => rfl
  | 63 => rfl
  | 64 => rfl
  | 65 => rfl
  | n + 66 => rfl)
theorem isX.c64 (hO : isX H o D) : H (o + 64) = some (.inl (.int, 8, .inl (D.1.1 11))) := isO_g (k := 64) hO rfl
theorem xH_64 : xH h o D (o + 64) = some (.inl (.int, 8, .inl (D.1.1 11))) := xH_is.c64
theorem xw_64 {f : Nat → Int32} : am_up (xH h o D) (o + 64) (.inl (.int, 8, .inl (f))) = xH h o (mS D.1 11 f, D.2) := ov_u (fun j => by
  match j with
  | 0 => rfl
  | 1 => rfl
  | 2 => rfl
  | 3 => rfl
  | 4 => rfl
  | 5 => rfl
  | 6 => rfl
  | 7 => rfl
  | 8 => rfl
  | 9 => rfl
  | 10 => rfl
  | 11 => rfl
  | 12 => rfl
  | 13 => rfl
  | 14 => rfl
  | 15 => rfl
  | 16 => rfl
  | 17 => rfl
  | 18 => rfl
  | 19 => rfl
  | 20 => rfl
  | 21 => rfl
  | 22 => rfl
  | 23 => rfl
  | 24 => rfl
  | 25 => rfl
  | 26 => rfl
  | 27 => rfl
  | 28 => rfl
  | 29 => rfl
  | 30 => rfl
  | 31 => rfl
  | 32 => rfl
  | 33 => rfl
  | 34 => rfl
  | 35 => rfl
  | 36 => rfl
  | 37 => rfl
  | 38 => rfl
  | 39 => rfl
  | 40 => rfl
  | 41 => rfl
  | 42 => rfl
  | 43 => rfl
  | 44 => rfl
  | 45 => rfl
  | 46 => rfl
  | 47 => rfl
  | 48 => rfl
  | 49 => rfl
  | 50 => rfl
  | 51 => rfl
  | 52 => rfl
  | 53 => rfl
  | 54 => rfl
  | 55 => rfl
  | 56 => rfl
  | 57 => rfl
  | 58 => rfl
  | 59 => rfl
  | 60 => rfl
  | 61 => rfl
  | 62 => rfl
  | 63 => rfl
  | 64 => rfl
  | 65 => rfl
  | n + 66 => rfl)
theorem isX.c65 (hO : isX H o D) : H (o + 65) = some (.inl (.int, 8, .inl (D.1.1 12))) := isO_g (k := 65) hO rfl
theorem xH_65 : xH h o D (o + 65) = some (.inl (.int, 8, .inl (D.1.1 12))) := xH_is.c65
theorem xw_65 {f : Nat → Int32} : am_up (xH h o D) (o + 65) (.inl (.int, 8, .inl (f))) = xH h o (mS D.1 12 f, D.2) := ov_u (fun j => by
  match j with
  | 0 => rfl
  | 1 => rfl
  | 2 => rfl
  | 3 => rfl
  | 4 => rfl
  | 5 => rfl
  | 6 => rfl
  | 7 => rfl
  | 8 => rfl
  | 9 => rfl
  | 10 => rfl
  | 11 => rfl
  | 12 => rfl
  | 13 => rfl
  | 14 => rfl
  | 15 => rfl
  | 16 => rfl
  | 17 => rfl
  | 18 => rfl
  | 19 => rfl
  | 20 => rfl
  | 21 => rfl
  | 22 => rfl
  | 23 => rfl
  | 24 => rfl
  | 25 => rfl
  | 26 => rfl
  | 27 => rfl
  | 28 => rfl
  | 29 => rfl
  | 30 => rfl
  | 31 => rfl
  | 32 => rfl
  | 33 => rfl
  | 34 => rfl
  | 35 => rfl
  | 36 => rfl
  | 37 => rfl
  | 38 => rfl
  | 39 => rfl
  | 40 => rfl
  | 41 => rfl
  | 42 => rfl
  | 43 => rfl
  | 44 => rfl
  | 45 => rfl
  | 46 => rfl
  | 47 => rfl
  | 48 => rfl
  | 49 => rfl
  | 50 => rfl
  | 51 => rfl
  | 52 => rfl
  | 53 => rfl
  | 54 => rfl
  | 55 => rfl
  | 56 => rfl
  | 57 => rfl
  | 58 => rfl
  | 59 => rfl
  | 60 => rfl
  | 61 => rfl
  | 62 => rfl
  | 63 => rfl
  | 64 => rfl
  | 65 => rfl
  | n + 66 => rfl)
theorem xg_0 : (xF o D)[0]? = some (.ref (o + 1)) := rfl
theorem xg_1 : (xF o D)[1]? = some (.ref (o + 9)) := rfl
theorem xg_2 : (xF o D)[2]? = some (.ref (o + 14)) := rfl
theorem xg_3 : (xF o D)[3]? = some (.ref (o + 22)) := rfl
theorem xg_4 : (xF o D)[4]? = some (.int (D.1.2.2.1 4)) := rfl
theorem xp_4 {x : Int32} : am_up (xH h o D) o (.inr (0, (xF o D).set 4 (.int x))) = xH h o (mI D.1 4 x, D.2) := ov_u (k := 0) (fun j => by
  match j with
  | 0 => rfl
  | 1 => rfl
  | 2 => rfl
  | 3 => rfl
  | 4 => rfl
  | 5 => rfl
  | 6 => rfl
  | 7 => rfl
  | 8 => rfl
  | 9 => rfl
  | 10 => rfl
  | 11 => rfl
  | 12 => rfl
  | 13 => rfl
  | 14 => rfl
  | 15 => rfl
  | 16 => rfl
  | 17 => rfl
  | 18 => rfl
  | 19 => rfl
  | 20 => rfl
  | 21 => rfl
  | 22 => rfl
  | 23 => rfl
  | 24 => rfl
  | 25 => rfl
  | 26 => rfl
  | 27 => rfl
  | 28 => rfl
  | 29 => rfl
  | 30 => rfl
  | 31 => rfl
  | 32 => rfl
  | 33 => rfl
  | 34 => rfl
  | 35 => rfl
  | 36 => rfl
  | 37 => rfl
  | 38 => rfl
  | 39 => rfl
  | 40 => rfl
  | 41 => rfl
  | 42 => rfl
  | 43 => rfl
  | 44 => rfl
  | 45 => rfl
  | 46 => rfl
  | 47 => rfl
  | 48 => rfl
  | 49 => rfl
  | 50 => rfl
  | 51 => rfl
  | 52 => rfl
  | 53 => rfl
  | 54 => rfl
  | 55 => rfl
  | 56 => rfl
  | 57 => rfl
  | 58 => rfl
  | 59 => rfl
  | 60 => rfl
  | 61 => rfl
  | 62 => rfl
  | 63 => rfl
  | 64 => rfl
  | 65 => rfl
  | n + 66 => rfl)
theorem xg_5 : (xF o D)[5]? = some (.ref (o + 27)) := rfl
theorem xg_6 : (xF o D)[6]? = some (.ref (o + 40)) := rfl
theorem xg_7 : (xF o D)[7]? = some (.ref (o + 49)) := rfl
theorem xg_8 : (xF o D)[8]? = some (.ref (o + 53)) := rfl
theorem xg_9 : (xF o D)[9]? = some (.ref (o + 54)) := rfl
theorem xg_10 : (xF o D)[10]? = some (.ref (o + 55)) := rfl
theorem xg_11 : (xF o D)[11]? = some (.ref (o + 64)) := rfl
theorem xg_12 : (xF o D)[12]? = some (.ref (o + 65)) := rfl
end OX
section OX2
variable {h H : am_H} {x : Nat} {D : mU × (Nat → Option Nat)}
theorem xF_lt {j : Nat} (hj : j < 13) : j < (xF x D).length := hj
theorem isX.c55 (hO : isX H x D) : H (x + 55) = some (.inl (.array .int, 8, .inr (.inr (.inr (.inr (rwF x)))))) := isO_g (k := 55) hO rfl
theorem isX.cr (hO : isX H x D) {k : Nat} (hk : k < 8) : H (x + 56 + k) = some (.inl (.int, 120, .inl (D.1.1 (56 + k)))) := by
  rw [Nat.add_assoc]
  rcases (by omega : k = 0 ∨ k = 1 ∨ k = 2 ∨ k = 3 ∨ k = 4 ∨ k = 5 ∨ k = 6 ∨ k = 7) with rfl | rfl | rfl | rfl | rfl | rfl | rfl | rfl
  · exact isO_g (k := 56) hO rfl
  · exact isO_g (k := 57) hO rfl
  · exact isO_g (k := 58) hO rfl
  · exact isO_g (k := 59) hO rfl
  · exact isO_g (k := 60) hO rfl
  · exact isO_g (k := 61) hO rfl
  · exact isO_g (k := 62) hO rfl
  · exact isO_g (k := 63) hO rfl
/-- the cells of a BoxSearch -/
def xK (x q : Nat) : Prop := q = x ∨ (x + 53 ≤ q ∧ q < x + 66)
theorem xC_k {k : Nat} {e : am_E} (h : xC x D k = some e) : k = 0 ∨ (53 ≤ k ∧ k < 66) := by
  by_cases c : k = 0 ∨ (53 ≤ k ∧ k < 66)
  · exact c
  · exfalso
    have : xC x D k = none := by
      match k, c with
      | 0, c => exact absurd (Or.inl rfl) c
      | 1, c => exact rfl
      | 2, c => exact rfl
      | 3, c => exact rfl
      | 4, c => exact rfl
      | 5, c => exact rfl
      | 6, c => exact rfl
      | 7, c => exact rfl
      | 8, c => exact rfl
      | 9, c => exact rfl
      | 10, c => exact rfl
      | 11, c => exact rfl
      | 12, c => exact rfl
      | 13, c => exact rfl
      | 14, c => exact rfl
      | 15, c => exact rfl
      | 16, c => exact rfl
      | 17, c => exact rfl
      | 18, c => exact rfl
      | 19, c => exact rfl
      | 20, c => exact rfl
      | 21, c => exact rfl
      | 22, c => exact rfl
      | 23, c => exact rfl
      | 24, c => exact rfl
      | 25, c => exact rfl
      | 26, c => exact rfl
      | 27, c => exact rfl
      | 28, c => exact rfl
      | 29, c => exact rfl
      | 30, c => exact rfl
      | 31, c => exact rfl
      | 32, c => exact rfl
      | 33, c => exact rfl
      | 34, c => exact rfl
      | 35, c => exact rfl
      | 36, c => exact rfl
      | 37, c => exact rfl
      | 38, c => exact rfl
      | 39, c => exact rfl
      | 40, c => exact rfl
      | 41, c => exact rfl
      | 42, c => exact rfl
      | 43, c => exact rfl
      | 44, c => exact rfl
      | 45, c => exact rfl
      | 46, c => exact rfl
      | 47, c => exact rfl
      | 48, c => exact rfl
      | 49, c => exact rfl
      | 50, c => exact rfl
      | 51, c => exact rfl
      | 52, c => exact rfl
      | 53, c => exact absurd (Or.inr ⟨by omega, by omega⟩) c
      | 54, c => exact absurd (Or.inr ⟨by omega, by omega⟩) c
      | 55, c => exact absurd (Or.inr ⟨by omega, by omega⟩) c
      | 56, c => exact absurd (Or.inr ⟨by omega, by omega⟩) c
      | 57, c => exact absurd (Or.inr ⟨by omega, by omega⟩) c
      | 58, c => exact absurd (Or.inr ⟨by omega, by omega⟩) c
      | 59, c => exact absurd (Or.inr ⟨by omega, by omega⟩) c
      | 60, c => exact absurd (Or.inr ⟨by omega, by omega⟩) c
      | 61, c => exact absurd (Or.inr ⟨by omega, by omega⟩) c
      | 62, c => exact absurd (Or.inr ⟨by omega, by omega⟩) c
      | 63, c => exact absurd (Or.inr ⟨by omega, by omega⟩) c
      | 64, c => exact absurd (Or.inr ⟨by omega, by omega⟩) c
      | 65, c => exact absurd (Or.inr ⟨by omega, by omega⟩) c
      | k + 66, _ => rfl
    rw [this] at h
    cases h
theorem isX.fr {H' : am_H} (hO : isX H x D) (h : ∀ q, xK x q → H' q = H q) : isX H' x D := fun k e hc => by
  rw [h (x + k) (by have := xC_k hc; unfold xK; omega)]
  exact hO k e hc
theorem xH_x {q : Nat} (hq : ¬ xK x q) : xH h x D q = h q := ov_x (fun k hk => by
  cases hc : xC x D k with
  | none => rfl
  | some e =>
    have := xC_k hc
    unfold xK at hq
    omega)
theorem isX.eq (hO : isX H x D) : xH H x D = H := ov_eq hO
theorem xw_r {k : Nat} {f : Nat → Int32} (hk : k < 8) : am_up (xH h x D) (x + 56 + k) (.inl (.int, 120, .inl f)) = xH h x (mS D.1 (56 + k) f, D.2) := by
  rw [Nat.add_assoc]
  rcases (by omega : k = 0 ∨ k = 1 ∨ k = 2 ∨ k = 3 ∨ k = 4 ∨ k = 5 ∨ k = 6 ∨ k = 7) with rfl | rfl | rfl | rfl | rfl | rfl | rfl | rfl
  · exact ov_u (k := 56) (fun j => by
      match j with
      | 0 => rfl
      | 1 => rfl
      | 2 => rfl
      | 3 => rfl
      | 4 => rfl
      | 5 => rfl
      | 6 => rfl
      | 7 => rfl
      | 8 => rfl
      | 9 => rfl
      | 10 => rfl
      | 11 => rfl
      | 12 => rfl
      | 13 => rfl
      | 14 => rfl
      | 15 => rfl
      | 16 => rfl
      | 17 => rfl
      | 18 => rfl
      | 19 => rfl
      | 20 => rfl
      | 21 => rfl
      | 22 => rfl
      | 23 => rfl
      | 24 => rfl
      | 25 => rfl
      | 26 => rfl
      | 27 => rfl
      | 28 => rfl
      | 29 => rfl
      | 30 => rfl
      | 31 => rfl
      | 32 => rfl
      | 33 => rfl
      | 34 => rfl
      | 35 => rfl
      | 36 => rfl
      | 37 => rfl
      | 38 => rfl
      | 39 => rfl
      | 40 => rfl
      | 41 => rfl
      | 42 => rfl
      | 43 => rfl
      | 44 => rfl
      | 45 => rfl
      | 46 => rfl
      | 47 => rfl
      | 48 => rfl
      | 49 => rfl
      | 50 => rfl
      | 51 => rfl
      | 52 => rfl
      | 53 => rfl
      | 54 => rfl
      | 55 => rfl
      | 56 => rfl
      | 57 => rfl
      | 58 => rfl
      | 59 => rfl
      | 60 => rfl
      | 61 => rfl
      | 62 => rfl
      | 63 => rfl
      | 64 => rfl
      | 65 => rfl
      | n + 66 => rfl)
  · exact ov_u (k := 57) (fun j => by
      match j with
      | 0 => rfl
      | 1 => rfl
      | 2 => rfl
      | 3 => rfl
      | 4 => rfl
      | 5 => rfl
      | 6 => rfl
      | 7 => rfl
      | 8 => rfl
      | 9 => rfl
      | 10 => rfl
      | 11 => rfl
      | 12 => rfl
      | 13 => rfl
      | 14 => rfl
      | 15 => rfl
      | 16 => rfl
      | 17 => rfl
      | 18 => rfl
      | 19 => rfl
      | 20 => rfl
      | 21 => rfl
      | 22 => rfl
      | 23 => rfl
      | 24 => rfl
      | 25 => rfl
      | 26 => rfl
      | 27 => rfl
      | 28 => rfl
      | 29 => rfl
      | 30 => rfl
      | 31 => rfl
      | 32 => rfl
      | 33 => rfl
      | 34 => rfl
      | 35 => rfl
      | 36 => rfl
      | 37 => rfl
      | 38 => rfl
      | 39 => rfl
      | 40 => rfl
      | 41 => rfl
      | 42 => rfl
      | 43 => rfl
      | 44 => rfl
      | 45 => rfl
      | 46 => rfl
      | 47 => rfl
      | 48 => rfl
      | 49 => rfl
      | 50 => rfl
      | 51 => rfl
      | 52 => rfl
      | 53 => rfl
      | 54 => rfl
      | 55 => rfl
      | 56 => rfl
      | 57 => rfl
      | 58 => rfl
      | 59 => rfl
      | 60 => rfl
      | 61 => rfl
      | 62 => rfl
      | 63 => rfl
      | 64 => rfl
      | 65 => rfl
      | n + 66 => rfl)
  · exact ov_u (k := 58) (fun j => by
      match j with
      | 0 => rfl
      | 1 => rfl
      | 2 => rfl
      | 3 => rfl
      | 4 => rfl
      | 5 => rfl
      | 6 => rfl
      | 7 => rfl
      | 8 => rfl
      | 9 => rfl
      | 10 => rfl
      | 11 => rfl
      | 12 => rfl
      | 13 => rfl
      | 14 => rfl
      | 15 => rfl
      | 16 => rfl
      | 17 => rfl
      | 18 => rfl
      | 19 => rfl
      | 20 => rfl
      | 21 => rfl
      | 22 => rfl
      | 23 => rfl
      | 24 => rfl
      | 25 => rfl
      | 26 => rfl
      | 27 => rfl
      | 28 => rfl
      | 29 => rfl
      | 30 => rfl
      | 31 => rfl
      | 32 => rfl
      | 33 => rfl
      | 34 => rfl
      | 35 => rfl
      | 36 => rfl
      | 37 => rfl
      | 38 => rfl
      | 39 => rfl
      | 40 => rfl
      | 41 => rfl
      | 42 => rfl
      | 43 => rfl
      | 44 => rfl
      | 45 => rfl
      | 46 => rfl
      | 47 => rfl
      | 48 => rfl
      | 49 => rfl
      | 50 => rfl
      | 51 => rfl
      | 52 => rfl
      | 53 => rfl
      | 54 => rfl
      | 55 => rfl
      | 56 => rfl
      | 57 => rfl
      | 58 => rfl
      | 59 => rfl
      | 60 => rfl
      | 61 => rfl
      | 62 => rfl
      | 63 => rfl
      | 64 => rfl
      | 65 => rfl
      | n + 66 => rfl)
  · exact ov_u (k := 59) (fun j => by
      match j with
      | 0 => rfl
      | 1 => rfl
      | 2 => rfl
      | 3 => rfl
      | 4 => rfl
      | 5 => rfl
      | 6 => rfl
      | 7 => rfl
      | 8 => rfl
      | 9 => rfl
      | 10 => rfl
      | 11 => rfl
      | 12 => rfl
      | 13 => rfl
      | 14 => rfl
      | 15 => rfl
      | 16 => rfl
      | 17 => rfl
      | 18 => rfl
      | 19 => rfl
      | 20 => rfl
      | 21 => rfl
      | 22 => rfl
      | 23 => rfl
      | 24 => rfl
      | 25 => rfl
      | 26 => rfl
      | 27 => rfl
      | 28 => rfl
      | 29 => rfl
      | 30 => rfl
      | 31 => rfl
      | 32 => rfl
      | 33 => rfl
      | 34 => rfl
      | 35 => rfl
      | 36 => rfl
      | 37 => rfl
      | 38 => rfl
      | 39 => rfl
      | 40 => rfl
      | 41 => rfl
      | 42 => rfl
      | 43 => rfl
      | 44 => rfl
      | 45 => rfl
      | 46 => rfl
      | 47 => rfl
      | 48 => rfl
      | 49 => rfl
      | 50 => rfl
      | 51 => rfl
      | 52 => rfl
      | 53 => rfl
      | 54 => rfl
      | 55 => rfl
      | 56 => rfl
      | 57 => rfl
      | 58 => rfl
      | 59 => rfl
      | 60 => rfl
      | 61 => rfl
      | 62 => rfl
      | 63 => rfl
      | 64 => rfl
      | 65 => rfl
      | n + 66 => rfl)
  · exact ov_u (k := 60) (fun j => by
      match j with
      | 0 => rfl
      | 1 => rfl
      | 2 => rfl
      | 3 => rfl
      | 4 => rfl
      | 5 => rfl
      | 6 => rfl
      | 7 => rfl
      | 8 => rfl
      | 9 => rfl
      | 10 => rfl
      | 11 => rfl
      | 12 => rfl
      | 13 => rfl
      | 14 => rfl
      | 15 => rfl
      | 16 => rfl
      | 17 => rfl
      | 18 => rfl
      | 19 => rfl
      | 20 => rfl
      | 21 => rfl
      | 22 => rfl
      | 23 => rfl
      | 24 => rfl
      | 25 => rfl
      | 26 => rfl
      | 27 => rfl
      | 28 => rfl
      | 29 => rfl
      | 30 => rfl
      | 31 => rfl
      | 32 => rfl
      | 33 => rfl
      | 34 => rfl
      | 35 => rfl
      | 36 => rfl
      | 37 => rfl
      | 38 => rfl
      | 39 => rfl
      | 40 => rfl
      | 41 => rfl
      | 42 => rfl
      | 43 => rfl
      | 44 => rfl
      | 45 => rfl
      | 46 => rfl
      | 47 => rfl
      | 48 => rfl
      | 49 => rfl
      | 50 => rfl
      | 51 => rfl
      | 52 => rfl
      | 53 => rfl
      | 54 => rfl
      | 55 => rfl
      | 56 => rfl
      | 57 => rfl
      | 58 => rfl
      | 59 => rfl
      | 60 => rfl
      | 61 => rfl
      | 62 => rfl
      | 63 => rfl
      | 64 => rfl
      | 65 => rfl
      | n + 66 => rfl)
  · exact ov_u (k := 61) (fun j => by
      match j with
      | 0 => rfl
      | 1 => rfl
      | 2 => rfl
      | 3 => rfl
      | 4 => rfl
      | 5 => rfl
      | 6 => rfl
      | 7 => rfl
      | 8 => rfl
      | 9 => rfl
      | 10 => rfl
      | 11 => rfl
      | 12 => rfl
      | 13 => rfl
      | 14 => rfl
      | 15 => rfl
      | 16 => rfl
      | 17 => rfl
      | 18 => rfl
      | 19 => rfl
      | 20 => rfl
      | 21 => rfl
      | 22 => rfl
      | 23 => rfl
      | 24 => rfl
      | 25 => rfl
      | 26 => rfl
      | 27 => rfl
      | 28 => rfl
      | 29 => rfl
      | 30 => rfl
      | 31 => rfl
      | 32 => rfl
      | 33 => rfl
      | 34 => rfl
      | 35 => rfl
      | 36 => rfl
      | 37 => rfl
      | 38 => rfl
      | 39 => rfl
      | 40 => rfl
      | 41 => rfl
      | 42 => rfl
      | 43 => rfl
      | 44 => rfl
      | 45 => rfl
      | 46 => rfl
      | 47 => rfl
      | 48 => rfl
      | 49 => rfl
      | 50 => rfl
      | 51 => rfl
      | 52 => rfl
      | 53 => rfl
      | 54 => rfl
      | 55 => rfl
      | 56 => rfl
      | 57 => rfl
      | 58 => rfl
      | 59 => rfl
      | 60 => rfl
      | 61 => rfl
      | 62 => rfl
      | 63 => rfl
      | 64 => rfl
      | 65 => rfl
      | n + 66 => rfl)
  · exact ov_u (k := 62) (fun j => by
      match j with
      | 0 => rfl
      | 1 => rfl
      | 2 => rfl
      | 3 => rfl
      | 4 => rfl
      | 5 => rfl
      | 6 => rfl
      | 7 => rfl
      | 8 => rfl
      | 9 => rfl
      | 10 => rfl
      | 11 => rfl
      | 12 => rfl
      | 13 => rfl
      | 14 => rfl
      | 15 => rfl
      | 16 => rfl
      | 17 => rfl
      | 18 => rfl
      | 19 => rfl
      | 20 => rfl
      | 21 => rfl
      | 22 => rfl
      | 23 => rfl
      | 24 => rfl
      | 25 => rfl
      | 26 => rfl
      | 27 => rfl
      | 28 => rfl
      | 29 => rfl
      | 30 => rfl
      | 31 => rfl
      | 32 => rfl
      | 33 => rfl
      | 34 => rfl
      | 35 => rfl
      | 36 => rfl
      | 37 => rfl
      | 38 => rfl
      | 39 => rfl
      | 40 => rfl
      | 41 => rfl
      | 42 => rfl
      | 43 => rfl
      | 44 => rfl
      | 45 => rfl
      | 46 => rfl
      | 47 => rfl
      | 48 => rfl
      | 49 => rfl
      | 50 => rfl
      | 51 => rfl
      | 52 => rfl
      | 53 => rfl
      | 54 => rfl
      | 55 => rfl
      | 56 => rfl
      | 57 => rfl
      | 58 => rfl
      | 59 => rfl
      | 60 => rfl
      | 61 => rfl
      | 62 => rfl
      | 63 => rfl
      | 64 => rfl
      | 65 => rfl
      | n + 66 => rfl)
  · exact ov_u (k := 63) (fun j => by
      match j with
      | 0 => rfl
      | 1 => rfl
      | 2 => rfl
      | 3 => rfl
      | 4 => rfl
      | 5 => rfl
      | 6 => rfl
      | 7 => rfl
      | 8 => rfl
      | 9 => rfl
      | 10 => rfl
      | 11 => rfl
      | 12 => rfl
      | 13 => rfl
      | 14 => rfl
      | 15 => rfl
      | 16 => rfl
      | 17 => rfl
      | 18 => rfl
      | 19 => rfl
      | 20 => rfl
      | 21 => rfl
      | 22 => rfl
      | 23 => rfl
      | 24 => rfl
      | 25 => rfl
      | 26 => rfl
      | 27 => rfl
      | 28 => rfl
      | 29 => rfl
      | 30 => rfl
      | 31 => rfl
      | 32 => rfl
      | 33 => rfl
      | 34 => rfl
      | 35 => rfl
      | 36 => rfl
      | 37 => rfl
      | 38 => rfl
      | 39 => rfl
      | 40 => rfl
      | 41 => rfl
      | 42 => rfl
      | 43 => rfl
      | 44 => rfl
      | 45 => rfl
      | 46 => rfl
      | 47 => rfl
      | 48 => rfl
      | 49 => rfl
      | 50 => rfl
      | 51 => rfl
      | 52 => rfl
      | 53 => rfl
      | 54 => rfl
      | 55 => rfl
      | 56 => rfl
      | 57 => rfl
      | 58 => rfl
      | 59 => rfl
      | 60 => rfl
      | 61 => rfl
      | 62 => rfl
      | 63 => rfl
      | 64 => rfl
      | 65 => rfl
      | n + 66 => rfl)
end OX2
/-! Plan, Street and the reference as cells -/
def cL (H : am_H) (l : Nat) (D : mU × (Nat × Nat × Nat × Nat)) : Prop := lOkk l D.2 ∧ lH H l D = H
def cW (H : am_H) (w : Nat) (D : mU × (Nat × Nat × Nat × Nat × Nat)) : Prop := wOkk w D.2 ∧ wH H w D = H
def cM (H : am_H) (r : Nat) (u : mU) : Prop := mH H r u = H
section CC
variable {h H H' : am_H} {l w r q : Nat} {u : mU}
theorem ov_fr {c : Nat → Option am_E} {a : Nat} (hO : ov H a c = H) (hH : ∀ k e, c k = some e → H' (a + k) = H (a + k)) : ov H' a c = H' := ov_eq (fun k e hc => by
  rw [hH k e hc]
  have := congrFun hO (a + k)
  rw [ov_r hc] at this
  exact this.symm)
theorem lC_k {D : mU × (Nat × Nat × Nat × Nat)} {k : Nat} {e : am_E} (h : lC l D k = some e) : ¬ lK l (l + k) := fun c => by
  obtain ⟨c0, c1, c4, c5, c6, c7, c8⟩ := c
  rw [lC_n (by omega) (by omega) (by omega) (by omega) (by omega) (by omega) (by omega)] at h
  cases h
theorem cL.fr {D : mU × (Nat × Nat × Nat × Nat)} (hO : cL H l D) (h : ∀ x, ¬ lK l x ∨ x = D.2.2.1 ∨ x = D.2.2.2.1 → H' x = H x) : cL H' l D := by
  refine ⟨hO.1, ?_⟩
  funext x
  have e := congrFun hO.2 x
  by_cases k : lK l x
  · rw [lH_b k] at e ⊢
    unfold lB at e ⊢
    by_cases e1 : x = D.2.2.2.1
    · subst e1
      rw [up_r] at e ⊢
      rw [h _ (Or.inr (Or.inr rfl)), ← e]
    · rw [up_x e1] at e ⊢
      by_cases e2 : x = D.2.2.1
      · subst e2
        rw [up_r] at e ⊢
        rw [h _ (Or.inr (Or.inl rfl)), ← e]
      · rw [up_x e2]
  · rw [h x (Or.inl k), ← e]
    rcases lK_ne (l := l) (x := x) with k' | k' | k' | k' | k' | k' | k' | k'
    · exact absurd k' k
    · subst k'
      rw [lH_0, lH_0]
    · subst k'
      rw [lH_1, lH_1]
    · subst k'
      rw [lH_4, lH_4]
    · subst k'
      rw [lH_5, lH_5]
    · subst k'
      rw [lH_6, lH_6]
    · subst k'
      rw [lH_7, lH_7]
    · subst k'
      rw [lH_8, lH_8]
theorem cL_is {D : mU × (Nat × Nat × Nat × Nat)} (hL : lOkk l D.2) : cL (lH h l D) l D := by
  refine ⟨hL, ?_⟩
  funext x
  by_cases k : lK l x
  · rw [lH_b k, lH_b k]
    unfold lB
    by_cases e1 : x = D.2.2.2.1
    · subst e1
      rw [up_r, up_r]
    · rw [up_x e1, up_x e1]
      by_cases e2 : x = D.2.2.1
      · subst e2
        rw [up_r, up_r]
      · rw [up_x e2, up_x e2, lH_b k]
        unfold lB
        rw [up_x e1, up_x e2]
  · rcases lK_ne (l := l) (x := x) with k' | k' | k' | k' | k' | k' | k' | k'
    · exact absurd k' k
    · subst k'
      rw [lH_0, lH_0]
    · subst k'
      rw [lH_1, lH_1]
    · subst k'
      rw [lH_4, lH_4]
    · subst k'
      rw [lH_5, lH_5]
    · subst k'
      rw [lH_6, lH_6]
    · subst k'
      rw [lH_7, lH_7]
    · subst k'
      rw [lH_8, lH_8]
theorem wK_ne {x : Nat} : wK w x ∨ x = w ∨ x = w + 1 := by
  unfold wK
  omega
theorem cW.fr {D : mU × (Nat × Nat × Nat × Nat × Nat)} (hO : cW H w D) (h : ∀ x, ¬ wK w x ∨ x = D.2.2.1 ∨ x = D.2.2.2.2.1 → H' x = H x) : cW H' w D := by
  refine ⟨hO.1, ?_⟩
  funext x
  have e := congrFun hO.2 x
  by_cases k : wK w x
  · rw [wH_b k] at e ⊢
    unfold wB at e ⊢
    by_cases e1 : x = D.2.2.2.2.1
    · subst e1
      rw [up_r] at e ⊢
      rw [h _ (Or.inr (Or.inr rfl)), ← e]
    · rw [up_x e1] at e ⊢
      by_cases e2 : x = D.2.2.1
      · subst e2
        rw [up_r] at e ⊢
        rw [h _ (Or.inr (Or.inl rfl)), ← e]
      · rw [up_x e2]
  · rw [h x (Or.inl k), ← e]
    rcases wK_ne (w := w) (x := x) with k' | k' | k'
    · exact absurd k' k
    · subst k'
      rw [wH_0, wH_0]
    · subst k'
      rw [wH_1, wH_1]
theorem cW_is {D : mU × (Nat × Nat × Nat × Nat × Nat)} (hL : wOkk w D.2) : cW (wH h w D) w D := by
  refine ⟨hL, ?_⟩
  funext x
  by_cases k : wK w x
  · rw [wH_b k, wH_b k]
    unfold wB
    by_cases e1 : x = D.2.2.2.2.1
    · subst e1
      rw [up_r, up_r]
    · rw [up_x e1, up_x e1]
      by_cases e2 : x = D.2.2.1
      · subst e2
        rw [up_r, up_r]
      · rw [up_x e2, up_x e2, wH_b k]
        unfold wB
        rw [up_x e1, up_x e2]
  · rcases wK_ne (w := w) (x := x) with k' | k' | k'
    · exact absurd k' k
    · subst k'
      rw [wH_0, wH_0]
    · subst k'
      rw [wH_1, wH_1]
theorem mH_x {x : Nat} (hx : x < r ∨ r + 20 ≤ x) : mH h r u x = h x := by
  unfold mH
  rw [if_neg (by omega), if_neg (by omega)]
theorem cM.fr (hO : cM H r u) (h : ∀ x, r ≤ x → x < r + 20 → H' x = H x) : cM H' r u := by
  funext x
  have e := congrFun hO x
  by_cases k : r ≤ x ∧ x < r + 20
  · rw [h x k.1 k.2, ← e]
    unfold mH
    by_cases e1 : x = r
    · rw [if_pos e1, if_pos e1]
    · rw [if_neg e1, if_neg e1, if_pos (by omega), if_pos (by omega)]
  · exact mH_x (by omega)
theorem cM_is : cM (mH h r u) r u := by
  funext x
  by_cases k : r ≤ x ∧ x < r + 20
  · unfold mH
    by_cases e1 : x = r
    · rw [if_pos e1, if_pos e1]
    · rw [if_neg e1, if_neg e1, if_pos (by omega), if_pos (by omega)]
  · rw [mH_x (by omega)]
theorem isP.fr {P : mU} {p : Nat} (hO : isP H p P) (h : ∀ x, p ≤ x → x < p + 5 → H' x = H x) : isP H' p P := fun k e hc => by
  have hk : k < 5 := by
    match k, hc with
    | 0, _ => omega
    | 1, _ => omega
    | 2, _ => omega
    | 3, _ => omega
    | 4, _ => omega
    | n + 5, hc => cases hc
  rw [h (p + k) (by omega) (by omega)]
  exact hO k e hc
theorem isE.fr {D : mU × Nat} {a : Nat} (hO : isE H a D) (h : ∀ x, a ≤ x → x < a + 13 → H' x = H x) : isE H' a D := fun k e hc => by
  have hk : k < 13 := by
    match k, hc with
    | 0, _ => omega
    | 1, hc => cases hc
    | 2, hc => cases hc
    | 3, hc => cases hc
    | 4, hc => cases hc
    | 5, hc => cases hc
    | 6, hc => cases hc
    | 7, hc => cases hc
    | 8, hc => cases hc
    | 9, hc => cases hc
    | 10, _ => omega
    | 11, _ => omega
    | 12, _ => omega
    | n + 13, hc => cases hc
  rw [h (a + k) (by omega) (by omega)]
  exact hO k e hc
end CC
