/-! Plan -/
def lF (l : Nat) (D : mU × (Nat × Nat × Nat × Nat)) : List Value := [.ref (D.2.1), .ref (l + 1), .int (D.1.2.2.1 2), .ref (D.2.2.1), .ref (D.2.2.2.1), .int (D.1.2.2.1 5), .long (D.1.2.2.2 6), .ref (l + 4), .ref (l + 5), .ref (l + 6), .int (D.1.2.2.1 10), .long (D.1.2.2.2 11), .ref (l + 7), .ref (l + 8)]
def lC (l : Nat) (D : mU × (Nat × Nat × Nat × Nat)) (k : Nat) : Option am_E := match k with
  | 0 => some (.inr (4, lF l D))
  | 1 => some (.inl (.int, 5, .inl (D.1.1 1)))
  | 4 => some (.inl (.boolean, 5, .inl (D.1.1 7)))
  | 5 => some (.inl (.int, 20, .inl (D.1.1 8)))
  | 6 => some (.inl (.int, 20, .inl (D.1.1 9)))
  | 7 => some (.inl (.long, 5, .inr (.inl (D.1.2.1 12))))
  | 8 => some (.inl (.long, 5, .inr (.inl (D.1.2.1 13))))
  | _ => none
def lB (h : am_H) (D : mU × (Nat × Nat × Nat × Nat)) : am_H := am_up (am_up (h) (D.2.2.1) (.inl (.long, D.2.2.2.2, .inr (.inl (D.1.2.1 3))))) (D.2.2.2.1) (.inl (.int, D.2.2.2.2, .inl (D.1.1 4)))
def lH (h : am_H) (l : Nat) (D : mU × (Nat × Nat × Nat × Nat)) : am_H := ov (lB h D) l (lC l D)
def lK (l q : Nat) : Prop := q ≠ l ∧ q ≠ l + 1 ∧ q ≠ l + 4 ∧ q ≠ l + 5 ∧ q ≠ l + 6 ∧ q ≠ l + 7 ∧ q ≠ l + 8
def lOkk (l : Nat) (x : (Nat × Nat × Nat × Nat)) : Prop := lK l x.2.1 ∧ lK l x.2.2.1 ∧ x.2.1 ≠ x.2.2.1
section OL
variable {h : am_H} {l : Nat} {D : mU × (Nat × Nat × Nat × Nat)} {z : Nat × Nat}
theorem lC_n {k : Nat} (h0 : k ≠ 0) (h1 : k ≠ 1) (h4 : k ≠ 4) (h5 : k ≠ 5) (h6 : k ≠ 6) (h7 : k ≠ 7) (h8 : k ≠ 8) : lC l D k = none := by
  match k, h0, h1, h4, h5, h6, h7, h8 with
  | 0, h, _, _, _, _, _, _ => exact absurd rfl h
  | 1, _, h, _, _, _, _, _ => exact absurd rfl h
  | 2, _, _, _, _, _, _, _ => rfl
  | 3, _, _, _, _, _, _, _ => rfl
  | 4, _, _, h, _, _, _, _ => exact absurd rfl h
  | 5, _, _, _, h, _, _, _ => exact absurd rfl h
  | 6, _, _, _, _, h, _, _ => exact absurd rfl h
  | 7, _, _, _, _, _, h, _ => exact absurd rfl h
  | 8, _, _, _, _, _, _, h => exact absurd rfl h
  | k + 9, _, _, _, _, _, _, _ => rfl
theorem lH_b {q : Nat} (hq : lK l q) : lH h l D q = lB h D q := ov_x (fun k hk => by
  obtain ⟨g0, g1, g2, g3, g4, g5, g6⟩ := hq
  exact lC_n (by omega) (by omega) (by omega) (by omega) (by omega) (by omega) (by omega))
theorem lH_0 : lH h l D l = some (.inr (4, lF l D)) := ov_r (k := 0) rfl
theorem lH_ci : am_ci1 ((lH h l D, z).1 l) = some 4 := by
  show am_ci1 (lH h l D l) = some 4
  rw [lH_0]
  rfl
theorem lF_lt {j : Nat} (hj : j < 14) : j < (lF l D).length := hj
theorem lH_1 : lH h l D (l + 1) = some (.inl (.int, 5, .inl (D.1.1 1))) := ov_r (k := 1) rfl
theorem lw_1 {f : Nat → Int32} : am_up (lH h l D) (l + 1) (.inl (.int, 5, .inl (f))) = lH h l (mS D.1 1 f, D.2) := ov_u (fun j => by
  match j with
  | 0 => rfl
  | 1 => rfl
  | 2 => rfl
  | 3 => rfl
  | 4 => rfl
  | 5 => rfl
  | 6 => rfl
  | 7 => rfl
  | 8 => rfl
  | n + 9 => rfl)
theorem lH_4 : lH h l D (l + 4) = some (.inl (.boolean, 5, .inl (D.1.1 7))) := ov_r (k := 4) rfl
theorem lw_4 {f : Nat → Int32} : am_up (lH h l D) (l + 4) (.inl (.boolean, 5, .inl (f))) = lH h l (mS D.1 7 f, D.2) := ov_u (fun j => by
  match j with
  | 0 => rfl
  | 1 => rfl
  | 2 => rfl
  | 3 => rfl
  | 4 => rfl
  | 5 => rfl
  | 6 => rfl
  | 7 => rfl
  | 8 => rfl
  | n + 9 => rfl)
theorem lH_5 : lH h l D (l + 5) = some (.inl (.int, 20, .inl (D.1.1 8))) := ov_r (k := 5) rfl
theorem lw_5 {f : Nat → Int32} : am_up (lH h l D) (l + 5) (.inl (.int, 20, .inl (f))) = lH h l (mS D.1 8 f, D.2) := ov_u (fun j => by
  match j with
  | 0 => rfl
  | 1 => rfl
  | 2 => rfl
  | 3 => rfl
  | 4 => rfl
  | 5 => rfl
  | 6 => rfl
  | 7 => rfl
  | 8 => rfl
  | n + 9 => rfl)
theorem lH_6 : lH h l D (l + 6) = some (.inl (.int, 20, .inl (D.1.1 9))) := ov_r (k := 6) rfl
theorem lw_6 {f : Nat → Int32} : am_up (lH h l D) (l + 6) (.inl (.int, 20, .inl (f))) = lH h l (mS D.1 9 f, D.2) := ov_u (fun j => by
  match j with
  | 0 => rfl
  | 1 => rfl
  | 2 => rfl
  | 3 => rfl
  | 4 => rfl
  | 5 => rfl
  | 6 => rfl
  | 7 => rfl
  | 8 => rfl
  | n + 9 => rfl)
theorem lH_7 : lH h l D (l + 7) = some (.inl (.long, 5, .inr (.inl (D.1.2.1 12)))) := ov_r (k := 7) rfl
theorem lw_7 {f : Nat → Int64} : am_up (lH h l D) (l + 7) (.inl (.long, 5, .inr (.inl (f)))) = lH h l (mL D.1 12 f, D.2) := ov_u (fun j => by
  match j with
  | 0 => rfl
  | 1 => rfl
  | 2 => rfl
  | 3 => rfl
  | 4 => rfl
  | 5 => rfl
  | 6 => rfl
  | 7 => rfl
  | 8 => rfl
  | n + 9 => rfl)
theorem lH_8 : lH h l D (l + 8) = some (.inl (.long, 5, .inr (.inl (D.1.2.1 13)))) := ov_r (k := 8) rfl
theorem lw_8 {f : Nat → Int64} : am_up (lH h l D) (l + 8) (.inl (.long, 5, .inr (.inl (f)))) = lH h l (mL D.1 13 f, D.2) := ov_u (fun j => by
  match j with
  | 0 => rfl
  | 1 => rfl
  | 2 => rfl
  | 3 => rfl
  | 4 => rfl
  | 5 => rfl
  | 6 => rfl
  | 7 => rfl
  | 8 => rfl
  | n + 9 => rfl)
theorem lg_0 : (lF l D)[0]? = some (.ref (D.2.1)) := rfl
theorem lg_1 : (lF l D)[1]? = some (.ref (l + 1)) := rfl
theorem lg_2 : (lF l D)[2]? = some (.int (D.1.2.2.1 2)) := rfl
theorem lp_2 {x : Int32} : am_up (lH h l D) l (.inr (4, (lF l D).set 2 (.int x))) = lH h l (mI D.1 2 x, D.2) := ov_u (k := 0) (fun j => by
  match j with
  | 0 => rfl
  | 1 => rfl
  | 2 => rfl
  | 3 => rfl
  | 4 => rfl
  | 5 => rfl
  | 6 => rfl
  | 7 => rfl
  | 8 => rfl
  | n + 9 => rfl)
theorem lg_3 : (lF l D)[3]? = some (.ref (D.2.2.1)) := rfl
theorem lg_4 : (lF l D)[4]? = some (.ref (D.2.2.2.1)) := rfl
theorem lg_5 : (lF l D)[5]? = some (.int (D.1.2.2.1 5)) := rfl
theorem lp_5 {x : Int32} : am_up (lH h l D) l (.inr (4, (lF l D).set 5 (.int x))) = lH h l (mI D.1 5 x, D.2) := ov_u (k := 0) (fun j => by
  match j with
  | 0 => rfl
  | 1 => rfl
  | 2 => rfl
  | 3 => rfl
  | 4 => rfl
  | 5 => rfl
  | 6 => rfl
  | 7 => rfl
  | 8 => rfl
  | n + 9 => rfl)
theorem lg_6 : (lF l D)[6]? = some (.long (D.1.2.2.2 6)) := rfl
theorem lp_6 {x : Int64} : am_up (lH h l D) l (.inr (4, (lF l D).set 6 (.long x))) = lH h l (mJ D.1 6 x, D.2) := ov_u (k := 0) (fun j => by
  match j with
  | 0 => rfl
  | 1 => rfl
  | 2 => rfl
  | 3 => rfl
  | 4 => rfl
  | 5 => rfl
  | 6 => rfl
  | 7 => rfl
  | 8 => rfl
  | n + 9 => rfl)
theorem lg_7 : (lF l D)[7]? = some (.ref (l + 4)) := rfl
theorem lg_8 : (lF l D)[8]? = some (.ref (l + 5)) := rfl
theorem lg_9 : (lF l D)[9]? = some (.ref (l + 6)) := rfl
theorem lg_10 : (lF l D)[10]? = some (.int (D.1.2.2.1 10)) := rfl
theorem lp_10 {x : Int32} : am_up (lH h l D) l (.inr (4, (lF l D).set 10 (.int x))) = lH h l (mI D.1 10 x, D.2) := ov_u (k := 0) (fun j => by
  match j with
  | 0 => rfl
  | 1 => rfl
  | 2 => rfl
  | 3 => rfl
  | 4 => rfl
  | 5 => rfl
  | 6 => rfl
  | 7 => rfl
  | 8 => rfl
  | n + 9 => rfl)
theorem lg_11 : (lF l D)[11]? = some (.long (D.1.2.2.2 11)) := rfl
theorem lp_11 {x : Int64} : am_up (lH h l D) l (.inr (4, (lF l D).set 11 (.long x))) = lH h l (mJ D.1 11 x, D.2) := ov_u (k := 0) (fun j => by
  match j with
  | 0 => rfl
  | 1 => rfl
  | 2 => rfl
  | 3 => rfl
  | 4 => rfl
  | 5 => rfl
  | 6 => rfl
  | 7 => rfl
  | 8 => rfl
  | n + 9 => rfl)
theorem lg_12 : (lF l D)[12]? = some (.ref (l + 7)) := rfl
theorem lg_13 : (lF l D)[13]? = some (.ref (l + 8)) := rfl
theorem lH_m (hL : lOkk l D.2) : lH h l D (D.2.2.1) = some (.inl (.long, D.2.2.2.2, .inr (.inl (D.1.2.1 3)))) := by
  rw [lH_b hL.1]
  unfold lB
  rw [up_x hL.2.2, up_r]
theorem lw_m {f : Nat → Int64} (hL : lOkk l D.2) : am_up (lH h l D) (D.2.2.1) (.inl (.long, D.2.2.2.2, .inr (.inl (f)))) = lH h l (mL D.1 3 f, D.2) := by
  have hq := hL.1
  refine (ov_up (fun k hk => by
    obtain ⟨g0, g1, g2, g3, g4, g5, g6⟩ := hq
    exact lC_n (by omega) (by omega) (by omega) (by omega) (by omega) (by omega) (by omega))).trans ?_
  unfold lB
  rw [up_c hL.2.2.symm, up_u]
  rfl
theorem lH_a (hL : lOkk l D.2) : lH h l D (D.2.2.2.1) = some (.inl (.int, D.2.2.2.2, .inl (D.1.1 4))) := by
  rw [lH_b hL.2.1]
  unfold lB
  rw [up_r]
theorem lw_a {f : Nat → Int32} (hL : lOkk l D.2) : am_up (lH h l D) (D.2.2.2.1) (.inl (.int, D.2.2.2.2, .inl (f))) = lH h l (mS D.1 4 f, D.2) := by
  have hq := hL.2.1
  refine (ov_up (fun k hk => by
    obtain ⟨g0, g1, g2, g3, g4, g5, g6⟩ := hq
    exact lC_n (by omega) (by omega) (by omega) (by omega) (by omega) (by omega) (by omega))).trans ?_
  unfold lB
  rw [up_u]
  rfl
end OL
/-! Street -/
def wF (w : Nat) (D : mU × (Nat × Nat × Nat × Nat × Nat)) : List Value := [.ref (D.2.1), .ref (w + 1), .int (D.1.2.2.1 2), .ref (D.2.2.1), .ref (D.2.2.2.2.1), .int (D.1.2.2.1 5), .long (D.1.2.2.2 6), .int (D.1.2.2.1 7)]
def wC (w : Nat) (D : mU × (Nat × Nat × Nat × Nat × Nat)) (k : Nat) : Option am_E := match k with
  | 0 => some (.inr (5, wF w D))
  | 1 => some (.inl (.int, 162, .inl (D.1.1 1)))
  | _ => none
def wB (h : am_H) (D : mU × (Nat × Nat × Nat × Nat × Nat)) : am_H := am_up (am_up (h) (D.2.2.1) (.inl (.int, D.2.2.2.1, .inl (D.1.1 3)))) (D.2.2.2.2.1) (.inl (.long, D.2.2.2.2.2, .inr (.inl (D.1.2.1 4))))
def wH (h : am_H) (w : Nat) (D : mU × (Nat × Nat × Nat × Nat × Nat)) : am_H := ov (wB h D) w (wC w D)
def wK (w q : Nat) : Prop := q ≠ w ∧ q ≠ w + 1
def wOkk (w : Nat) (x : (Nat × Nat × Nat × Nat × Nat)) : Prop := wK w x.2.1 ∧ wK w x.2.2.2.1 ∧ x.2.1 ≠ x.2.2.2.1
section OW
variable {h : am_H} {w : Nat} {D : mU × (Nat × Nat × Nat × Nat × Nat)} {z : Nat × Nat}
theorem wC_n {k : Nat} (h0 : k ≠ 0) (h1 : k ≠ 1) : wC w D k = none := by
  match k, h0, h1 with
  | 0, h, _ => exact absurd rfl h
  | 1, _, h => exact absurd rfl h
  | k + 2, _, _ => rfl
theorem wH_b {q : Nat} (hq : wK w q) : wH h w D q = wB h D q := ov_x (fun k hk => by
  obtain ⟨g0, g1⟩ := hq
  exact wC_n (by omega) (by omega))
theorem wH_0 : wH h w D w = some (.inr (5, wF w D)) := ov_r (k := 0) rfl
theorem wH_ci : am_ci1 ((wH h w D, z).1 w) = some 5 := by
  show am_ci1 (wH h w D w) = some 5
  rw [wH_0]
  rfl
theorem wF_lt {j : Nat} (hj : j < 8) : j < (wF w D).length := hj
theorem wH_1 : wH h w D (w + 1) = some (.inl (.int, 162, .inl (D.1.1 1))) := ov_r (k := 1) rfl
theorem ww_1 {f : Nat → Int32} : am_up (wH h w D) (w + 1) (.inl (.int, 162, .inl (f))) = wH h w (mS D.1 1 f, D.2) := ov_u (fun j => by
  match j with
  | 0 => rfl
  | 1 => rfl
  | n + 2 => rfl)
theorem wg_0 : (wF w D)[0]? = some (.ref (D.2.1)) := rfl
theorem wg_1 : (wF w D)[1]? = some (.ref (w + 1)) := rfl
theorem wg_2 : (wF w D)[2]? = some (.int (D.1.2.2.1 2)) := rfl
theorem wp_2 {x : Int32} : am_up (wH h w D) w (.inr (5, (wF w D).set 2 (.int x))) = wH h w (mI D.1 2 x, D.2) := ov_u (k := 0) (fun j => by
  match j with
  | 0 => rfl
  | 1 => rfl
  | n + 2 => rfl)
theorem wg_3 : (wF w D)[3]? = some (.ref (D.2.2.1)) := rfl
theorem wg_4 : (wF w D)[4]? = some (.ref (D.2.2.2.2.1)) := rfl
theorem wg_5 : (wF w D)[5]? = some (.int (D.1.2.2.1 5)) := rfl
theorem wp_5 {x : Int32} : am_up (wH h w D) w (.inr (5, (wF w D).set 5 (.int x))) = wH h w (mI D.1 5 x, D.2) := ov_u (k := 0) (fun j => by
  match j with
  | 0 => rfl
  | 1 => rfl
  | n + 2 => rfl)
theorem wg_6 : (wF w D)[6]? = some (.long (D.1.2.2.2 6)) := rfl
theorem wp_6 {x : Int64} : am_up (wH h w D) w (.inr (5, (wF w D).set 6 (.long x))) = wH h w (mJ D.1 6 x, D.2) := ov_u (k := 0) (fun j => by
  match j with
  | 0 => rfl
  | 1 => rfl
  | n + 2 => rfl)
theorem wg_7 : (wF w D)[7]? = some (.int (D.1.2.2.1 7)) := rfl
theorem wp_7 {x : Int32} : am_up (wH h w D) w (.inr (5, (wF w D).set 7 (.int x))) = wH h w (mI D.1 7 x, D.2) := ov_u (k := 0) (fun j => by
  match j with
  | 0 => rfl
  | 1 => rfl
  | n + 2 => rfl)
theorem wH_s (hL : wOkk w D.2) : wH h w D (D.2.2.1) = some (.inl (.int, D.2.2.2.1, .inl (D.1.1 3))) := by
  rw [wH_b hL.1]
  unfold wB
  rw [up_x hL.2.2, up_r]
theorem ww_s {f : Nat → Int32} (hL : wOkk w D.2) : am_up (wH h w D) (D.2.2.1) (.inl (.int, D.2.2.2.1, .inl (f))) = wH h w (mS D.1 3 f, D.2) := by
  have hq := hL.1
  refine (ov_up (fun k hk => by
    obtain ⟨g0, g1⟩ := hq
    exact wC_n (by omega) (by omega))).trans ?_
  unfold wB
  rw [up_c hL.2.2.symm, up_u]
  rfl
theorem wH_m (hL : wOkk w D.2) : wH h w D (D.2.2.2.2.1) = some (.inl (.long, D.2.2.2.2.2, .inr (.inl (D.1.2.1 4)))) := by
  rw [wH_b hL.2.1]
  unfold wB
  rw [up_r]
theorem ww_m {f : Nat → Int64} (hL : wOkk w D.2) : am_up (wH h w D) (D.2.2.2.2.1) (.inl (.long, D.2.2.2.2.2, .inr (.inl (f)))) = wH h w (mL D.1 4 f, D.2) := by
  have hq := hL.2.1
  refine (ov_up (fun k hk => by
    obtain ⟨g0, g1⟩ := hq
    exact wC_n (by omega) (by omega))).trans ?_
  unfold wB
  rw [up_u]
  rfl
end OW
