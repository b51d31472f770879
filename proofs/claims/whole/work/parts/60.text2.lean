/-! texts: steps, other chances, boxes, statements -/
def pStp (s : Nat → Int32) : Nat → Nat → Nat → (Nat → Int32) → (Nat → Int32) → Bool × Nat × Nat × (Nat → Int32) × (Nat → Int32)
  | 0, p, k, W, C => (false, p, k, W, C)
  | f + 1, p, k, W, C => if s p = zI 32 then (if (pNum s (p + 1)).1 = true then (if s (pNum s (p + 1)).2.1 = zI 47 then (if (pNum s ((pNum s (p + 1)).2.1 + 1)).1 = true then pStp s f (pNum s ((pNum s (p + 1)).2.1 + 1)).2.1 (k + 1) (upd W k (pNum s (p + 1)).2.2) (upd C k (pNum s ((pNum s (p + 1)).2.1 + 1)).2.2) else (false, (pNum s ((pNum s (p + 1)).2.1 + 1)).2.1, k, W, C)) else (false, (pNum s (p + 1)).2.1, k, W, C)) else (false, (pNum s (p + 1)).2.1, k, W, C)) else (true, p, k, W, C)
def pOth (s : Nat → Int32) : Nat → Nat → Nat → (Nat → Int32) → Bool × Nat × Nat × (Nat → Int32)
  | 0, p, k, O => (false, p, k, O)
  | f + 1, p, k, O => if s p = zI 32 then (if (pNum s (p + 1)).1 = true then pOth s f (pNum s (p + 1)).2.1 (k + 1) (upd O k (pNum s (p + 1)).2.2) else (false, (pNum s (p + 1)).2.1, k, O)) else (true, p, k, O)
/-- a box as it is read: price, hours, steps, worths, chances, sign, number behind it, others -/
abbrev pD : Type := Int32 × Int32 × Nat × (Nat → Int32) × (Nat → Int32) × Int32 × Int32 × Nat × (Nat → Int32)
def pZ : Nat → Int32 := fun _ => 0
def pBad : pD := (0, 0, 0, pZ, pZ, 0, 0, 0, pZ)
/-- the ending -/
def pEnd (F : Nat) (s : Nat → Int32) (p : Nat) (x y : Int32) (k : Nat) (W C : Nat → Int32) : Bool × Nat × pD :=
  if s p = zI 59 then (true, p, (x, y, k, W, C, zI 0, zI 0, 0, pZ))
  else if s p = zI 33 then (true, p + 1, (x, y, k, W, C, zI 33, zI 0, 0, pZ))
  else if s p = zI 63 ∨ s p = zI 60 ∨ s p = zI 62 ∨ s p = zI 64 then (if (pNum s (p + 1)).1 = true then (if s p = zI 62 then ((pOth s F (pNum s (p + 1)).2.1 0 pZ).1, (pOth s F (pNum s (p + 1)).2.1 0 pZ).2.1, (x, y, k, W, C, s p, (pNum s (p + 1)).2.2, (pOth s F (pNum s (p + 1)).2.1 0 pZ).2.2.1, (pOth s F (pNum s (p + 1)).2.1 0 pZ).2.2.2)) else (true, (pNum s (p + 1)).2.1, (x, y, k, W, C, s p, (pNum s (p + 1)).2.2, 0, pZ))) else (false, (pNum s (p + 1)).2.1, pBad))
  else (false, p, pBad)
def pBox (F : Nat) (s : Nat → Int32) (p : Nat) : Bool × Nat × pD :=
  if (pNum s p).1 = true then (if s (pNum s p).2.1 = zI 32 then (if (pNum s ((pNum s p).2.1 + 1)).1 = true then (if (pStp s F (pNum s ((pNum s p).2.1 + 1)).2.1 0 pZ pZ).1 = true then pEnd F s (pStp s F (pNum s ((pNum s p).2.1 + 1)).2.1 0 pZ pZ).2.1 (pNum s p).2.2 (pNum s ((pNum s p).2.1 + 1)).2.2 (pStp s F (pNum s ((pNum s p).2.1 + 1)).2.1 0 pZ pZ).2.2.1 (pStp s F (pNum s ((pNum s p).2.1 + 1)).2.1 0 pZ pZ).2.2.2.1 (pStp s F (pNum s ((pNum s p).2.1 + 1)).2.1 0 pZ pZ).2.2.2.2 else (false, (pStp s F (pNum s ((pNum s p).2.1 + 1)).2.1 0 pZ pZ).2.1, pBad)) else (false, (pNum s ((pNum s p).2.1 + 1)).2.1, pBad)) else (false, (pNum s p).2.1, pBad)) else (false, (pNum s p).2.1, pBad)
/-- behind: ; -/
def pSem (s : Nat → Int32) (r : Bool × Nat × pD) : Bool × Nat × pD := if r.1 = true then (if s r.2.1 = zI 59 then (true, r.2.1 + 1, r.2.2) else (false, r.2.1, r.2.2)) else r
/-- a statement: of the bell the number stands as the one behind the sign -/
def pSt (F : Nat) (s : Nat → Int32) (p : Nat) : Bool × Nat × pD :=
  if s p = zI 108 then pSem s ((pNum s (p + 1)).1, (pNum s (p + 1)).2.1, (0, 0, 0, pZ, pZ, 0, (pNum s (p + 1)).2.2, 0, pZ))
  else if s p = zI 98 then pSem s (pBox F s (p + 1)) else (false, p, pBad)
theorem pStp_k {s : Nat → Int32} {n : Nat} (hs : ∀ q, n ≤ q → isD (s q) = false) (hs2 : ∀ q c, c < 1000 → s q = zI c → q < n) : ∀ (f p k : Nat) (W C : Nat → Int32), p ≤ n → 4 * k ≤ p → p ≤ (pStp s f p k W C).2.1 ∧ (pStp s f p k W C).2.1 ≤ n ∧ 4 * (pStp s f p k W C).2.2.1 ≤ n ∧ k ≤ (pStp s f p k W C).2.2.1 ∧ ((∀ j, j < k → (∃ m, W j = zI m ∧ m ≤ 999) ∧ ∃ m, C j = zI m ∧ m ≤ 999) → ∀ j, j < (pStp s f p k W C).2.2.1 → (∃ m, (pStp s f p k W C).2.2.2.1 j = zI m ∧ m ≤ 999) ∧ ∃ m, (pStp s f p k W C).2.2.2.2 j = zI m ∧ m ≤ 999)
  | 0, p, k, W, C, hp, hk => ⟨Nat.le_refl _, hp, by show 4 * k ≤ n; omega, Nat.le_refl _, fun h => h⟩
  | f + 1, p, k, W, C, hp, hk => by
    unfold pStp
    have basic : p ≤ p ∧ p ≤ n ∧ 4 * k ≤ n ∧ k ≤ k := ⟨Nat.le_refl _, hp, by omega, Nat.le_refl _⟩
    by_cases c1 : s p = zI 32
    · have h1 := hs2 p 32 (by omega) c1
      obtain ⟨a1, a2⟩ := pNum_ok (p := p + 1) hs (by omega)
      rw [if_pos c1]
      by_cases c2 : (pNum s (p + 1)).1 = true
      · obtain ⟨b1, b2, m1, b3, b4⟩ := a1 c2
        rw [if_pos c2]
        by_cases c3 : s (pNum s (p + 1)).2.1 = zI 47
        · have h3 := hs2 _ 47 (by omega) c3
          rw [if_pos c3]
          obtain ⟨d1, d2⟩ := pNum_ok (p := (pNum s (p + 1)).2.1 + 1) hs (by omega)
          by_cases c4 : (pNum s ((pNum s (p + 1)).2.1 + 1)).1 = true
          · obtain ⟨e1, e2, m2, e3, e4⟩ := d1 c4
            rw [if_pos c4]
            obtain ⟨f1, f2, f3, f4, f5⟩ := pStp_k hs hs2 f (pNum s ((pNum s (p + 1)).2.1 + 1)).2.1 (k + 1) (upd W k (pNum s (p + 1)).2.2) (upd C k (pNum s ((pNum s (p + 1)).2.1 + 1)).2.2) e2 (by omega)
            refine ⟨by omega, f2, f3, by omega, fun h => f5 (fun j hj => ?_)⟩
            by_cases e : j = k
            · subst e
              rw [upd_s, upd_s]
              exact ⟨⟨m1, b3, b4⟩, ⟨m2, e3, e4⟩⟩
            · rw [upd_o e, upd_o e]
              exact h j (by omega)
          · rw [if_neg c4]
            have := d2 (by simpa using c4)
            refine ⟨?_, ?_, by show 4 * k ≤ n; omega, Nat.le_refl _, fun h => h⟩
            · show p ≤ (pNum s ((pNum s (p + 1)).2.1 + 1)).2.1
              omega
            · show (pNum s ((pNum s (p + 1)).2.1 + 1)).2.1 ≤ n
              omega
        · rw [if_neg c3]
          refine ⟨?_, ?_, by show 4 * k ≤ n; omega, Nat.le_refl _, fun h => h⟩
          · show p ≤ (pNum s (p + 1)).2.1
            omega
          · show (pNum s (p + 1)).2.1 ≤ n
            omega
      · rw [if_neg c2]
        have := a2 (by simpa using c2)
        refine ⟨?_, ?_, by show 4 * k ≤ n; omega, Nat.le_refl _, fun h => h⟩
        · show p ≤ (pNum s (p + 1)).2.1
          omega
        · show (pNum s (p + 1)).2.1 ≤ n
          omega
    · rw [if_neg c1]
      exact ⟨Nat.le_refl _, hp, by show 4 * k ≤ n; omega, Nat.le_refl _, fun h => h⟩
theorem pOth_k {s : Nat → Int32} {n : Nat} (hs : ∀ q, n ≤ q → isD (s q) = false) (hs2 : ∀ q c, c < 1000 → s q = zI c → q < n) : ∀ (f p k : Nat) (O : Nat → Int32), p ≤ n → 2 * k ≤ p → p ≤ (pOth s f p k O).2.1 ∧ (pOth s f p k O).2.1 ≤ n ∧ 2 * (pOth s f p k O).2.2.1 ≤ n ∧ k ≤ (pOth s f p k O).2.2.1 ∧ ((∀ j, j < k → ∃ m, O j = zI m ∧ m ≤ 999) → ∀ j, j < (pOth s f p k O).2.2.1 → ∃ m, (pOth s f p k O).2.2.2 j = zI m ∧ m ≤ 999)
  | 0, p, k, O, hp, hk => ⟨Nat.le_refl _, hp, by show 2 * k ≤ n; omega, Nat.le_refl _, fun h => h⟩
  | f + 1, p, k, O, hp, hk => by
    unfold pOth
    by_cases c1 : s p = zI 32
    · have h1 := hs2 p 32 (by omega) c1
      obtain ⟨a1, a2⟩ := pNum_ok (p := p + 1) hs (by omega)
      rw [if_pos c1]
      by_cases c2 : (pNum s (p + 1)).1 = true
      · obtain ⟨b1, b2, m1, b3, b4⟩ := a1 c2
        rw [if_pos c2]
        obtain ⟨f1, f2, f3, f4, f5⟩ := pOth_k hs hs2 f (pNum s (p + 1)).2.1 (k + 1) (upd O k (pNum s (p + 1)).2.2) b2 (by omega)
        refine ⟨by omega, f2, f3, by omega, fun h => f5 (fun j hj => ?_)⟩
        by_cases e : j = k
        · subst e
          rw [upd_s]
          exact ⟨m1, b3, b4⟩
        · rw [upd_o e]
          exact h j (by omega)
      · rw [if_neg c2]
        have := a2 (by simpa using c2)
        refine ⟨?_, ?_, by show 2 * k ≤ n; omega, Nat.le_refl _, fun h => h⟩
        · show p ≤ (pNum s (p + 1)).2.1
          omega
        · show (pNum s (p + 1)).2.1 ≤ n
          omega
    · rw [if_neg c1]
      exact ⟨Nat.le_refl _, hp, by show 2 * k ≤ n; omega, Nat.le_refl _, fun h => h⟩
section M20
variable {X : am_X} {h : am_H} {o d : Nat} {u : mU} {z : Nat × Nat}
theorem mBy_D {e n : Nat} : ∀ q, n ≤ q → isD (mBy u e n q) = false := fun q hq => sg_D hq
theorem mBy_c {e n : Nat} : ∀ q c, c < 1000 → mBy u e n q = zI c → q < n := fun q c hc hq => sg_c hc hq
/-- what reading leaves as it was -/
def mPs (u u' : mU) : Prop := (∀ j, j ≠ 11 → j ≠ 12 → j ≠ 13 → u'.1 j = u.1 j) ∧ u'.2.1 = u.2.1 ∧ ∀ j, j < 12 ∨ 25 ≤ j ∨ j = 13 ∨ j = 14 ∨ j = 16 ∨ j = 17 ∨ j = 18 → u'.2.2.1 j = u.2.2.1 j
theorem mPs.rf : mPs u u := ⟨fun _ _ _ _ => rfl, rfl, fun _ _ => rfl⟩
theorem mPs.tr {u' u'' : mU} (h1 : mPs u u') (h2 : mPs u' u'') : mPs u u'' := ⟨fun j a b c => (h2.1 j a b c).trans (h1.1 j a b c), h2.2.1.trans h1.2.1, fun j hj => (h2.2.2 j hj).trans (h1.2.2 j hj)⟩
theorem mPs.by' {u' : mU} {e n : Nat} (h1 : mPs u u') : mBy u' e n = mBy u e n := by
  unfold mBy
  rw [h1.1 8 (by omega) (by omega) (by omega)]
theorem mPs.N {q : Nat} {x : Int32} : mPs u (mI (mI u 15 x) 12 (zI q)) := ⟨fun _ _ _ _ => rfl, rfl, fun j hj => by rw [mI_o (by omega), mI_o (by omega)]⟩
theorem mPs.T {q : Nat} : mPs u (mI u 12 (zI q)) := ⟨fun _ _ _ _ => rfl, rfl, fun j hj => by rw [mI_o (by omega)]⟩
theorem mPs.at' {u' : mU} {e n p q : Nat} (h1 : mPs u u') (hA : mAt u e n p) (hq : u'.2.2.1 12 = zI q) : mAt u' e n q := ⟨by rw [h1.2.2 13 (by omega)]; exact hA.1, by rw [h1.2.2 14 (by omega)]; exact hA.2.1, hq⟩
theorem r_num_y {e n p : Nat} (hA : mAt u e n p) (he : e < 8) (hn : n ≤ 120) (hp : p ≤ n) (hy : (pNum (mBy u e n) p).1 = true) : am_f X (d + 2) 201 [.ref o] (mH h o u, z) = some (.inl (some (.int (zI 1))), (mH h o (mI (mI u 15 (pNum (mBy u e n) p).2.2) 12 (zI (pNum (mBy u e n) p).2.1)), z)) := by
  rw [r_readsNumber hA he hn hp, hy, if_pos rfl]
  rfl
theorem r_num_n {e n p : Nat} (hA : mAt u e n p) (he : e < 8) (hn : n ≤ 120) (hp : p ≤ n) (hy : ¬ (pNum (mBy u e n) p).1 = true) : am_f X (d + 2) 201 [.ref o] (mH h o u, z) = some (.inl (some (.int (zI 0))), (mH h o u, z)) := by
  have hy' : (pNum (mBy u e n) p).1 = false := by simpa using hy
  rw [r_readsNumber hA he hn hp, hy', if_neg (by decide)]
  rfl
theorem r_stp_l {e n : Nat} {s : Nat → Int32} {v1 : Option Value} (he : e < 8) (hn : n ≤ 120) : ∀ (f p k : Nat) (W C : Nat → Int32) (u : mU), mBy u e n = s → mAt u e n p → p ≤ n → n < p + f → 4 * k ≤ p → u.2.2.1 21 = zI k → (∀ j, j < k → u.1 11 j = W j ∧ u.1 12 j = C j) → ∃ u', mPs u u' ∧ u'.2.2.1 12 = zI (pStp s f p k W C).2.1 ∧ (∀ j, j = 19 ∨ j = 20 ∨ j = 22 ∨ j = 24 → u'.2.2.1 j = u.2.2.1 j) ∧ ((pStp s f p k W C).1 = false → am_I X (am_f X (d + 3)) 202 58 [some (.ref o), v1] [] (mH h o u, z) = some (.inl (some (.int (zI 0))), (mH h o u', z))) ∧ ((pStp s f p k W C).1 = true → am_I X (am_f X (d + 3)) 202 58 [some (.ref o), v1] [] (mH h o u, z) = am_I X (am_f X (d + 3)) 202 133 [some (.ref o), v1] [] (mH h o u', z) ∧ u'.2.2.1 21 = zI (pStp s f p k W C).2.2.1 ∧ ∀ j, j < (pStp s f p k W C).2.2.1 → u'.1 11 j = (pStp s f p k W C).2.2.2.1 j ∧ u'.1 12 j = (pStp s f p k W C).2.2.2.2 j) := by
  intro f
  induction f with
  | zero =>
    intro p k W C u hs hA hp hf
    omega
  | succ f ih =>
    intro p k W C u hs hA hp hf hk hst hWC
    unfold pStp
    by_cases c1 : s p = zI 32
    · have c1' : mBy u e n p = zI 32 := by rw [hs]; exact c1
      have h1 := mBy_c p 32 (by omega) c1'
      have t1 := fun d => r_takes_y (X := X) (h := h) (o := o) (d := d) (u := u) (z := z) hA he hn hp c1'
      have hA2 : mAt (mI u 12 (zI (p + 1))) e n (p + 1) := hA.I
      have hs2 : mBy (mI u 12 (zI (p + 1))) e n = s := hs
      obtain ⟨a1, a2⟩ := pNum_ok (s := s) (p := p + 1) (n := n) (by rw [← hs]; exact mBy_D) (by omega)
      rw [if_pos c1]
      by_cases c2 : (pNum s (p + 1)).1 = true
      · obtain ⟨b1, b2, -⟩ := a1 c2
        rw [if_pos c2]
        have t2 := fun d => r_num_y (X := X) (h := h) (o := o) (d := d) (u := mI u 12 (zI (p + 1))) (z := z) hA2 he hn (by omega) (by rw [hs2]; exact c2)
        rw [hs2] at t2
        generalize pNum s (p + 1) = r1 at b1 b2 t2 c2 ⊢
        have hA3 : mAt (mI (mI (mI u 12 (zI (p + 1))) 15 r1.2.2) 12 (zI r1.2.1)) e n r1.2.1 := hA2.N
        have hA3' : mAt (mS (mI (mI (mI u 12 (zI (p + 1))) 15 r1.2.2) 12 (zI r1.2.1)) 11 (upd (u.1 11) k r1.2.2)) e n r1.2.1 := hA3
        have hs3 : mBy (mS (mI (mI (mI u 12 (zI (p + 1))) 15 r1.2.2) 12 (zI r1.2.1)) 11 (upd (u.1 11) k r1.2.2)) e n = s := hs
        have hst3 : (mI (mI (mI u 12 (zI (p + 1))) 15 r1.2.2) 12 (zI r1.2.1)).2.2.1 21 = zI k := hst
        have h15 : (mI (mI (mI u 12 (zI (p + 1))) 15 r1.2.2) 12 (zI r1.2.1)).2.2.1 15 = r1.2.2 := rfl
        have hk120 : k < 120 := by omega
        by_cases c3 : s r1.2.1 = zI 47
        · have c3' : mBy (mS (mI (mI (mI u 12 (zI (p + 1))) 15 r1.2.2) 12 (zI r1.2.1)) 11 (upd (u.1 11) k r1.2.2)) e n r1.2.1 = zI 47 := by rw [hs3]; exact c3
          have h3 := mBy_c _ 47 (by omega) c3'
          rw [if_pos c3]
          have t3 := fun d => r_takes_y (X := X) (h := h) (o := o) (d := d) (z := z) hA3' he hn b2 c3'
          obtain ⟨d1, d2⟩ := pNum_ok (s := s) (p := r1.2.1 + 1) (n := n) (by rw [← hs]; exact mBy_D) (by omega)
          have hA4 : mAt (mI (mS (mI (mI (mI u 12 (zI (p + 1))) 15 r1.2.2) 12 (zI r1.2.1)) 11 (upd (u.1 11) k r1.2.2)) 12 (zI (r1.2.1 + 1))) e n (r1.2.1 + 1) := hA3'.I
          have hs4 : mBy (mI (mS (mI (mI (mI u 12 (zI (p + 1))) 15 r1.2.2) 12 (zI r1.2.1)) 11 (upd (u.1 11) k r1.2.2)) 12 (zI (r1.2.1 + 1))) e n = s := hs
          by_cases c4 : (pNum s (r1.2.1 + 1)).1 = true
          · obtain ⟨e1, e2, -⟩ := d1 c4
            rw [if_pos c4]
            have t4 := fun d => r_num_y (X := X) (h := h) (o := o) (d := d) (z := z) hA4 he hn (by omega) (by rw [hs4]; exact c4)
            rw [hs4] at t4
            generalize pNum s (r1.2.1 + 1) = r2 at e1 e2 t4 c4 ⊢
            have e11 : (mI (mI (mI u 12 (zI (p + 1))) 15 r1.2.2) 12 (zI r1.2.1)).1 11 = u.1 11 := rfl
            have e12 : (mI (mI (mI (mS (mI (mI (mI u 12 (zI (p + 1))) 15 r1.2.2) 12 (zI r1.2.1)) 11 (upd (u.1 11) k r1.2.2)) 12 (zI (r1.2.1 + 1))) 15 r2.2.2) 12 (zI r2.2.1)).1 12 = u.1 12 := rfl
            have hst4 : (mI (mI (mI (mS (mI (mI (mI u 12 (zI (p + 1))) 15 r1.2.2) 12 (zI r1.2.1)) 11 (upd (u.1 11) k r1.2.2)) 12 (zI (r1.2.1 + 1))) 15 r2.2.2) 12 (zI r2.2.1)).2.2.1 21 = zI k := hst
            have hst5 : (mS (mI (mI (mI (mS (mI (mI (mI u 12 (zI (p + 1))) 15 r1.2.2) 12 (zI r1.2.1)) 11 (upd (u.1 11) k r1.2.2)) 12 (zI (r1.2.1 + 1))) 15 r2.2.2) 12 (zI r2.2.1)) 12 (upd (u.1 12) k r2.2.2)).2.2.1 21 = zI k := hst
            have h15' : (mI (mI (mI (mS (mI (mI (mI u 12 (zI (p + 1))) 15 r1.2.2) 12 (zI r1.2.1)) 11 (upd (u.1 11) k r1.2.2)) 12 (zI (r1.2.1 + 1))) 15 r2.2.2) 12 (zI r2.2.1)).2.2.1 15 = r2.2.2 := rfl
            have q0 : mPs u (mI (mS (mI (mI (mI (mS (mI (mI (mI u 12 (zI (p + 1))) 15 r1.2.2) 12 (zI r1.2.1)) 11 (upd (u.1 11) k r1.2.2)) 12 (zI (r1.2.1 + 1))) 15 r2.2.2) 12 (zI r2.2.1)) 12 (upd (u.1 12) k r2.2.2)) 21 (zI (k + 1))) := ⟨fun j j1 j2 j3 => by
              rw [mI_1, mS_o j2, mI_1, mI_1, mI_1, mS_o j1]
              rfl, rfl, fun j hj => by
              rw [mI_o (by omega)]
              show (mI (mI (mI (mS (mI (mI (mI u 12 (zI (p + 1))) 15 r1.2.2) 12 (zI r1.2.1)) 11 (upd (u.1 11) k r1.2.2)) 12 (zI (r1.2.1 + 1))) 15 r2.2.2) 12 (zI r2.2.1)).2.2.1 j = _
              rw [mI_o (by omega), mI_o (by omega), mI_o (by omega)]
              show (mI (mI (mI u 12 (zI (p + 1))) 15 r1.2.2) 12 (zI r1.2.1)).2.2.1 j = _
              rw [mI_o (by omega), mI_o (by omega), mI_o (by omega)]⟩
            have q1 : ∀ j, j = 19 ∨ j = 20 ∨ j = 22 ∨ j = 24 → (mI (mS (mI (mI (mI (mS (mI (mI (mI u 12 (zI (p + 1))) 15 r1.2.2) 12 (zI r1.2.1)) 11 (upd (u.1 11) k r1.2.2)) 12 (zI (r1.2.1 + 1))) 15 r2.2.2) 12 (zI r2.2.1)) 12 (upd (u.1 12) k r2.2.2)) 21 (zI (k + 1))).2.2.1 j = u.2.2.1 j := by
              intro j hj
              rcases hj with rfl | rfl | rfl | rfl <;> rfl
            obtain ⟨u', g1, g2, g3, g4, g5⟩ := ih r2.2.1 (k + 1) (upd W k r1.2.2) (upd C k r2.2.2) (mI (mS (mI (mI (mI (mS (mI (mI (mI u 12 (zI (p + 1))) 15 r1.2.2) 12 (zI r1.2.1)) 11 (upd (u.1 11) k r1.2.2)) 12 (zI (r1.2.1 + 1))) 15 r2.2.2) 12 (zI r2.2.1)) 12 (upd (u.1 12) k r2.2.2)) 21 (zI (k + 1))) hs ⟨hA.1, hA.2.1, rfl⟩ e2 (by omega) (by omega) rfl (fun j hj => by
              show upd (u.1 11) k r1.2.2 j = _ ∧ upd (u.1 12) k r2.2.2 j = _
              by_cases e : j = k
              · subst e
                rw [upd_s, upd_s, upd_s, upd_s]
                exact ⟨rfl, rfl⟩
              · rw [upd_o e, upd_o e, upd_o e, upd_o e]
                exact hWC j (by omega))
            have step : am_I X (am_f X (d + 3)) 202 58 [some (.ref o), v1] [] (mH h o u, z) = am_I X (am_f X (d + 3)) 202 58 [some (.ref o), v1] [] (mH h o (mI (mS (mI (mI (mI (mS (mI (mI (mI u 12 (zI (p + 1))) 15 r1.2.2) 12 (zI r1.2.1)) 11 (upd (u.1 11) k r1.2.2)) 12 (zI (r1.2.1 + 1))) 15 r2.2.2) 12 (zI r2.2.1)) 12 (upd (u.1 12) k r2.2.2)) 21 (zI (k + 1))), z) := by
              rw [am_go dc_202_58]
              simp (disch := first | omega | exact ci_m | exact Nat.le_of_ble_eq_true rfl | (refine mF_lt ?_; omega)) only [own_202, am_go dc_202_0, J_aload_0, K_al, ld_0, am_go dc_202_1, J_iconst, c32_0, am_go dc_202_2, J_putfield_i, J_putfield_l, J_putfield_r, ini_202, pk_12_103_12, am_go dc_202_5, am_go dc_202_6, am_go dc_202_7, pk_12_106_12, am_go dc_202_10, am_go dc_202_11, am_go dc_202_12, pk_12_109_12, am_go dc_202_15, am_go dc_202_16, cv_12_112_12 own_202, JR_v, JR_0, JR_ite, ci1_r, am_go dc_202_19, J_if_ne, am_go dc_202_22, am_go dc_202_23, J_ret_z0 ret_202, J_ret_z1 ret_202, J_ret_zB ret_202, am_go dc_202_24, am_go dc_202_25, am_go dc_202_26, J_getfield, gf_r, fk_12_100_12, am_go dc_202_29, pk_12_116_12, am_go dc_202_32, am_go dc_202_33, J_bipush, c8_32, am_go dc_202_35, cv_12_119_12 own_202, am_go dc_202_38, J_if_eq, am_go dc_202_41, am_go dc_202_42, am_go dc_202_45, am_go dc_202_48, am_go dc_202_49, am_go dc_202_50, am_go dc_202_51, am_go dc_202_52, am_go dc_202_55, pk_12_123_12, am_go dc_202_59, am_go dc_202_61, am_go dc_202_64, am_go dc_202_67, am_go dc_202_68, am_go dc_202_71, am_go dc_202_74, am_go dc_202_75, am_go dc_202_76, am_go dc_202_77, fk_12_40_12, am_go dc_202_80, am_go dc_202_81, fk_12_103_12, am_go dc_202_84, am_go dc_202_85, am_go dc_202_88, J_iastore, am_go dc_202_89, am_go dc_202_90, c8_47, am_go dc_202_92, am_go dc_202_95, am_go dc_202_98, am_go dc_202_99, am_go dc_202_102, am_go dc_202_105, am_go dc_202_106, am_go dc_202_107, am_go dc_202_108, fk_12_43_12, am_go dc_202_111, am_go dc_202_112, am_go dc_202_115, am_go dc_202_116, am_go dc_202_119, am_go dc_202_120, am_go dc_202_121, J_dup_i, J_dup_r, am_go dc_202_122, am_go dc_202_125, c32_1, am_go dc_202_126, J_iadd, am_go dc_202_127, am_go dc_202_130, J_goto, am_go dc_202_134, cv_12_92_12 own_202, am_go dc_202_137, J_istore_1, st1_0, st1_1, st1_s, kl_i, kl_l, kl_r, kl_n, am_go dc_202_138, J_iload_1, K_il, ld_1, am_go dc_202_139, c8_59, am_go dc_202_141, J_icmp_ne, am_go dc_202_144, am_go dc_202_145, am_go dc_202_146, am_go dc_202_147, c8_63, am_go dc_202_149, J_icmp_eq, am_go dc_202_152, am_go dc_202_153, c8_33, am_go dc_202_155, am_go dc_202_158, am_go dc_202_159, c8_60, am_go dc_202_161, am_go dc_202_164, am_go dc_202_165, c8_62, am_go dc_202_167, am_go dc_202_170, am_go dc_202_171, c8_64, am_go dc_202_173, am_go dc_202_176, am_go dc_202_177, am_go dc_202_178, am_go dc_202_179, am_go dc_202_180, fk_12_83_12, am_go dc_202_183, am_go dc_202_184, am_go dc_202_185, pk_12_83_12, am_go dc_202_188, am_go dc_202_189, am_go dc_202_190, am_go dc_202_193, am_go dc_202_194, am_go dc_202_196, am_go dc_202_199, am_go dc_202_200, am_go dc_202_201, am_go dc_202_202, am_go dc_202_205, am_go dc_202_208, am_go dc_202_209, am_go dc_202_210, am_go dc_202_211, am_go dc_202_212, am_go dc_202_215, pk_12_126_12, am_go dc_202_218, am_go dc_202_219, am_go dc_202_221, am_go dc_202_224, am_go dc_202_225, am_go dc_202_227, am_go dc_202_230, am_go dc_202_233, am_go dc_202_234, am_go dc_202_237, am_go dc_202_240, am_go dc_202_241, am_go dc_202_242, am_go dc_202_243, fk_12_46_12, am_go dc_202_246, am_go dc_202_247, fk_12_106_12, am_go dc_202_250, am_go dc_202_251, am_go dc_202_254, am_go dc_202_255, am_go dc_202_256, am_go dc_202_257, am_go dc_202_260, am_go dc_202_261, am_go dc_202_262, am_go dc_202_265, am_go dc_202_268, am_go dc_202_269, mH_o, mp_21, pf_i pk_12_103_12 rfl, mp_24, pf_i pk_12_106_12 rfl, mp_22, pf_i pk_12_109_12 rfl, mg_15, mp_19, pf_i pk_12_116_12 rfl, mp_20, pf_i pk_12_123_12 rfl, mg_16, mH_11, mw_11, mg_21, mg_17, mH_12, mw_12, mg_12, mp_12, pf_i pk_12_83_12 rfl, mp_23, pf_i pk_12_126_12 rfl, mg_18, mH_13, mw_13, mg_24, zI_add, zI_mul, zI_lt, zI_le, zI_eq, zI_neg, zI_pos, zI_ne0, zI_gt0, zB_0, lg_cmp_ge, lg_cmp_le, lg_cmp_gt, lg_cmp_lt, lg_cmp_eq, ail_r, abl_r, all_r, ais_r, abs_r, als_r, mF_len, t1, t2, hst3, h15, e11, t3, t4, hst4, h15', e12, hst5, List.length_cons, List.length_nil, Nat.reduceAdd, Nat.reduceLT, Nat.reduceLeDiff, Nat.reduceEqDiff, ↓reduceIte, bind_s, if_true, if_false, not_true_eq_false, not_false_eq_true, Nat.zero_add]
            refine ⟨u', q0.tr g1, g2, fun j hj => (g3 j hj).trans (q1 j hj), fun hh => ?_, fun hh => ?_⟩
            · rw [step]
              exact g4 hh
            · rw [step]
              exact g5 hh
          · rw [if_neg c4]
            have e2 := d2 (by simpa using c4)
            have t4 := fun d => r_num_n (X := X) (h := h) (o := o) (d := d) (z := z) hA4 he hn (by omega) (by rw [hs4]; exact c4)
            have e11 : (mI (mI (mI u 12 (zI (p + 1))) 15 r1.2.2) 12 (zI r1.2.1)).1 11 = u.1 11 := rfl
            refine ⟨mI (mS (mI (mI (mI u 12 (zI (p + 1))) 15 r1.2.2) 12 (zI r1.2.1)) 11 (upd (u.1 11) k r1.2.2)) 12 (zI (r1.2.1 + 1)), ⟨fun j j1 j2 j3 => by
              rw [mI_1, mS_o j1]
              rfl, rfl, fun j hj => by
              rw [mI_o (by omega)]
              show (mI (mI (mI u 12 (zI (p + 1))) 15 r1.2.2) 12 (zI r1.2.1)).2.2.1 j = _
              rw [mI_o (by omega), mI_o (by omega), mI_o (by omega)]⟩, ?_, ?_, fun _ => ?_, fun hh => by cases hh⟩
            · show zI (r1.2.1 + 1) = zI (pNum s (r1.2.1 + 1)).2.1
              rw [e2]
            · intro j hj
              rcases hj with rfl | rfl | rfl | rfl <;> rfl
            · rw [am_go dc_202_58]
              simp (disch := first | omega | exact ci_m | exact Nat.le_of_ble_eq_true rfl | (refine mF_lt ?_; omega)) only [own_202, am_go dc_202_0, J_aload_0, K_al, ld_0, am_go dc_202_1, J_iconst, c32_0, am_go dc_202_2, J_putfield_i, J_putfield_l, J_putfield_r, ini_202, pk_12_103_12, am_go dc_202_5, am_go dc_202_6, am_go dc_202_7, pk_12_106_12, am_go dc_202_10, am_go dc_202_11, am_go dc_202_12, pk_12_109_12, am_go dc_202_15, am_go dc_202_16, cv_12_112_12 own_202, JR_v, JR_0, JR_ite, ci1_r, am_go dc_202_19, J_if_ne, am_go dc_202_22, am_go dc_202_23, J_ret_z0 ret_202, J_ret_z1 ret_202, J_ret_zB ret_202, am_go dc_202_24, am_go dc_202_25, am_go dc_202_26, J_getfield, gf_r, fk_12_100_12, am_go dc_202_29, pk_12_116_12, am_go dc_202_32, am_go dc_202_33, J_bipush, c8_32, am_go dc_202_35, cv_12_119_12 own_202, am_go dc_202_38, J_if_eq, am_go dc_202_41, am_go dc_202_42, am_go dc_202_45, am_go dc_202_48, am_go dc_202_49, am_go dc_202_50, am_go dc_202_51, am_go dc_202_52, am_go dc_202_55, pk_12_123_12, am_go dc_202_59, am_go dc_202_61, am_go dc_202_64, am_go dc_202_67, am_go dc_202_68, am_go dc_202_71, am_go dc_202_74, am_go dc_202_75, am_go dc_202_76, am_go dc_202_77, fk_12_40_12, am_go dc_202_80, am_go dc_202_81, fk_12_103_12, am_go dc_202_84, am_go dc_202_85, am_go dc_202_88, J_iastore, am_go dc_202_89, am_go dc_202_90, c8_47, am_go dc_202_92, am_go dc_202_95, am_go dc_202_98, am_go dc_202_99, am_go dc_202_102, am_go dc_202_105, am_go dc_202_106, am_go dc_202_107, am_go dc_202_108, fk_12_43_12, am_go dc_202_111, am_go dc_202_112, am_go dc_202_115, am_go dc_202_116, am_go dc_202_119, am_go dc_202_120, am_go dc_202_121, J_dup_i, J_dup_r, am_go dc_202_122, am_go dc_202_125, c32_1, am_go dc_202_126, J_iadd, am_go dc_202_127, am_go dc_202_130, J_goto, am_go dc_202_134, cv_12_92_12 own_202, am_go dc_202_137, J_istore_1, st1_0, st1_1, st1_s, kl_i, kl_l, kl_r, kl_n, am_go dc_202_138, J_iload_1, K_il, ld_1, am_go dc_202_139, c8_59, am_go dc_202_141, J_icmp_ne, am_go dc_202_144, am_go dc_202_145, am_go dc_202_146, am_go dc_202_147, c8_63, am_go dc_202_149, J_icmp_eq, am_go dc_202_152, am_go dc_202_153, c8_33, am_go dc_202_155, am_go dc_202_158, am_go dc_202_159, c8_60, am_go dc_202_161, am_go dc_202_164, am_go dc_202_165, c8_62, am_go dc_202_167, am_go dc_202_170, am_go dc_202_171, c8_64, am_go dc_202_173, am_go dc_202_176, am_go dc_202_177, am_go dc_202_178, am_go dc_202_179, am_go dc_202_180, fk_12_83_12, am_go dc_202_183, am_go dc_202_184, am_go dc_202_185, pk_12_83_12, am_go dc_202_188, am_go dc_202_189, am_go dc_202_190, am_go dc_202_193, am_go dc_202_194, am_go dc_202_196, am_go dc_202_199, am_go dc_202_200, am_go dc_202_201, am_go dc_202_202, am_go dc_202_205, am_go dc_202_208, am_go dc_202_209, am_go dc_202_210, am_go dc_202_211, am_go dc_202_212, am_go dc_202_215, pk_12_126_12, am_go dc_202_218, am_go dc_202_219, am_go dc_202_221, am_go dc_202_224, am_go dc_202_225, am_go dc_202_227, am_go dc_202_230, am_go dc_202_233, am_go dc_202_234, am_go dc_202_237, am_go dc_202_240, am_go dc_202_241, am_go dc_202_242, am_go dc_202_243, fk_12_46_12, am_go dc_202_246, am_go dc_202_247, fk_12_106_12, am_go dc_202_250, am_go dc_202_251, am_go dc_202_254, am_go dc_202_255, am_go dc_202_256, am_go dc_202_257, am_go dc_202_260, am_go dc_202_261, am_go dc_202_262, am_go dc_202_265, am_go dc_202_268, am_go dc_202_269, mH_o, mp_21, pf_i pk_12_103_12 rfl, mp_24, pf_i pk_12_106_12 rfl, mp_22, pf_i pk_12_109_12 rfl, mg_15, mp_19, pf_i pk_12_116_12 rfl, mp_20, pf_i pk_12_123_12 rfl, mg_16, mH_11, mw_11, mg_21, mg_17, mH_12, mw_12, mg_12, mp_12, pf_i pk_12_83_12 rfl, mp_23, pf_i pk_12_126_12 rfl, mg_18, mH_13, mw_13, mg_24, zI_add, zI_mul, zI_lt, zI_le, zI_eq, zI_neg, zI_pos, zI_ne0, zI_gt0, zB_0, lg_cmp_ge, lg_cmp_le, lg_cmp_gt, lg_cmp_lt, lg_cmp_eq, ail_r, abl_r, all_r, ais_r, abs_r, als_r, mF_len, t1, t2, hst3, h15, e11, t3, t4, List.length_cons, List.length_nil, Nat.reduceAdd, Nat.reduceLT, Nat.reduceLeDiff, Nat.reduceEqDiff, ↓reduceIte, bind_s, if_true, if_false, not_true_eq_false, not_false_eq_true, Nat.zero_add]
        · rw [if_neg c3]
          have c3' : ¬ mBy (mS (mI (mI (mI u 12 (zI (p + 1))) 15 r1.2.2) 12 (zI r1.2.1)) 11 (upd (u.1 11) k r1.2.2)) e n r1.2.1 = zI 47 := by rw [hs3]; exact c3
          have t3 := fun d => r_takes_n (X := X) (h := h) (o := o) (d := d) (z := z) hA3' he hn b2 c3'
          have e11 : (mI (mI (mI u 12 (zI (p + 1))) 15 r1.2.2) 12 (zI r1.2.1)).1 11 = u.1 11 := rfl
          refine ⟨mS (mI (mI (mI u 12 (zI (p + 1))) 15 r1.2.2) 12 (zI r1.2.1)) 11 (upd (u.1 11) k r1.2.2), ⟨fun j j1 j2 j3 => by
            rw [mS_o j1]
            rfl, rfl, fun j hj => by
            show (mI (mI (mI u 12 (zI (p + 1))) 15 r1.2.2) 12 (zI r1.2.1)).2.2.1 j = _
            rw [mI_o (by omega), mI_o (by omega), mI_o (by omega)]⟩, rfl, ?_, fun _ => ?_, fun hh => by cases hh⟩
          · intro j hj
            rcases hj with rfl | rfl | rfl | rfl <;> rfl
          · rw [am_go dc_202_58]
            simp (disch := first | omega | exact ci_m | exact Nat.le_of_ble_eq_true rfl | (refine mF_lt ?_; omega)) only [own_202, am_go dc_202_0, J_aload_0, K_al, ld_0, am_go dc_202_1, J_iconst, c32_0, am_go dc_202_2, J_putfield_i, J_putfield_l, J_putfield_r, ini_202, pk_12_103_12, am_go dc_202_5, am_go dc_202_6, am_go dc_202_7, pk_12_106_12, am_go dc_202_10, am_go dc_202_11, am_go dc_202_12, pk_12_109_12, am_go dc_202_15, am_go dc_202_16, cv_12_112_12 own_202, JR_v, JR_0, JR_ite, ci1_r, am_go dc_202_19, J_if_ne, am_go dc_202_22, am_go dc_202_23, J_ret_z0 ret_202, J_ret_z1 ret_202, J_ret_zB ret_202, am_go dc_202_24, am_go dc_202_25, am_go dc_202_26, J_getfield, gf_r, fk_12_100_12, am_go dc_202_29, pk_12_116_12, am_go dc_202_32, am_go dc_202_33, J_bipush, c8_32, am_go dc_202_35, cv_12_119_12 own_202, am_go dc_202_38, J_if_eq, am_go dc_202_41, am_go dc_202_42, am_go dc_202_45, am_go dc_202_48, am_go dc_202_49, am_go dc_202_50, am_go dc_202_51, am_go dc_202_52, am_go dc_202_55, pk_12_123_12, am_go dc_202_59, am_go dc_202_61, am_go dc_202_64, am_go dc_202_67, am_go dc_202_68, am_go dc_202_71, am_go dc_202_74, am_go dc_202_75, am_go dc_202_76, am_go dc_202_77, fk_12_40_12, am_go dc_202_80, am_go dc_202_81, fk_12_103_12, am_go dc_202_84, am_go dc_202_85, am_go dc_202_88, J_iastore, am_go dc_202_89, am_go dc_202_90, c8_47, am_go dc_202_92, am_go dc_202_95, am_go dc_202_98, am_go dc_202_99, am_go dc_202_102, am_go dc_202_105, am_go dc_202_106, am_go dc_202_107, am_go dc_202_108, fk_12_43_12, am_go dc_202_111, am_go dc_202_112, am_go dc_202_115, am_go dc_202_116, am_go dc_202_119, am_go dc_202_120, am_go dc_202_121, J_dup_i, J_dup_r, am_go dc_202_122, am_go dc_202_125, c32_1, am_go dc_202_126, J_iadd, am_go dc_202_127, am_go dc_202_130, J_goto, am_go dc_202_134, cv_12_92_12 own_202, am_go dc_202_137, J_istore_1, st1_0, st1_1, st1_s, kl_i, kl_l, kl_r, kl_n, am_go dc_202_138, J_iload_1, K_il, ld_1, am_go dc_202_139, c8_59, am_go dc_202_141, J_icmp_ne, am_go dc_202_144, am_go dc_202_145, am_go dc_202_146, am_go dc_202_147, c8_63, am_go dc_202_149, J_icmp_eq, am_go dc_202_152, am_go dc_202_153, c8_33, am_go dc_202_155, am_go dc_202_158, am_go dc_202_159, c8_60, am_go dc_202_161, am_go dc_202_164, am_go dc_202_165, c8_62, am_go dc_202_167, am_go dc_202_170, am_go dc_202_171, c8_64, am_go dc_202_173, am_go dc_202_176, am_go dc_202_177, am_go dc_202_178, am_go dc_202_179, am_go dc_202_180, fk_12_83_12, am_go dc_202_183, am_go dc_202_184, am_go dc_202_185, pk_12_83_12, am_go dc_202_188, am_go dc_202_189, am_go dc_202_190, am_go dc_202_193, am_go dc_202_194, am_go dc_202_196, am_go dc_202_199, am_go dc_202_200, am_go dc_202_201, am_go dc_202_202, am_go dc_202_205, am_go dc_202_208, am_go dc_202_209, am_go dc_202_210, am_go dc_202_211, am_go dc_202_212, am_go dc_202_215, pk_12_126_12, am_go dc_202_218, am_go dc_202_219, am_go dc_202_221, am_go dc_202_224, am_go dc_202_225, am_go dc_202_227, am_go dc_202_230, am_go dc_202_233, am_go dc_202_234, am_go dc_202_237, am_go dc_202_240, am_go dc_202_241, am_go dc_202_242, am_go dc_202_243, fk_12_46_12, am_go dc_202_246, am_go dc_202_247, fk_12_106_12, am_go dc_202_250, am_go dc_202_251, am_go dc_202_254, am_go dc_202_255, am_go dc_202_256, am_go dc_202_257, am_go dc_202_260, am_go dc_202_261, am_go dc_202_262, am_go dc_202_265, am_go dc_202_268, am_go dc_202_269, mH_o, mp_21, pf_i pk_12_103_12 rfl, mp_24, pf_i pk_12_106_12 rfl, mp_22, pf_i pk_12_109_12 rfl, mg_15, mp_19, pf_i pk_12_116_12 rfl, mp_20, pf_i pk_12_123_12 rfl, mg_16, mH_11, mw_11, mg_21, mg_17, mH_12, mw_12, mg_12, mp_12, pf_i pk_12_83_12 rfl, mp_23, pf_i pk_12_126_12 rfl, mg_18, mH_13, mw_13, mg_24, zI_add, zI_mul, zI_lt, zI_le, zI_eq, zI_neg, zI_pos, zI_ne0, zI_gt0, zB_0, lg_cmp_ge, lg_cmp_le, lg_cmp_gt, lg_cmp_lt, lg_cmp_eq, ail_r, abl_r, all_r, ais_r, abs_r, als_r, mF_len, t1, t2, hst3, h15, e11, t3, List.length_cons, List.length_nil, Nat.reduceAdd, Nat.reduceLT, Nat.reduceLeDiff, Nat.reduceEqDiff, ↓reduceIte, bind_s, if_true, if_false, not_true_eq_false, not_false_eq_true, Nat.zero_add]
      · rw [if_neg c2]
        have e2 := a2 (by simpa using c2)
        have t2 := fun d => r_num_n (X := X) (h := h) (o := o) (d := d) (u := mI u 12 (zI (p + 1))) (z := z) hA2 he hn (by omega) (by rw [hs2]; exact c2)
        refine ⟨mI u 12 (zI (p + 1)), mPs.T, ?_, ?_, fun _ => ?_, fun hh => by cases hh⟩
        · show zI (p + 1) = zI (pNum s (p + 1)).2.1
          rw [e2]
        · intro j hj
          rcases hj with rfl | rfl | rfl | rfl <;> rfl
        · rw [am_go dc_202_58]
          simp (disch := first | omega | exact ci_m | exact Nat.le_of_ble_eq_true rfl | (refine mF_lt ?_; omega)) only [own_202, am_go dc_202_0, J_aload_0, K_al, ld_0, am_go dc_202_1, J_iconst, c32_0, am_go dc_202_2, J_putfield_i, J_putfield_l, J_putfield_r, ini_202, pk_12_103_12, am_go dc_202_5, am_go dc_202_6, am_go dc_202_7, pk_12_106_12, am_go dc_202_10, am_go dc_202_11, am_go dc_202_12, pk_12_109_12, am_go dc_202_15, am_go dc_202_16, cv_12_112_12 own_202, JR_v, JR_0, JR_ite, ci1_r, am_go dc_202_19, J_if_ne, am_go dc_202_22, am_go dc_202_23, J_ret_z0 ret_202, J_ret_z1 ret_202, J_ret_zB ret_202, am_go dc_202_24, am_go dc_202_25, am_go dc_202_26, J_getfield, gf_r, fk_12_100_12, am_go dc_202_29, pk_12_116_12, am_go dc_202_32, am_go dc_202_33, J_bipush, c8_32, am_go dc_202_35, cv_12_119_12 own_202, am_go dc_202_38, J_if_eq, am_go dc_202_41, am_go dc_202_42, am_go dc_202_45, am_go dc_202_48, am_go dc_202_49, am_go dc_202_50, am_go dc_202_51, am_go dc_202_52, am_go dc_202_55, pk_12_123_12, am_go dc_202_59, am_go dc_202_61, am_go dc_202_64, am_go dc_202_67, am_go dc_202_68, am_go dc_202_71, am_go dc_202_74, am_go dc_202_75, am_go dc_202_76, am_go dc_202_77, fk_12_40_12, am_go dc_202_80, am_go dc_202_81, fk_12_103_12, am_go dc_202_84, am_go dc_202_85, am_go dc_202_88, J_iastore, am_go dc_202_89, am_go dc_202_90, c8_47, am_go dc_202_92, am_go dc_202_95, am_go dc_202_98, am_go dc_202_99, am_go dc_202_102, am_go dc_202_105, am_go dc_202_106, am_go dc_202_107, am_go dc_202_108, fk_12_43_12, am_go dc_202_111, am_go dc_202_112, am_go dc_202_115, am_go dc_202_116, am_go dc_202_119, am_go dc_202_120, am_go dc_202_121, J_dup_i, J_dup_r, am_go dc_202_122, am_go dc_202_125, c32_1, am_go dc_202_126, J_iadd, am_go dc_202_127, am_go dc_202_130, J_goto, am_go dc_202_134, cv_12_92_12 own_202, am_go dc_202_137, J_istore_1, st1_0, st1_1, st1_s, kl_i, kl_l, kl_r, kl_n, am_go dc_202_138, J_iload_1, K_il, ld_1, am_go dc_202_139, c8_59, am_go dc_202_141, J_icmp_ne, am_go dc_202_144, am_go dc_202_145, am_go dc_202_146, am_go dc_202_147, c8_63, am_go dc_202_149, J_icmp_eq, am_go dc_202_152, am_go dc_202_153, c8_33, am_go dc_202_155, am_go dc_202_158, am_go dc_202_159, c8_60, am_go dc_202_161, am_go dc_202_164, am_go dc_202_165, c8_62, am_go dc_202_167, am_go dc_202_170, am_go dc_202_171, c8_64, am_go dc_202_173, am_go dc_202_176, am_go dc_202_177, am_go dc_202_178, am_go dc_202_179, am_go dc_202_180, fk_12_83_12, am_go dc_202_183, am_go dc_202_184, am_go dc_202_185, pk_12_83_12, am_go dc_202_188, am_go dc_202_189, am_go dc_202_190, am_go dc_202_193, am_go dc_202_194, am_go dc_202_196, am_go dc_202_199, am_go dc_202_200, am_go dc_202_201, am_go dc_202_202, am_go dc_202_205, am_go dc_202_208, am_go dc_202_209, am_go dc_202_210, am_go dc_202_211, am_go dc_202_212, am_go dc_202_215, pk_12_126_12, am_go dc_202_218, am_go dc_202_219, am_go dc_202_221, am_go dc_202_224, am_go dc_202_225, am_go dc_202_227, am_go dc_202_230, am_go dc_202_233, am_go dc_202_234, am_go dc_202_237, am_go dc_202_240, am_go dc_202_241, am_go dc_202_242, am_go dc_202_243, fk_12_46_12, am_go dc_202_246, am_go dc_202_247, fk_12_106_12, am_go dc_202_250, am_go dc_202_251, am_go dc_202_254, am_go dc_202_255, am_go dc_202_256, am_go dc_202_257, am_go dc_202_260, am_go dc_202_261, am_go dc_202_262, am_go dc_202_265, am_go dc_202_268, am_go dc_202_269, mH_o, mp_21, pf_i pk_12_103_12 rfl, mp_24, pf_i pk_12_106_12 rfl, mp_22, pf_i pk_12_109_12 rfl, mg_15, mp_19, pf_i pk_12_116_12 rfl, mp_20, pf_i pk_12_123_12 rfl, mg_16, mH_11, mw_11, mg_21, mg_17, mH_12, mw_12, mg_12, mp_12, pf_i pk_12_83_12 rfl, mp_23, pf_i pk_12_126_12 rfl, mg_18, mH_13, mw_13, mg_24, zI_add, zI_mul, zI_lt, zI_le, zI_eq, zI_neg, zI_pos, zI_ne0, zI_gt0, zB_0, lg_cmp_ge, lg_cmp_le, lg_cmp_gt, lg_cmp_lt, lg_cmp_eq, ail_r, abl_r, all_r, ais_r, abs_r, als_r, mF_len, t1, t2, List.length_cons, List.length_nil, Nat.reduceAdd, Nat.reduceLT, Nat.reduceLeDiff, Nat.reduceEqDiff, ↓reduceIte, bind_s, if_true, if_false, not_true_eq_false, not_false_eq_true, Nat.zero_add]
    · rw [if_neg c1]
      have c1' : ¬ mBy u e n p = zI 32 := by rw [hs]; exact c1
      have t1 := fun d => r_takes_n (X := X) (h := h) (o := o) (d := d) (u := u) (z := z) hA he hn hp c1'
      refine ⟨u, mPs.rf, hA.2.2, fun _ _ => rfl, fun hh => (by cases hh), fun _ => ⟨?_, hst, hWC⟩⟩
      rw [am_go dc_202_58]
      simp (disch := first | omega | exact ci_m | exact Nat.le_of_ble_eq_true rfl | (refine mF_lt ?_; omega)) only [own_202, am_go dc_202_0, J_aload_0, K_al, ld_0, am_go dc_202_1, J_iconst, c32_0, am_go dc_202_2, J_putfield_i, J_putfield_l, J_putfield_r, ini_202, pk_12_103_12, am_go dc_202_5, am_go dc_202_6, am_go dc_202_7, pk_12_106_12, am_go dc_202_10, am_go dc_202_11, am_go dc_202_12, pk_12_109_12, am_go dc_202_15, am_go dc_202_16, cv_12_112_12 own_202, JR_v, JR_0, JR_ite, ci1_r, am_go dc_202_19, J_if_ne, am_go dc_202_22, am_go dc_202_23, J_ret_z0 ret_202, J_ret_z1 ret_202, J_ret_zB ret_202, am_go dc_202_24, am_go dc_202_25, am_go dc_202_26, J_getfield, gf_r, fk_12_100_12, am_go dc_202_29, pk_12_116_12, am_go dc_202_32, am_go dc_202_33, J_bipush, c8_32, am_go dc_202_35, cv_12_119_12 own_202, am_go dc_202_38, J_if_eq, am_go dc_202_41, am_go dc_202_42, am_go dc_202_45, am_go dc_202_48, am_go dc_202_49, am_go dc_202_50, am_go dc_202_51, am_go dc_202_52, am_go dc_202_55, pk_12_123_12, am_go dc_202_59, am_go dc_202_61, am_go dc_202_64, am_go dc_202_67, am_go dc_202_68, am_go dc_202_71, am_go dc_202_74, am_go dc_202_75, am_go dc_202_76, am_go dc_202_77, fk_12_40_12, am_go dc_202_80, am_go dc_202_81, fk_12_103_12, am_go dc_202_84, am_go dc_202_85, am_go dc_202_88, J_iastore, am_go dc_202_89, am_go dc_202_90, c8_47, am_go dc_202_92, am_go dc_202_95, am_go dc_202_98, am_go dc_202_99, am_go dc_202_102, am_go dc_202_105, am_go dc_202_106, am_go dc_202_107, am_go dc_202_108, fk_12_43_12, am_go dc_202_111, am_go dc_202_112, am_go dc_202_115, am_go dc_202_116, am_go dc_202_119, am_go dc_202_120, am_go dc_202_121, J_dup_i, J_dup_r, am_go dc_202_122, am_go dc_202_125, c32_1, am_go dc_202_126, J_iadd, am_go dc_202_127, am_go dc_202_130, J_goto, am_go dc_202_134, cv_12_92_12 own_202, am_go dc_202_137, J_istore_1, st1_0, st1_1, st1_s, kl_i, kl_l, kl_r, kl_n, am_go dc_202_138, J_iload_1, K_il, ld_1, am_go dc_202_139, c8_59, am_go dc_202_141, J_icmp_ne, am_go dc_202_144, am_go dc_202_145, am_go dc_202_146, am_go dc_202_147, c8_63, am_go dc_202_149, J_icmp_eq, am_go dc_202_152, am_go dc_202_153, c8_33, am_go dc_202_155, am_go dc_202_158, am_go dc_202_159, c8_60, am_go dc_202_161, am_go dc_202_164, am_go dc_202_165, c8_62, am_go dc_202_167, am_go dc_202_170, am_go dc_202_171, c8_64, am_go dc_202_173, am_go dc_202_176, am_go dc_202_177, am_go dc_202_178, am_go dc_202_179, am_go dc_202_180, fk_12_83_12, am_go dc_202_183, am_go dc_202_184, am_go dc_202_185, pk_12_83_12, am_go dc_202_188, am_go dc_202_189, am_go dc_202_190, am_go dc_202_193, am_go dc_202_194, am_go dc_202_196, am_go dc_202_199, am_go dc_202_200, am_go dc_202_201, am_go dc_202_202, am_go dc_202_205, am_go dc_202_208, am_go dc_202_209, am_go dc_202_210, am_go dc_202_211, am_go dc_202_212, am_go dc_202_215, pk_12_126_12, am_go dc_202_218, am_go dc_202_219, am_go dc_202_221, am_go dc_202_224, am_go dc_202_225, am_go dc_202_227, am_go dc_202_230, am_go dc_202_233, am_go dc_202_234, am_go dc_202_237, am_go dc_202_240, am_go dc_202_241, am_go dc_202_242, am_go dc_202_243, fk_12_46_12, am_go dc_202_246, am_go dc_202_247, fk_12_106_12, am_go dc_202_250, am_go dc_202_251, am_go dc_202_254, am_go dc_202_255, am_go dc_202_256, am_go dc_202_257, am_go dc_202_260, am_go dc_202_261, am_go dc_202_262, am_go dc_202_265, am_go dc_202_268, am_go dc_202_269, mH_o, mp_21, pf_i pk_12_103_12 rfl, mp_24, pf_i pk_12_106_12 rfl, mp_22, pf_i pk_12_109_12 rfl, mg_15, mp_19, pf_i pk_12_116_12 rfl, mp_20, pf_i pk_12_123_12 rfl, mg_16, mH_11, mw_11, mg_21, mg_17, mH_12, mw_12, mg_12, mp_12, pf_i pk_12_83_12 rfl, mp_23, pf_i pk_12_126_12 rfl, mg_18, mH_13, mw_13, mg_24, zI_add, zI_mul, zI_lt, zI_le, zI_eq, zI_neg, zI_pos, zI_ne0, zI_gt0, zB_0, lg_cmp_ge, lg_cmp_le, lg_cmp_gt, lg_cmp_lt, lg_cmp_eq, ail_r, abl_r, all_r, ais_r, abs_r, als_r, mF_len, t1, List.length_cons, List.length_nil, Nat.reduceAdd, Nat.reduceLT, Nat.reduceLeDiff, Nat.reduceEqDiff, ↓reduceIte, bind_s, if_true, if_false, not_true_eq_false, not_false_eq_true, Nat.zero_add]
end M20
