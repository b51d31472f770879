/-! overlays: cells of one object and its arrays over a heap -/
def ov (h : am_H) (a : Nat) (c : Nat → Option am_E) : am_H := fun q => if a ≤ q then (match c (q - a) with
  | some e => some e
  | none => h q) else h q
def isO (H : am_H) (a : Nat) (c : Nat → Option am_E) : Prop := ∀ k e, c k = some e → H (a + k) = some e
section OV
variable {h H : am_H} {a b k q : Nat} {c c' : Nat → Option am_E} {e : am_E}
theorem ov_r (hc : c k = some e) : ov h a c (a + k) = some e := by
  unfold ov
  rw [if_pos (by omega), Nat.add_sub_cancel_left, hc]
theorem ov_is : isO (ov h a c) a c := fun k e hc => ov_r hc
theorem ov_x (hq : ∀ k, q = a + k → c k = none) : ov h a c q = h q := by
  unfold ov
  by_cases h1 : a ≤ q
  · rw [if_pos h1, hq (q - a) (by omega)]
  · rw [if_neg h1]
theorem ov_u (hk : ∀ j, c' j = if j = k then some e else c j) : am_up (ov h a c) (a + k) e = ov h a c' := by
  funext q
  unfold am_up ov
  by_cases h1 : q = a + k
  · subst h1
    rw [if_pos rfl, if_pos (by omega), Nat.add_sub_cancel_left, hk, if_pos rfl]
  · rw [if_neg h1]
    by_cases h2 : a ≤ q
    · rw [if_pos h2, if_pos h2, hk, if_neg (by omega)]
    · rw [if_neg h2, if_neg h2]
theorem ov_eq (hO : isO H a c) : ov H a c = H := by
  funext q
  unfold ov
  by_cases h1 : a ≤ q
  · rw [if_pos h1]
    cases hc : c (q - a) with
    | none => rfl
    | some e =>
      have := hO _ _ hc
      rw [Nat.add_sub_cancel' h1] at this
      exact this.symm
  · rw [if_neg h1]
theorem ov_ov (hc : ∀ k, c' k = none → c k = none) : ov (ov h a c) a c' = ov h a c' := by
  funext q
  unfold ov
  by_cases h1 : a ≤ q
  · simp only [if_pos h1]
    cases h2 : c' (q - a) with
    | some e => rfl
    | none => rw [hc _ h2]
  · simp only [if_neg h1]
theorem isO.ov (hO : isO H a c) (hd : ∀ j k, a + j = b + k → c j = none ∨ c' k = none) : isO (ov H b c') a c := by
  intro j e hj
  rw [ov_x, hO j e hj]
  intro k hk
  rcases hd j k hk with h1 | h1
  · rw [h1] at hj
    cases hj
  · exact h1
theorem isO.up {x : am_E} (hO : isO H a c) (hd : ∀ j, q = a + j → c j = none) : isO (am_up H q x) a c := by
  intro j e hj
  unfold am_up
  rw [if_neg, hO j e hj]
  intro h1
  rw [hd j h1.symm] at hj
  cases hj
theorem ov_up {x : am_E} (hd : ∀ k, q = a + k → c k = none) : am_up (ov h a c) q x = ov (am_up h q x) a c := by
  funext r
  unfold am_up ov
  by_cases h1 : r = q
  · subst h1
    rw [if_pos rfl]
    by_cases h2 : a ≤ r
    · rw [if_pos h2, hd (r - a) (by omega)]
      simp
    · rw [if_neg h2]
      simp
  · simp only [if_neg h1]
theorem up_r {x : am_E} : am_up h q x q = some x := by
  unfold am_up
  rw [if_pos rfl]
theorem up_x {x : am_E} {r : Nat} (hr : r ≠ q) : am_up h q x r = h r := by
  unfold am_up
  rw [if_neg hr]
end OV
theorem isO_g {H : am_H} {a k : Nat} {c : Nat → Option am_E} {e : am_E} (hO : isO H a c) (hc : c k = some e) : H (a + k) = some e := hO k e hc
theorem aal_r {n : Nat} {c : String} {f : Nat → Option Nat} {i : Nat} (h : i < n) (hn : n < 2147483648) : am_aal (some (.inl (.object c, n, .inr (.inr (.inr (.inr f)))))) (zI i) = some (va_rf (f i)) := by
  show (if am_in (zI i) n then some (va_rf (f (zI i).toNatClampNeg)) else none) = _
  rw [zI_in h hn, zI_nat (by omega)]
  rfl
theorem aal_q {n : Nat} {c : FieldType} {f : Nat → Option Nat} {i : Nat} (h : i < n) (hn : n < 2147483648) : am_aal (some (.inl (.array c, n, .inr (.inr (.inr (.inr f)))))) (zI i) = some (va_rf (f i)) := by
  show (if am_in (zI i) n then some (va_rf (f (zI i).toNatClampNeg)) else none) = _
  rw [zI_in h hn, zI_nat (by omega)]
  rfl
theorem vrf_s {a : Nat} : va_rf (some a) = .ref a := rfl
theorem vrf_n : va_rf none = .null := rfl
theorem aln_r {ty : FieldType} {n : Nat} {f : (Nat → Int32) ⊕ (Nat → Int64) ⊕ (Nat → UInt32) ⊕ (Nat → UInt64) ⊕ (Nat → Option Nat)} {x : Option (Nat × (Nat → Int32))} : am_aln (some (.inl (ty, n, f))) x = some n := rfl
theorem z32 {n : Nat} : Int32.ofNat n = zI n := rfl
/-! Told -/
def tF (t : Nat) (D : mU × (Nat → Option Nat)) : List Value := [.ref (t + 1), .int (D.1.2.2.1 1), .int (D.1.2.2.1 2), .ref (t + 2), .ref (t + 3), .int (D.1.2.2.1 5), .ref (t + 4), .ref (t + 5), .ref (t + 6), .ref (t + 7)]
def tC (t : Nat) (D : mU × (Nat → Option Nat)) (k : Nat) : Option am_E := match k with
  | 0 => some (.inr (1, tF t D))
  | 1 => some (.inl (.object "BoxSearch$Box", 5, .inr (.inr (.inr (.inr (D.2))))))
  | 2 => some (.inl (.int, 5, .inl (D.1.1 3)))
  | 3 => some (.inl (.int, 21, .inl (D.1.1 4)))
  | 4 => some (.inl (.int, 20, .inl (D.1.1 6)))
  | 5 => some (.inl (.int, 20, .inl (D.1.1 7)))
  | 6 => some (.inl (.long, 10, .inr (.inl (D.1.2.1 8))))
  | 7 => some (.inl (.long, 10, .inr (.inl (D.1.2.1 9))))
  | _ => none
def isT (H : am_H) (t : Nat) (D : mU × (Nat → Option Nat)) : Prop := isO H t (tC t D)
def tH (h : am_H) (t : Nat) (D : mU × (Nat → Option Nat)) : am_H := ov h t (tC t D)
section OT
variable {h H : am_H} {t : Nat} {D : mU × (Nat → Option Nat)} {z : Nat × Nat}
theorem tH_is : isT (tH h t D) t D := ov_is
theorem isT.c0 (hO : isT H t D) : H t = some (.inr (1, tF t D)) := isO_g (k := 0) hO rfl
theorem isT.ci (hO : isT H t D) : am_ci1 ((H, z).1 t) = some 1 := by
  show am_ci1 (H t) = some 1
  rw [hO.c0]
  rfl
theorem tH_ci : am_ci1 ((tH h t D, z).1 t) = some 1 := tH_is.ci
theorem tH_0 : tH h t D t = some (.inr (1, tF t D)) := tH_is.c0
theorem tF_len : (tF t D).length = 10 := rfl
theorem isT.c1 (hO : isT H t D) : H (t + 1) = some (.inl (.object "BoxSearch$Box", 5, .inr (.inr (.inr (.inr (D.2)))))) := isO_g (k := 1) hO rfl
theorem tH_1 : tH h t D (t + 1) = some (.inl (.object "BoxSearch$Box", 5, .inr (.inr (.inr (.inr (D.2)))))) := tH_is.c1
theorem tw_1 {f : Nat → Option Nat} : am_up (tH h t D) (t + 1) (.inl (.object "BoxSearch$Box", 5, .inr (.inr (.inr (.inr (f)))))) = tH h t (D.1, f) := ov_u (fun j => by
  match j with
  | 0 => rfl
  | 1 => rfl
  | 2 => rfl
  | 3 => rfl
  | 4 => rfl
  | 5 => rfl
  | 6 => rfl
  | 7 => rfl
  | n + 8 => rfl)
theorem isT.c2 (hO : isT H t D) : H (t + 2) = some (.inl (.int, 5, .inl (D.1.1 3))) := isO_g (k := 2) hO rfl
theorem tH_2 : tH h t D (t + 2) = some (.inl (.int, 5, .inl (D.1.1 3))) := tH_is.c2
theorem tw_2 {f : Nat → Int32} : am_up (tH h t D) (t + 2) (.inl (.int, 5, .inl (f))) = tH h t (mS D.1 3 f, D.2) := ov_u (fun j => by
  match j with
  | 0 => rfl
  | 1 => rfl
  | 2 => rfl
  | 3 => rfl
  | 4 => rfl
  | 5 => rfl
  | 6 => rfl
  | 7 => rfl
  | n + 8 => rfl)
theorem isT.c3 (hO : isT H t D) : H (t + 3) = some (.inl (.int, 21, .inl (D.1.1 4))) := isO_g (k := 3) hO rfl
theorem tH_3 : tH h t D (t + 3) = some (.inl (.int, 21, .inl (D.1.1 4))) := tH_is.c3
theorem tw_3 {f : Nat → Int32} : am_up (tH h t D) (t + 3) (.inl (.int, 21, .inl (f))) = tH h t (mS D.1 4 f, D.2) := ov_u (fun j => by
  match j with
  | 0 => rfl
  | 1 => rfl
  | 2 => rfl
  | 3 => rfl
  | 4 => rfl
  | 5 => rfl
  | 6 => rfl
  | 7 => rfl
  | n + 8 => rfl)
theorem isT.c4 (hO : isT H t D) : H (t + 4) = some (.inl (.int, 20, .inl (D.1.1 6))) := isO_g (k := 4) hO rfl
theorem tH_4 : tH h t D (t + 4) = some (.inl (.int, 20, .inl (D.1.1 6))) := tH_is.c4
theorem tw_4 {f : Nat → Int32} : am_up (tH h t D) (t + 4) (.inl (.int, 20, .inl (f))) = tH h t (mS D.1 6 f, D.2) := ov_u (fun j => by
  match j with
  | 0 => rfl
  | 1 => rfl
  | 2 => rfl
  | 3 => rfl
  | 4 => rfl
  | 5 => rfl
  | 6 => rfl
  | 7 => rfl
  | n + 8 => rfl)
theorem isT.c5 (hO : isT H t D) : H (t + 5) = some (.inl (.int, 20, .inl (D.1.1 7))) := isO_g (k := 5) hO rfl
theorem tH_5 : tH h t D (t + 5) = some (.inl (.int, 20, .inl (D.1.1 7))) := tH_is.c5
theorem tw_5 {f : Nat → Int32} : am_up (tH h t D) (t + 5) (.inl (.int, 20, .inl (f))) = tH h t (mS D.1 7 f, D.2) := ov_u (fun j => by
  match j with
  | 0 => rfl
  | 1 => rfl
  | 2 => rfl
  | 3 => rfl
  | 4 => rfl
  | 5 => rfl
  | 6 => rfl
  | 7 => rfl
  | n + 8 => rfl)
theorem isT.c6 (hO : isT H t D) : H (t + 6) = some (.inl (.long, 10, .inr (.inl (D.1.2.1 8)))) := isO_g (k := 6) hO rfl
theorem tH_6 : tH h t D (t + 6) = some (.inl (.long, 10, .inr (.inl (D.1.2.1 8)))) := tH_is.c6
theorem tw_6 {f : Nat → Int64} : am_up (tH h t D) (t + 6) (.inl (.long, 10, .inr (.inl (f)))) = tH h t (mL D.1 8 f, D.2) := ov_u (fun j => by
  match j with
  | 0 => rfl
  | 1 => rfl
  | 2 => rfl
  | 3 => rfl
  | 4 => rfl
  | 5 => rfl
  | 6 => rfl
  | 7 => rfl
  | n + 8 => rfl)
theorem isT.c7 (hO : isT H t D) : H (t + 7) = some (.inl (.long, 10, .inr (.inl (D.1.2.1 9)))) := isO_g (k := 7) hO rfl
theorem tH_7 : tH h t D (t + 7) = some (.inl (.long, 10, .inr (.inl (D.1.2.1 9)))) := tH_is.c7
theorem tw_7 {f : Nat → Int64} : am_up (tH h t D) (t + 7) (.inl (.long, 10, .inr (.inl (f)))) = tH h t (mL D.1 9 f, D.2) := ov_u (fun j => by
  match j with
  | 0 => rfl
  | 1 => rfl
  | 2 => rfl
  | 3 => rfl
  | 4 => rfl
  | 5 => rfl
  | 6 => rfl
  | 7 => rfl
  | n + 8 => rfl)
theorem tg_0 : (tF t D)[0]? = some (.ref (t + 1)) := rfl
theorem tg_1 : (tF t D)[1]? = some (.int (D.1.2.2.1 1)) := rfl
theorem tp_1 {x : Int32} : am_up (tH h t D) t (.inr (1, (tF t D).set 1 (.int x))) = tH h t (mI D.1 1 x, D.2) := ov_u (k := 0) (fun j => by
  match j with
  | 0 => rfl
  | 1 => rfl
  | 2 => rfl
  | 3 => rfl
  | 4 => rfl
  | 5 => rfl
  | 6 => rfl
  | 7 => rfl
  | n + 8 => rfl)
theorem tg_2 : (tF t D)[2]? = some (.int (D.1.2.2.1 2)) := rfl
theorem tp_2 {x : Int32} : am_up (tH h t D) t (.inr (1, (tF t D).set 2 (.int x))) = tH h t (mI D.1 2 x, D.2) := ov_u (k := 0) (fun j => by
  match j with
  | 0 => rfl
  | 1 => rfl
  | 2 => rfl
  | 3 => rfl
  | 4 => rfl
  | 5 => rfl
  | 6 => rfl
  | 7 => rfl
  | n + 8 => rfl)
theorem tg_3 : (tF t D)[3]? = some (.ref (t + 2)) := rfl
theorem tg_4 : (tF t D)[4]? = some (.ref (t + 3)) := rfl
theorem tg_5 : (tF t D)[5]? = some (.int (D.1.2.2.1 5)) := rfl
theorem tp_5 {x : Int32} : am_up (tH h t D) t (.inr (1, (tF t D).set 5 (.int x))) = tH h t (mI D.1 5 x, D.2) := ov_u (k := 0) (fun j => by
  match j with
  | 0 => rfl
  | 1 => rfl
  | 2 => rfl
  | 3 => rfl
  | 4 => rfl
  | 5 => rfl
  | 6 => rfl
  | 7 => rfl
  | n + 8 => rfl)
theorem tg_6 : (tF t D)[6]? = some (.ref (t + 4)) := rfl
theorem tg_7 : (tF t D)[7]? = some (.ref (t + 5)) := rfl
theorem tg_8 : (tF t D)[8]? = some (.ref (t + 6)) := rfl
theorem tg_9 : (tF t D)[9]? = some (.ref (t + 7)) := rfl
end OT
/-! Place -/
def pF (p : Nat) (D : mU) : List Value := [.ref (p + 1), .ref (p + 2), .ref (p + 3), .ref (p + 4), .int (D.2.2.1 4)]
def pC (p : Nat) (D : mU) (k : Nat) : Option am_E := match k with
  | 0 => some (.inr (2, pF p D))
  | 1 => some (.inl (.int, 5, .inl (D.1 0)))
  | 2 => some (.inl (.int, 5, .inl (D.1 1)))
  | 3 => some (.inl (.int, 10, .inl (D.1 2)))
  | 4 => some (.inl (.int, 10, .inl (D.1 3)))
  | _ => none
def isP (H : am_H) (p : Nat) (D : mU) : Prop := isO H p (pC p D)
def pH (h : am_H) (p : Nat) (D : mU) : am_H := ov h p (pC p D)
section OP
variable {h H : am_H} {p : Nat} {D : mU} {z : Nat × Nat}
theorem pH_is : isP (pH h p D) p D := ov_is
theorem isP.c0 (hO : isP H p D) : H p = some (.inr (2, pF p D)) := isO_g (k := 0) hO rfl
theorem isP.ci (hO : isP H p D) : am_ci1 ((H, z).1 p) = some 2 := by
  show am_ci1 (H p) = some 2
  rw [hO.c0]
  rfl
theorem pH_ci : am_ci1 ((pH h p D, z).1 p) = some 2 := pH_is.ci
theorem pH_0 : pH h p D p = some (.inr (2, pF p D)) := pH_is.c0
theorem pF_len : (pF p D).length = 5 := rfl
theorem isP.c1 (hO : isP H p D) : H (p + 1) = some (.inl (.int, 5, .inl (D.1 0))) := isO_g (k := 1) hO rfl
theorem pH_1 : pH h p D (p + 1) = some (.inl (.int, 5, .inl (D.1 0))) := pH_is.c1
theorem pw_1 {f : Nat → Int32} : am_up (pH h p D) (p + 1) (.inl (.int, 5, .inl (f))) = pH h p (mS D 0 f) := ov_u (fun j => by
  match j with
  | 0 => rfl
  | 1 => rfl
  | 2 => rfl
  | 3 => rfl
  | 4 => rfl
  | n + 5 => rfl)
theorem isP.c2 (hO : isP H p D) : H (p + 2) = some (.inl (.int, 5, .inl (D.1 1))) := isO_g (k := 2) hO rfl
theorem pH_2 : pH h p D (p + 2) = some (.inl (.int, 5, .inl (D.1 1))) := pH_is.c2
theorem pw_2 {f : Nat → Int32} : am_up (pH h p D) (p + 2) (.inl (.int, 5, .inl (f))) = pH h p (mS D 1 f) := ov_u (fun j => by
  match j with
  | 0 => rfl
  | 1 => rfl
  | 2 => rfl
  | 3 => rfl
  | 4 => rfl
  | n + 5 => rfl)
theorem isP.c3 (hO : isP H p D) : H (p + 3) = some (.inl (.int, 10, .inl (D.1 2))) := isO_g (k := 3) hO rfl
theorem pH_3 : pH h p D (p + 3) = some (.inl (.int, 10, .inl (D.1 2))) := pH_is.c3
theorem pw_3 {f : Nat → Int32} : am_up (pH h p D) (p + 3) (.inl (.int, 10, .inl (f))) = pH h p (mS D 2 f) := ov_u (fun j => by
  match j with
  | 0 => rfl
  | 1 => rfl
  | 2 => rfl
  | 3 => rfl
  | 4 => rfl
  | n + 5 => rfl)
theorem isP.c4 (hO : isP H p D) : H (p + 4) = some (.inl (.int, 10, .inl (D.1 3))) := isO_g (k := 4) hO rfl
theorem pH_4 : pH h p D (p + 4) = some (.inl (.int, 10, .inl (D.1 3))) := pH_is.c4
theorem pw_4 {f : Nat → Int32} : am_up (pH h p D) (p + 4) (.inl (.int, 10, .inl (f))) = pH h p (mS D 3 f) := ov_u (fun j => by
  match j with
  | 0 => rfl
  | 1 => rfl
  | 2 => rfl
  | 3 => rfl
  | 4 => rfl
  | n + 5 => rfl)
theorem pg_0 : (pF p D)[0]? = some (.ref (p + 1)) := rfl
theorem pg_1 : (pF p D)[1]? = some (.ref (p + 2)) := rfl
theorem pg_2 : (pF p D)[2]? = some (.ref (p + 3)) := rfl
theorem pg_3 : (pF p D)[3]? = some (.ref (p + 4)) := rfl
theorem pg_4 : (pF p D)[4]? = some (.int (D.2.2.1 4)) := rfl
theorem pp_4 {x : Int32} : am_up (pH h p D) p (.inr (2, (pF p D).set 4 (.int x))) = pH h p (mI D 4 x) := ov_u (k := 0) (fun j => by
  match j with
  | 0 => rfl
  | 1 => rfl
  | 2 => rfl
  | 3 => rfl
  | 4 => rfl
  | n + 5 => rfl)
end OP
/-! Reader -/
def eF (e : Nat) (D : mU × Nat) : List Value := [.ref (D.2), .int (D.1.2.2.1 1), .int (D.1.2.2.1 2), .int (D.1.2.2.1 3), .ref (e + 2), .int (D.1.2.2.1 5), .int (D.1.2.2.1 6), .int (D.1.2.2.1 7), .int (D.1.2.2.1 8), .ref (e + 10), .ref (e + 11), .int (D.1.2.2.1 11), .int (D.1.2.2.1 12), .int (D.1.2.2.1 13), .ref (e + 12)]
def eC (e : Nat) (D : mU × Nat) (k : Nat) : Option am_E := match k with
  | 0 => some (.inr (3, eF e D))
  | 10 => some (.inl (.int, 4, .inl (D.1.1 9)))
  | 11 => some (.inl (.int, 4, .inl (D.1.1 10)))
  | 12 => some (.inl (.int, 4, .inl (D.1.1 14)))
  | _ => none
def isE (H : am_H) (e : Nat) (D : mU × Nat) : Prop := isO H e (eC e D)
def eH (h : am_H) (e : Nat) (D : mU × Nat) : am_H := ov h e (eC e D)
section OE
variable {h H : am_H} {e : Nat} {D : mU × Nat} {z : Nat × Nat}
theorem eH_is : isE (eH h e D) e D := ov_is
theorem isE.c0 (hO : isE H e D) : H e = some (.inr (3, eF e D)) := isO_g (k := 0) hO rfl
theorem isE.ci (hO : isE H e D) : am_ci1 ((H, z).1 e) = some 3 := by
  show am_ci1 (H e) = some 3
  rw [hO.c0]
  rfl
theorem eH_ci : am_ci1 ((eH h e D, z).1 e) = some 3 := eH_is.ci
theorem eH_0 : eH h e D e = some (.inr (3, eF e D)) := eH_is.c0
theorem eF_len : (eF e D).length = 15 := rfl
theorem isE.c10 (hO : isE H e D) : H (e + 10) = some (.inl (.int, 4, .inl (D.1.1 9))) := isO_g (k := 10) hO rfl
theorem eH_10 : eH h e D (e + 10) = some (.inl (.int, 4, .inl (D.1.1 9))) := eH_is.c10
theorem ew_10 {f : Nat → Int32} : am_up (eH h e D) (e + 10) (.inl (.int, 4, .inl (f))) = eH h e (mS D.1 9 f, D.2) := ov_u (fun j => by
  match j with
  | 0 => rfl
  | 1 => rfl
  | 2 => rfl
  | 3 => rfl
  | 4 => rfl
  | 5 => rfl
  | 6 => rfl
  | 7 => rfl
  | 8 => rfl
  | 9 => rfl
  | 10 => rfl
  | 11 => rfl
  | 12 => rfl
  | n + 13 => rfl)
theorem isE.c11 (hO : isE H e D) : H (e + 11) = some (.inl (.int, 4, .inl (D.1.1 10))) := isO_g (k := 11) hO rfl
theorem eH_11 : eH h e D (e + 11) = some (.inl (.int, 4, .inl (D.1.1 10))) := eH_is.c11
theorem ew_11 {f : Nat → Int32} : am_up (eH h e D) (e + 11) (.inl (.int, 4, .inl (f))) = eH h e (mS D.1 10 f, D.2) := ov_u (fun j => by
  match j with
  | 0 => rfl
  | 1 => rfl
  | 2 => rfl
  | 3 => rfl
  | 4 => rfl
  | 5 => rfl
  | 6 => rfl
  | 7 => rfl
  | 8 => rfl
  | 9 => rfl
  | 10 => rfl
  | 11 => rfl
  | 12 => rfl
  | n + 13 => rfl)
theorem isE.c12 (hO : isE H e D) : H (e + 12) = some (.inl (.int, 4, .inl (D.1.1 14))) := isO_g (k := 12) hO rfl
theorem eH_12 : eH h e D (e + 12) = some (.inl (.int, 4, .inl (D.1.1 14))) := eH_is.c12
theorem ew_12 {f : Nat → Int32} : am_up (eH h e D) (e + 12) (.inl (.int, 4, .inl (f))) = eH h e (mS D.1 14 f, D.2) := ov_u (fun j => by
  match j with
  | 0 => rfl
  | 1 => rfl
  | 2 => rfl
  | 3 => rfl
  | 4 => rfl
  | 5 => rfl
  | 6 => rfl
  | 7 => rfl
  | 8 => rfl
  | 9 => rfl
  | 10 => rfl
  | 11 => rfl
  | 12 => rfl
  | n + 13 => rfl)
theorem eg_0 : (eF e D)[0]? = some (.ref (D.2)) := rfl
theorem eg_1 : (eF e D)[1]? = some (.int (D.1.2.2.1 1)) := rfl
theorem ep_1 {x : Int32} : am_up (eH h e D) e (.inr (3, (eF e D).set 1 (.int x))) = eH h e (mI D.1 1 x, D.2) := ov_u (k := 0) (fun j => by
  match j with
  | 0 => rfl
  | 1 => rfl
  | 2 => rfl
  | 3 => rfl
  | 4 => rfl
  | 5 => rfl
  | 6 => rfl
  | 7 => rfl
  | 8 => rfl
  | 9 => rfl
  | 10 => rfl
  | 11 => rfl
  | 12 => rfl
  | n + 13 => rfl)
theorem eg_2 : (eF e D)[2]? = some (.int (D.1.2.2.1 2)) := rfl
theorem ep_2 {x : Int32} : am_up (eH h e D) e (.inr (3, (eF e D).set 2 (.int x))) = eH h e (mI D.1 2 x, D.2) := ov_u (k := 0) (fun j => by
  match j with
  | 0 => rfl
  | 1 => rfl
  | 2 => rfl
  | 3 => rfl
  | 4 => rfl
  | 5 => rfl
  | 6 => rfl
  | 7 => rfl
  | 8 => rfl
  | 9 => rfl
  | 10 => rfl
  | 11 => rfl
  | 12 => rfl
  | n + 13 => rfl)
theorem eg_3 : (eF e D)[3]? = some (.int (D.1.2.2.1 3)) := rfl
theorem ep_3 {x : Int32} : am_up (eH h e D) e (.inr (3, (eF e D).set 3 (.int x))) = eH h e (mI D.1 3 x, D.2) := ov_u (k := 0) (fun j => by
  match j with
  | 0 => rfl
  | 1 => rfl
  | 2 => rfl
  | 3 => rfl
  | 4 => rfl
  | 5 => rfl
  | 6 => rfl
  | 7 => rfl
  | 8 => rfl
  | 9 => rfl
  | 10 => rfl
  | 11 => rfl
  | 12 => rfl
  | n + 13 => rfl)
theorem eg_4 : (eF e D)[4]? = some (.ref (e + 2)) := rfl
theorem eg_5 : (eF e D)[5]? = some (.int (D.1.2.2.1 5)) := rfl
theorem ep_5 {x : Int32} : am_up (eH h e D) e (.inr (3, (eF e D).set 5 (.int x))) = eH h e (mI D.1 5 x, D.2) := ov_u (k := 0) (fun j => by
  match j with
  | 0 => rfl
  | 1 => rfl
  | 2 => rfl
  | 3 => rfl
  | 4 => rfl
  | 5 => rfl
  | 6 => rfl
  | 7 => rfl
  | 8 => rfl
  | 9 => rfl
  | 10 => rfl
  | 11 => rfl
  | 12 => rfl
  | n + 13 => rfl)
theorem eg_6 : (eF e D)[6]? = some (.int (D.1.2.2.1 6)) := rfl
theorem ep_6 {x : Int32} : am_up (eH h e D) e (.inr (3, (eF e D).set 6 (.int x))) = eH h e (mI D.1 6 x, D.2) := ov_u (k := 0) (fun j => by
  match j with
  | 0 => rfl
  | 1 => rfl
  | 2 => rfl
  | 3 => rfl
  | 4 => rfl
  | 5 => rfl
  | 6 => rfl
  | 7 => rfl
  | 8 => rfl
  | 9 => rfl
  | 10 => rfl
  | 11 => rfl
  | 12 => rfl
  | n + 13 => rfl)
theorem eg_7 : (eF e D)[7]? = some (.int (D.1.2.2.1 7)) := rfl
theorem ep_7 {x : Int32} : am_up (eH h e D) e (.inr (3, (eF e D).set 7 (.int x))) = eH h e (mI D.1 7 x, D.2) := ov_u (k := 0) (fun j => by
  match j with
  | 0 => rfl
  | 1 => rfl
  | 2 => rfl
  | 3 => rfl
  | 4 => rfl
  | 5 => rfl
  | 6 => rfl
  | 7 => rfl
  | 8 => rfl
  | 9 => rfl
  | 10 => rfl
  | 11 => rfl
  | 12 => rfl
  | n + 13 => rfl)
theorem eg_8 : (eF e D)[8]? = some (.int (D.1.2.2.1 8)) := rfl
theorem ep_8 {x : Int32} : am_up (eH h e D) e (.inr (3, (eF e D).set 8 (.int x))) = eH h e (mI D.1 8 x, D.2) := ov_u (k := 0) (fun j => by
  match j with
  | 0 => rfl
  | 1 => rfl
  | 2 => rfl
  | 3 => rfl
  | 4 => rfl
  | 5 => rfl
  | 6 => rfl
  | 7 => rfl
  | 8 => rfl
  | 9 => rfl
  | 10 => rfl
  | 11 => rfl
  | 12 => rfl
  | n + 13 => rfl)
theorem eg_9 : (eF e D)[9]? = some (.ref (e + 10)) := rfl
theorem eg_10 : (eF e D)[10]? = some (.ref (e + 11)) := rfl
theorem eg_11 : (eF e D)[11]? = some (.int (D.1.2.2.1 11)) := rfl
theorem ep_11 {x : Int32} : am_up (eH h e D) e (.inr (3, (eF e D).set 11 (.int x))) = eH h e (mI D.1 11 x, D.2) := ov_u (k := 0) (fun j => by
  match j with
  | 0 => rfl
  | 1 => rfl
  | 2 => rfl
  | 3 => rfl
  | 4 => rfl
  | 5 => rfl
  | 6 => rfl
  | 7 => rfl
  | 8 => rfl
  | 9 => rfl
  | 10 => rfl
  | 11 => rfl
  | 12 => rfl
  | n + 13 => rfl)
theorem eg_12 : (eF e D)[12]? = some (.int (D.1.2.2.1 12)) := rfl
theorem ep_12 {x : Int32} : am_up (eH h e D) e (.inr (3, (eF e D).set 12 (.int x))) = eH h e (mI D.1 12 x, D.2) := ov_u (k := 0) (fun j => by
  match j with
  | 0 => rfl
  | 1 => rfl
  | 2 => rfl
  | 3 => rfl
  | 4 => rfl
  | 5 => rfl
  | 6 => rfl
  | 7 => rfl
  | 8 => rfl
  | 9 => rfl
  | 10 => rfl
  | 11 => rfl
  | 12 => rfl
  | n + 13 => rfl)
theorem eg_13 : (eF e D)[13]? = some (.int (D.1.2.2.1 13)) := rfl
theorem ep_13 {x : Int32} : am_up (eH h e D) e (.inr (3, (eF e D).set 13 (.int x))) = eH h e (mI D.1 13 x, D.2) := ov_u (k := 0) (fun j => by
  match j with
  | 0 => rfl
  | 1 => rfl
  | 2 => rfl
  | 3 => rfl
  | 4 => rfl
  | 5 => rfl
  | 6 => rfl
  | 7 => rfl
  | 8 => rfl
  | 9 => rfl
  | 10 => rfl
  | 11 => rfl
  | 12 => rfl
  | n + 13 => rfl)
theorem eg_14 : (eF e D)[14]? = some (.ref (e + 12)) := rfl
end OE
theorem ep_0 {h : am_H} {e x : Nat} {D : mU × Nat} : am_up (eH h e D) e (.inr (3, (eF e D).set 0 (.ref x))) = eH h e (D.1, x) := ov_u (k := 0) (fun j => by
  match j with
  | 0 => rfl
  | 1 => rfl
  | 2 => rfl
  | 3 => rfl
  | 4 => rfl
  | 5 => rfl
  | 6 => rfl
  | 7 => rfl
  | 8 => rfl
  | 9 => rfl
  | 10 => rfl
  | 11 => rfl
  | 12 => rfl
  | n + 13 => rfl)
