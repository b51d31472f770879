/-! rows of the methods: entries, returns, calls, fields, constants -/
section MR
variable {X : am_X} {rec : am_O} {d t pc nx tg k a b : Nat} {lv : am_L} {st rest : List Value} {σ : am_S}
theorem am_fU {n : Nat} {args : List Value} (h : am_ml t = n) (hl : (am_lay args).length ≤ n) : am_f X (d + 1) t args σ = am_I X (am_f X d) t 0 (am_lv0 n args) [] σ := by
  show (if (am_lay args).length ≤ am_ml t then am_I X (am_f X d) t 0 (am_lv0 (am_ml t) args) [] σ else none) = _
  rw [h, if_pos hl]
theorem J_ret_i {v : Int32} (h : am_ret t = some .int) : am_J X rec t (some (.ireturn, nx, tg)) pc lv [.int v] σ = some (.inl (some (.int v)), σ) := by
  rw [J_ireturn]; unfold am_heap; simp only [h]; rfl
theorem J_ret_z {v : Int32} (h : am_ret t = some .boolean) (hv : v = 0 ∨ v = 1) : am_J X rec t (some (.ireturn, nx, tg)) pc lv [.int v] σ = some (.inl (some (.int v)), σ) := by
  rw [J_ireturn]; unfold am_heap; simp only [h]
  rcases hv with rfl | rfl <;> rfl
theorem J_ret_l {v : Int64} (h : am_ret t = some .long) : am_J X rec t (some (.lreturn, nx, tg)) pc lv [.long v] σ = some (.inl (some (.long v)), σ) := by
  unfold am_J am_step am_pure am_heap; simp only [h]; rfl
theorem J_ret_o {v : Nat} {c : String} (h : am_ret t = some (.object c)) : am_J X rec t (some (.areturn, nx, tg)) pc lv [.ref v] σ = some (.inl (some (.ref v)), σ) := by
  unfold am_J am_step am_pure am_heap; simp only [h]; rfl
theorem J_ret_a {v : Nat} {c : FieldType} (h : am_ret t = some (.array c)) : am_J X rec t (some (.areturn, nx, tg)) pc lv [.ref v] σ = some (.inl (some (.ref v)), σ) := by
  unfold am_J am_step am_pure am_heap; simp only [h]; rfl
theorem J_ret_v (h : am_ret t = none) : am_J X rec t (some (.return_, nx, tg)) pc lv [] σ = some (.inl none, σ) := by
  unfold am_J am_step am_pure am_heap; simp only [h]; rfl
/-- behind a call -/
noncomputable def am_JR (X : am_X) (rec : am_O) (t pc nx : Nat) (lv : am_L) (rest : List Value) (o : Option (am_R × am_S)) : Option (am_R × am_S) := match o with
  | some (.inl v, σ') => am_I X rec t nx lv (v.toList ++ rest) σ'
  | some (.inr E, σ') => am_K X rec t (am_hc t lv σ' (am_hd t pc E))
  | none => none
theorem JR_v {v : Value} : am_JR X rec t pc nx lv rest (some (.inl (some v), σ)) = am_I X rec t nx lv (v :: rest) σ := rfl
theorem JR_0 : am_JR X rec t pc nx lv rest (some (.inl none, σ)) = am_I X rec t nx lv rest σ := rfl
theorem JR_x {E : Nat} : am_JR X rec t pc nx lv rest (some (.inr E, σ)) = am_K X rec t (am_hc t lv σ (am_hd t pc E)) := rfl
theorem JR_ite {c : Prop} [Decidable c] {x y : Option (am_R × am_S)} : am_JR X rec t pc nx lv rest (if c then x else y) = if c then am_JR X rec t pc nx lv rest x else am_JR X rec t pc nx lv rest y := by split <;> rfl
theorem am_callJ {y : Nat} {as : List Value} (hr : rest.length ≤ 8) : am_K X rec t (am_call rec t pc nx lv rest σ y as) = am_JR X rec t pc nx lv rest (rec y as σ) := by
  unfold am_call am_JR
  rw [if_pos hr]
  cases rec y as σ with
  | none => rfl
  | some z =>
    obtain ⟨r, σ'⟩ := z
    cases r with
    | inl v => cases v <;> rfl
    | inr E => rfl
theorem am_ivJ {n y : Nat} {as : List Value} {ct : Nat → Option Nat} {ci : Nat} (hn : as.length = n) (h2 : am_ci1 (σ.1 b) = some ci) (h3 : ct ci = some y) (hr : rest.length ≤ 8) : am_K X rec t (am_iv rec t pc nx lv (as.reverse ++ .ref b :: rest) σ n ct) = am_JR X rec t pc nx lv rest (rec y (.ref b :: as) σ) := by
  have hd : (as.reverse ++ .ref b :: rest).drop n = .ref b :: rest := by rw [← hn, ← List.length_reverse]; simp
  have ht : ((as.reverse ++ .ref b :: rest).take n).reverse = as := by rw [← hn, ← List.length_reverse]; simp
  unfold am_iv
  rw [hd]
  simp only [h2, h3, ht]
  exact am_callJ hr
theorem J_vG {n y ci : Nat} (as : List Value) (h1 : am_vn (am_own t) k = some n) (hn : as.length = n) (h2 : am_ci1 (σ.1 b) = some ci) (h3 : am_vc (am_own t) k ci n = some y) (hr : rest.length ≤ 8) : am_J X rec t (some (.invokevirtual k, nx, tg)) pc lv (as.reverse ++ .ref b :: rest) σ = am_JR X rec t pc nx lv rest (rec y (.ref b :: as) σ) := by
  rw [← am_ivJ (X := X) (t := t) (pc := pc) (nx := nx) (lv := lv) (ct := fun ci => am_vc (am_own t) k ci n) hn h2 h3 hr]
  unfold am_J am_step am_pure am_heap
  simp only [h1]
theorem J_iG {n y ci : Nat} (as : List Value) (h0 : am_oi (am_own t) k = false) (h1 : am_ic (am_own t) k = some (y, n)) (hn : as.length = n) (h2 : am_ci1 (σ.1 b) = some ci) (hr : rest.length ≤ 8) : am_J X rec t (some (.invokespecial k, nx, tg)) pc lv (as.reverse ++ .ref b :: rest) σ = am_JR X rec t pc nx lv rest (rec y (.ref b :: as) σ) := by
  rw [← am_ivJ (X := X) (t := t) (pc := pc) (nx := nx) (lv := lv) (ct := fun _ => some y) hn h2 rfl hr]
  unfold am_J am_step am_pure am_heap
  simp only [h0, h1, Bool.false_eq_true, if_false]
theorem J_uG {n y ci : Nat} (as : List Value) (h0 : am_oi (am_own t) k = false) (h4 : am_ic (am_own t) k = none) (h1 : am_uc (am_own t) k = some (y, n)) (hn : as.length = n) (h2 : am_ci1 (σ.1 b) = some ci) (hr : rest.length ≤ 8) : am_J X rec t (some (.invokespecial k, nx, tg)) pc lv (as.reverse ++ .ref b :: rest) σ = am_JR X rec t pc nx lv rest (rec y (.ref b :: as) σ) := by
  rw [← am_ivJ (X := X) (t := t) (pc := pc) (nx := nx) (lv := lv) (ct := fun _ => some y) hn h2 rfl hr]
  unfold am_J am_step am_pure am_heap
  simp only [h0, h1, h4, Bool.false_eq_true, if_false]
theorem J_sG {n y : Nat} (as : List Value) (h0 : am_ac (am_own t) k = false) (h4 : am_mk (am_own t) k = none) (h1 : am_sc (am_own t) k = some (y, n)) (hn : as.length = n) (hr : rest.length ≤ 8) : am_J X rec t (some (.invokestatic k, nx, tg)) pc lv (as.reverse ++ rest) σ = am_JR X rec t pc nx lv rest (rec y as σ) := by
  have hd : (as.reverse ++ rest).drop n = rest := by rw [← hn, ← List.length_reverse]; simp
  have ht : ((as.reverse ++ rest).take n).reverse = as := by rw [← hn, ← List.length_reverse]; simp
  have hl : n ≤ (as.reverse ++ rest).length := by simp; omega
  rw [← am_callJ hr]
  unfold am_J am_step am_pure am_heap
  simp only [h0, h4, h1, Bool.false_eq_true, if_false]
  unfold am_is
  rw [if_pos hl, hd, ht]
theorem J_oG (h0 : am_oi (am_own t) k = true) (hr : rest.length ≤ 8) : am_J X rec t (some (.invokespecial k, nx, tg)) pc lv (.ref b :: rest) σ = am_I X rec t nx lv rest σ := by
  unfold am_J am_step am_pure am_heap
  simp only [h0, if_true, hr]
  rfl
theorem J_mG {q : Nat} (h0 : am_ac (am_own t) k = false) (h4 : am_mk (am_own t) k = some q) : am_J X rec t (some (.invokestatic k, nx, tg)) pc lv st σ = am_K X rec t (am_math nx lv st σ q) := by
  unfold am_J am_step am_pure am_heap
  simp only [h0, h4, Bool.false_eq_true, if_false]
theorem mth_0 {x y : Int32} (hr : rest.length ≤ 8) : am_K X rec t (am_math nx lv (.int y :: .int x :: rest) σ 0) = am_I X rec t nx lv (.int (if x < y then y else x) :: rest) σ := by
  unfold am_math; simp only [hr, if_true]; rfl
theorem mth_1 {x y : Int32} (hr : rest.length ≤ 8) : am_K X rec t (am_math nx lv (.int y :: .int x :: rest) σ 1) = am_I X rec t nx lv (.int (if y < x then y else x) :: rest) σ := by
  unfold am_math; simp only [hr, if_true]; rfl
theorem mth_2 {x y : Int64} (hr : rest.length ≤ 8) : am_K X rec t (am_math nx lv (.long y :: .long x :: rest) σ 2) = am_I X rec t nx lv (.long (if y < x then x else y) :: rest) σ := by
  unfold am_math; simp only [hr, if_true]; rfl
theorem mth_3 {x y : Int64} (hr : rest.length ≤ 8) : am_K X rec t (am_math nx lv (.long y :: .long x :: rest) σ 3) = am_I X rec t nx lv (.long (if y < x then y else x) :: rest) σ := by
  unfold am_math; simp only [hr, if_true]; rfl
theorem mth_4 {x : Int64} (hr : rest.length ≤ 8) : am_K X rec t (am_math nx lv (.long x :: rest) σ 4) = am_I X rec t nx lv (.long (if 0 < x then x else -x) :: rest) σ := by
  unfold am_math; simp only [hr, if_true]; rfl
theorem J_cG {sp dp n : Int32} {a0 : Nat} (h0 : am_ac (am_own t) k = true) (hr : rest.length ≤ 8) : am_J X rec t (some (.invokestatic k, nx, tg)) pc lv (.int n :: .int dp :: .ref a :: .int sp :: .ref a0 :: rest) σ = (am_cpy (σ.1 a0) (σ.1 a) sp dp n).bind (fun e => am_I X rec t nx lv rest (am_up σ.1 a e, σ.2)) := by
  unfold am_J am_step am_pure am_heap
  simp only [h0, if_true, hr]
  cases am_cpy (σ.1 a0) (σ.1 a) sp dp n <;> rfl
theorem gf_r {ci : Nat} {fs : List Value} {fk : Nat → Option Nat} : am_gf (some (.inr (ci, fs))) fk = (fk ci).bind (fun j => fs[j]?) := by
  show (match fk ci with
    | some j => fs[j]?
    | none => none) = _
  cases fk ci <;> rfl
theorem ci1_r {ci : Nat} {fs : List Value} : am_ci1 (some (.inr (ci, fs))) = some ci := rfl
theorem bind_s {α β : Type} {x : α} {f : α → Option β} : (some x).bind f = f x := rfl
end MR
theorem own_0 : am_own 0 = 0 := by decide +kernel
theorem ml_0 : am_ml 0 = 1 := by decide +kernel
theorem ret_0 : am_ret 0 = none := by decide +kernel
theorem ini_0 : am_ini 0 = true := by decide +kernel
theorem own_1 : am_own 1 = 1 := by decide +kernel
theorem ml_1 : am_ml 1 = 1 := by decide +kernel
theorem ret_1 : am_ret 1 = none := by decide +kernel
theorem ini_1 : am_ini 1 = true := by decide +kernel
theorem own_2 : am_own 2 = 2 := by decide +kernel
theorem ml_2 : am_ml 2 = 1 := by decide +kernel
theorem ret_2 : am_ret 2 = none := by decide +kernel
theorem ini_2 : am_ini 2 = true := by decide +kernel
theorem own_3 : am_own 3 = 3 := by decide +kernel
theorem ml_3 : am_ml 3 = 1 := by decide +kernel
theorem ret_3 : am_ret 3 = none := by decide +kernel
theorem ini_3 : am_ini 3 = true := by decide +kernel
theorem own_4 : am_own 4 = 4 := by decide +kernel
theorem ml_4 : am_ml 4 = 2 := by decide +kernel
theorem ret_4 : am_ret 4 = none := by decide +kernel
theorem ini_4 : am_ini 4 = true := by decide +kernel
theorem own_5 : am_own 5 = 5 := by decide +kernel
theorem ml_5 : am_ml 5 = 2 := by decide +kernel
theorem ret_5 : am_ret 5 = none := by decide +kernel
theorem ini_5 : am_ini 5 = true := by decide +kernel
theorem own_6 : am_own 6 = 0 := by decide +kernel
theorem ml_6 : am_ml 6 = 4 := by decide +kernel
theorem ret_6 : am_ret 6 = (some (.int)) := by decide +kernel
theorem ini_6 : am_ini 6 = false := by decide +kernel
theorem own_7 : am_own 7 = 0 := by decide +kernel
theorem ml_7 : am_ml 7 = 1 := by decide +kernel
theorem ret_7 : am_ret 7 = (some (.boolean)) := by decide +kernel
theorem ini_7 : am_ini 7 = false := by decide +kernel
theorem own_8 : am_own 8 = 0 := by decide +kernel
theorem ml_8 : am_ml 8 = 2 := by decide +kernel
theorem ret_8 : am_ret 8 = (some (.boolean)) := by decide +kernel
theorem ini_8 : am_ini 8 = false := by decide +kernel
theorem own_9 : am_own 9 = 3 := by decide +kernel
theorem ml_9 : am_ml 9 = 6 := by decide +kernel
theorem ret_9 : am_ret 9 = (some (.int)) := by decide +kernel
theorem ini_9 : am_ini 9 = false := by decide +kernel
theorem own_10 : am_own 10 = 3 := by decide +kernel
theorem ml_10 : am_ml 10 = 2 := by decide +kernel
theorem ret_10 : am_ret 10 = (some (.int)) := by decide +kernel
theorem ini_10 : am_ini 10 = false := by decide +kernel
theorem own_11 : am_own 11 = 3 := by decide +kernel
theorem ml_11 : am_ml 11 = 1 := by decide +kernel
theorem ret_11 : am_ret 11 = none := by decide +kernel
theorem ini_11 : am_ini 11 = false := by decide +kernel
theorem own_12 : am_own 12 = 3 := by decide +kernel
theorem ml_12 : am_ml 12 = 1 := by decide +kernel
theorem ret_12 : am_ret 12 = (some (.int)) := by decide +kernel
theorem ini_12 : am_ini 12 = false := by decide +kernel
theorem own_13 : am_own 13 = 3 := by decide +kernel
theorem ml_13 : am_ml 13 = 3 := by decide +kernel
theorem ret_13 : am_ret 13 = (some (.int)) := by decide +kernel
theorem ini_13 : am_ini 13 = false := by decide +kernel
theorem own_14 : am_own 14 = 3 := by decide +kernel
theorem ml_14 : am_ml 14 = 1 := by decide +kernel
theorem ret_14 : am_ret 14 = (some (.boolean)) := by decide +kernel
theorem ini_14 : am_ini 14 = false := by decide +kernel
theorem own_15 : am_own 15 = 3 := by decide +kernel
theorem ml_15 : am_ml 15 = 2 := by decide +kernel
theorem ret_15 : am_ret 15 = none := by decide +kernel
theorem ini_15 : am_ini 15 = false := by decide +kernel
theorem own_16 : am_own 16 = 3 := by decide +kernel
theorem ml_16 : am_ml 16 = 4 := by decide +kernel
theorem ret_16 : am_ret 16 = none := by decide +kernel
theorem ini_16 : am_ini 16 = false := by decide +kernel
theorem own_17 : am_own 17 = 3 := by decide +kernel
theorem ml_17 : am_ml 17 = 1 := by decide +kernel
theorem ret_17 : am_ret 17 = none := by decide +kernel
theorem ini_17 : am_ini 17 = false := by decide +kernel
theorem own_18 : am_own 18 = 3 := by decide +kernel
theorem ml_18 : am_ml 18 = 3 := by decide +kernel
theorem ret_18 : am_ret 18 = none := by decide +kernel
theorem ini_18 : am_ini 18 = false := by decide +kernel
theorem own_19 : am_own 19 = 1 := by decide +kernel
theorem ml_19 : am_ml 19 = 3 := by decide +kernel
theorem ret_19 : am_ret 19 = none := by decide +kernel
theorem ini_19 : am_ini 19 = false := by decide +kernel
theorem own_20 : am_own 20 = 1 := by decide +kernel
theorem ml_20 : am_ml 20 = 4 := by decide +kernel
theorem ret_20 : am_ret 20 = none := by decide +kernel
theorem ini_20 : am_ini 20 = false := by decide +kernel
theorem own_21 : am_own 21 = 15 := by decide +kernel
theorem ml_21 : am_ml 21 = 4 := by decide +kernel
theorem ret_21 : am_ret 21 = none := by decide +kernel
theorem ini_21 : am_ini 21 = false := by decide +kernel
theorem own_22 : am_own 22 = 6 := by decide +kernel
theorem ml_22 : am_ml 22 = 1 := by decide +kernel
theorem ret_22 : am_ret 22 = (some (.int)) := by decide +kernel
theorem ini_22 : am_ini 22 = false := by decide +kernel
theorem own_23 : am_own 23 = 1 := by decide +kernel
theorem ml_23 : am_ml 23 = 4 := by decide +kernel
theorem ret_23 : am_ret 23 = none := by decide +kernel
theorem ini_23 : am_ini 23 = false := by decide +kernel
theorem own_24 : am_own 24 = 1 := by decide +kernel
theorem ml_24 : am_ml 24 = 3 := by decide +kernel
theorem ret_24 : am_ret 24 = (some (.int)) := by decide +kernel
theorem ini_24 : am_ini 24 = false := by decide +kernel
theorem own_25 : am_own 25 = 1 := by decide +kernel
theorem ml_25 : am_ml 25 = 13 := by decide +kernel
theorem ret_25 : am_ret 25 = none := by decide +kernel
theorem ini_25 : am_ini 25 = false := by decide +kernel
theorem own_26 : am_own 26 = 1 := by decide +kernel
theorem ml_26 : am_ml 26 = 11 := by decide +kernel
theorem ret_26 : am_ret 26 = (some (.long)) := by decide +kernel
theorem ini_26 : am_ini 26 = false := by decide +kernel
theorem own_27 : am_own 27 = 3 := by decide +kernel
theorem ml_27 : am_ml 27 = 4 := by decide +kernel
theorem ret_27 : am_ret 27 = (some (.int)) := by decide +kernel
theorem ini_27 : am_ini 27 = false := by decide +kernel
theorem own_28 : am_own 28 = 3 := by decide +kernel
theorem ml_28 : am_ml 28 = 1 := by decide +kernel
theorem ret_28 : am_ret 28 = (some (.boolean)) := by decide +kernel
theorem ini_28 : am_ini 28 = false := by decide +kernel
theorem own_29 : am_own 29 = 3 := by decide +kernel
theorem ml_29 : am_ml 29 = 2 := by decide +kernel
theorem ret_29 : am_ret 29 = (some (.boolean)) := by decide +kernel
theorem ini_29 : am_ini 29 = false := by decide +kernel
theorem own_30 : am_own 30 = 3 := by decide +kernel
theorem ml_30 : am_ml 30 = 4 := by decide +kernel
theorem ret_30 : am_ret 30 = (some (.boolean)) := by decide +kernel
theorem ini_30 : am_ini 30 = false := by decide +kernel
theorem own_31 : am_own 31 = 3 := by decide +kernel
theorem ml_31 : am_ml 31 = 1 := by decide +kernel
theorem ret_31 : am_ret 31 = (some (.boolean)) := by decide +kernel
theorem ini_31 : am_ini 31 = false := by decide +kernel
theorem own_32 : am_own 32 = 1 := by decide +kernel
theorem ml_32 : am_ml 32 = 2 := by decide +kernel
theorem ret_32 : am_ret 32 = (some (.boolean)) := by decide +kernel
theorem ini_32 : am_ini 32 = false := by decide +kernel
theorem own_33 : am_own 33 = 3 := by decide +kernel
theorem ml_33 : am_ml 33 = 1 := by decide +kernel
theorem ret_33 : am_ret 33 = (some (.boolean)) := by decide +kernel
theorem ini_33 : am_ini 33 = false := by decide +kernel
theorem own_34 : am_own 34 = 7 := by decide +kernel
theorem ml_34 : am_ml 34 = 1 := by decide +kernel
theorem ret_34 : am_ret 34 = (some (.boolean)) := by decide +kernel
theorem ini_34 : am_ini 34 = false := by decide +kernel
theorem own_35 : am_own 35 = 6 := by decide +kernel
theorem ml_35 : am_ml 35 = 1 := by decide +kernel
theorem ret_35 : am_ret 35 = (some (.boolean)) := by decide +kernel
theorem ini_35 : am_ini 35 = false := by decide +kernel
theorem own_36 : am_own 36 = 3 := by decide +kernel
theorem ml_36 : am_ml 36 = 4 := by decide +kernel
theorem ret_36 : am_ret 36 = (some (.object "BoxSearch$Box")) := by decide +kernel
theorem ini_36 : am_ini 36 = false := by decide +kernel
theorem own_37 : am_own 37 = 15 := by decide +kernel
theorem ml_37 : am_ml 37 = 3 := by decide +kernel
theorem ret_37 : am_ret 37 = (some (.array (.int))) := by decide +kernel
theorem ini_37 : am_ini 37 = false := by decide +kernel
theorem own_38 : am_own 38 = 7 := by decide +kernel
theorem ml_38 : am_ml 38 = 7 := by decide +kernel
theorem ret_38 : am_ret 38 = none := by decide +kernel
theorem ini_38 : am_ini 38 = true := by decide +kernel
theorem own_39 : am_own 39 = 6 := by decide +kernel
theorem ml_39 : am_ml 39 = 6 := by decide +kernel
theorem ret_39 : am_ret 39 = none := by decide +kernel
theorem ini_39 : am_ini 39 = true := by decide +kernel
theorem own_40 : am_own 40 = 8 := by decide +kernel
theorem ml_40 : am_ml 40 = 6 := by decide +kernel
theorem ret_40 : am_ret 40 = none := by decide +kernel
theorem ini_40 : am_ini 40 = true := by decide +kernel
theorem own_41 : am_own 41 = 9 := by decide +kernel
theorem ml_41 : am_ml 41 = 7 := by decide +kernel
theorem ret_41 : am_ret 41 = none := by decide +kernel
theorem ini_41 : am_ini 41 = true := by decide +kernel
theorem own_42 : am_own 42 = 10 := by decide +kernel
theorem ml_42 : am_ml 42 = 8 := by decide +kernel
theorem ret_42 : am_ret 42 = none := by decide +kernel
theorem ini_42 : am_ini 42 = true := by decide +kernel
theorem own_43 : am_own 43 = 11 := by decide +kernel
theorem ml_43 : am_ml 43 = 7 := by decide +kernel
theorem ret_43 : am_ret 43 = none := by decide +kernel
theorem ini_43 : am_ini 43 = true := by decide +kernel
theorem own_44 : am_own 44 = 1 := by decide +kernel
theorem ml_44 : am_ml 44 = 2 := by decide +kernel
theorem ret_44 : am_ret 44 = none := by decide +kernel
theorem ini_44 : am_ini 44 = false := by decide +kernel
theorem own_45 : am_own 45 = 4 := by decide +kernel
theorem ml_45 : am_ml 45 = 1 := by decide +kernel
theorem ret_45 : am_ret 45 = none := by decide +kernel
theorem ini_45 : am_ini 45 = false := by decide +kernel
theorem own_46 : am_own 46 = 2 := by decide +kernel
theorem ml_46 : am_ml 46 = 1 := by decide +kernel
theorem ret_46 : am_ret 46 = none := by decide +kernel
theorem ini_46 : am_ini 46 = false := by decide +kernel
theorem own_47 : am_own 47 = 0 := by decide +kernel
theorem ml_47 : am_ml 47 = 4 := by decide +kernel
theorem ret_47 : am_ret 47 = (some (.int)) := by decide +kernel
theorem ini_47 : am_ini 47 = false := by decide +kernel
theorem own_48 : am_own 48 = 9 := by decide +kernel
theorem ml_48 : am_ml 48 = 1 := by decide +kernel
theorem ret_48 : am_ret 48 = (some (.int)) := by decide +kernel
theorem ini_48 : am_ini 48 = false := by decide +kernel
theorem own_49 : am_own 49 = 8 := by decide +kernel
theorem ml_49 : am_ml 49 = 1 := by decide +kernel
theorem ret_49 : am_ret 49 = (some (.int)) := by decide +kernel
theorem ini_49 : am_ini 49 = false := by decide +kernel
theorem own_50 : am_own 50 = 10 := by decide +kernel
theorem ml_50 : am_ml 50 = 1 := by decide +kernel
theorem ret_50 : am_ret 50 = (some (.int)) := by decide +kernel
theorem ini_50 : am_ini 50 = false := by decide +kernel
theorem own_51 : am_own 51 = 7 := by decide +kernel
theorem ml_51 : am_ml 51 = 1 := by decide +kernel
theorem ret_51 : am_ret 51 = (some (.int)) := by decide +kernel
theorem ini_51 : am_ini 51 = false := by decide +kernel
theorem own_52 : am_own 52 = 11 := by decide +kernel
theorem ml_52 : am_ml 52 = 1 := by decide +kernel
theorem ret_52 : am_ret 52 = (some (.int)) := by decide +kernel
theorem ini_52 : am_ini 52 = false := by decide +kernel
theorem own_53 : am_own 53 = 6 := by decide +kernel
theorem ml_53 : am_ml 53 = 1 := by decide +kernel
theorem ret_53 : am_ret 53 = (some (.int)) := by decide +kernel
theorem ini_53 : am_ini 53 = false := by decide +kernel
theorem own_54 : am_own 54 = 9 := by decide +kernel
theorem ml_54 : am_ml 54 = 1 := by decide +kernel
theorem ret_54 : am_ret 54 = (some (.int)) := by decide +kernel
theorem ini_54 : am_ini 54 = false := by decide +kernel
theorem own_55 : am_own 55 = 7 := by decide +kernel
theorem ml_55 : am_ml 55 = 1 := by decide +kernel
theorem ret_55 : am_ret 55 = (some (.int)) := by decide +kernel
theorem ini_55 : am_ini 55 = false := by decide +kernel
theorem own_56 : am_own 56 = 11 := by decide +kernel
theorem ml_56 : am_ml 56 = 1 := by decide +kernel
theorem ret_56 : am_ret 56 = (some (.int)) := by decide +kernel
theorem ini_56 : am_ini 56 = false := by decide +kernel
theorem own_57 : am_own 57 = 6 := by decide +kernel
theorem ml_57 : am_ml 57 = 1 := by decide +kernel
theorem ret_57 : am_ret 57 = (some (.int)) := by decide +kernel
theorem ini_57 : am_ini 57 = false := by decide +kernel
theorem own_58 : am_own 58 = 0 := by decide +kernel
theorem ml_58 : am_ml 58 = 4 := by decide +kernel
theorem ret_58 : am_ret 58 = (some (.int)) := by decide +kernel
theorem ini_58 : am_ini 58 = false := by decide +kernel
theorem own_59 : am_own 59 = 0 := by decide +kernel
theorem ml_59 : am_ml 59 = 3 := by decide +kernel
theorem ret_59 : am_ret 59 = (some (.boolean)) := by decide +kernel
theorem ini_59 : am_ini 59 = false := by decide +kernel
theorem own_60 : am_own 60 = 0 := by decide +kernel
theorem ml_60 : am_ml 60 = 4 := by decide +kernel
theorem ret_60 : am_ret 60 = (some (.int)) := by decide +kernel
theorem ini_60 : am_ini 60 = false := by decide +kernel
theorem own_61 : am_own 61 = 1 := by decide +kernel
theorem ml_61 : am_ml 61 = 3 := by decide +kernel
theorem ret_61 : am_ret 61 = none := by decide +kernel
theorem ini_61 : am_ini 61 = false := by decide +kernel
theorem own_62 : am_own 62 = 9 := by decide +kernel
theorem ml_62 : am_ml 62 = 2 := by decide +kernel
theorem ret_62 : am_ret 62 = (some (.object "BoxSearch$Box")) := by decide +kernel
theorem ini_62 : am_ini 62 = false := by decide +kernel
theorem own_63 : am_own 63 = 8 := by decide +kernel
theorem ml_63 : am_ml 63 = 2 := by decide +kernel
theorem ret_63 : am_ret 63 = (some (.object "BoxSearch$Box")) := by decide +kernel
theorem ini_63 : am_ini 63 = false := by decide +kernel
theorem own_64 : am_own 64 = 10 := by decide +kernel
theorem ml_64 : am_ml 64 = 2 := by decide +kernel
theorem ret_64 : am_ret 64 = (some (.object "BoxSearch$Box")) := by decide +kernel
theorem ini_64 : am_ini 64 = false := by decide +kernel
theorem own_65 : am_own 65 = 7 := by decide +kernel
theorem ml_65 : am_ml 65 = 2 := by decide +kernel
theorem ret_65 : am_ret 65 = (some (.object "BoxSearch$Box")) := by decide +kernel
theorem ini_65 : am_ini 65 = false := by decide +kernel
theorem own_66 : am_own 66 = 11 := by decide +kernel
theorem ml_66 : am_ml 66 = 2 := by decide +kernel
theorem ret_66 : am_ret 66 = (some (.object "BoxSearch$Box")) := by decide +kernel
theorem ini_66 : am_ini 66 = false := by decide +kernel
theorem own_67 : am_own 67 = 6 := by decide +kernel
theorem ml_67 : am_ml 67 = 2 := by decide +kernel
theorem ret_67 : am_ret 67 = (some (.object "BoxSearch$Box")) := by decide +kernel
theorem ini_67 : am_ini 67 = false := by decide +kernel
theorem own_68 : am_own 68 = 0 := by decide +kernel
theorem ml_68 : am_ml 68 = 3 := by decide +kernel
theorem ret_68 : am_ret 68 = (some (.int)) := by decide +kernel
theorem ini_68 : am_ini 68 = false := by decide +kernel
theorem own_69 : am_own 69 = 0 := by decide +kernel
theorem ml_69 : am_ml 69 = 2 := by decide +kernel
theorem ret_69 : am_ret 69 = (some (.int)) := by decide +kernel
theorem ini_69 : am_ini 69 = false := by decide +kernel
theorem own_70 : am_own 70 = 0 := by decide +kernel
theorem ml_70 : am_ml 70 = 2 := by decide +kernel
theorem ret_70 : am_ret 70 = (some (.int)) := by decide +kernel
theorem ini_70 : am_ini 70 = false := by decide +kernel
theorem own_71 : am_own 71 = 2 := by decide +kernel
theorem ml_71 : am_ml 71 = 4 := by decide +kernel
theorem ret_71 : am_ret 71 = (some (.int)) := by decide +kernel
theorem ini_71 : am_ini 71 = false := by decide +kernel
theorem own_72 : am_own 72 = 2 := by decide +kernel
theorem ml_72 : am_ml 72 = 2 := by decide +kernel
theorem ret_72 : am_ret 72 = (some (.boolean)) := by decide +kernel
theorem ini_72 : am_ini 72 = false := by decide +kernel
theorem own_73 : am_own 73 = 1 := by decide +kernel
theorem ml_73 : am_ml 73 = 5 := by decide +kernel
theorem ret_73 : am_ret 73 = (some (.int)) := by decide +kernel
theorem ini_73 : am_ini 73 = false := by decide +kernel
theorem own_74 : am_own 74 = 1 := by decide +kernel
theorem ml_74 : am_ml 74 = 4 := by decide +kernel
theorem ret_74 : am_ret 74 = (some (.int)) := by decide +kernel
theorem ini_74 : am_ini 74 = false := by decide +kernel
theorem own_75 : am_own 75 = 1 := by decide +kernel
theorem ml_75 : am_ml 75 = 4 := by decide +kernel
theorem ret_75 : am_ret 75 = (some (.boolean)) := by decide +kernel
theorem ini_75 : am_ini 75 = false := by decide +kernel
theorem own_76 : am_own 76 = 1 := by decide +kernel
theorem ml_76 : am_ml 76 = 4 := by decide +kernel
theorem ret_76 : am_ret 76 = (some (.int)) := by decide +kernel
theorem ini_76 : am_ini 76 = false := by decide +kernel
theorem own_77 : am_own 77 = 1 := by decide +kernel
theorem ml_77 : am_ml 77 = 4 := by decide +kernel
theorem ret_77 : am_ret 77 = (some (.boolean)) := by decide +kernel
theorem ini_77 : am_ini 77 = false := by decide +kernel
theorem own_78 : am_own 78 = 1 := by decide +kernel
theorem ml_78 : am_ml 78 = 4 := by decide +kernel
theorem ret_78 : am_ret 78 = (some (.int)) := by decide +kernel
theorem ini_78 : am_ini 78 = false := by decide +kernel
theorem own_79 : am_own 79 = 1 := by decide +kernel
theorem ml_79 : am_ml 79 = 4 := by decide +kernel
theorem ret_79 : am_ret 79 = (some (.boolean)) := by decide +kernel
theorem ini_79 : am_ini 79 = false := by decide +kernel
theorem own_80 : am_own 80 = 9 := by decide +kernel
theorem ml_80 : am_ml 80 = 3 := by decide +kernel
theorem ret_80 : am_ret 80 = (some (.boolean)) := by decide +kernel
theorem ini_80 : am_ini 80 = false := by decide +kernel
theorem own_81 : am_own 81 = 10 := by decide +kernel
theorem ml_81 : am_ml 81 = 3 := by decide +kernel
theorem ret_81 : am_ret 81 = (some (.boolean)) := by decide +kernel
theorem ini_81 : am_ini 81 = false := by decide +kernel
theorem own_82 : am_own 82 = 11 := by decide +kernel
theorem ml_82 : am_ml 82 = 3 := by decide +kernel
theorem ret_82 : am_ret 82 = (some (.boolean)) := by decide +kernel
theorem ini_82 : am_ini 82 = false := by decide +kernel
theorem own_83 : am_own 83 = 6 := by decide +kernel
theorem ml_83 : am_ml 83 = 3 := by decide +kernel
theorem ret_83 : am_ret 83 = (some (.boolean)) := by decide +kernel
theorem ini_83 : am_ini 83 = false := by decide +kernel
theorem own_84 : am_own 84 = 0 := by decide +kernel
theorem ml_84 : am_ml 84 = 4 := by decide +kernel
theorem ret_84 : am_ret 84 = (some (.int)) := by decide +kernel
theorem ini_84 : am_ini 84 = false := by decide +kernel
theorem own_85 : am_own 85 = 1 := by decide +kernel
theorem ml_85 : am_ml 85 = 4 := by decide +kernel
theorem ret_85 : am_ret 85 = (some (.int)) := by decide +kernel
theorem ini_85 : am_ini 85 = false := by decide +kernel
theorem own_86 : am_own 86 = 1 := by decide +kernel
theorem ml_86 : am_ml 86 = 2 := by decide +kernel
theorem ret_86 : am_ret 86 = (some (.int)) := by decide +kernel
theorem ini_86 : am_ini 86 = false := by decide +kernel
theorem own_87 : am_own 87 = 1 := by decide +kernel
theorem ml_87 : am_ml 87 = 4 := by decide +kernel
theorem ret_87 : am_ret 87 = (some (.boolean)) := by decide +kernel
theorem ini_87 : am_ini 87 = false := by decide +kernel
theorem own_88 : am_own 88 = 2 := by decide +kernel
theorem ml_88 : am_ml 88 = 3 := by decide +kernel
theorem ret_88 : am_ret 88 = none := by decide +kernel
theorem ini_88 : am_ini 88 = false := by decide +kernel
theorem own_89 : am_own 89 = 0 := by decide +kernel
theorem ml_89 : am_ml 89 = 1 := by decide +kernel
theorem ret_89 : am_ret 89 = (some (.int)) := by decide +kernel
theorem ini_89 : am_ini 89 = false := by decide +kernel
theorem own_90 : am_own 90 = 2 := by decide +kernel
theorem ml_90 : am_ml 90 = 4 := by decide +kernel
theorem ret_90 : am_ret 90 = (some (.int)) := by decide +kernel
theorem ini_90 : am_ini 90 = false := by decide +kernel
theorem own_91 : am_own 91 = 1 := by decide +kernel
theorem ml_91 : am_ml 91 = 3 := by decide +kernel
theorem ret_91 : am_ret 91 = (some (.int)) := by decide +kernel
theorem ini_91 : am_ini 91 = false := by decide +kernel
theorem own_92 : am_own 92 = 0 := by decide +kernel
theorem ml_92 : am_ml 92 = 5 := by decide +kernel
theorem ret_92 : am_ret 92 = (some (.int)) := by decide +kernel
theorem ini_92 : am_ini 92 = false := by decide +kernel
theorem own_93 : am_own 93 = 0 := by decide +kernel
theorem ml_93 : am_ml 93 = 1 := by decide +kernel
theorem ret_93 : am_ret 93 = (some (.int)) := by decide +kernel
theorem ini_93 : am_ini 93 = false := by decide +kernel
theorem own_94 : am_own 94 = 2 := by decide +kernel
theorem ml_94 : am_ml 94 = 1 := by decide +kernel
theorem ret_94 : am_ret 94 = none := by decide +kernel
theorem ini_94 : am_ini 94 = false := by decide +kernel
theorem own_95 : am_own 95 = 0 := by decide +kernel
theorem ml_95 : am_ml 95 = 2 := by decide +kernel
theorem ret_95 : am_ret 95 = (some (.int)) := by decide +kernel
theorem ini_95 : am_ini 95 = false := by decide +kernel
theorem own_96 : am_own 96 = 2 := by decide +kernel
theorem ml_96 : am_ml 96 = 3 := by decide +kernel
theorem ret_96 : am_ret 96 = (some (.int)) := by decide +kernel
theorem ini_96 : am_ini 96 = false := by decide +kernel
theorem own_97 : am_own 97 = 0 := by decide +kernel
theorem ml_97 : am_ml 97 = 1 := by decide +kernel
theorem ret_97 : am_ret 97 = (some (.long)) := by decide +kernel
theorem ini_97 : am_ini 97 = false := by decide +kernel
theorem own_98 : am_own 98 = 1 := by decide +kernel
theorem ml_98 : am_ml 98 = 5 := by decide +kernel
theorem ret_98 : am_ret 98 = (some (.long)) := by decide +kernel
theorem ini_98 : am_ini 98 = false := by decide +kernel
theorem own_99 : am_own 99 = 1 := by decide +kernel
theorem ml_99 : am_ml 99 = 3 := by decide +kernel
theorem ret_99 : am_ret 99 = (some (.int)) := by decide +kernel
theorem ini_99 : am_ini 99 = false := by decide +kernel
theorem own_100 : am_own 100 = 0 := by decide +kernel
theorem ml_100 : am_ml 100 = 4 := by decide +kernel
theorem ret_100 : am_ret 100 = (some (.long)) := by decide +kernel
theorem ini_100 : am_ini 100 = false := by decide +kernel
theorem own_101 : am_own 101 = 1 := by decide +kernel
theorem ml_101 : am_ml 101 = 3 := by decide +kernel
theorem ret_101 : am_ret 101 = (some (.int)) := by decide +kernel
theorem ini_101 : am_ini 101 = false := by decide +kernel
theorem own_102 : am_own 102 = 0 := by decide +kernel
theorem ml_102 : am_ml 102 = 2 := by decide +kernel
theorem ret_102 : am_ret 102 = (some (.int)) := by decide +kernel
theorem ini_102 : am_ini 102 = false := by decide +kernel
theorem own_103 : am_own 103 = 4 := by decide +kernel
theorem ml_103 : am_ml 103 = 11 := by decide +kernel
theorem ret_103 : am_ret 103 = (some (.int)) := by decide +kernel
theorem ini_103 : am_ini 103 = false := by decide +kernel
theorem own_104 : am_own 104 = 0 := by decide +kernel
theorem ml_104 : am_ml 104 = 1 := by decide +kernel
theorem ret_104 : am_ret 104 = (some (.long)) := by decide +kernel
theorem ini_104 : am_ini 104 = false := by decide +kernel
theorem own_105 : am_own 105 = 4 := by decide +kernel
theorem ml_105 : am_ml 105 = 3 := by decide +kernel
theorem ret_105 : am_ret 105 = (some (.long)) := by decide +kernel
theorem ini_105 : am_ini 105 = false := by decide +kernel
theorem own_106 : am_own 106 = 4 := by decide +kernel
theorem ml_106 : am_ml 106 = 12 := by decide +kernel
theorem ret_106 : am_ret 106 = (some (.long)) := by decide +kernel
theorem ini_106 : am_ini 106 = false := by decide +kernel
theorem own_107 : am_own 107 = 0 := by decide +kernel
theorem ml_107 : am_ml 107 = 1 := by decide +kernel
theorem ret_107 : am_ret 107 = (some (.int)) := by decide +kernel
theorem ini_107 : am_ini 107 = false := by decide +kernel
theorem own_108 : am_own 108 = 4 := by decide +kernel
theorem ml_108 : am_ml 108 = 3 := by decide +kernel
theorem ret_108 : am_ret 108 = (some (.int)) := by decide +kernel
theorem ini_108 : am_ini 108 = false := by decide +kernel
theorem own_109 : am_own 109 = 4 := by decide +kernel
theorem ml_109 : am_ml 109 = 3 := by decide +kernel
theorem ret_109 : am_ret 109 = none := by decide +kernel
theorem ini_109 : am_ini 109 = false := by decide +kernel
theorem own_110 : am_own 110 = 1 := by decide +kernel
theorem ml_110 : am_ml 110 = 1 := by decide +kernel
theorem ret_110 : am_ret 110 = (some (.int)) := by decide +kernel
theorem ini_110 : am_ini 110 = false := by decide +kernel
theorem own_111 : am_own 111 = 4 := by decide +kernel
theorem ml_111 : am_ml 111 = 6 := by decide +kernel
theorem ret_111 : am_ret 111 = none := by decide +kernel
theorem ini_111 : am_ini 111 = false := by decide +kernel
theorem own_112 : am_own 112 = 1 := by decide +kernel
theorem ml_112 : am_ml 112 = 5 := by decide +kernel
theorem ret_112 : am_ret 112 = (some (.boolean)) := by decide +kernel
theorem ini_112 : am_ini 112 = false := by decide +kernel
theorem own_113 : am_own 113 = 4 := by decide +kernel
theorem ml_113 : am_ml 113 = 6 := by decide +kernel
theorem ret_113 : am_ret 113 = none := by decide +kernel
theorem ini_113 : am_ini 113 = false := by decide +kernel
theorem own_114 : am_own 114 = 8 := by decide +kernel
theorem ml_114 : am_ml 114 = 1 := by decide +kernel
theorem ret_114 : am_ret 114 = (some (.boolean)) := by decide +kernel
theorem ini_114 : am_ini 114 = false := by decide +kernel
theorem own_115 : am_own 115 = 6 := by decide +kernel
theorem ml_115 : am_ml 115 = 1 := by decide +kernel
theorem ret_115 : am_ret 115 = (some (.boolean)) := by decide +kernel
theorem ini_115 : am_ini 115 = false := by decide +kernel
theorem own_116 : am_own 116 = 4 := by decide +kernel
theorem ml_116 : am_ml 116 = 2 := by decide +kernel
theorem ret_116 : am_ret 116 = (some (.boolean)) := by decide +kernel
theorem ini_116 : am_ini 116 = false := by decide +kernel
theorem own_117 : am_own 117 = 4 := by decide +kernel
theorem ml_117 : am_ml 117 = 5 := by decide +kernel
theorem ret_117 : am_ret 117 = (some (.long)) := by decide +kernel
theorem ini_117 : am_ini 117 = false := by decide +kernel
theorem own_118 : am_own 118 = 1 := by decide +kernel
theorem ml_118 : am_ml 118 = 5 := by decide +kernel
theorem ret_118 : am_ret 118 = (some (.int)) := by decide +kernel
theorem ini_118 : am_ini 118 = false := by decide +kernel
theorem own_119 : am_own 119 = 4 := by decide +kernel
theorem ml_119 : am_ml 119 = 9 := by decide +kernel
theorem ret_119 : am_ret 119 = none := by decide +kernel
theorem ini_119 : am_ini 119 = false := by decide +kernel
theorem own_120 : am_own 120 = 4 := by decide +kernel
theorem ml_120 : am_ml 120 = 2 := by decide +kernel
theorem ret_120 : am_ret 120 = (some (.long)) := by decide +kernel
theorem ini_120 : am_ini 120 = false := by decide +kernel
theorem own_121 : am_own 121 = 4 := by decide +kernel
theorem ml_121 : am_ml 121 = 8 := by decide +kernel
theorem ret_121 : am_ret 121 = (some (.long)) := by decide +kernel
theorem ini_121 : am_ini 121 = false := by decide +kernel
theorem own_122 : am_own 122 = 1 := by decide +kernel
theorem ml_122 : am_ml 122 = 3 := by decide +kernel
theorem ret_122 : am_ret 122 = (some (.int)) := by decide +kernel
theorem ini_122 : am_ini 122 = false := by decide +kernel
theorem own_123 : am_own 123 = 4 := by decide +kernel
theorem ml_123 : am_ml 123 = 3 := by decide +kernel
theorem ret_123 : am_ret 123 = (some (.long)) := by decide +kernel
theorem ini_123 : am_ini 123 = false := by decide +kernel
theorem own_124 : am_own 124 = 0 := by decide +kernel
theorem ml_124 : am_ml 124 = 1 := by decide +kernel
theorem ret_124 : am_ret 124 = (some (.long)) := by decide +kernel
theorem ini_124 : am_ini 124 = false := by decide +kernel
theorem own_125 : am_own 125 = 4 := by decide +kernel
theorem ml_125 : am_ml 125 = 3 := by decide +kernel
theorem ret_125 : am_ret 125 = (some (.long)) := by decide +kernel
theorem ini_125 : am_ini 125 = false := by decide +kernel
theorem own_126 : am_own 126 = 0 := by decide +kernel
theorem ml_126 : am_ml 126 = 3 := by decide +kernel
theorem ret_126 : am_ret 126 = (some (.long)) := by decide +kernel
theorem ini_126 : am_ini 126 = false := by decide +kernel
theorem own_127 : am_own 127 = 0 := by decide +kernel
theorem ml_127 : am_ml 127 = 1 := by decide +kernel
theorem ret_127 : am_ret 127 = (some (.int)) := by decide +kernel
theorem ini_127 : am_ini 127 = false := by decide +kernel
theorem own_128 : am_own 128 = 4 := by decide +kernel
theorem ml_128 : am_ml 128 = 4 := by decide +kernel
theorem ret_128 : am_ret 128 = (some (.int)) := by decide +kernel
theorem ini_128 : am_ini 128 = false := by decide +kernel
theorem own_129 : am_own 129 = 4 := by decide +kernel
theorem ml_129 : am_ml 129 = 11 := by decide +kernel
theorem ret_129 : am_ret 129 = (some (.int)) := by decide +kernel
theorem ini_129 : am_ini 129 = false := by decide +kernel
theorem own_130 : am_own 130 = 0 := by decide +kernel
theorem ml_130 : am_ml 130 = 3 := by decide +kernel
theorem ret_130 : am_ret 130 = (some (.long)) := by decide +kernel
theorem ini_130 : am_ini 130 = false := by decide +kernel
theorem own_131 : am_own 131 = 2 := by decide +kernel
theorem ml_131 : am_ml 131 = 4 := by decide +kernel
theorem ret_131 : am_ret 131 = (some (.int)) := by decide +kernel
theorem ini_131 : am_ini 131 = false := by decide +kernel
theorem own_132 : am_own 132 = 4 := by decide +kernel
theorem ml_132 : am_ml 132 = 4 := by decide +kernel
theorem ret_132 : am_ret 132 = none := by decide +kernel
theorem ini_132 : am_ini 132 = false := by decide +kernel
theorem own_133 : am_own 133 = 4 := by decide +kernel
theorem ml_133 : am_ml 133 = 4 := by decide +kernel
theorem ret_133 : am_ret 133 = none := by decide +kernel
theorem ini_133 : am_ini 133 = false := by decide +kernel
theorem own_134 : am_own 134 = 15 := by decide +kernel
theorem ml_134 : am_ml 134 = 5 := by decide +kernel
theorem ret_134 : am_ret 134 = none := by decide +kernel
theorem ini_134 : am_ini 134 = false := by decide +kernel
theorem own_135 : am_own 135 = 4 := by decide +kernel
theorem ml_135 : am_ml 135 = 13 := by decide +kernel
theorem ret_135 : am_ret 135 = none := by decide +kernel
theorem ini_135 : am_ini 135 = false := by decide +kernel
theorem own_136 : am_own 136 = 4 := by decide +kernel
theorem ml_136 : am_ml 136 = 4 := by decide +kernel
theorem ret_136 : am_ret 136 = (some (.int)) := by decide +kernel
theorem ini_136 : am_ini 136 = false := by decide +kernel
theorem own_137 : am_own 137 = 0 := by decide +kernel
theorem ml_137 : am_ml 137 = 3 := by decide +kernel
theorem ret_137 : am_ret 137 = (some (.int)) := by decide +kernel
theorem ini_137 : am_ini 137 = false := by decide +kernel
theorem own_138 : am_own 138 = 4 := by decide +kernel
theorem ml_138 : am_ml 138 = 8 := by decide +kernel
theorem ret_138 : am_ret 138 = (some (.int)) := by decide +kernel
theorem ini_138 : am_ini 138 = false := by decide +kernel
theorem own_139 : am_own 139 = 4 := by decide +kernel
theorem ml_139 : am_ml 139 = 6 := by decide +kernel
theorem ret_139 : am_ret 139 = (some (.int)) := by decide +kernel
theorem ini_139 : am_ini 139 = false := by decide +kernel
theorem own_140 : am_own 140 = 4 := by decide +kernel
theorem ml_140 : am_ml 140 = 3 := by decide +kernel
theorem ret_140 : am_ret 140 = none := by decide +kernel
theorem ini_140 : am_ini 140 = false := by decide +kernel
theorem own_141 : am_own 141 = 0 := by decide +kernel
theorem ml_141 : am_ml 141 = 2 := by decide +kernel
theorem ret_141 : am_ret 141 = (some (.int)) := by decide +kernel
theorem ini_141 : am_ini 141 = false := by decide +kernel
theorem own_142 : am_own 142 = 4 := by decide +kernel
theorem ml_142 : am_ml 142 = 8 := by decide +kernel
theorem ret_142 : am_ret 142 = (some (.int)) := by decide +kernel
theorem ini_142 : am_ini 142 = false := by decide +kernel
theorem own_143 : am_own 143 = 0 := by decide +kernel
theorem ml_143 : am_ml 143 = 2 := by decide +kernel
theorem ret_143 : am_ret 143 = (some (.long)) := by decide +kernel
theorem ini_143 : am_ini 143 = false := by decide +kernel
theorem own_144 : am_own 144 = 0 := by decide +kernel
theorem ml_144 : am_ml 144 = 5 := by decide +kernel
theorem ret_144 : am_ret 144 = (some (.boolean)) := by decide +kernel
theorem ini_144 : am_ini 144 = false := by decide +kernel
theorem own_145 : am_own 145 = 5 := by decide +kernel
theorem ml_145 : am_ml 145 = 6 := by decide +kernel
theorem ret_145 : am_ret 145 = (some (.long)) := by decide +kernel
theorem ini_145 : am_ini 145 = false := by decide +kernel
theorem own_146 : am_own 146 = 5 := by decide +kernel
theorem ml_146 : am_ml 146 = 3 := by decide +kernel
theorem ret_146 : am_ret 146 = none := by decide +kernel
theorem ini_146 : am_ini 146 = false := by decide +kernel
theorem own_147 : am_own 147 = 5 := by decide +kernel
theorem ml_147 : am_ml 147 = 2 := by decide +kernel
theorem ret_147 : am_ret 147 = none := by decide +kernel
theorem ini_147 : am_ini 147 = false := by decide +kernel
theorem own_148 : am_own 148 = 1 := by decide +kernel
theorem ml_148 : am_ml 148 = 3 := by decide +kernel
theorem ret_148 : am_ret 148 = (some (.boolean)) := by decide +kernel
theorem ini_148 : am_ini 148 = false := by decide +kernel
theorem own_149 : am_own 149 = 5 := by decide +kernel
theorem ml_149 : am_ml 149 = 5 := by decide +kernel
theorem ret_149 : am_ret 149 = none := by decide +kernel
theorem ini_149 : am_ini 149 = false := by decide +kernel
theorem own_150 : am_own 150 = 5 := by decide +kernel
theorem ml_150 : am_ml 150 = 3 := by decide +kernel
theorem ret_150 : am_ret 150 = (some (.int)) := by decide +kernel
theorem ini_150 : am_ini 150 = false := by decide +kernel
theorem own_151 : am_own 151 = 5 := by decide +kernel
theorem ml_151 : am_ml 151 = 5 := by decide +kernel
theorem ret_151 : am_ret 151 = none := by decide +kernel
theorem ini_151 : am_ini 151 = false := by decide +kernel
theorem own_152 : am_own 152 = 5 := by decide +kernel
theorem ml_152 : am_ml 152 = 12 := by decide +kernel
theorem ret_152 : am_ret 152 = none := by decide +kernel
theorem ini_152 : am_ini 152 = false := by decide +kernel
theorem own_153 : am_own 153 = 5 := by decide +kernel
theorem ml_153 : am_ml 153 = 9 := by decide +kernel
theorem ret_153 : am_ret 153 = (some (.long)) := by decide +kernel
theorem ini_153 : am_ini 153 = false := by decide +kernel
theorem own_154 : am_own 154 = 0 := by decide +kernel
theorem ml_154 : am_ml 154 = 1 := by decide +kernel
theorem ret_154 : am_ret 154 = (some (.int)) := by decide +kernel
theorem ini_154 : am_ini 154 = false := by decide +kernel
theorem own_155 : am_own 155 = 5 := by decide +kernel
theorem ml_155 : am_ml 155 = 3 := by decide +kernel
theorem ret_155 : am_ret 155 = (some (.int)) := by decide +kernel
theorem ini_155 : am_ini 155 = false := by decide +kernel
theorem own_156 : am_own 156 = 5 := by decide +kernel
theorem ml_156 : am_ml 156 = 6 := by decide +kernel
theorem ret_156 : am_ret 156 = none := by decide +kernel
theorem ini_156 : am_ini 156 = false := by decide +kernel
theorem own_157 : am_own 157 = 0 := by decide +kernel
theorem ml_157 : am_ml 157 = 1 := by decide +kernel
theorem ret_157 : am_ret 157 = (some (.int)) := by decide +kernel
theorem ini_157 : am_ini 157 = false := by decide +kernel
theorem own_158 : am_own 158 = 2 := by decide +kernel
theorem ml_158 : am_ml 158 = 2 := by decide +kernel
theorem ret_158 : am_ret 158 = none := by decide +kernel
theorem ini_158 : am_ini 158 = false := by decide +kernel
theorem own_159 : am_own 159 = 0 := by decide +kernel
theorem ml_159 : am_ml 159 = 1 := by decide +kernel
theorem ret_159 : am_ret 159 = (some (.int)) := by decide +kernel
theorem ini_159 : am_ini 159 = false := by decide +kernel
theorem own_160 : am_own 160 = 0 := by decide +kernel
theorem ml_160 : am_ml 160 = 2 := by decide +kernel
theorem ret_160 : am_ret 160 = (some (.int)) := by decide +kernel
theorem ini_160 : am_ini 160 = false := by decide +kernel
theorem own_161 : am_own 161 = 1 := by decide +kernel
theorem ml_161 : am_ml 161 = 3 := by decide +kernel
theorem ret_161 : am_ret 161 = (some (.int)) := by decide +kernel
theorem ini_161 : am_ini 161 = false := by decide +kernel
theorem own_162 : am_own 162 = 2 := by decide +kernel
theorem ml_162 : am_ml 162 = 5 := by decide +kernel
theorem ret_162 : am_ret 162 = (some (.int)) := by decide +kernel
theorem ini_162 : am_ini 162 = false := by decide +kernel
theorem own_163 : am_own 163 = 0 := by decide +kernel
theorem ml_163 : am_ml 163 = 4 := by decide +kernel
theorem ret_163 : am_ret 163 = (some (.int)) := by decide +kernel
theorem ini_163 : am_ini 163 = false := by decide +kernel
theorem own_164 : am_own 164 = 0 := by decide +kernel
theorem ml_164 : am_ml 164 = 4 := by decide +kernel
theorem ret_164 : am_ret 164 = (some (.int)) := by decide +kernel
theorem ini_164 : am_ini 164 = false := by decide +kernel
theorem own_165 : am_own 165 = 0 := by decide +kernel
theorem ml_165 : am_ml 165 = 4 := by decide +kernel
theorem ret_165 : am_ret 165 = (some (.int)) := by decide +kernel
theorem ini_165 : am_ini 165 = false := by decide +kernel
theorem own_166 : am_own 166 = 0 := by decide +kernel
theorem ml_166 : am_ml 166 = 4 := by decide +kernel
theorem ret_166 : am_ret 166 = (some (.int)) := by decide +kernel
theorem ini_166 : am_ini 166 = false := by decide +kernel
theorem own_167 : am_own 167 = 0 := by decide +kernel
theorem ml_167 : am_ml 167 = 2 := by decide +kernel
theorem ret_167 : am_ret 167 = (some (.int)) := by decide +kernel
theorem ini_167 : am_ini 167 = false := by decide +kernel
theorem own_168 : am_own 168 = 0 := by decide +kernel
theorem ml_168 : am_ml 168 = 6 := by decide +kernel
theorem ret_168 : am_ret 168 = (some (.int)) := by decide +kernel
theorem ini_168 : am_ini 168 = false := by decide +kernel
theorem own_169 : am_own 169 = 0 := by decide +kernel
theorem ml_169 : am_ml 169 = 4 := by decide +kernel
theorem ret_169 : am_ret 169 = (some (.boolean)) := by decide +kernel
theorem ini_169 : am_ini 169 = false := by decide +kernel
theorem own_170 : am_own 170 = 0 := by decide +kernel
theorem ml_170 : am_ml 170 = 3 := by decide +kernel
theorem ret_170 : am_ret 170 = (some (.int)) := by decide +kernel
theorem ini_170 : am_ini 170 = false := by decide +kernel
theorem own_171 : am_own 171 = 0 := by decide +kernel
theorem ml_171 : am_ml 171 = 2 := by decide +kernel
theorem ret_171 : am_ret 171 = (some (.int)) := by decide +kernel
theorem ini_171 : am_ini 171 = false := by decide +kernel
theorem own_172 : am_own 172 = 9 := by decide +kernel
theorem ml_172 : am_ml 172 = 1 := by decide +kernel
theorem ret_172 : am_ret 172 = (some (.int)) := by decide +kernel
theorem ini_172 : am_ini 172 = false := by decide +kernel
theorem own_173 : am_own 173 = 8 := by decide +kernel
theorem ml_173 : am_ml 173 = 1 := by decide +kernel
theorem ret_173 : am_ret 173 = (some (.int)) := by decide +kernel
theorem ini_173 : am_ini 173 = false := by decide +kernel
theorem own_174 : am_own 174 = 10 := by decide +kernel
theorem ml_174 : am_ml 174 = 1 := by decide +kernel
theorem ret_174 : am_ret 174 = (some (.int)) := by decide +kernel
theorem ini_174 : am_ini 174 = false := by decide +kernel
theorem own_175 : am_own 175 = 7 := by decide +kernel
theorem ml_175 : am_ml 175 = 1 := by decide +kernel
theorem ret_175 : am_ret 175 = (some (.int)) := by decide +kernel
theorem ini_175 : am_ini 175 = false := by decide +kernel
theorem own_176 : am_own 176 = 11 := by decide +kernel
theorem ml_176 : am_ml 176 = 1 := by decide +kernel
theorem ret_176 : am_ret 176 = (some (.int)) := by decide +kernel
theorem ini_176 : am_ini 176 = false := by decide +kernel
theorem own_177 : am_own 177 = 6 := by decide +kernel
theorem ml_177 : am_ml 177 = 1 := by decide +kernel
theorem ret_177 : am_ret 177 = (some (.int)) := by decide +kernel
theorem ini_177 : am_ini 177 = false := by decide +kernel
theorem own_178 : am_own 178 = 0 := by decide +kernel
theorem ml_178 : am_ml 178 = 4 := by decide +kernel
theorem ret_178 : am_ret 178 = (some (.int)) := by decide +kernel
theorem ini_178 : am_ini 178 = false := by decide +kernel
theorem own_179 : am_own 179 = 6 := by decide +kernel
theorem ml_179 : am_ml 179 = 1 := by decide +kernel
theorem ret_179 : am_ret 179 = none := by decide +kernel
theorem ini_179 : am_ini 179 = false := by decide +kernel
theorem own_180 : am_own 180 = 8 := by decide +kernel
theorem ml_180 : am_ml 180 = 1 := by decide +kernel
theorem ret_180 : am_ret 180 = (some (.boolean)) := by decide +kernel
theorem ini_180 : am_ini 180 = false := by decide +kernel
theorem own_181 : am_own 181 = 6 := by decide +kernel
theorem ml_181 : am_ml 181 = 1 := by decide +kernel
theorem ret_181 : am_ret 181 = (some (.boolean)) := by decide +kernel
theorem ini_181 : am_ini 181 = false := by decide +kernel
theorem own_182 : am_own 182 = 10 := by decide +kernel
theorem ml_182 : am_ml 182 = 1 := by decide +kernel
theorem ret_182 : am_ret 182 = (some (.int)) := by decide +kernel
theorem ini_182 : am_ini 182 = false := by decide +kernel
theorem own_183 : am_own 183 = 11 := by decide +kernel
theorem ml_183 : am_ml 183 = 1 := by decide +kernel
theorem ret_183 : am_ret 183 = (some (.int)) := by decide +kernel
theorem ini_183 : am_ini 183 = false := by decide +kernel
theorem own_184 : am_own 184 = 6 := by decide +kernel
theorem ml_184 : am_ml 184 = 1 := by decide +kernel
theorem ret_184 : am_ret 184 = (some (.int)) := by decide +kernel
theorem ini_184 : am_ini 184 = false := by decide +kernel
theorem own_185 : am_own 185 = 13 := by decide +kernel
theorem ml_185 : am_ml 185 = 5 := by decide +kernel
theorem ret_185 : am_ret 185 = (some (.int)) := by decide +kernel
theorem ini_185 : am_ini 185 = false := by decide +kernel
theorem own_186 : am_own 186 = 0 := by decide +kernel
theorem ml_186 : am_ml 186 = 3 := by decide +kernel
theorem ret_186 : am_ret 186 = (some (.long)) := by decide +kernel
theorem ini_186 : am_ini 186 = false := by decide +kernel
theorem own_187 : am_own 187 = 4 := by decide +kernel
theorem ml_187 : am_ml 187 = 12 := by decide +kernel
theorem ret_187 : am_ret 187 = (some (.long)) := by decide +kernel
theorem ini_187 : am_ini 187 = false := by decide +kernel
theorem own_188 : am_own 188 = 4 := by decide +kernel
theorem ml_188 : am_ml 188 = 4 := by decide +kernel
theorem ret_188 : am_ret 188 = (some (.int)) := by decide +kernel
theorem ini_188 : am_ini 188 = false := by decide +kernel
theorem own_189 : am_own 189 = 4 := by decide +kernel
theorem ml_189 : am_ml 189 = 9 := by decide +kernel
theorem ret_189 : am_ret 189 = (some (.int)) := by decide +kernel
theorem ini_189 : am_ini 189 = false := by decide +kernel
theorem own_190 : am_own 190 = 13 := by decide +kernel
theorem ml_190 : am_ml 190 = 5 := by decide +kernel
theorem ret_190 : am_ret 190 = (some (.int)) := by decide +kernel
theorem ini_190 : am_ini 190 = false := by decide +kernel
theorem own_191 : am_own 191 = 0 := by decide +kernel
theorem ml_191 : am_ml 191 = 3 := by decide +kernel
theorem ret_191 : am_ret 191 = (some (.long)) := by decide +kernel
theorem ini_191 : am_ini 191 = false := by decide +kernel
theorem own_192 : am_own 192 = 12 := by decide +kernel
theorem ml_192 : am_ml 192 = 1 := by decide +kernel
theorem ret_192 : am_ret 192 = none := by decide +kernel
theorem ini_192 : am_ini 192 = true := by decide +kernel
theorem own_193 : am_own 193 = 12 := by decide +kernel
theorem ml_193 : am_ml 193 = 1 := by decide +kernel
theorem ret_193 : am_ret 193 = (some (.int)) := by decide +kernel
theorem ini_193 : am_ini 193 = false := by decide +kernel
theorem own_194 : am_own 194 = 12 := by decide +kernel
theorem ml_194 : am_ml 194 = 8 := by decide +kernel
theorem ret_194 : am_ret 194 = (some (.int)) := by decide +kernel
theorem ini_194 : am_ini 194 = false := by decide +kernel
theorem own_195 : am_own 195 = 12 := by decide +kernel
theorem ml_195 : am_ml 195 = 3 := by decide +kernel
theorem ret_195 : am_ret 195 = (some (.int)) := by decide +kernel
theorem ini_195 : am_ini 195 = false := by decide +kernel
theorem own_196 : am_own 196 = 12 := by decide +kernel
theorem ml_196 : am_ml 196 = 1 := by decide +kernel
theorem ret_196 : am_ret 196 = (some (.boolean)) := by decide +kernel
theorem ini_196 : am_ini 196 = false := by decide +kernel
theorem own_197 : am_own 197 = 12 := by decide +kernel
theorem ml_197 : am_ml 197 = 6 := by decide +kernel
theorem ret_197 : am_ret 197 = (some (.boolean)) := by decide +kernel
theorem ini_197 : am_ini 197 = false := by decide +kernel
theorem own_198 : am_own 198 = 12 := by decide +kernel
theorem ml_198 : am_ml 198 = 1 := by decide +kernel
theorem ret_198 : am_ret 198 = (some (.boolean)) := by decide +kernel
theorem ini_198 : am_ini 198 = false := by decide +kernel
theorem own_199 : am_own 199 = 12 := by decide +kernel
theorem ml_199 : am_ml 199 = 2 := by decide +kernel
theorem ret_199 : am_ret 199 = (some (.boolean)) := by decide +kernel
theorem ini_199 : am_ini 199 = false := by decide +kernel
theorem own_200 : am_own 200 = 12 := by decide +kernel
theorem ml_200 : am_ml 200 = 1 := by decide +kernel
theorem ret_200 : am_ret 200 = (some (.int)) := by decide +kernel
theorem ini_200 : am_ini 200 = false := by decide +kernel
theorem own_201 : am_own 201 = 12 := by decide +kernel
theorem ml_201 : am_ml 201 = 2 := by decide +kernel
theorem ret_201 : am_ret 201 = (some (.boolean)) := by decide +kernel
theorem ini_201 : am_ini 201 = false := by decide +kernel
theorem own_202 : am_own 202 = 12 := by decide +kernel
theorem ml_202 : am_ml 202 = 2 := by decide +kernel
theorem ret_202 : am_ret 202 = (some (.boolean)) := by decide +kernel
theorem ini_202 : am_ini 202 = false := by decide +kernel
theorem own_203 : am_own 203 = 12 := by decide +kernel
theorem ml_203 : am_ml 203 = 5 := by decide +kernel
theorem ret_203 : am_ret 203 = (some (.boolean)) := by decide +kernel
theorem ini_203 : am_ini 203 = false := by decide +kernel
theorem own_204 : am_own 204 = 12 := by decide +kernel
theorem ml_204 : am_ml 204 = 3 := by decide +kernel
theorem ret_204 : am_ret 204 = (some (.boolean)) := by decide +kernel
theorem ini_204 : am_ini 204 = false := by decide +kernel
theorem own_205 : am_own 205 = 12 := by decide +kernel
theorem ml_205 : am_ml 205 = 2 := by decide +kernel
theorem ret_205 : am_ret 205 = (some (.boolean)) := by decide +kernel
theorem ini_205 : am_ini 205 = false := by decide +kernel
theorem own_206 : am_own 206 = 12 := by decide +kernel
theorem ml_206 : am_ml 206 = 3 := by decide +kernel
theorem ret_206 : am_ret 206 = (some (.boolean)) := by decide +kernel
theorem ini_206 : am_ini 206 = false := by decide +kernel
theorem own_207 : am_own 207 = 12 := by decide +kernel
theorem ml_207 : am_ml 207 = 2 := by decide +kernel
theorem ret_207 : am_ret 207 = (some (.int)) := by decide +kernel
theorem ini_207 : am_ini 207 = false := by decide +kernel
theorem own_208 : am_own 208 = 12 := by decide +kernel
theorem ml_208 : am_ml 208 = 3 := by decide +kernel
theorem ret_208 : am_ret 208 = (some (.int)) := by decide +kernel
theorem ini_208 : am_ini 208 = false := by decide +kernel
theorem own_209 : am_own 209 = 12 := by decide +kernel
theorem ml_209 : am_ml 209 = 2 := by decide +kernel
theorem ret_209 : am_ret 209 = (some (.int)) := by decide +kernel
theorem ini_209 : am_ini 209 = false := by decide +kernel
theorem own_210 : am_own 210 = 12 := by decide +kernel
theorem ml_210 : am_ml 210 = 3 := by decide +kernel
theorem ret_210 : am_ret 210 = none := by decide +kernel
theorem ini_210 : am_ini 210 = false := by decide +kernel
theorem own_211 : am_own 211 = 12 := by decide +kernel
theorem ml_211 : am_ml 211 = 3 := by decide +kernel
theorem ret_211 : am_ret 211 = (some (.int)) := by decide +kernel
theorem ini_211 : am_ini 211 = false := by decide +kernel
theorem own_212 : am_own 212 = 12 := by decide +kernel
theorem ml_212 : am_ml 212 = 4 := by decide +kernel
theorem ret_212 : am_ret 212 = (some (.int)) := by decide +kernel
theorem ini_212 : am_ini 212 = false := by decide +kernel
theorem own_213 : am_own 213 = 12 := by decide +kernel
theorem ml_213 : am_ml 213 = 3 := by decide +kernel
theorem ret_213 : am_ret 213 = (some (.int)) := by decide +kernel
theorem ini_213 : am_ini 213 = false := by decide +kernel
theorem own_214 : am_own 214 = 12 := by decide +kernel
theorem ml_214 : am_ml 214 = 4 := by decide +kernel
theorem ret_214 : am_ret 214 = (some (.int)) := by decide +kernel
theorem ini_214 : am_ini 214 = false := by decide +kernel
theorem own_215 : am_own 215 = 12 := by decide +kernel
theorem ml_215 : am_ml 215 = 2 := by decide +kernel
theorem ret_215 : am_ret 215 = (some (.int)) := by decide +kernel
theorem ini_215 : am_ini 215 = false := by decide +kernel
theorem own_216 : am_own 216 = 12 := by decide +kernel
theorem ml_216 : am_ml 216 = 2 := by decide +kernel
theorem ret_216 : am_ret 216 = (some (.int)) := by decide +kernel
theorem ini_216 : am_ini 216 = false := by decide +kernel
theorem own_217 : am_own 217 = 12 := by decide +kernel
theorem ml_217 : am_ml 217 = 2 := by decide +kernel
theorem ret_217 : am_ret 217 = (some (.int)) := by decide +kernel
theorem ini_217 : am_ini 217 = false := by decide +kernel
theorem own_218 : am_own 218 = 12 := by decide +kernel
theorem ml_218 : am_ml 218 = 2 := by decide +kernel
theorem ret_218 : am_ret 218 = (some (.int)) := by decide +kernel
theorem ini_218 : am_ini 218 = false := by decide +kernel
theorem own_219 : am_own 219 = 12 := by decide +kernel
theorem ml_219 : am_ml 219 = 2 := by decide +kernel
theorem ret_219 : am_ret 219 = (some (.boolean)) := by decide +kernel
theorem ini_219 : am_ini 219 = false := by decide +kernel
theorem own_220 : am_own 220 = 12 := by decide +kernel
theorem ml_220 : am_ml 220 = 3 := by decide +kernel
theorem ret_220 : am_ret 220 = (some (.int)) := by decide +kernel
theorem ini_220 : am_ini 220 = false := by decide +kernel
theorem own_221 : am_own 221 = 12 := by decide +kernel
theorem ml_221 : am_ml 221 = 3 := by decide +kernel
theorem ret_221 : am_ret 221 = (some (.int)) := by decide +kernel
theorem ini_221 : am_ini 221 = false := by decide +kernel
theorem own_222 : am_own 222 = 12 := by decide +kernel
theorem ml_222 : am_ml 222 = 3 := by decide +kernel
theorem ret_222 : am_ret 222 = (some (.int)) := by decide +kernel
theorem ini_222 : am_ini 222 = false := by decide +kernel
theorem own_223 : am_own 223 = 12 := by decide +kernel
theorem ml_223 : am_ml 223 = 4 := by decide +kernel
theorem ret_223 : am_ret 223 = (some (.int)) := by decide +kernel
theorem ini_223 : am_ini 223 = false := by decide +kernel
theorem own_224 : am_own 224 = 12 := by decide +kernel
theorem ml_224 : am_ml 224 = 3 := by decide +kernel
theorem ret_224 : am_ret 224 = none := by decide +kernel
theorem ini_224 : am_ini 224 = false := by decide +kernel
theorem own_225 : am_own 225 = 12 := by decide +kernel
theorem ml_225 : am_ml 225 = 3 := by decide +kernel
theorem ret_225 : am_ret 225 = (some (.int)) := by decide +kernel
theorem ini_225 : am_ini 225 = false := by decide +kernel
theorem own_226 : am_own 226 = 12 := by decide +kernel
theorem ml_226 : am_ml 226 = 3 := by decide +kernel
theorem ret_226 : am_ret 226 = (some (.int)) := by decide +kernel
theorem ini_226 : am_ini 226 = false := by decide +kernel
theorem own_227 : am_own 227 = 12 := by decide +kernel
theorem ml_227 : am_ml 227 = 3 := by decide +kernel
theorem ret_227 : am_ret 227 = (some (.int)) := by decide +kernel
theorem ini_227 : am_ini 227 = false := by decide +kernel
theorem own_228 : am_own 228 = 12 := by decide +kernel
theorem ml_228 : am_ml 228 = 2 := by decide +kernel
theorem ret_228 : am_ret 228 = (some (.boolean)) := by decide +kernel
theorem ini_228 : am_ini 228 = false := by decide +kernel
theorem own_229 : am_own 229 = 12 := by decide +kernel
theorem ml_229 : am_ml 229 = 1 := by decide +kernel
theorem ret_229 : am_ret 229 = (some (.int)) := by decide +kernel
theorem ini_229 : am_ini 229 = false := by decide +kernel
theorem own_230 : am_own 230 = 12 := by decide +kernel
theorem ml_230 : am_ml 230 = 2 := by decide +kernel
theorem ret_230 : am_ret 230 = (some (.int)) := by decide +kernel
theorem ini_230 : am_ini 230 = false := by decide +kernel
theorem own_231 : am_own 231 = 12 := by decide +kernel
theorem ml_231 : am_ml 231 = 4 := by decide +kernel
theorem ret_231 : am_ret 231 = (some (.int)) := by decide +kernel
theorem ini_231 : am_ini 231 = false := by decide +kernel
theorem own_232 : am_own 232 = 12 := by decide +kernel
theorem ml_232 : am_ml 232 = 1 := by decide +kernel
theorem ret_232 : am_ret 232 = (some (.long)) := by decide +kernel
theorem ini_232 : am_ini 232 = false := by decide +kernel
theorem own_233 : am_own 233 = 12 := by decide +kernel
theorem ml_233 : am_ml 233 = 4 := by decide +kernel
theorem ret_233 : am_ret 233 = (some (.long)) := by decide +kernel
theorem ini_233 : am_ini 233 = false := by decide +kernel
theorem own_234 : am_own 234 = 12 := by decide +kernel
theorem ml_234 : am_ml 234 = 3 := by decide +kernel
theorem ret_234 : am_ret 234 = (some (.long)) := by decide +kernel
theorem ini_234 : am_ini 234 = false := by decide +kernel
theorem own_235 : am_own 235 = 12 := by decide +kernel
theorem ml_235 : am_ml 235 = 8 := by decide +kernel
theorem ret_235 : am_ret 235 = none := by decide +kernel
theorem ini_235 : am_ini 235 = false := by decide +kernel
theorem own_236 : am_own 236 = 12 := by decide +kernel
theorem ml_236 : am_ml 236 = 10 := by decide +kernel
theorem ret_236 : am_ret 236 = (some (.long)) := by decide +kernel
theorem ini_236 : am_ini 236 = false := by decide +kernel
theorem own_237 : am_own 237 = 12 := by decide +kernel
theorem ml_237 : am_ml 237 = 1 := by decide +kernel
theorem ret_237 : am_ret 237 = (some (.int)) := by decide +kernel
theorem ini_237 : am_ini 237 = false := by decide +kernel
theorem own_238 : am_own 238 = 12 := by decide +kernel
theorem ml_238 : am_ml 238 = 7 := by decide +kernel
theorem ret_238 : am_ret 238 = (some (.int)) := by decide +kernel
theorem ini_238 : am_ini 238 = false := by decide +kernel
theorem own_239 : am_own 239 = 12 := by decide +kernel
theorem ml_239 : am_ml 239 = 1 := by decide +kernel
theorem ret_239 : am_ret 239 = (some (.long)) := by decide +kernel
theorem ini_239 : am_ini 239 = false := by decide +kernel
theorem own_240 : am_own 240 = 12 := by decide +kernel
theorem ml_240 : am_ml 240 = 2 := by decide +kernel
theorem ret_240 : am_ret 240 = none := by decide +kernel
theorem ini_240 : am_ini 240 = false := by decide +kernel
theorem own_241 : am_own 241 = 12 := by decide +kernel
theorem ml_241 : am_ml 241 = 5 := by decide +kernel
theorem ret_241 : am_ret 241 = (some (.long)) := by decide +kernel
theorem ini_241 : am_ini 241 = false := by decide +kernel
theorem own_242 : am_own 242 = 12 := by decide +kernel
theorem ml_242 : am_ml 242 = 8 := by decide +kernel
theorem ret_242 : am_ret 242 = (some (.long)) := by decide +kernel
theorem ini_242 : am_ini 242 = false := by decide +kernel
theorem own_243 : am_own 243 = 12 := by decide +kernel
theorem ml_243 : am_ml 243 = 8 := by decide +kernel
theorem ret_243 : am_ret 243 = (some (.long)) := by decide +kernel
theorem ini_243 : am_ini 243 = false := by decide +kernel
theorem own_244 : am_own 244 = 12 := by decide +kernel
theorem ml_244 : am_ml 244 = 5 := by decide +kernel
theorem ret_244 : am_ret 244 = (some (.long)) := by decide +kernel
theorem ini_244 : am_ini 244 = false := by decide +kernel
theorem own_245 : am_own 245 = 12 := by decide +kernel
theorem ml_245 : am_ml 245 = 5 := by decide +kernel
theorem ret_245 : am_ret 245 = (some (.long)) := by decide +kernel
theorem ini_245 : am_ini 245 = false := by decide +kernel
theorem own_246 : am_own 246 = 12 := by decide +kernel
theorem ml_246 : am_ml 246 = 1 := by decide +kernel
theorem ret_246 : am_ret 246 = (some (.int)) := by decide +kernel
theorem ini_246 : am_ini 246 = false := by decide +kernel
theorem own_247 : am_own 247 = 12 := by decide +kernel
theorem ml_247 : am_ml 247 = 3 := by decide +kernel
theorem ret_247 : am_ret 247 = (some (.int)) := by decide +kernel
theorem ini_247 : am_ini 247 = false := by decide +kernel
theorem own_248 : am_own 248 = 12 := by decide +kernel
theorem ml_248 : am_ml 248 = 1 := by decide +kernel
theorem ret_248 : am_ret 248 = (some (.long)) := by decide +kernel
theorem ini_248 : am_ini 248 = false := by decide +kernel
theorem own_249 : am_own 249 = 12 := by decide +kernel
theorem ml_249 : am_ml 249 = 1 := by decide +kernel
theorem ret_249 : am_ret 249 = (some (.long)) := by decide +kernel
theorem ini_249 : am_ini 249 = false := by decide +kernel
theorem own_250 : am_own 250 = 12 := by decide +kernel
theorem ml_250 : am_ml 250 = 1 := by decide +kernel
theorem ret_250 : am_ret 250 = (some (.long)) := by decide +kernel
theorem ini_250 : am_ini 250 = false := by decide +kernel
theorem own_251 : am_own 251 = 12 := by decide +kernel
theorem ml_251 : am_ml 251 = 1 := by decide +kernel
theorem ret_251 : am_ret 251 = (some (.int)) := by decide +kernel
theorem ini_251 : am_ini 251 = false := by decide +kernel
theorem own_252 : am_own 252 = 12 := by decide +kernel
theorem ml_252 : am_ml 252 = 7 := by decide +kernel
theorem ret_252 : am_ret 252 = (some (.int)) := by decide +kernel
theorem ini_252 : am_ini 252 = false := by decide +kernel
theorem own_253 : am_own 253 = 12 := by decide +kernel
theorem ml_253 : am_ml 253 = 3 := by decide +kernel
theorem ret_253 : am_ret 253 = (some (.long)) := by decide +kernel
theorem ini_253 : am_ini 253 = false := by decide +kernel
theorem own_254 : am_own 254 = 12 := by decide +kernel
theorem ml_254 : am_ml 254 = 12 := by decide +kernel
theorem ret_254 : am_ret 254 = (some (.long)) := by decide +kernel
theorem ini_254 : am_ini 254 = false := by decide +kernel
theorem own_255 : am_own 255 = 12 := by decide +kernel
theorem ml_255 : am_ml 255 = 3 := by decide +kernel
theorem ret_255 : am_ret 255 = (some (.boolean)) := by decide +kernel
theorem ini_255 : am_ini 255 = false := by decide +kernel
theorem own_256 : am_own 256 = 12 := by decide +kernel
theorem ml_256 : am_ml 256 = 5 := by decide +kernel
theorem ret_256 : am_ret 256 = (some (.int)) := by decide +kernel
theorem ini_256 : am_ini 256 = false := by decide +kernel
theorem own_257 : am_own 257 = 12 := by decide +kernel
theorem ml_257 : am_ml 257 = 5 := by decide +kernel
theorem ret_257 : am_ret 257 = (some (.boolean)) := by decide +kernel
theorem ini_257 : am_ini 257 = false := by decide +kernel
theorem own_258 : am_own 258 = 12 := by decide +kernel
theorem ml_258 : am_ml 258 = 10 := by decide +kernel
theorem ret_258 : am_ret 258 = (some (.int)) := by decide +kernel
theorem ini_258 : am_ini 258 = false := by decide +kernel
theorem own_259 : am_own 259 = 12 := by decide +kernel
theorem ml_259 : am_ml 259 = 2 := by decide +kernel
theorem ret_259 : am_ret 259 = none := by decide +kernel
theorem ini_259 : am_ini 259 = false := by decide +kernel
theorem own_260 : am_own 260 = 12 := by decide +kernel
theorem ml_260 : am_ml 260 = 2 := by decide +kernel
theorem ret_260 : am_ret 260 = none := by decide +kernel
theorem ini_260 : am_ini 260 = false := by decide +kernel
theorem own_261 : am_own 261 = 12 := by decide +kernel
theorem ml_261 : am_ml 261 = 5 := by decide +kernel
theorem ret_261 : am_ret 261 = (some (.long)) := by decide +kernel
theorem ini_261 : am_ini 261 = false := by decide +kernel
theorem own_262 : am_own 262 = 12 := by decide +kernel
theorem ml_262 : am_ml 262 = 10 := by decide +kernel
theorem ret_262 : am_ret 262 = (some (.long)) := by decide +kernel
theorem ini_262 : am_ini 262 = false := by decide +kernel
theorem own_263 : am_own 263 = 12 := by decide +kernel
theorem ml_263 : am_ml 263 = 1 := by decide +kernel
theorem ret_263 : am_ret 263 = (some (.int)) := by decide +kernel
theorem ini_263 : am_ini 263 = false := by decide +kernel
theorem own_264 : am_own 264 = 12 := by decide +kernel
theorem ml_264 : am_ml 264 = 6 := by decide +kernel
theorem ret_264 : am_ret 264 = none := by decide +kernel
theorem ini_264 : am_ini 264 = false := by decide +kernel
theorem own_265 : am_own 265 = 12 := by decide +kernel
theorem ml_265 : am_ml 265 = 5 := by decide +kernel
theorem ret_265 : am_ret 265 = (some (.long)) := by decide +kernel
theorem ini_265 : am_ini 265 = false := by decide +kernel
theorem own_266 : am_own 266 = 12 := by decide +kernel
theorem ml_266 : am_ml 266 = 6 := by decide +kernel
theorem ret_266 : am_ret 266 = (some (.long)) := by decide +kernel
theorem ini_266 : am_ini 266 = false := by decide +kernel
theorem own_267 : am_own 267 = 12 := by decide +kernel
theorem ml_267 : am_ml 267 = 5 := by decide +kernel
theorem ret_267 : am_ret 267 = (some (.int)) := by decide +kernel
theorem ini_267 : am_ini 267 = false := by decide +kernel
theorem own_268 : am_own 268 = 12 := by decide +kernel
theorem ml_268 : am_ml 268 = 2 := by decide +kernel
theorem ret_268 : am_ret 268 = (some (.int)) := by decide +kernel
theorem ini_268 : am_ini 268 = false := by decide +kernel
theorem own_269 : am_own 269 = 12 := by decide +kernel
theorem ml_269 : am_ml 269 = 2 := by decide +kernel
theorem ret_269 : am_ret 269 = (some (.int)) := by decide +kernel
theorem ini_269 : am_ini 269 = false := by decide +kernel
theorem own_270 : am_own 270 = 12 := by decide +kernel
theorem ml_270 : am_ml 270 = 2 := by decide +kernel
theorem ret_270 : am_ret 270 = (some (.int)) := by decide +kernel
theorem ini_270 : am_ini 270 = false := by decide +kernel
theorem own_271 : am_own 271 = 12 := by decide +kernel
theorem ml_271 : am_ml 271 = 4 := by decide +kernel
theorem ret_271 : am_ret 271 = (some (.int)) := by decide +kernel
theorem ini_271 : am_ini 271 = false := by decide +kernel
theorem own_272 : am_own 272 = 12 := by decide +kernel
theorem ml_272 : am_ml 272 = 4 := by decide +kernel
theorem ret_272 : am_ret 272 = (some (.int)) := by decide +kernel
theorem ini_272 : am_ini 272 = false := by decide +kernel
theorem own_273 : am_own 273 = 12 := by decide +kernel
theorem ml_273 : am_ml 273 = 3 := by decide +kernel
theorem ret_273 : am_ret 273 = (some (.int)) := by decide +kernel
theorem ini_273 : am_ini 273 = false := by decide +kernel
theorem own_274 : am_own 274 = 12 := by decide +kernel
theorem ml_274 : am_ml 274 = 5 := by decide +kernel
theorem ret_274 : am_ret 274 = (some (.int)) := by decide +kernel
theorem ini_274 : am_ini 274 = false := by decide +kernel
theorem own_275 : am_own 275 = 12 := by decide +kernel
theorem ml_275 : am_ml 275 = 5 := by decide +kernel
theorem ret_275 : am_ret 275 = (some (.int)) := by decide +kernel
theorem ini_275 : am_ini 275 = false := by decide +kernel
theorem own_276 : am_own 276 = 12 := by decide +kernel
theorem ml_276 : am_ml 276 = 3 := by decide +kernel
theorem ret_276 : am_ret 276 = (some (.long)) := by decide +kernel
theorem ini_276 : am_ini 276 = false := by decide +kernel
theorem own_277 : am_own 277 = 12 := by decide +kernel
theorem ml_277 : am_ml 277 = 8 := by decide +kernel
theorem ret_277 : am_ret 277 = (some (.int)) := by decide +kernel
theorem ini_277 : am_ini 277 = false := by decide +kernel
theorem own_278 : am_own 278 = 12 := by decide +kernel
theorem ml_278 : am_ml 278 = 3 := by decide +kernel
theorem ret_278 : am_ret 278 = (some (.int)) := by decide +kernel
theorem ini_278 : am_ini 278 = false := by decide +kernel
theorem own_279 : am_own 279 = 12 := by decide +kernel
theorem ml_279 : am_ml 279 = 2 := by decide +kernel
theorem ret_279 : am_ret 279 = (some (.int)) := by decide +kernel
theorem ini_279 : am_ini 279 = false := by decide +kernel
theorem own_280 : am_own 280 = 12 := by decide +kernel
theorem ml_280 : am_ml 280 = 3 := by decide +kernel
theorem ret_280 : am_ret 280 = (some (.int)) := by decide +kernel
theorem ini_280 : am_ini 280 = false := by decide +kernel
theorem own_281 : am_own 281 = 13 := by decide +kernel
theorem ml_281 : am_ml 281 = 8 := by decide +kernel
theorem ret_281 : am_ret 281 = (some (.boolean)) := by decide +kernel
theorem ini_281 : am_ini 281 = false := by decide +kernel
section MU
variable {X : am_X} {rec : am_O} {d t pc nx tg : Nat} {lv : am_L} {rest : List Value} {σ : am_S}
theorem fU_0 {x0 : Nat} : am_f X (d + 1) 0 [.ref x0] σ = am_I X (am_f X d) 0 0 [some (.ref x0)] [] σ := am_fU ml_0 (by show 1 ≤ 1; decide)
theorem fU_1 {x0 : Nat} : am_f X (d + 1) 1 [.ref x0] σ = am_I X (am_f X d) 1 0 [some (.ref x0)] [] σ := am_fU ml_1 (by show 1 ≤ 1; decide)
theorem fU_2 {x0 : Nat} : am_f X (d + 1) 2 [.ref x0] σ = am_I X (am_f X d) 2 0 [some (.ref x0)] [] σ := am_fU ml_2 (by show 1 ≤ 1; decide)
theorem fU_3 {x0 : Nat} : am_f X (d + 1) 3 [.ref x0] σ = am_I X (am_f X d) 3 0 [some (.ref x0)] [] σ := am_fU ml_3 (by show 1 ≤ 1; decide)
theorem fU_4 {x0 : Nat} {x1 : Nat} : am_f X (d + 1) 4 [.ref x0, .ref x1] σ = am_I X (am_f X d) 4 0 [some (.ref x0), some (.ref x1)] [] σ := am_fU ml_4 (by show 2 ≤ 2; decide)
theorem fU_5 {x0 : Nat} {x1 : Nat} : am_f X (d + 1) 5 [.ref x0, .ref x1] σ = am_I X (am_f X d) 5 0 [some (.ref x0), some (.ref x1)] [] σ := am_fU ml_5 (by show 2 ≤ 2; decide)
theorem fU_6 {x0 : Nat} {x1 : Int32} : am_f X (d + 1) 6 [.ref x0, .int x1] σ = am_I X (am_f X d) 6 0 [some (.ref x0), some (.int x1), none, none] [] σ := am_fU ml_6 (by show 2 ≤ 4; decide)
theorem fU_7 {x0 : Int32} : am_f X (d + 1) 7 [.int x0] σ = am_I X (am_f X d) 7 0 [some (.int x0)] [] σ := am_fU ml_7 (by show 1 ≤ 1; decide)
theorem fU_8 {x0 : Nat} {x1 : Int32} : am_f X (d + 1) 8 [.ref x0, .int x1] σ = am_I X (am_f X d) 8 0 [some (.ref x0), some (.int x1)] [] σ := am_fU ml_8 (by show 2 ≤ 2; decide)
theorem fU_9 {x0 : Nat} {x1 : Nat} {x2 : Int32} {x3 : Nat} : am_f X (d + 1) 9 [.ref x0, .ref x1, .int x2, .ref x3] σ = am_I X (am_f X d) 9 0 [some (.ref x0), some (.ref x1), some (.int x2), some (.ref x3), none, none] [] σ := am_fU ml_9 (by show 4 ≤ 6; decide)
theorem fU_10 {x0 : Nat} : am_f X (d + 1) 10 [.ref x0] σ = am_I X (am_f X d) 10 0 [some (.ref x0), none] [] σ := am_fU ml_10 (by show 1 ≤ 2; decide)
theorem fU_11 {x0 : Nat} : am_f X (d + 1) 11 [.ref x0] σ = am_I X (am_f X d) 11 0 [some (.ref x0)] [] σ := am_fU ml_11 (by show 1 ≤ 1; decide)
theorem fU_12 {x0 : Nat} : am_f X (d + 1) 12 [.ref x0] σ = am_I X (am_f X d) 12 0 [some (.ref x0)] [] σ := am_fU ml_12 (by show 1 ≤ 1; decide)
theorem fU_13 {x0 : Nat} : am_f X (d + 1) 13 [.ref x0] σ = am_I X (am_f X d) 13 0 [some (.ref x0), none, none] [] σ := am_fU ml_13 (by show 1 ≤ 3; decide)
theorem fU_14 {x0 : Int32} : am_f X (d + 1) 14 [.int x0] σ = am_I X (am_f X d) 14 0 [some (.int x0)] [] σ := am_fU ml_14 (by show 1 ≤ 1; decide)
theorem fU_15 {x0 : Nat} {x1 : Int32} : am_f X (d + 1) 15 [.ref x0, .int x1] σ = am_I X (am_f X d) 15 0 [some (.ref x0), some (.int x1)] [] σ := am_fU ml_15 (by show 2 ≤ 2; decide)
theorem fU_16 {x0 : Nat} : am_f X (d + 1) 16 [.ref x0] σ = am_I X (am_f X d) 16 0 [some (.ref x0), none, none, none] [] σ := am_fU ml_16 (by show 1 ≤ 4; decide)
theorem fU_17 {x0 : Nat} : am_f X (d + 1) 17 [.ref x0] σ = am_I X (am_f X d) 17 0 [some (.ref x0)] [] σ := am_fU ml_17 (by show 1 ≤ 1; decide)
theorem fU_18 {x0 : Nat} : am_f X (d + 1) 18 [.ref x0] σ = am_I X (am_f X d) 18 0 [some (.ref x0), none, none] [] σ := am_fU ml_18 (by show 1 ≤ 3; decide)
theorem fU_19 {x0 : Nat} {x1 : Nat} : am_f X (d + 1) 19 [.ref x0, .ref x1] σ = am_I X (am_f X d) 19 0 [some (.ref x0), some (.ref x1), none] [] σ := am_fU ml_19 (by show 2 ≤ 3; decide)
theorem fU_20 {x0 : Nat} : am_f X (d + 1) 20 [.ref x0] σ = am_I X (am_f X d) 20 0 [some (.ref x0), none, none, none] [] σ := am_fU ml_20 (by show 1 ≤ 4; decide)
theorem fU_21 {x0 : Nat} {x1 : Int32} : am_f X (d + 1) 21 [.ref x0, .int x1] σ = am_I X (am_f X d) 21 0 [some (.ref x0), some (.int x1), none, none] [] σ := am_fU ml_21 (by show 2 ≤ 4; decide)
theorem fU_22 {x0 : Nat} : am_f X (d + 1) 22 [.ref x0] σ = am_I X (am_f X d) 22 0 [some (.ref x0)] [] σ := am_fU ml_22 (by show 1 ≤ 1; decide)
theorem fU_23 {x0 : Nat} {x1 : Int32} : am_f X (d + 1) 23 [.ref x0, .int x1] σ = am_I X (am_f X d) 23 0 [some (.ref x0), some (.int x1), none, none] [] σ := am_fU ml_23 (by show 2 ≤ 4; decide)
theorem fU_24 {x0 : Nat} {x1 : Int32} : am_f X (d + 1) 24 [.ref x0, .int x1] σ = am_I X (am_f X d) 24 0 [some (.ref x0), some (.int x1), none] [] σ := am_fU ml_24 (by show 2 ≤ 3; decide)
theorem fU_25 {x0 : Nat} {x1 : Int32} {x2 : Int32} : am_f X (d + 1) 25 [.ref x0, .int x1, .int x2] σ = am_I X (am_f X d) 25 0 [some (.ref x0), some (.int x1), some (.int x2), none, none, none, none, none, none, none, none, none, none] [] σ := am_fU ml_25 (by show 3 ≤ 13; decide)
theorem fU_26 {x0 : Int64} {x1 : Int64} : am_f X (d + 1) 26 [.long x0, .long x1] σ = am_I X (am_f X d) 26 0 [some (.long x0), none, some (.long x1), none, none, none, none, none, none, none, none] [] σ := am_fU ml_26 (by show 4 ≤ 11; decide)
theorem fU_27 {x0 : Nat} : am_f X (d + 1) 27 [.ref x0] σ = am_I X (am_f X d) 27 0 [some (.ref x0), none, none, none] [] σ := am_fU ml_27 (by show 1 ≤ 4; decide)
theorem fU_28 {x0 : Nat} : am_f X (d + 1) 28 [.ref x0] σ = am_I X (am_f X d) 28 0 [some (.ref x0)] [] σ := am_fU ml_28 (by show 1 ≤ 1; decide)
theorem fU_29 {x0 : Nat} : am_f X (d + 1) 29 [.ref x0] σ = am_I X (am_f X d) 29 0 [some (.ref x0), none] [] σ := am_fU ml_29 (by show 1 ≤ 2; decide)
theorem fU_30 {x0 : Nat} {x1 : Int32} : am_f X (d + 1) 30 [.ref x0, .int x1] σ = am_I X (am_f X d) 30 0 [some (.ref x0), some (.int x1), none, none] [] σ := am_fU ml_30 (by show 2 ≤ 4; decide)
theorem fU_31 {x0 : Nat} : am_f X (d + 1) 31 [.ref x0] σ = am_I X (am_f X d) 31 0 [some (.ref x0)] [] σ := am_fU ml_31 (by show 1 ≤ 1; decide)
theorem fU_32 {x0 : Nat} {x1 : Int32} : am_f X (d + 1) 32 [.ref x0, .int x1] σ = am_I X (am_f X d) 32 0 [some (.ref x0), some (.int x1)] [] σ := am_fU ml_32 (by show 2 ≤ 2; decide)
theorem fU_33 {x0 : Nat} : am_f X (d + 1) 33 [.ref x0] σ = am_I X (am_f X d) 33 0 [some (.ref x0)] [] σ := am_fU ml_33 (by show 1 ≤ 1; decide)
theorem fU_34 {x0 : Nat} : am_f X (d + 1) 34 [.ref x0] σ = am_I X (am_f X d) 34 0 [some (.ref x0)] [] σ := am_fU ml_34 (by show 1 ≤ 1; decide)
theorem fU_35 {x0 : Nat} : am_f X (d + 1) 35 [.ref x0] σ = am_I X (am_f X d) 35 0 [some (.ref x0)] [] σ := am_fU ml_35 (by show 1 ≤ 1; decide)
theorem fU_36 {x0 : Nat} : am_f X (d + 1) 36 [.ref x0] σ = am_I X (am_f X d) 36 0 [some (.ref x0), none, none, none] [] σ := am_fU ml_36 (by show 1 ≤ 4; decide)
theorem fU_37 {x0 : Nat} {x1 : Int32} : am_f X (d + 1) 37 [.ref x0, .int x1] σ = am_I X (am_f X d) 37 0 [some (.ref x0), some (.int x1), none] [] σ := am_fU ml_37 (by show 2 ≤ 3; decide)
theorem fU_38 {x0 : Nat} {x1 : Int32} {x2 : Int32} {x3 : Int32} {x4 : Nat} {x5 : Nat} {x6 : Int32} : am_f X (d + 1) 38 [.ref x0, .int x1, .int x2, .int x3, .ref x4, .ref x5, .int x6] σ = am_I X (am_f X d) 38 0 [some (.ref x0), some (.int x1), some (.int x2), some (.int x3), some (.ref x4), some (.ref x5), some (.int x6)] [] σ := am_fU ml_38 (by show 7 ≤ 7; decide)
theorem fU_39 {x0 : Nat} {x1 : Int32} {x2 : Int32} {x3 : Int32} {x4 : Nat} {x5 : Nat} : am_f X (d + 1) 39 [.ref x0, .int x1, .int x2, .int x3, .ref x4, .ref x5] σ = am_I X (am_f X d) 39 0 [some (.ref x0), some (.int x1), some (.int x2), some (.int x3), some (.ref x4), some (.ref x5)] [] σ := am_fU ml_39 (by show 6 ≤ 6; decide)
theorem fU_40 {x0 : Nat} {x1 : Int32} {x2 : Int32} {x3 : Int32} {x4 : Nat} {x5 : Nat} : am_f X (d + 1) 40 [.ref x0, .int x1, .int x2, .int x3, .ref x4, .ref x5] σ = am_I X (am_f X d) 40 0 [some (.ref x0), some (.int x1), some (.int x2), some (.int x3), some (.ref x4), some (.ref x5)] [] σ := am_fU ml_40 (by show 6 ≤ 6; decide)
theorem fU_41 {x0 : Nat} {x1 : Int32} {x2 : Int32} {x3 : Int32} {x4 : Nat} {x5 : Nat} {x6 : Int32} : am_f X (d + 1) 41 [.ref x0, .int x1, .int x2, .int x3, .ref x4, .ref x5, .int x6] σ = am_I X (am_f X d) 41 0 [some (.ref x0), some (.int x1), some (.int x2), some (.int x3), some (.ref x4), some (.ref x5), some (.int x6)] [] σ := am_fU ml_41 (by show 7 ≤ 7; decide)
theorem fU_42 {x0 : Nat} {x1 : Int32} {x2 : Int32} {x3 : Int32} {x4 : Nat} {x5 : Nat} {x6 : Int32} {x7 : Nat} : am_f X (d + 1) 42 [.ref x0, .int x1, .int x2, .int x3, .ref x4, .ref x5, .int x6, .ref x7] σ = am_I X (am_f X d) 42 0 [some (.ref x0), some (.int x1), some (.int x2), some (.int x3), some (.ref x4), some (.ref x5), some (.int x6), some (.ref x7)] [] σ := am_fU ml_42 (by show 8 ≤ 8; decide)
theorem fU_43 {x0 : Nat} {x1 : Int32} {x2 : Int32} {x3 : Int32} {x4 : Nat} {x5 : Nat} {x6 : Int32} : am_f X (d + 1) 43 [.ref x0, .int x1, .int x2, .int x3, .ref x4, .ref x5, .int x6] σ = am_I X (am_f X d) 43 0 [some (.ref x0), some (.int x1), some (.int x2), some (.int x3), some (.ref x4), some (.ref x5), some (.int x6)] [] σ := am_fU ml_43 (by show 7 ≤ 7; decide)
theorem fU_44 {x0 : Nat} {x1 : Nat} : am_f X (d + 1) 44 [.ref x0, .ref x1] σ = am_I X (am_f X d) 44 0 [some (.ref x0), some (.ref x1)] [] σ := am_fU ml_44 (by show 2 ≤ 2; decide)
theorem fU_45 {x0 : Nat} : am_f X (d + 1) 45 [.ref x0] σ = am_I X (am_f X d) 45 0 [some (.ref x0)] [] σ := am_fU ml_45 (by show 1 ≤ 1; decide)
theorem fU_46 {x0 : Nat} : am_f X (d + 1) 46 [.ref x0] σ = am_I X (am_f X d) 46 0 [some (.ref x0)] [] σ := am_fU ml_46 (by show 1 ≤ 1; decide)
theorem fU_47 {x0 : Nat} {x1 : Int32} {x2 : Int32} : am_f X (d + 1) 47 [.ref x0, .int x1, .int x2] σ = am_I X (am_f X d) 47 0 [some (.ref x0), some (.int x1), some (.int x2), none] [] σ := am_fU ml_47 (by show 3 ≤ 4; decide)
theorem fU_48 {x0 : Nat} : am_f X (d + 1) 48 [.ref x0] σ = am_I X (am_f X d) 48 0 [some (.ref x0)] [] σ := am_fU ml_48 (by show 1 ≤ 1; decide)
theorem fU_49 {x0 : Nat} : am_f X (d + 1) 49 [.ref x0] σ = am_I X (am_f X d) 49 0 [some (.ref x0)] [] σ := am_fU ml_49 (by show 1 ≤ 1; decide)
theorem fU_50 {x0 : Nat} : am_f X (d + 1) 50 [.ref x0] σ = am_I X (am_f X d) 50 0 [some (.ref x0)] [] σ := am_fU ml_50 (by show 1 ≤ 1; decide)
theorem fU_51 {x0 : Nat} : am_f X (d + 1) 51 [.ref x0] σ = am_I X (am_f X d) 51 0 [some (.ref x0)] [] σ := am_fU ml_51 (by show 1 ≤ 1; decide)
theorem fU_52 {x0 : Nat} : am_f X (d + 1) 52 [.ref x0] σ = am_I X (am_f X d) 52 0 [some (.ref x0)] [] σ := am_fU ml_52 (by show 1 ≤ 1; decide)
theorem fU_53 {x0 : Nat} : am_f X (d + 1) 53 [.ref x0] σ = am_I X (am_f X d) 53 0 [some (.ref x0)] [] σ := am_fU ml_53 (by show 1 ≤ 1; decide)
theorem fU_54 {x0 : Nat} : am_f X (d + 1) 54 [.ref x0] σ = am_I X (am_f X d) 54 0 [some (.ref x0)] [] σ := am_fU ml_54 (by show 1 ≤ 1; decide)
theorem fU_55 {x0 : Nat} : am_f X (d + 1) 55 [.ref x0] σ = am_I X (am_f X d) 55 0 [some (.ref x0)] [] σ := am_fU ml_55 (by show 1 ≤ 1; decide)
theorem fU_56 {x0 : Nat} : am_f X (d + 1) 56 [.ref x0] σ = am_I X (am_f X d) 56 0 [some (.ref x0)] [] σ := am_fU ml_56 (by show 1 ≤ 1; decide)
theorem fU_57 {x0 : Nat} : am_f X (d + 1) 57 [.ref x0] σ = am_I X (am_f X d) 57 0 [some (.ref x0)] [] σ := am_fU ml_57 (by show 1 ≤ 1; decide)
theorem fU_58 {x0 : Nat} {x1 : Int32} {x2 : Int32} {x3 : Int32} : am_f X (d + 1) 58 [.ref x0, .int x1, .int x2, .int x3] σ = am_I X (am_f X d) 58 0 [some (.ref x0), some (.int x1), some (.int x2), some (.int x3)] [] σ := am_fU ml_58 (by show 4 ≤ 4; decide)
theorem fU_59 {x0 : Nat} {x1 : Int32} {x2 : Int32} : am_f X (d + 1) 59 [.ref x0, .int x1, .int x2] σ = am_I X (am_f X d) 59 0 [some (.ref x0), some (.int x1), some (.int x2)] [] σ := am_fU ml_59 (by show 3 ≤ 3; decide)
theorem fU_60 {x0 : Nat} {x1 : Int32} {x2 : Int32} : am_f X (d + 1) 60 [.ref x0, .int x1, .int x2] σ = am_I X (am_f X d) 60 0 [some (.ref x0), some (.int x1), some (.int x2), none] [] σ := am_fU ml_60 (by show 3 ≤ 4; decide)
theorem fU_61 {x0 : Nat} {x1 : Int32} {x2 : Int32} : am_f X (d + 1) 61 [.ref x0, .int x1, .int x2] σ = am_I X (am_f X d) 61 0 [some (.ref x0), some (.int x1), some (.int x2)] [] σ := am_fU ml_61 (by show 3 ≤ 3; decide)
theorem fU_62 {x0 : Nat} {x1 : Int32} : am_f X (d + 1) 62 [.ref x0, .int x1] σ = am_I X (am_f X d) 62 0 [some (.ref x0), some (.int x1)] [] σ := am_fU ml_62 (by show 2 ≤ 2; decide)
theorem fU_63 {x0 : Nat} {x1 : Int32} : am_f X (d + 1) 63 [.ref x0, .int x1] σ = am_I X (am_f X d) 63 0 [some (.ref x0), some (.int x1)] [] σ := am_fU ml_63 (by show 2 ≤ 2; decide)
theorem fU_64 {x0 : Nat} {x1 : Int32} : am_f X (d + 1) 64 [.ref x0, .int x1] σ = am_I X (am_f X d) 64 0 [some (.ref x0), some (.int x1)] [] σ := am_fU ml_64 (by show 2 ≤ 2; decide)
theorem fU_65 {x0 : Nat} {x1 : Int32} : am_f X (d + 1) 65 [.ref x0, .int x1] σ = am_I X (am_f X d) 65 0 [some (.ref x0), some (.int x1)] [] σ := am_fU ml_65 (by show 2 ≤ 2; decide)
theorem fU_66 {x0 : Nat} {x1 : Int32} : am_f X (d + 1) 66 [.ref x0, .int x1] σ = am_I X (am_f X d) 66 0 [some (.ref x0), some (.int x1)] [] σ := am_fU ml_66 (by show 2 ≤ 2; decide)
theorem fU_67 {x0 : Nat} {x1 : Int32} : am_f X (d + 1) 67 [.ref x0, .int x1] σ = am_I X (am_f X d) 67 0 [some (.ref x0), some (.int x1)] [] σ := am_fU ml_67 (by show 2 ≤ 2; decide)
theorem fU_68 {x0 : Nat} {x1 : Int32} : am_f X (d + 1) 68 [.ref x0, .int x1] σ = am_I X (am_f X d) 68 0 [some (.ref x0), some (.int x1), none] [] σ := am_fU ml_68 (by show 2 ≤ 3; decide)
theorem fU_69 {x0 : Nat} {x1 : Int32} : am_f X (d + 1) 69 [.ref x0, .int x1] σ = am_I X (am_f X d) 69 0 [some (.ref x0), some (.int x1)] [] σ := am_fU ml_69 (by show 2 ≤ 2; decide)
theorem fU_70 {x0 : Nat} {x1 : Int32} : am_f X (d + 1) 70 [.ref x0, .int x1] σ = am_I X (am_f X d) 70 0 [some (.ref x0), some (.int x1)] [] σ := am_fU ml_70 (by show 2 ≤ 2; decide)
theorem fU_71 {x0 : Nat} {x1 : Nat} : am_f X (d + 1) 71 [.ref x0, .ref x1] σ = am_I X (am_f X d) 71 0 [some (.ref x0), some (.ref x1), none, none] [] σ := am_fU ml_71 (by show 2 ≤ 4; decide)
theorem fU_72 {x0 : Nat} {x1 : Int32} : am_f X (d + 1) 72 [.ref x0, .int x1] σ = am_I X (am_f X d) 72 0 [some (.ref x0), some (.int x1)] [] σ := am_fU ml_72 (by show 2 ≤ 2; decide)
theorem fU_73 {x0 : Nat} {x1 : Int32} {x2 : Int32} {x3 : Int32} : am_f X (d + 1) 73 [.ref x0, .int x1, .int x2, .int x3] σ = am_I X (am_f X d) 73 0 [some (.ref x0), some (.int x1), some (.int x2), some (.int x3), none] [] σ := am_fU ml_73 (by show 4 ≤ 5; decide)
theorem fU_74 {x0 : Nat} {x1 : Int32} {x2 : Int32} {x3 : Int32} : am_f X (d + 1) 74 [.ref x0, .int x1, .int x2, .int x3] σ = am_I X (am_f X d) 74 0 [some (.ref x0), some (.int x1), some (.int x2), some (.int x3)] [] σ := am_fU ml_74 (by show 4 ≤ 4; decide)
theorem fU_75 {x0 : Nat} {x1 : Int32} {x2 : Int32} : am_f X (d + 1) 75 [.ref x0, .int x1, .int x2] σ = am_I X (am_f X d) 75 0 [some (.ref x0), some (.int x1), some (.int x2), none] [] σ := am_fU ml_75 (by show 3 ≤ 4; decide)
theorem fU_76 {x0 : Nat} {x1 : Int32} : am_f X (d + 1) 76 [.ref x0, .int x1] σ = am_I X (am_f X d) 76 0 [some (.ref x0), some (.int x1), none, none] [] σ := am_fU ml_76 (by show 2 ≤ 4; decide)
theorem fU_77 {x0 : Nat} {x1 : Int32} {x2 : Int32} : am_f X (d + 1) 77 [.ref x0, .int x1, .int x2] σ = am_I X (am_f X d) 77 0 [some (.ref x0), some (.int x1), some (.int x2), none] [] σ := am_fU ml_77 (by show 3 ≤ 4; decide)
theorem fU_78 {x0 : Nat} {x1 : Int32} : am_f X (d + 1) 78 [.ref x0, .int x1] σ = am_I X (am_f X d) 78 0 [some (.ref x0), some (.int x1), none, none] [] σ := am_fU ml_78 (by show 2 ≤ 4; decide)
theorem fU_79 {x0 : Nat} {x1 : Int32} {x2 : Int32} {x3 : Int32} : am_f X (d + 1) 79 [.ref x0, .int x1, .int x2, .int x3] σ = am_I X (am_f X d) 79 0 [some (.ref x0), some (.int x1), some (.int x2), some (.int x3)] [] σ := am_fU ml_79 (by show 4 ≤ 4; decide)
theorem fU_80 {x0 : Nat} {x1 : Int32} {x2 : Int32} : am_f X (d + 1) 80 [.ref x0, .int x1, .int x2] σ = am_I X (am_f X d) 80 0 [some (.ref x0), some (.int x1), some (.int x2)] [] σ := am_fU ml_80 (by show 3 ≤ 3; decide)
theorem fU_81 {x0 : Nat} {x1 : Int32} {x2 : Int32} : am_f X (d + 1) 81 [.ref x0, .int x1, .int x2] σ = am_I X (am_f X d) 81 0 [some (.ref x0), some (.int x1), some (.int x2)] [] σ := am_fU ml_81 (by show 3 ≤ 3; decide)
theorem fU_82 {x0 : Nat} {x1 : Int32} {x2 : Int32} : am_f X (d + 1) 82 [.ref x0, .int x1, .int x2] σ = am_I X (am_f X d) 82 0 [some (.ref x0), some (.int x1), some (.int x2)] [] σ := am_fU ml_82 (by show 3 ≤ 3; decide)
theorem fU_83 {x0 : Nat} {x1 : Int32} {x2 : Int32} : am_f X (d + 1) 83 [.ref x0, .int x1, .int x2] σ = am_I X (am_f X d) 83 0 [some (.ref x0), some (.int x1), some (.int x2)] [] σ := am_fU ml_83 (by show 3 ≤ 3; decide)
theorem fU_84 {x0 : Nat} {x1 : Int32} {x2 : Int32} : am_f X (d + 1) 84 [.ref x0, .int x1, .int x2] σ = am_I X (am_f X d) 84 0 [some (.ref x0), some (.int x1), some (.int x2), none] [] σ := am_fU ml_84 (by show 3 ≤ 4; decide)
theorem fU_85 {x0 : Nat} {x1 : Int32} {x2 : Int32} {x3 : Int32} : am_f X (d + 1) 85 [.ref x0, .int x1, .int x2, .int x3] σ = am_I X (am_f X d) 85 0 [some (.ref x0), some (.int x1), some (.int x2), some (.int x3)] [] σ := am_fU ml_85 (by show 4 ≤ 4; decide)
theorem fU_86 {x0 : Int32} {x1 : Int32} : am_f X (d + 1) 86 [.int x0, .int x1] σ = am_I X (am_f X d) 86 0 [some (.int x0), some (.int x1)] [] σ := am_fU ml_86 (by show 2 ≤ 2; decide)
theorem fU_87 {x0 : Nat} {x1 : Int32} {x2 : Int32} : am_f X (d + 1) 87 [.ref x0, .int x1, .int x2] σ = am_I X (am_f X d) 87 0 [some (.ref x0), some (.int x1), some (.int x2), none] [] σ := am_fU ml_87 (by show 3 ≤ 4; decide)
theorem fU_88 {x0 : Nat} {x1 : Int32} {x2 : Int32} : am_f X (d + 1) 88 [.ref x0, .int x1, .int x2] σ = am_I X (am_f X d) 88 0 [some (.ref x0), some (.int x1), some (.int x2)] [] σ := am_fU ml_88 (by show 3 ≤ 3; decide)
theorem fU_89 {x0 : Nat} : am_f X (d + 1) 89 [.ref x0] σ = am_I X (am_f X d) 89 0 [some (.ref x0)] [] σ := am_fU ml_89 (by show 1 ≤ 1; decide)
theorem fU_90 {x0 : Nat} {x1 : Nat} : am_f X (d + 1) 90 [.ref x0, .ref x1] σ = am_I X (am_f X d) 90 0 [some (.ref x0), some (.ref x1), none, none] [] σ := am_fU ml_90 (by show 2 ≤ 4; decide)
theorem fU_91 {x0 : Nat} {x1 : Int32} {x2 : Int32} : am_f X (d + 1) 91 [.ref x0, .int x1, .int x2] σ = am_I X (am_f X d) 91 0 [some (.ref x0), some (.int x1), some (.int x2)] [] σ := am_fU ml_91 (by show 3 ≤ 3; decide)
theorem fU_92 {x0 : Nat} {x1 : Int32} {x2 : Int32} : am_f X (d + 1) 92 [.ref x0, .int x1, .int x2] σ = am_I X (am_f X d) 92 0 [some (.ref x0), some (.int x1), some (.int x2), none, none] [] σ := am_fU ml_92 (by show 3 ≤ 5; decide)
theorem fU_93 {x0 : Nat} : am_f X (d + 1) 93 [.ref x0] σ = am_I X (am_f X d) 93 0 [some (.ref x0)] [] σ := am_fU ml_93 (by show 1 ≤ 1; decide)
theorem fU_94 {x0 : Nat} : am_f X (d + 1) 94 [.ref x0] σ = am_I X (am_f X d) 94 0 [some (.ref x0)] [] σ := am_fU ml_94 (by show 1 ≤ 1; decide)
theorem fU_95 {x0 : Nat} {x1 : Int32} : am_f X (d + 1) 95 [.ref x0, .int x1] σ = am_I X (am_f X d) 95 0 [some (.ref x0), some (.int x1)] [] σ := am_fU ml_95 (by show 2 ≤ 2; decide)
theorem fU_96 {x0 : Nat} : am_f X (d + 1) 96 [.ref x0] σ = am_I X (am_f X d) 96 0 [some (.ref x0), none, none] [] σ := am_fU ml_96 (by show 1 ≤ 3; decide)
theorem fU_97 {x0 : Nat} : am_f X (d + 1) 97 [.ref x0] σ = am_I X (am_f X d) 97 0 [some (.ref x0)] [] σ := am_fU ml_97 (by show 1 ≤ 1; decide)
theorem fU_98 {x0 : Nat} {x1 : Int32} : am_f X (d + 1) 98 [.ref x0, .int x1] σ = am_I X (am_f X d) 98 0 [some (.ref x0), some (.int x1), none, none, none] [] σ := am_fU ml_98 (by show 2 ≤ 5; decide)
theorem fU_99 {x0 : Nat} {x1 : Int32} {x2 : Int32} : am_f X (d + 1) 99 [.ref x0, .int x1, .int x2] σ = am_I X (am_f X d) 99 0 [some (.ref x0), some (.int x1), some (.int x2)] [] σ := am_fU ml_99 (by show 3 ≤ 3; decide)
theorem fU_100 {x0 : Nat} {x1 : Int32} {x2 : Int32} : am_f X (d + 1) 100 [.ref x0, .int x1, .int x2] σ = am_I X (am_f X d) 100 0 [some (.ref x0), some (.int x1), some (.int x2), none] [] σ := am_fU ml_100 (by show 3 ≤ 4; decide)
theorem fU_101 {x0 : Nat} {x1 : Int32} {x2 : Int32} : am_f X (d + 1) 101 [.ref x0, .int x1, .int x2] σ = am_I X (am_f X d) 101 0 [some (.ref x0), some (.int x1), some (.int x2)] [] σ := am_fU ml_101 (by show 3 ≤ 3; decide)
theorem fU_102 {x0 : Nat} : am_f X (d + 1) 102 [.ref x0] σ = am_I X (am_f X d) 102 0 [some (.ref x0), none] [] σ := am_fU ml_102 (by show 1 ≤ 2; decide)
theorem fU_103 {x0 : Nat} {x1 : Int32} {x2 : Int32} : am_f X (d + 1) 103 [.ref x0, .int x1, .int x2] σ = am_I X (am_f X d) 103 0 [some (.ref x0), some (.int x1), some (.int x2), none, none, none, none, none, none, none, none] [] σ := am_fU ml_103 (by show 3 ≤ 11; decide)
theorem fU_104 {x0 : Nat} : am_f X (d + 1) 104 [.ref x0] σ = am_I X (am_f X d) 104 0 [some (.ref x0)] [] σ := am_fU ml_104 (by show 1 ≤ 1; decide)
theorem fU_105 {x0 : Nat} {x1 : Int32} {x2 : Int32} : am_f X (d + 1) 105 [.ref x0, .int x1, .int x2] σ = am_I X (am_f X d) 105 0 [some (.ref x0), some (.int x1), some (.int x2)] [] σ := am_fU ml_105 (by show 3 ≤ 3; decide)
theorem fU_106 {x0 : Nat} {x1 : Int32} {x2 : Int32} {x3 : Int32} : am_f X (d + 1) 106 [.ref x0, .int x1, .int x2, .int x3] σ = am_I X (am_f X d) 106 0 [some (.ref x0), some (.int x1), some (.int x2), some (.int x3), none, none, none, none, none, none, none, none] [] σ := am_fU ml_106 (by show 4 ≤ 12; decide)
theorem fU_107 {x0 : Nat} : am_f X (d + 1) 107 [.ref x0] σ = am_I X (am_f X d) 107 0 [some (.ref x0)] [] σ := am_fU ml_107 (by show 1 ≤ 1; decide)
theorem fU_108 {x0 : Nat} {x1 : Int32} {x2 : Int32} : am_f X (d + 1) 108 [.ref x0, .int x1, .int x2] σ = am_I X (am_f X d) 108 0 [some (.ref x0), some (.int x1), some (.int x2)] [] σ := am_fU ml_108 (by show 3 ≤ 3; decide)
theorem fU_109 {x0 : Nat} : am_f X (d + 1) 109 [.ref x0] σ = am_I X (am_f X d) 109 0 [some (.ref x0), none, none] [] σ := am_fU ml_109 (by show 1 ≤ 3; decide)
theorem fU_110 {x0 : Nat} : am_f X (d + 1) 110 [.ref x0] σ = am_I X (am_f X d) 110 0 [some (.ref x0)] [] σ := am_fU ml_110 (by show 1 ≤ 1; decide)
theorem fU_111 {x0 : Nat} {x1 : Int32} : am_f X (d + 1) 111 [.ref x0, .int x1] σ = am_I X (am_f X d) 111 0 [some (.ref x0), some (.int x1), none, none, none, none] [] σ := am_fU ml_111 (by show 2 ≤ 6; decide)
theorem fU_112 {x0 : Nat} {x1 : Int32} : am_f X (d + 1) 112 [.ref x0, .int x1] σ = am_I X (am_f X d) 112 0 [some (.ref x0), some (.int x1), none, none, none] [] σ := am_fU ml_112 (by show 2 ≤ 5; decide)
theorem fU_113 {x0 : Nat} {x1 : Int32} : am_f X (d + 1) 113 [.ref x0, .int x1] σ = am_I X (am_f X d) 113 0 [some (.ref x0), some (.int x1), none, none, none, none] [] σ := am_fU ml_113 (by show 2 ≤ 6; decide)
theorem fU_114 {x0 : Nat} : am_f X (d + 1) 114 [.ref x0] σ = am_I X (am_f X d) 114 0 [some (.ref x0)] [] σ := am_fU ml_114 (by show 1 ≤ 1; decide)
theorem fU_115 {x0 : Nat} : am_f X (d + 1) 115 [.ref x0] σ = am_I X (am_f X d) 115 0 [some (.ref x0)] [] σ := am_fU ml_115 (by show 1 ≤ 1; decide)
theorem fU_116 {x0 : Nat} {x1 : Int32} : am_f X (d + 1) 116 [.ref x0, .int x1] σ = am_I X (am_f X d) 116 0 [some (.ref x0), some (.int x1)] [] σ := am_fU ml_116 (by show 2 ≤ 2; decide)
theorem fU_117 {x0 : Nat} {x1 : Int32} : am_f X (d + 1) 117 [.ref x0, .int x1] σ = am_I X (am_f X d) 117 0 [some (.ref x0), some (.int x1), none, none, none] [] σ := am_fU ml_117 (by show 2 ≤ 5; decide)
theorem fU_118 {x0 : Nat} {x1 : Int32} : am_f X (d + 1) 118 [.ref x0, .int x1] σ = am_I X (am_f X d) 118 0 [some (.ref x0), some (.int x1), none, none, none] [] σ := am_fU ml_118 (by show 2 ≤ 5; decide)
theorem fU_119 {x0 : Nat} {x1 : Int32} : am_f X (d + 1) 119 [.ref x0, .int x1] σ = am_I X (am_f X d) 119 0 [some (.ref x0), some (.int x1), none, none, none, none, none, none, none] [] σ := am_fU ml_119 (by show 2 ≤ 9; decide)
theorem fU_120 {x0 : Nat} {x1 : Int32} : am_f X (d + 1) 120 [.ref x0, .int x1] σ = am_I X (am_f X d) 120 0 [some (.ref x0), some (.int x1)] [] σ := am_fU ml_120 (by show 2 ≤ 2; decide)
theorem fU_121 {x0 : Nat} {x1 : Int32} {x2 : Int32} : am_f X (d + 1) 121 [.ref x0, .int x1, .int x2] σ = am_I X (am_f X d) 121 0 [some (.ref x0), some (.int x1), some (.int x2), none, none, none, none, none] [] σ := am_fU ml_121 (by show 3 ≤ 8; decide)
theorem fU_122 {x0 : Nat} {x1 : Int32} {x2 : Int32} : am_f X (d + 1) 122 [.ref x0, .int x1, .int x2] σ = am_I X (am_f X d) 122 0 [some (.ref x0), some (.int x1), some (.int x2)] [] σ := am_fU ml_122 (by show 3 ≤ 3; decide)
theorem fU_123 {x0 : Nat} {x1 : Int32} {x2 : Int32} : am_f X (d + 1) 123 [.ref x0, .int x1, .int x2] σ = am_I X (am_f X d) 123 0 [some (.ref x0), some (.int x1), some (.int x2)] [] σ := am_fU ml_123 (by show 3 ≤ 3; decide)
theorem fU_124 {x0 : Nat} : am_f X (d + 1) 124 [.ref x0] σ = am_I X (am_f X d) 124 0 [some (.ref x0)] [] σ := am_fU ml_124 (by show 1 ≤ 1; decide)
theorem fU_125 {x0 : Nat} {x1 : Int32} {x2 : Int32} : am_f X (d + 1) 125 [.ref x0, .int x1, .int x2] σ = am_I X (am_f X d) 125 0 [some (.ref x0), some (.int x1), some (.int x2)] [] σ := am_fU ml_125 (by show 3 ≤ 3; decide)
theorem fU_126 {x0 : Nat} : am_f X (d + 1) 126 [.ref x0] σ = am_I X (am_f X d) 126 0 [some (.ref x0), none, none] [] σ := am_fU ml_126 (by show 1 ≤ 3; decide)
theorem fU_127 {x0 : Nat} : am_f X (d + 1) 127 [.ref x0] σ = am_I X (am_f X d) 127 0 [some (.ref x0)] [] σ := am_fU ml_127 (by show 1 ≤ 1; decide)
theorem fU_128 {x0 : Nat} {x1 : Int32} {x2 : Int32} {x3 : Int32} : am_f X (d + 1) 128 [.ref x0, .int x1, .int x2, .int x3] σ = am_I X (am_f X d) 128 0 [some (.ref x0), some (.int x1), some (.int x2), some (.int x3)] [] σ := am_fU ml_128 (by show 4 ≤ 4; decide)
theorem fU_129 {x0 : Nat} {x1 : Int32} {x2 : Int32} {x3 : Int32} {x4 : Int32} : am_f X (d + 1) 129 [.ref x0, .int x1, .int x2, .int x3, .int x4] σ = am_I X (am_f X d) 129 0 [some (.ref x0), some (.int x1), some (.int x2), some (.int x3), some (.int x4), none, none, none, none, none, none] [] σ := am_fU ml_129 (by show 5 ≤ 11; decide)
theorem fU_130 {x0 : Nat} {x1 : Int32} {x2 : Int32} : am_f X (d + 1) 130 [.ref x0, .int x1, .int x2] σ = am_I X (am_f X d) 130 0 [some (.ref x0), some (.int x1), some (.int x2)] [] σ := am_fU ml_130 (by show 3 ≤ 3; decide)
theorem fU_131 {x0 : Nat} {x1 : Nat} : am_f X (d + 1) 131 [.ref x0, .ref x1] σ = am_I X (am_f X d) 131 0 [some (.ref x0), some (.ref x1), none, none] [] σ := am_fU ml_131 (by show 2 ≤ 4; decide)
theorem fU_132 {x0 : Nat} {x1 : Int32} {x2 : Int32} {x3 : Int32} : am_f X (d + 1) 132 [.ref x0, .int x1, .int x2, .int x3] σ = am_I X (am_f X d) 132 0 [some (.ref x0), some (.int x1), some (.int x2), some (.int x3)] [] σ := am_fU ml_132 (by show 4 ≤ 4; decide)
theorem fU_133 {x0 : Nat} {x1 : Int32} {x2 : Int32} {x3 : Int32} : am_f X (d + 1) 133 [.ref x0, .int x1, .int x2, .int x3] σ = am_I X (am_f X d) 133 0 [some (.ref x0), some (.int x1), some (.int x2), some (.int x3)] [] σ := am_fU ml_133 (by show 4 ≤ 4; decide)
theorem fU_134 {x0 : Nat} {x1 : Int64} : am_f X (d + 1) 134 [.ref x0, .long x1] σ = am_I X (am_f X d) 134 0 [some (.ref x0), some (.long x1), none, none, none] [] σ := am_fU ml_134 (by show 3 ≤ 5; decide)
theorem fU_135 {x0 : Nat} {x1 : Int32} {x2 : Int32} {x3 : Int32} {x4 : Int64} {x5 : Int32} : am_f X (d + 1) 135 [.ref x0, .int x1, .int x2, .int x3, .long x4, .int x5] σ = am_I X (am_f X d) 135 0 [some (.ref x0), some (.int x1), some (.int x2), some (.int x3), some (.long x4), none, some (.int x5), none, none, none, none, none, none] [] σ := am_fU ml_135 (by show 7 ≤ 13; decide)
theorem fU_136 {x0 : Int32} {x1 : Int32} {x2 : Int32} {x3 : Int32} : am_f X (d + 1) 136 [.int x0, .int x1, .int x2, .int x3] σ = am_I X (am_f X d) 136 0 [some (.int x0), some (.int x1), some (.int x2), some (.int x3)] [] σ := am_fU ml_136 (by show 4 ≤ 4; decide)
theorem fU_137 {x0 : Nat} {x1 : Int32} : am_f X (d + 1) 137 [.ref x0, .int x1] σ = am_I X (am_f X d) 137 0 [some (.ref x0), some (.int x1), none] [] σ := am_fU ml_137 (by show 2 ≤ 3; decide)
theorem fU_138 {x0 : Nat} {x1 : Int32} {x2 : Int32} {x3 : Int32} : am_f X (d + 1) 138 [.ref x0, .int x1, .int x2, .int x3] σ = am_I X (am_f X d) 138 0 [some (.ref x0), some (.int x1), some (.int x2), some (.int x3), none, none, none, none] [] σ := am_fU ml_138 (by show 4 ≤ 8; decide)
theorem fU_139 {x0 : Nat} {x1 : Int32} {x2 : Int32} {x3 : Int32} : am_f X (d + 1) 139 [.ref x0, .int x1, .int x2, .int x3] σ = am_I X (am_f X d) 139 0 [some (.ref x0), some (.int x1), some (.int x2), some (.int x3), none, none] [] σ := am_fU ml_139 (by show 4 ≤ 6; decide)
theorem fU_140 {x0 : Nat} {x1 : Int32} {x2 : Int32} : am_f X (d + 1) 140 [.ref x0, .int x1, .int x2] σ = am_I X (am_f X d) 140 0 [some (.ref x0), some (.int x1), some (.int x2)] [] σ := am_fU ml_140 (by show 3 ≤ 3; decide)
theorem fU_141 {x0 : Nat} {x1 : Int32} : am_f X (d + 1) 141 [.ref x0, .int x1] σ = am_I X (am_f X d) 141 0 [some (.ref x0), some (.int x1)] [] σ := am_fU ml_141 (by show 2 ≤ 2; decide)
theorem fU_142 {x0 : Nat} {x1 : Int32} : am_f X (d + 1) 142 [.ref x0, .int x1] σ = am_I X (am_f X d) 142 0 [some (.ref x0), some (.int x1), none, none, none, none, none, none] [] σ := am_fU ml_142 (by show 2 ≤ 8; decide)
theorem fU_143 {x0 : Nat} {x1 : Int32} : am_f X (d + 1) 143 [.ref x0, .int x1] σ = am_I X (am_f X d) 143 0 [some (.ref x0), some (.int x1)] [] σ := am_fU ml_143 (by show 2 ≤ 2; decide)
theorem fU_144 {x0 : Nat} {x1 : Int32} : am_f X (d + 1) 144 [.ref x0, .int x1] σ = am_I X (am_f X d) 144 0 [some (.ref x0), some (.int x1), none, none, none] [] σ := am_fU ml_144 (by show 2 ≤ 5; decide)
theorem fU_145 {x0 : Nat} {x1 : Nat} {x2 : Int32} : am_f X (d + 1) 145 [.ref x0, .ref x1, .int x2] σ = am_I X (am_f X d) 145 0 [some (.ref x0), some (.ref x1), some (.int x2), none, none, none] [] σ := am_fU ml_145 (by show 3 ≤ 6; decide)
theorem fU_146 {x0 : Nat} : am_f X (d + 1) 146 [.ref x0] σ = am_I X (am_f X d) 146 0 [some (.ref x0), none, none] [] σ := am_fU ml_146 (by show 1 ≤ 3; decide)
theorem fU_147 {x0 : Nat} : am_f X (d + 1) 147 [.ref x0] σ = am_I X (am_f X d) 147 0 [some (.ref x0), none] [] σ := am_fU ml_147 (by show 1 ≤ 2; decide)
theorem fU_148 {x0 : Nat} {x1 : Int32} : am_f X (d + 1) 148 [.ref x0, .int x1] σ = am_I X (am_f X d) 148 0 [some (.ref x0), some (.int x1), none] [] σ := am_fU ml_148 (by show 2 ≤ 3; decide)
theorem fU_149 {x0 : Nat} {x1 : Int32} : am_f X (d + 1) 149 [.ref x0, .int x1] σ = am_I X (am_f X d) 149 0 [some (.ref x0), some (.int x1), none, none, none] [] σ := am_fU ml_149 (by show 2 ≤ 5; decide)
theorem fU_150 {x0 : Nat} {x1 : Int32} {x2 : Int32} : am_f X (d + 1) 150 [.ref x0, .int x1, .int x2] σ = am_I X (am_f X d) 150 0 [some (.ref x0), some (.int x1), some (.int x2)] [] σ := am_fU ml_150 (by show 3 ≤ 3; decide)
theorem fU_151 {x0 : Nat} {x1 : Int32} {x2 : Int32} {x3 : Int32} : am_f X (d + 1) 151 [.ref x0, .int x1, .int x2, .int x3] σ = am_I X (am_f X d) 151 0 [some (.ref x0), some (.int x1), some (.int x2), some (.int x3), none] [] σ := am_fU ml_151 (by show 4 ≤ 5; decide)
theorem fU_152 {x0 : Nat} {x1 : Int32} {x2 : Int32} {x3 : Int32} : am_f X (d + 1) 152 [.ref x0, .int x1, .int x2, .int x3] σ = am_I X (am_f X d) 152 0 [some (.ref x0), some (.int x1), some (.int x2), some (.int x3), none, none, none, none, none, none, none, none] [] σ := am_fU ml_152 (by show 4 ≤ 12; decide)
theorem fU_153 {x0 : Nat} {x1 : Int32} {x2 : Int32} {x3 : Int32} {x4 : Int32} : am_f X (d + 1) 153 [.ref x0, .int x1, .int x2, .int x3, .int x4] σ = am_I X (am_f X d) 153 0 [some (.ref x0), some (.int x1), some (.int x2), some (.int x3), some (.int x4), none, none, none, none] [] σ := am_fU ml_153 (by show 5 ≤ 9; decide)
theorem fU_154 {x0 : Nat} : am_f X (d + 1) 154 [.ref x0] σ = am_I X (am_f X d) 154 0 [some (.ref x0)] [] σ := am_fU ml_154 (by show 1 ≤ 1; decide)
theorem fU_155 {x0 : Nat} : am_f X (d + 1) 155 [.ref x0] σ = am_I X (am_f X d) 155 0 [some (.ref x0), none, none] [] σ := am_fU ml_155 (by show 1 ≤ 3; decide)
theorem fU_156 {x0 : Nat} {x1 : Int32} {x2 : Int32} {x3 : Int32} : am_f X (d + 1) 156 [.ref x0, .int x1, .int x2, .int x3] σ = am_I X (am_f X d) 156 0 [some (.ref x0), some (.int x1), some (.int x2), some (.int x3), none, none] [] σ := am_fU ml_156 (by show 4 ≤ 6; decide)
theorem fU_157 {x0 : Nat} : am_f X (d + 1) 157 [.ref x0] σ = am_I X (am_f X d) 157 0 [some (.ref x0)] [] σ := am_fU ml_157 (by show 1 ≤ 1; decide)
theorem fU_158 {x0 : Nat} {x1 : Nat} : am_f X (d + 1) 158 [.ref x0, .ref x1] σ = am_I X (am_f X d) 158 0 [some (.ref x0), some (.ref x1)] [] σ := am_fU ml_158 (by show 2 ≤ 2; decide)
theorem fU_159 {x0 : Nat} : am_f X (d + 1) 159 [.ref x0] σ = am_I X (am_f X d) 159 0 [some (.ref x0)] [] σ := am_fU ml_159 (by show 1 ≤ 1; decide)
theorem fU_160 {x0 : Nat} {x1 : Int32} : am_f X (d + 1) 160 [.ref x0, .int x1] σ = am_I X (am_f X d) 160 0 [some (.ref x0), some (.int x1)] [] σ := am_fU ml_160 (by show 2 ≤ 2; decide)
theorem fU_161 {x0 : Nat} : am_f X (d + 1) 161 [.ref x0] σ = am_I X (am_f X d) 161 0 [some (.ref x0), none, none] [] σ := am_fU ml_161 (by show 1 ≤ 3; decide)
theorem fU_162 {x0 : Nat} {x1 : Int32} {x2 : Int32} : am_f X (d + 1) 162 [.ref x0, .int x1, .int x2] σ = am_I X (am_f X d) 162 0 [some (.ref x0), some (.int x1), some (.int x2), none, none] [] σ := am_fU ml_162 (by show 3 ≤ 5; decide)
theorem fU_163 {x0 : Nat} : am_f X (d + 1) 163 [.ref x0] σ = am_I X (am_f X d) 163 0 [some (.ref x0), none, none, none] [] σ := am_fU ml_163 (by show 1 ≤ 4; decide)
theorem fU_164 {x0 : Nat} {x1 : Int32} {x2 : Int32} {x3 : Int32} : am_f X (d + 1) 164 [.ref x0, .int x1, .int x2, .int x3] σ = am_I X (am_f X d) 164 0 [some (.ref x0), some (.int x1), some (.int x2), some (.int x3)] [] σ := am_fU ml_164 (by show 4 ≤ 4; decide)
theorem fU_165 {x0 : Nat} {x1 : Int32} {x2 : Int32} {x3 : Int32} : am_f X (d + 1) 165 [.ref x0, .int x1, .int x2, .int x3] σ = am_I X (am_f X d) 165 0 [some (.ref x0), some (.int x1), some (.int x2), some (.int x3)] [] σ := am_fU ml_165 (by show 4 ≤ 4; decide)
theorem fU_166 {x0 : Nat} {x1 : Int32} {x2 : Int32} {x3 : Int32} : am_f X (d + 1) 166 [.ref x0, .int x1, .int x2, .int x3] σ = am_I X (am_f X d) 166 0 [some (.ref x0), some (.int x1), some (.int x2), some (.int x3)] [] σ := am_fU ml_166 (by show 4 ≤ 4; decide)
theorem fU_167 {x0 : Int32} {x1 : Int32} : am_f X (d + 1) 167 [.int x0, .int x1] σ = am_I X (am_f X d) 167 0 [some (.int x0), some (.int x1)] [] σ := am_fU ml_167 (by show 2 ≤ 2; decide)
theorem fU_168 {x0 : Nat} {x1 : Int32} {x2 : Int32} {x3 : Int32} {x4 : Int32} {x5 : Int32} : am_f X (d + 1) 168 [.ref x0, .int x1, .int x2, .int x3, .int x4, .int x5] σ = am_I X (am_f X d) 168 0 [some (.ref x0), some (.int x1), some (.int x2), some (.int x3), some (.int x4), some (.int x5)] [] σ := am_fU ml_168 (by show 6 ≤ 6; decide)
theorem fU_169 {x0 : Nat} {x1 : Int32} {x2 : Int32} {x3 : Int32} : am_f X (d + 1) 169 [.ref x0, .int x1, .int x2, .int x3] σ = am_I X (am_f X d) 169 0 [some (.ref x0), some (.int x1), some (.int x2), some (.int x3)] [] σ := am_fU ml_169 (by show 4 ≤ 4; decide)
theorem fU_170 {x0 : Nat} {x1 : Int32} : am_f X (d + 1) 170 [.ref x0, .int x1] σ = am_I X (am_f X d) 170 0 [some (.ref x0), some (.int x1), none] [] σ := am_fU ml_170 (by show 2 ≤ 3; decide)
theorem fU_171 {x0 : Nat} {x1 : Int32} : am_f X (d + 1) 171 [.ref x0, .int x1] σ = am_I X (am_f X d) 171 0 [some (.ref x0), some (.int x1)] [] σ := am_fU ml_171 (by show 2 ≤ 2; decide)
theorem fU_172 {x0 : Nat} : am_f X (d + 1) 172 [.ref x0] σ = am_I X (am_f X d) 172 0 [some (.ref x0)] [] σ := am_fU ml_172 (by show 1 ≤ 1; decide)
theorem fU_173 {x0 : Nat} : am_f X (d + 1) 173 [.ref x0] σ = am_I X (am_f X d) 173 0 [some (.ref x0)] [] σ := am_fU ml_173 (by show 1 ≤ 1; decide)
theorem fU_174 {x0 : Nat} : am_f X (d + 1) 174 [.ref x0] σ = am_I X (am_f X d) 174 0 [some (.ref x0)] [] σ := am_fU ml_174 (by show 1 ≤ 1; decide)
theorem fU_175 {x0 : Nat} : am_f X (d + 1) 175 [.ref x0] σ = am_I X (am_f X d) 175 0 [some (.ref x0)] [] σ := am_fU ml_175 (by show 1 ≤ 1; decide)
theorem fU_176 {x0 : Nat} : am_f X (d + 1) 176 [.ref x0] σ = am_I X (am_f X d) 176 0 [some (.ref x0)] [] σ := am_fU ml_176 (by show 1 ≤ 1; decide)
theorem fU_177 {x0 : Nat} : am_f X (d + 1) 177 [.ref x0] σ = am_I X (am_f X d) 177 0 [some (.ref x0)] [] σ := am_fU ml_177 (by show 1 ≤ 1; decide)
theorem fU_178 {x0 : Nat} {x1 : Int32} : am_f X (d + 1) 178 [.ref x0, .int x1] σ = am_I X (am_f X d) 178 0 [some (.ref x0), some (.int x1), none, none] [] σ := am_fU ml_178 (by show 2 ≤ 4; decide)
theorem fU_179 {x0 : Nat} : am_f X (d + 1) 179 [.ref x0] σ = am_I X (am_f X d) 179 0 [some (.ref x0)] [] σ := am_fU ml_179 (by show 1 ≤ 1; decide)
theorem fU_180 {x0 : Nat} : am_f X (d + 1) 180 [.ref x0] σ = am_I X (am_f X d) 180 0 [some (.ref x0)] [] σ := am_fU ml_180 (by show 1 ≤ 1; decide)
theorem fU_181 {x0 : Nat} : am_f X (d + 1) 181 [.ref x0] σ = am_I X (am_f X d) 181 0 [some (.ref x0)] [] σ := am_fU ml_181 (by show 1 ≤ 1; decide)
theorem fU_182 {x0 : Nat} : am_f X (d + 1) 182 [.ref x0] σ = am_I X (am_f X d) 182 0 [some (.ref x0)] [] σ := am_fU ml_182 (by show 1 ≤ 1; decide)
theorem fU_183 {x0 : Nat} : am_f X (d + 1) 183 [.ref x0] σ = am_I X (am_f X d) 183 0 [some (.ref x0)] [] σ := am_fU ml_183 (by show 1 ≤ 1; decide)
theorem fU_184 {x0 : Nat} : am_f X (d + 1) 184 [.ref x0] σ = am_I X (am_f X d) 184 0 [some (.ref x0)] [] σ := am_fU ml_184 (by show 1 ≤ 1; decide)
theorem fU_185 {x0 : Nat} {x1 : Int32} {x2 : Int32} {x3 : Nat} : am_f X (d + 1) 185 [.ref x0, .int x1, .int x2, .ref x3] σ = am_I X (am_f X d) 185 0 [some (.ref x0), some (.int x1), some (.int x2), some (.ref x3), none] [] σ := am_fU ml_185 (by show 4 ≤ 5; decide)
theorem fU_186 {x0 : Nat} {x1 : Int32} {x2 : Int32} : am_f X (d + 1) 186 [.ref x0, .int x1, .int x2] σ = am_I X (am_f X d) 186 0 [some (.ref x0), some (.int x1), some (.int x2)] [] σ := am_fU ml_186 (by show 3 ≤ 3; decide)
theorem fU_187 {x0 : Nat} {x1 : Int32} {x2 : Int32} : am_f X (d + 1) 187 [.ref x0, .int x1, .int x2] σ = am_I X (am_f X d) 187 0 [some (.ref x0), some (.int x1), some (.int x2), none, none, none, none, none, none, none, none, none] [] σ := am_fU ml_187 (by show 3 ≤ 12; decide)
theorem fU_188 {x0 : Nat} {x1 : Int32} {x2 : Int32} : am_f X (d + 1) 188 [.ref x0, .int x1, .int x2] σ = am_I X (am_f X d) 188 0 [some (.ref x0), some (.int x1), some (.int x2), none] [] σ := am_fU ml_188 (by show 3 ≤ 4; decide)
theorem fU_189 {x0 : Nat} {x1 : Int32} {x2 : Int32} {x3 : Int32} : am_f X (d + 1) 189 [.ref x0, .int x1, .int x2, .int x3] σ = am_I X (am_f X d) 189 0 [some (.ref x0), some (.int x1), some (.int x2), some (.int x3), none, none, none, none, none] [] σ := am_fU ml_189 (by show 4 ≤ 9; decide)
theorem fU_190 {x0 : Nat} {x1 : Int32} {x2 : Int32} {x3 : Nat} : am_f X (d + 1) 190 [.ref x0, .int x1, .int x2, .ref x3] σ = am_I X (am_f X d) 190 0 [some (.ref x0), some (.int x1), some (.int x2), some (.ref x3), none] [] σ := am_fU ml_190 (by show 4 ≤ 5; decide)
theorem fU_191 {x0 : Nat} {x1 : Int32} {x2 : Int32} : am_f X (d + 1) 191 [.ref x0, .int x1, .int x2] σ = am_I X (am_f X d) 191 0 [some (.ref x0), some (.int x1), some (.int x2)] [] σ := am_fU ml_191 (by show 3 ≤ 3; decide)
theorem fU_192 {x0 : Nat} : am_f X (d + 1) 192 [.ref x0] σ = am_I X (am_f X d) 192 0 [some (.ref x0)] [] σ := am_fU ml_192 (by show 1 ≤ 1; decide)
theorem fU_193 {x0 : Nat} : am_f X (d + 1) 193 [.ref x0] σ = am_I X (am_f X d) 193 0 [some (.ref x0)] [] σ := am_fU ml_193 (by show 1 ≤ 1; decide)
theorem fU_194 {x0 : Nat} {x1 : Int32} : am_f X (d + 1) 194 [.ref x0, .int x1] σ = am_I X (am_f X d) 194 0 [some (.ref x0), some (.int x1), none, none, none, none, none, none] [] σ := am_fU ml_194 (by show 2 ≤ 8; decide)
theorem fU_195 {x0 : Nat} {x1 : Int32} {x2 : Int32} : am_f X (d + 1) 195 [.ref x0, .int x1, .int x2] σ = am_I X (am_f X d) 195 0 [some (.ref x0), some (.int x1), some (.int x2)] [] σ := am_fU ml_195 (by show 3 ≤ 3; decide)
theorem fU_196 {x0 : Int32} : am_f X (d + 1) 196 [.int x0] σ = am_I X (am_f X d) 196 0 [some (.int x0)] [] σ := am_fU ml_196 (by show 1 ≤ 1; decide)
theorem fU_197 {x0 : Int64} {x1 : Int64} {x2 : Int64} : am_f X (d + 1) 197 [.long x0, .long x1, .long x2] σ = am_I X (am_f X d) 197 0 [some (.long x0), none, some (.long x1), none, some (.long x2), none] [] σ := am_fU ml_197 (by show 6 ≤ 6; decide)
theorem fU_198 {x0 : Nat} : am_f X (d + 1) 198 [.ref x0] σ = am_I X (am_f X d) 198 0 [some (.ref x0)] [] σ := am_fU ml_198 (by show 1 ≤ 1; decide)
theorem fU_199 {x0 : Nat} {x1 : Int32} : am_f X (d + 1) 199 [.ref x0, .int x1] σ = am_I X (am_f X d) 199 0 [some (.ref x0), some (.int x1)] [] σ := am_fU ml_199 (by show 2 ≤ 2; decide)
theorem fU_200 {x0 : Nat} : am_f X (d + 1) 200 [.ref x0] σ = am_I X (am_f X d) 200 0 [some (.ref x0)] [] σ := am_fU ml_200 (by show 1 ≤ 1; decide)
theorem fU_201 {x0 : Nat} : am_f X (d + 1) 201 [.ref x0] σ = am_I X (am_f X d) 201 0 [some (.ref x0), none] [] σ := am_fU ml_201 (by show 1 ≤ 2; decide)
theorem fU_202 {x0 : Nat} : am_f X (d + 1) 202 [.ref x0] σ = am_I X (am_f X d) 202 0 [some (.ref x0), none] [] σ := am_fU ml_202 (by show 1 ≤ 2; decide)
theorem fU_203 {x0 : Nat} : am_f X (d + 1) 203 [.ref x0] σ = am_I X (am_f X d) 203 0 [some (.ref x0), none, none, none, none] [] σ := am_fU ml_203 (by show 1 ≤ 5; decide)
theorem fU_204 {x0 : Nat} : am_f X (d + 1) 204 [.ref x0] σ = am_I X (am_f X d) 204 0 [some (.ref x0), none, none] [] σ := am_fU ml_204 (by show 1 ≤ 3; decide)
theorem fU_205 {x0 : Nat} {x1 : Int32} : am_f X (d + 1) 205 [.ref x0, .int x1] σ = am_I X (am_f X d) 205 0 [some (.ref x0), some (.int x1)] [] σ := am_fU ml_205 (by show 2 ≤ 2; decide)
theorem fU_206 {x0 : Nat} : am_f X (d + 1) 206 [.ref x0] σ = am_I X (am_f X d) 206 0 [some (.ref x0), none, none] [] σ := am_fU ml_206 (by show 1 ≤ 3; decide)
theorem fU_207 {x0 : Nat} {x1 : Int32} : am_f X (d + 1) 207 [.ref x0, .int x1] σ = am_I X (am_f X d) 207 0 [some (.ref x0), some (.int x1)] [] σ := am_fU ml_207 (by show 2 ≤ 2; decide)
theorem fU_208 {x0 : Nat} {x1 : Int32} {x2 : Int32} : am_f X (d + 1) 208 [.ref x0, .int x1, .int x2] σ = am_I X (am_f X d) 208 0 [some (.ref x0), some (.int x1), some (.int x2)] [] σ := am_fU ml_208 (by show 3 ≤ 3; decide)
theorem fU_209 {x0 : Nat} {x1 : Int32} : am_f X (d + 1) 209 [.ref x0, .int x1] σ = am_I X (am_f X d) 209 0 [some (.ref x0), some (.int x1)] [] σ := am_fU ml_209 (by show 2 ≤ 2; decide)
theorem fU_210 {x0 : Nat} {x1 : Int32} {x2 : Int32} : am_f X (d + 1) 210 [.ref x0, .int x1, .int x2] σ = am_I X (am_f X d) 210 0 [some (.ref x0), some (.int x1), some (.int x2)] [] σ := am_fU ml_210 (by show 3 ≤ 3; decide)
theorem fU_211 {x0 : Nat} {x1 : Int32} {x2 : Int32} : am_f X (d + 1) 211 [.ref x0, .int x1, .int x2] σ = am_I X (am_f X d) 211 0 [some (.ref x0), some (.int x1), some (.int x2)] [] σ := am_fU ml_211 (by show 3 ≤ 3; decide)
theorem fU_212 {x0 : Nat} {x1 : Int32} {x2 : Int32} {x3 : Int32} : am_f X (d + 1) 212 [.ref x0, .int x1, .int x2, .int x3] σ = am_I X (am_f X d) 212 0 [some (.ref x0), some (.int x1), some (.int x2), some (.int x3)] [] σ := am_fU ml_212 (by show 4 ≤ 4; decide)
theorem fU_213 {x0 : Nat} {x1 : Int32} {x2 : Int32} : am_f X (d + 1) 213 [.ref x0, .int x1, .int x2] σ = am_I X (am_f X d) 213 0 [some (.ref x0), some (.int x1), some (.int x2)] [] σ := am_fU ml_213 (by show 3 ≤ 3; decide)
theorem fU_214 {x0 : Nat} {x1 : Int32} {x2 : Int32} : am_f X (d + 1) 214 [.ref x0, .int x1, .int x2] σ = am_I X (am_f X d) 214 0 [some (.ref x0), some (.int x1), some (.int x2), none] [] σ := am_fU ml_214 (by show 3 ≤ 4; decide)
theorem fU_215 {x0 : Nat} {x1 : Int32} : am_f X (d + 1) 215 [.ref x0, .int x1] σ = am_I X (am_f X d) 215 0 [some (.ref x0), some (.int x1)] [] σ := am_fU ml_215 (by show 2 ≤ 2; decide)
theorem fU_216 {x0 : Nat} {x1 : Int32} : am_f X (d + 1) 216 [.ref x0, .int x1] σ = am_I X (am_f X d) 216 0 [some (.ref x0), some (.int x1)] [] σ := am_fU ml_216 (by show 2 ≤ 2; decide)
theorem fU_217 {x0 : Nat} {x1 : Int32} : am_f X (d + 1) 217 [.ref x0, .int x1] σ = am_I X (am_f X d) 217 0 [some (.ref x0), some (.int x1)] [] σ := am_fU ml_217 (by show 2 ≤ 2; decide)
theorem fU_218 {x0 : Nat} {x1 : Int32} : am_f X (d + 1) 218 [.ref x0, .int x1] σ = am_I X (am_f X d) 218 0 [some (.ref x0), some (.int x1)] [] σ := am_fU ml_218 (by show 2 ≤ 2; decide)
theorem fU_219 {x0 : Nat} {x1 : Int32} : am_f X (d + 1) 219 [.ref x0, .int x1] σ = am_I X (am_f X d) 219 0 [some (.ref x0), some (.int x1)] [] σ := am_fU ml_219 (by show 2 ≤ 2; decide)
theorem fU_220 {x0 : Nat} : am_f X (d + 1) 220 [.ref x0] σ = am_I X (am_f X d) 220 0 [some (.ref x0), none, none] [] σ := am_fU ml_220 (by show 1 ≤ 3; decide)
theorem fU_221 {x0 : Nat} {x1 : Int32} {x2 : Int32} : am_f X (d + 1) 221 [.ref x0, .int x1, .int x2] σ = am_I X (am_f X d) 221 0 [some (.ref x0), some (.int x1), some (.int x2)] [] σ := am_fU ml_221 (by show 3 ≤ 3; decide)
theorem fU_222 {x0 : Nat} {x1 : Int32} {x2 : Int32} : am_f X (d + 1) 222 [.ref x0, .int x1, .int x2] σ = am_I X (am_f X d) 222 0 [some (.ref x0), some (.int x1), some (.int x2)] [] σ := am_fU ml_222 (by show 3 ≤ 3; decide)
theorem fU_223 {x0 : Nat} {x1 : Int32} {x2 : Int32} : am_f X (d + 1) 223 [.ref x0, .int x1, .int x2] σ = am_I X (am_f X d) 223 0 [some (.ref x0), some (.int x1), some (.int x2), none] [] σ := am_fU ml_223 (by show 3 ≤ 4; decide)
theorem fU_224 {x0 : Nat} {x1 : Int32} {x2 : Int32} : am_f X (d + 1) 224 [.ref x0, .int x1, .int x2] σ = am_I X (am_f X d) 224 0 [some (.ref x0), some (.int x1), some (.int x2)] [] σ := am_fU ml_224 (by show 3 ≤ 3; decide)
theorem fU_225 {x0 : Nat} : am_f X (d + 1) 225 [.ref x0] σ = am_I X (am_f X d) 225 0 [some (.ref x0), none, none] [] σ := am_fU ml_225 (by show 1 ≤ 3; decide)
theorem fU_226 {x0 : Nat} {x1 : Int32} {x2 : Int32} : am_f X (d + 1) 226 [.ref x0, .int x1, .int x2] σ = am_I X (am_f X d) 226 0 [some (.ref x0), some (.int x1), some (.int x2)] [] σ := am_fU ml_226 (by show 3 ≤ 3; decide)
theorem fU_227 {x0 : Nat} {x1 : Int32} {x2 : Int32} : am_f X (d + 1) 227 [.ref x0, .int x1, .int x2] σ = am_I X (am_f X d) 227 0 [some (.ref x0), some (.int x1), some (.int x2)] [] σ := am_fU ml_227 (by show 3 ≤ 3; decide)
theorem fU_228 {x0 : Nat} {x1 : Int32} : am_f X (d + 1) 228 [.ref x0, .int x1] σ = am_I X (am_f X d) 228 0 [some (.ref x0), some (.int x1)] [] σ := am_fU ml_228 (by show 2 ≤ 2; decide)
theorem fU_229 {x0 : Nat} : am_f X (d + 1) 229 [.ref x0] σ = am_I X (am_f X d) 229 0 [some (.ref x0)] [] σ := am_fU ml_229 (by show 1 ≤ 1; decide)
theorem fU_230 {x0 : Nat} {x1 : Int32} : am_f X (d + 1) 230 [.ref x0, .int x1] σ = am_I X (am_f X d) 230 0 [some (.ref x0), some (.int x1)] [] σ := am_fU ml_230 (by show 2 ≤ 2; decide)
theorem fU_231 {x0 : Nat} {x1 : Int32} : am_f X (d + 1) 231 [.ref x0, .int x1] σ = am_I X (am_f X d) 231 0 [some (.ref x0), some (.int x1), none, none] [] σ := am_fU ml_231 (by show 2 ≤ 4; decide)
theorem fU_232 {x0 : Nat} : am_f X (d + 1) 232 [.ref x0] σ = am_I X (am_f X d) 232 0 [some (.ref x0)] [] σ := am_fU ml_232 (by show 1 ≤ 1; decide)
theorem fU_233 {x0 : Nat} : am_f X (d + 1) 233 [.ref x0] σ = am_I X (am_f X d) 233 0 [some (.ref x0), none, none, none] [] σ := am_fU ml_233 (by show 1 ≤ 4; decide)
theorem fU_234 {x0 : Nat} {x1 : Int32} {x2 : Int32} : am_f X (d + 1) 234 [.ref x0, .int x1, .int x2] σ = am_I X (am_f X d) 234 0 [some (.ref x0), some (.int x1), some (.int x2)] [] σ := am_fU ml_234 (by show 3 ≤ 3; decide)
theorem fU_235 {x0 : Nat} {x1 : Int32} : am_f X (d + 1) 235 [.ref x0, .int x1] σ = am_I X (am_f X d) 235 0 [some (.ref x0), some (.int x1), none, none, none, none, none, none] [] σ := am_fU ml_235 (by show 2 ≤ 8; decide)
theorem fU_236 {x0 : Int64} {x1 : Int64} : am_f X (d + 1) 236 [.long x0, .long x1] σ = am_I X (am_f X d) 236 0 [some (.long x0), none, some (.long x1), none, none, none, none, none, none, none] [] σ := am_fU ml_236 (by show 4 ≤ 10; decide)
theorem fU_237 {x0 : Nat} : am_f X (d + 1) 237 [.ref x0] σ = am_I X (am_f X d) 237 0 [some (.ref x0)] [] σ := am_fU ml_237 (by show 1 ≤ 1; decide)
theorem fU_238 {x0 : Nat} : am_f X (d + 1) 238 [.ref x0] σ = am_I X (am_f X d) 238 0 [some (.ref x0), none, none, none, none, none, none] [] σ := am_fU ml_238 (by show 1 ≤ 7; decide)
theorem fU_239 {x0 : Nat} : am_f X (d + 1) 239 [.ref x0] σ = am_I X (am_f X d) 239 0 [some (.ref x0)] [] σ := am_fU ml_239 (by show 1 ≤ 1; decide)
theorem fU_240 {x0 : Nat} : am_f X (d + 1) 240 [.ref x0] σ = am_I X (am_f X d) 240 0 [some (.ref x0), none] [] σ := am_fU ml_240 (by show 1 ≤ 2; decide)
theorem fU_241 {x0 : Nat} : am_f X (d + 1) 241 [.ref x0] σ = am_I X (am_f X d) 241 0 [some (.ref x0), none, none, none, none] [] σ := am_fU ml_241 (by show 1 ≤ 5; decide)
theorem fU_242 {x0 : Nat} {x1 : Int32} {x2 : Int32} : am_f X (d + 1) 242 [.ref x0, .int x1, .int x2] σ = am_I X (am_f X d) 242 0 [some (.ref x0), some (.int x1), some (.int x2), none, none, none, none, none] [] σ := am_fU ml_242 (by show 3 ≤ 8; decide)
theorem fU_243 {x0 : Nat} : am_f X (d + 1) 243 [.ref x0] σ = am_I X (am_f X d) 243 0 [some (.ref x0), none, none, none, none, none, none, none] [] σ := am_fU ml_243 (by show 1 ≤ 8; decide)
theorem fU_244 {x0 : Nat} {x1 : Int32} : am_f X (d + 1) 244 [.ref x0, .int x1] σ = am_I X (am_f X d) 244 0 [some (.ref x0), some (.int x1), none, none, none] [] σ := am_fU ml_244 (by show 2 ≤ 5; decide)
theorem fU_245 {x0 : Nat} {x1 : Int32} : am_f X (d + 1) 245 [.ref x0, .int x1] σ = am_I X (am_f X d) 245 0 [some (.ref x0), some (.int x1), none, none, none] [] σ := am_fU ml_245 (by show 2 ≤ 5; decide)
theorem fU_246 {x0 : Nat} : am_f X (d + 1) 246 [.ref x0] σ = am_I X (am_f X d) 246 0 [some (.ref x0)] [] σ := am_fU ml_246 (by show 1 ≤ 1; decide)
theorem fU_247 {x0 : Nat} : am_f X (d + 1) 247 [.ref x0] σ = am_I X (am_f X d) 247 0 [some (.ref x0), none, none] [] σ := am_fU ml_247 (by show 1 ≤ 3; decide)
theorem fU_248 {x0 : Nat} : am_f X (d + 1) 248 [.ref x0] σ = am_I X (am_f X d) 248 0 [some (.ref x0)] [] σ := am_fU ml_248 (by show 1 ≤ 1; decide)
theorem fU_249 {x0 : Nat} : am_f X (d + 1) 249 [.ref x0] σ = am_I X (am_f X d) 249 0 [some (.ref x0)] [] σ := am_fU ml_249 (by show 1 ≤ 1; decide)
theorem fU_250 {x0 : Nat} : am_f X (d + 1) 250 [.ref x0] σ = am_I X (am_f X d) 250 0 [some (.ref x0)] [] σ := am_fU ml_250 (by show 1 ≤ 1; decide)
theorem fU_251 {x0 : Nat} : am_f X (d + 1) 251 [.ref x0] σ = am_I X (am_f X d) 251 0 [some (.ref x0)] [] σ := am_fU ml_251 (by show 1 ≤ 1; decide)
theorem fU_252 {x0 : Nat} : am_f X (d + 1) 252 [.ref x0] σ = am_I X (am_f X d) 252 0 [some (.ref x0), none, none, none, none, none, none] [] σ := am_fU ml_252 (by show 1 ≤ 7; decide)
theorem fU_253 {x0 : Nat} {x1 : Int32} {x2 : Int32} : am_f X (d + 1) 253 [.ref x0, .int x1, .int x2] σ = am_I X (am_f X d) 253 0 [some (.ref x0), some (.int x1), some (.int x2)] [] σ := am_fU ml_253 (by show 3 ≤ 3; decide)
theorem fU_254 {x0 : Nat} {x1 : Int32} {x2 : Int32} : am_f X (d + 1) 254 [.ref x0, .int x1, .int x2] σ = am_I X (am_f X d) 254 0 [some (.ref x0), some (.int x1), some (.int x2), none, none, none, none, none, none, none, none, none] [] σ := am_fU ml_254 (by show 3 ≤ 12; decide)
theorem fU_255 {x0 : Nat} {x1 : Int32} : am_f X (d + 1) 255 [.ref x0, .int x1] σ = am_I X (am_f X d) 255 0 [some (.ref x0), some (.int x1), none] [] σ := am_fU ml_255 (by show 2 ≤ 3; decide)
theorem fU_256 {x0 : Nat} {x1 : Int32} : am_f X (d + 1) 256 [.ref x0, .int x1] σ = am_I X (am_f X d) 256 0 [some (.ref x0), some (.int x1), none, none, none] [] σ := am_fU ml_256 (by show 2 ≤ 5; decide)
theorem fU_257 {x0 : Nat} {x1 : Int32} {x2 : Int32} : am_f X (d + 1) 257 [.ref x0, .int x1, .int x2] σ = am_I X (am_f X d) 257 0 [some (.ref x0), some (.int x1), some (.int x2), none, none] [] σ := am_fU ml_257 (by show 3 ≤ 5; decide)
theorem fU_258 {x0 : Nat} {x1 : Int32} : am_f X (d + 1) 258 [.ref x0, .int x1] σ = am_I X (am_f X d) 258 0 [some (.ref x0), some (.int x1), none, none, none, none, none, none, none, none] [] σ := am_fU ml_258 (by show 2 ≤ 10; decide)
theorem fU_259 {x0 : Nat} : am_f X (d + 1) 259 [.ref x0] σ = am_I X (am_f X d) 259 0 [some (.ref x0), none] [] σ := am_fU ml_259 (by show 1 ≤ 2; decide)
theorem fU_260 {x0 : Nat} : am_f X (d + 1) 260 [.ref x0] σ = am_I X (am_f X d) 260 0 [some (.ref x0), none] [] σ := am_fU ml_260 (by show 1 ≤ 2; decide)
theorem fU_261 {x0 : Nat} {x1 : Int32} : am_f X (d + 1) 261 [.ref x0, .int x1] σ = am_I X (am_f X d) 261 0 [some (.ref x0), some (.int x1), none, none, none] [] σ := am_fU ml_261 (by show 2 ≤ 5; decide)
theorem fU_262 {x0 : Nat} {x1 : Int32} {x2 : Int32} : am_f X (d + 1) 262 [.ref x0, .int x1, .int x2] σ = am_I X (am_f X d) 262 0 [some (.ref x0), some (.int x1), some (.int x2), none, none, none, none, none, none, none] [] σ := am_fU ml_262 (by show 3 ≤ 10; decide)
theorem fU_263 {x0 : Nat} : am_f X (d + 1) 263 [.ref x0] σ = am_I X (am_f X d) 263 0 [some (.ref x0)] [] σ := am_fU ml_263 (by show 1 ≤ 1; decide)
theorem fU_264 {x0 : Nat} {x1 : Int32} {x2 : Int32} {x3 : Int32} : am_f X (d + 1) 264 [.ref x0, .int x1, .int x2, .int x3] σ = am_I X (am_f X d) 264 0 [some (.ref x0), some (.int x1), some (.int x2), some (.int x3), none, none] [] σ := am_fU ml_264 (by show 4 ≤ 6; decide)
theorem fU_265 {x0 : Nat} {x1 : Int32} {x2 : Int32} : am_f X (d + 1) 265 [.ref x0, .int x1, .int x2] σ = am_I X (am_f X d) 265 0 [some (.ref x0), some (.int x1), some (.int x2), none, none] [] σ := am_fU ml_265 (by show 3 ≤ 5; decide)
theorem fU_266 {x0 : Nat} {x1 : Int32} : am_f X (d + 1) 266 [.ref x0, .int x1] σ = am_I X (am_f X d) 266 0 [some (.ref x0), some (.int x1), none, none, none, none] [] σ := am_fU ml_266 (by show 2 ≤ 6; decide)
theorem fU_267 {x0 : Nat} {x1 : Int32} : am_f X (d + 1) 267 [.ref x0, .int x1] σ = am_I X (am_f X d) 267 0 [some (.ref x0), some (.int x1), none, none, none] [] σ := am_fU ml_267 (by show 2 ≤ 5; decide)
theorem fU_268 {x0 : Nat} {x1 : Int32} : am_f X (d + 1) 268 [.ref x0, .int x1] σ = am_I X (am_f X d) 268 0 [some (.ref x0), some (.int x1)] [] σ := am_fU ml_268 (by show 2 ≤ 2; decide)
theorem fU_269 {x0 : Nat} : am_f X (d + 1) 269 [.ref x0] σ = am_I X (am_f X d) 269 0 [some (.ref x0), none] [] σ := am_fU ml_269 (by show 1 ≤ 2; decide)
theorem fU_270 {x0 : Nat} : am_f X (d + 1) 270 [.ref x0] σ = am_I X (am_f X d) 270 0 [some (.ref x0), none] [] σ := am_fU ml_270 (by show 1 ≤ 2; decide)
theorem fU_271 {x0 : Nat} {x1 : Int32} : am_f X (d + 1) 271 [.ref x0, .int x1] σ = am_I X (am_f X d) 271 0 [some (.ref x0), some (.int x1), none, none] [] σ := am_fU ml_271 (by show 2 ≤ 4; decide)
theorem fU_272 {x0 : Nat} {x1 : Int32} {x2 : Int32} {x3 : Int32} : am_f X (d + 1) 272 [.ref x0, .int x1, .int x2, .int x3] σ = am_I X (am_f X d) 272 0 [some (.ref x0), some (.int x1), some (.int x2), some (.int x3)] [] σ := am_fU ml_272 (by show 4 ≤ 4; decide)
theorem fU_273 {x0 : Nat} {x1 : Int32} : am_f X (d + 1) 273 [.ref x0, .int x1] σ = am_I X (am_f X d) 273 0 [some (.ref x0), some (.int x1), none] [] σ := am_fU ml_273 (by show 2 ≤ 3; decide)
theorem fU_274 {x0 : Nat} {x1 : Int32} {x2 : Int32} {x3 : Int32} : am_f X (d + 1) 274 [.ref x0, .int x1, .int x2, .int x3] σ = am_I X (am_f X d) 274 0 [some (.ref x0), some (.int x1), some (.int x2), some (.int x3), none] [] σ := am_fU ml_274 (by show 4 ≤ 5; decide)
theorem fU_275 {x0 : Nat} {x1 : Int32} {x2 : Int32} {x3 : Int32} : am_f X (d + 1) 275 [.ref x0, .int x1, .int x2, .int x3] σ = am_I X (am_f X d) 275 0 [some (.ref x0), some (.int x1), some (.int x2), some (.int x3), none] [] σ := am_fU ml_275 (by show 4 ≤ 5; decide)
theorem fU_276 {x0 : Nat} {x1 : Int32} {x2 : Int32} : am_f X (d + 1) 276 [.ref x0, .int x1, .int x2] σ = am_I X (am_f X d) 276 0 [some (.ref x0), some (.int x1), some (.int x2)] [] σ := am_fU ml_276 (by show 3 ≤ 3; decide)
theorem fU_277 {x0 : Nat} {x1 : Int32} {x2 : Int32} {x3 : Int32} {x4 : Int32} {x5 : Int32} : am_f X (d + 1) 277 [.ref x0, .int x1, .int x2, .int x3, .int x4, .int x5] σ = am_I X (am_f X d) 277 0 [some (.ref x0), some (.int x1), some (.int x2), some (.int x3), some (.int x4), some (.int x5), none, none] [] σ := am_fU ml_277 (by show 6 ≤ 8; decide)
theorem fU_278 {x0 : Nat} {x1 : Int32} : am_f X (d + 1) 278 [.ref x0, .int x1] σ = am_I X (am_f X d) 278 0 [some (.ref x0), some (.int x1), none] [] σ := am_fU ml_278 (by show 2 ≤ 3; decide)
theorem fU_279 {x0 : Nat} {x1 : Int32} : am_f X (d + 1) 279 [.ref x0, .int x1] σ = am_I X (am_f X d) 279 0 [some (.ref x0), some (.int x1)] [] σ := am_fU ml_279 (by show 2 ≤ 2; decide)
theorem fU_280 {x0 : Nat} {x1 : Int32} : am_f X (d + 1) 280 [.ref x0, .int x1] σ = am_I X (am_f X d) 280 0 [some (.ref x0), some (.int x1), none] [] σ := am_fU ml_280 (by show 2 ≤ 3; decide)
theorem fU_281 {x0 : Nat} : am_f X (d + 1) 281 [.ref x0] σ = am_I X (am_f X d) 281 0 [some (.ref x0), none, none, none, none, none, none, none] [] σ := am_fU ml_281 (by show 1 ≤ 8; decide)
theorem fk_1_11_1 : am_fk 1 11 1 = some 0 := by decide +kernel
theorem fk_0_97_1 : am_fk 0 97 1 = some 0 := by decide +kernel
theorem fk_4_56_1 : am_fk 4 56 1 = some 0 := by decide +kernel
theorem fk_5_102_1 : am_fk 5 102 1 = some 0 := by decide +kernel
theorem fk_3_134_1 : am_fk 3 134 1 = some 0 := by decide +kernel
theorem fk_1_44_1 : am_fk 1 44 1 = some 1 := by decide +kernel
theorem fk_5_29_1 : am_fk 5 29 1 = some 1 := by decide +kernel
theorem fk_0_80_1 : am_fk 0 80 1 = some 1 := by decide +kernel
theorem fk_4_52_1 : am_fk 4 52 1 = some 1 := by decide +kernel
theorem fk_2_40_1 : am_fk 2 40 1 = some 1 := by decide +kernel
theorem fk_3_107_1 : am_fk 3 107 1 = some 1 := by decide +kernel
theorem fk_1_17_1 : am_fk 1 17 1 = some 2 := by decide +kernel
theorem fk_0_136_1 : am_fk 0 136 1 = some 2 := by decide +kernel
theorem fk_3_104_1 : am_fk 3 104 1 = some 2 := by decide +kernel
theorem fk_1_21_1 : am_fk 1 21 1 = some 3 := by decide +kernel
theorem fk_0_116_1 : am_fk 0 116 1 = some 3 := by decide +kernel
theorem fk_3_143_1 : am_fk 3 143 1 = some 3 := by decide +kernel
theorem fk_1_25_1 : am_fk 1 25 1 = some 4 := by decide +kernel
theorem fk_5_92_1 : am_fk 5 92 1 = some 4 := by decide +kernel
theorem fk_4_157_1 : am_fk 4 157 1 = some 4 := by decide +kernel
theorem fk_0_319_1 : am_fk 0 319 1 = some 4 := by decide +kernel
theorem fk_1_28_1 : am_fk 1 28 1 = some 5 := by decide +kernel
theorem fk_4_84_1 : am_fk 4 84 1 = some 5 := by decide +kernel
theorem fk_5_86_1 : am_fk 5 86 1 = some 5 := by decide +kernel
theorem fk_1_31_1 : am_fk 1 31 1 = some 6 := by decide +kernel
theorem fk_4_163_1 : am_fk 4 163 1 = some 6 := by decide +kernel
theorem fk_1_34_1 : am_fk 1 34 1 = some 7 := by decide +kernel
theorem fk_0_129_1 : am_fk 0 129 1 = some 7 := by decide +kernel
theorem fk_1_37_1 : am_fk 1 37 1 = some 8 := by decide +kernel
theorem fk_0_191_1 : am_fk 0 191 1 = some 8 := by decide +kernel
theorem fk_4_179_1 : am_fk 4 179 1 = some 8 := by decide +kernel
theorem fk_1_41_1 : am_fk 1 41 1 = some 9 := by decide +kernel
theorem fk_0_195_1 : am_fk 0 195 1 = some 9 := by decide +kernel
theorem fk_4_182_1 : am_fk 4 182 1 = some 9 := by decide +kernel
theorem fk_2_9_2 : am_fk 2 9 2 = some 0 := by decide +kernel
theorem fk_0_139_2 : am_fk 0 139 2 = some 0 := by decide +kernel
theorem fk_2_15_2 : am_fk 2 15 2 = some 1 := by decide +kernel
theorem fk_0_153_2 : am_fk 0 153 2 = some 1 := by decide +kernel
theorem fk_2_18_2 : am_fk 2 18 2 = some 2 := by decide +kernel
theorem fk_2_21_2 : am_fk 2 21 2 = some 3 := by decide +kernel
theorem fk_2_30_2 : am_fk 2 30 2 = some 4 := by decide +kernel
theorem fk_0_165_2 : am_fk 0 165 2 = some 4 := by decide +kernel
theorem fk_3_9_3 : am_fk 3 9 3 = some 0 := by decide +kernel
theorem fk_3_31_3 : am_fk 3 31 3 = some 1 := by decide +kernel
theorem fk_3_46_3 : am_fk 3 46 3 = some 2 := by decide +kernel
theorem fk_3_49_3 : am_fk 3 49 3 = some 3 := by decide +kernel
theorem fk_3_18_3 : am_fk 3 18 3 = some 4 := by decide +kernel
theorem fk_3_67_3 : am_fk 3 67 3 = some 5 := by decide +kernel
theorem fk_3_80_3 : am_fk 3 80 3 = some 6 := by decide +kernel
theorem fk_3_83_3 : am_fk 3 83 3 = some 7 := by decide +kernel
theorem fk_3_95_3 : am_fk 3 95 3 = some 8 := by decide +kernel
theorem fk_3_22_3 : am_fk 3 22 3 = some 9 := by decide +kernel
theorem fk_3_25_3 : am_fk 3 25 3 = some 10 := by decide +kernel
theorem fk_3_98_3 : am_fk 3 98 3 = some 11 := by decide +kernel
theorem fk_3_73_3 : am_fk 3 73 3 = some 12 := by decide +kernel
theorem fk_3_101_3 : am_fk 3 101 3 = some 13 := by decide +kernel
theorem fk_3_28_3 : am_fk 3 28 3 = some 14 := by decide +kernel
theorem fk_4_38_4 : am_fk 4 38 4 = some 0 := by decide +kernel
theorem fk_4_9_4 : am_fk 4 9 4 = some 1 := by decide +kernel
theorem fk_4_42_4 : am_fk 4 42 4 = some 2 := by decide +kernel
theorem fk_4_15_4 : am_fk 4 15 4 = some 3 := by decide +kernel
theorem fk_4_19_4 : am_fk 4 19 4 = some 4 := by decide +kernel
theorem fk_4_90_4 : am_fk 4 90 4 = some 5 := by decide +kernel
theorem fk_4_97_4 : am_fk 4 97 4 = some 6 := by decide +kernel
theorem fk_4_22_4 : am_fk 4 22 4 = some 7 := by decide +kernel
theorem fk_4_26_4 : am_fk 4 26 4 = some 8 := by decide +kernel
theorem fk_4_29_4 : am_fk 4 29 4 = some 9 := by decide +kernel
theorem fk_4_101_4 : am_fk 4 101 4 = some 10 := by decide +kernel
theorem fk_4_104_4 : am_fk 4 104 4 = some 11 := by decide +kernel
theorem fk_4_32_4 : am_fk 4 32 4 = some 12 := by decide +kernel
theorem fk_0_226_4 : am_fk 0 226 4 = some 12 := by decide +kernel
theorem fk_4_35_4 : am_fk 4 35 4 = some 13 := by decide +kernel
theorem fk_0_229_4 : am_fk 0 229 4 = some 13 := by decide +kernel
theorem fk_5_22_5 : am_fk 5 22 5 = some 0 := by decide +kernel
theorem fk_5_11_5 : am_fk 5 11 5 = some 1 := by decide +kernel
theorem fk_5_62_5 : am_fk 5 62 5 = some 2 := by decide +kernel
theorem fk_5_15_5 : am_fk 5 15 5 = some 3 := by decide +kernel
theorem fk_5_18_5 : am_fk 5 18 5 = some 4 := by decide +kernel
theorem fk_5_45_5 : am_fk 5 45 5 = some 5 := by decide +kernel
theorem fk_5_52_5 : am_fk 5 52 5 = some 6 := by decide +kernel
theorem fk_5_56_5 : am_fk 5 56 5 = some 7 := by decide +kernel
theorem fk_0_12_0 : am_fk 0 12 0 = some 0 := by decide +kernel
theorem fk_0_19_0 : am_fk 0 19 0 = some 1 := by decide +kernel
theorem fk_0_23_0 : am_fk 0 23 0 = some 2 := by decide +kernel
theorem fk_0_26_0 : am_fk 0 26 0 = some 3 := by decide +kernel
theorem fk_0_268_0 : am_fk 0 268 0 = some 4 := by decide +kernel
theorem fk_0_32_0 : am_fk 0 32 0 = some 5 := by decide +kernel
theorem fk_0_41_0 : am_fk 0 41 0 = some 6 := by decide +kernel
theorem fk_0_48_0 : am_fk 0 48 0 = some 7 := by decide +kernel
theorem fk_0_52_0 : am_fk 0 52 0 = some 8 := by decide +kernel
theorem fk_0_58_0 : am_fk 0 58 0 = some 9 := by decide +kernel
theorem fk_0_64_0 : am_fk 0 64 0 = some 10 := by decide +kernel
theorem fk_0_67_0 : am_fk 0 67 0 = some 11 := by decide +kernel
theorem fk_0_70_0 : am_fk 0 70 0 = some 12 := by decide +kernel
theorem fk_7_7_7 : am_fk 7 7 7 = some 5 := by decide +kernel
theorem fk_6_9_6 : am_fk 6 9 6 = some 0 := by decide +kernel
theorem fk_6_9_7 : am_fk 6 9 7 = some 0 := by decide +kernel
theorem fk_6_9_8 : am_fk 6 9 8 = some 0 := by decide +kernel
theorem fk_6_9_9 : am_fk 6 9 9 = some 0 := by decide +kernel
theorem fk_6_9_10 : am_fk 6 9 10 = some 0 := by decide +kernel
theorem fk_6_9_11 : am_fk 6 9 11 = some 0 := by decide +kernel
theorem fk_8_9_6 : am_fk 8 9 6 = some 0 := by decide +kernel
theorem fk_8_9_7 : am_fk 8 9 7 = some 0 := by decide +kernel
theorem fk_8_9_8 : am_fk 8 9 8 = some 0 := by decide +kernel
theorem fk_8_9_9 : am_fk 8 9 9 = some 0 := by decide +kernel
theorem fk_8_9_10 : am_fk 8 9 10 = some 0 := by decide +kernel
theorem fk_8_9_11 : am_fk 8 9 11 = some 0 := by decide +kernel
theorem fk_10_13_6 : am_fk 10 13 6 = some 0 := by decide +kernel
theorem fk_10_13_7 : am_fk 10 13 7 = some 0 := by decide +kernel
theorem fk_10_13_8 : am_fk 10 13 8 = some 0 := by decide +kernel
theorem fk_10_13_9 : am_fk 10 13 9 = some 0 := by decide +kernel
theorem fk_10_13_10 : am_fk 10 13 10 = some 0 := by decide +kernel
theorem fk_10_13_11 : am_fk 10 13 11 = some 0 := by decide +kernel
theorem fk_9_13_6 : am_fk 9 13 6 = some 0 := by decide +kernel
theorem fk_9_13_7 : am_fk 9 13 7 = some 0 := by decide +kernel
theorem fk_9_13_8 : am_fk 9 13 8 = some 0 := by decide +kernel
theorem fk_9_13_9 : am_fk 9 13 9 = some 0 := by decide +kernel
theorem fk_9_13_10 : am_fk 9 13 10 = some 0 := by decide +kernel
theorem fk_9_13_11 : am_fk 9 13 11 = some 0 := by decide +kernel
theorem fk_7_13_6 : am_fk 7 13 6 = some 0 := by decide +kernel
theorem fk_7_13_7 : am_fk 7 13 7 = some 0 := by decide +kernel
theorem fk_7_13_8 : am_fk 7 13 8 = some 0 := by decide +kernel
theorem fk_7_13_9 : am_fk 7 13 9 = some 0 := by decide +kernel
theorem fk_7_13_10 : am_fk 7 13 10 = some 0 := by decide +kernel
theorem fk_7_13_11 : am_fk 7 13 11 = some 0 := by decide +kernel
theorem fk_11_13_6 : am_fk 11 13 6 = some 0 := by decide +kernel
theorem fk_11_13_7 : am_fk 11 13 7 = some 0 := by decide +kernel
theorem fk_11_13_8 : am_fk 11 13 8 = some 0 := by decide +kernel
theorem fk_11_13_9 : am_fk 11 13 9 = some 0 := by decide +kernel
theorem fk_11_13_10 : am_fk 11 13 10 = some 0 := by decide +kernel
theorem fk_11_13_11 : am_fk 11 13 11 = some 0 := by decide +kernel
theorem fk_6_15_6 : am_fk 6 15 6 = some 1 := by decide +kernel
theorem fk_6_15_7 : am_fk 6 15 7 = some 1 := by decide +kernel
theorem fk_6_15_8 : am_fk 6 15 8 = some 1 := by decide +kernel
theorem fk_6_15_9 : am_fk 6 15 9 = some 1 := by decide +kernel
theorem fk_6_15_10 : am_fk 6 15 10 = some 1 := by decide +kernel
theorem fk_6_15_11 : am_fk 6 15 11 = some 1 := by decide +kernel
theorem fk_4_60_6 : am_fk 4 60 6 = some 1 := by decide +kernel
theorem fk_4_60_7 : am_fk 4 60 7 = some 1 := by decide +kernel
theorem fk_4_60_8 : am_fk 4 60 8 = some 1 := by decide +kernel
theorem fk_4_60_9 : am_fk 4 60 9 = some 1 := by decide +kernel
theorem fk_4_60_10 : am_fk 4 60 10 = some 1 := by decide +kernel
theorem fk_4_60_11 : am_fk 4 60 11 = some 1 := by decide +kernel
theorem fk_0_104_6 : am_fk 0 104 6 = some 1 := by decide +kernel
theorem fk_0_104_7 : am_fk 0 104 7 = some 1 := by decide +kernel
theorem fk_0_104_8 : am_fk 0 104 8 = some 1 := by decide +kernel
theorem fk_0_104_9 : am_fk 0 104 9 = some 1 := by decide +kernel
theorem fk_0_104_10 : am_fk 0 104 10 = some 1 := by decide +kernel
theorem fk_0_104_11 : am_fk 0 104 11 = some 1 := by decide +kernel
theorem fk_5_106_6 : am_fk 5 106 6 = some 1 := by decide +kernel
theorem fk_5_106_7 : am_fk 5 106 7 = some 1 := by decide +kernel
theorem fk_5_106_8 : am_fk 5 106 8 = some 1 := by decide +kernel
theorem fk_5_106_9 : am_fk 5 106 9 = some 1 := by decide +kernel
theorem fk_5_106_10 : am_fk 5 106 10 = some 1 := by decide +kernel
theorem fk_5_106_11 : am_fk 5 106 11 = some 1 := by decide +kernel
theorem fk_1_133_6 : am_fk 1 133 6 = some 1 := by decide +kernel
theorem fk_1_133_7 : am_fk 1 133 7 = some 1 := by decide +kernel
theorem fk_1_133_8 : am_fk 1 133 8 = some 1 := by decide +kernel
theorem fk_1_133_9 : am_fk 1 133 9 = some 1 := by decide +kernel
theorem fk_1_133_10 : am_fk 1 133 10 = some 1 := by decide +kernel
theorem fk_1_133_11 : am_fk 1 133 11 = some 1 := by decide +kernel
theorem fk_6_18_6 : am_fk 6 18 6 = some 2 := by decide +kernel
theorem fk_6_18_7 : am_fk 6 18 7 = some 2 := by decide +kernel
theorem fk_6_18_8 : am_fk 6 18 8 = some 2 := by decide +kernel
theorem fk_6_18_9 : am_fk 6 18 9 = some 2 := by decide +kernel
theorem fk_6_18_10 : am_fk 6 18 10 = some 2 := by decide +kernel
theorem fk_6_18_11 : am_fk 6 18 11 = some 2 := by decide +kernel
theorem fk_0_107_6 : am_fk 0 107 6 = some 2 := by decide +kernel
theorem fk_0_107_7 : am_fk 0 107 7 = some 2 := by decide +kernel
theorem fk_0_107_8 : am_fk 0 107 8 = some 2 := by decide +kernel
theorem fk_0_107_9 : am_fk 0 107 9 = some 2 := by decide +kernel
theorem fk_0_107_10 : am_fk 0 107 10 = some 2 := by decide +kernel
theorem fk_0_107_11 : am_fk 0 107 11 = some 2 := by decide +kernel
theorem fk_8_13_6 : am_fk 8 13 6 = some 2 := by decide +kernel
theorem fk_8_13_7 : am_fk 8 13 7 = some 2 := by decide +kernel
theorem fk_8_13_8 : am_fk 8 13 8 = some 2 := by decide +kernel
theorem fk_8_13_9 : am_fk 8 13 9 = some 2 := by decide +kernel
theorem fk_8_13_10 : am_fk 8 13 10 = some 2 := by decide +kernel
theorem fk_8_13_11 : am_fk 8 13 11 = some 2 := by decide +kernel
theorem fk_10_17_6 : am_fk 10 17 6 = some 2 := by decide +kernel
theorem fk_10_17_7 : am_fk 10 17 7 = some 2 := by decide +kernel
theorem fk_10_17_8 : am_fk 10 17 8 = some 2 := by decide +kernel
theorem fk_10_17_9 : am_fk 10 17 9 = some 2 := by decide +kernel
theorem fk_10_17_10 : am_fk 10 17 10 = some 2 := by decide +kernel
theorem fk_10_17_11 : am_fk 10 17 11 = some 2 := by decide +kernel
theorem fk_9_16_6 : am_fk 9 16 6 = some 2 := by decide +kernel
theorem fk_9_16_7 : am_fk 9 16 7 = some 2 := by decide +kernel
theorem fk_9_16_8 : am_fk 9 16 8 = some 2 := by decide +kernel
theorem fk_9_16_9 : am_fk 9 16 9 = some 2 := by decide +kernel
theorem fk_9_16_10 : am_fk 9 16 10 = some 2 := by decide +kernel
theorem fk_9_16_11 : am_fk 9 16 11 = some 2 := by decide +kernel
theorem fk_7_16_6 : am_fk 7 16 6 = some 2 := by decide +kernel
theorem fk_7_16_7 : am_fk 7 16 7 = some 2 := by decide +kernel
theorem fk_7_16_8 : am_fk 7 16 8 = some 2 := by decide +kernel
theorem fk_7_16_9 : am_fk 7 16 9 = some 2 := by decide +kernel
theorem fk_7_16_10 : am_fk 7 16 10 = some 2 := by decide +kernel
theorem fk_7_16_11 : am_fk 7 16 11 = some 2 := by decide +kernel
theorem fk_11_16_6 : am_fk 11 16 6 = some 2 := by decide +kernel
theorem fk_11_16_7 : am_fk 11 16 7 = some 2 := by decide +kernel
theorem fk_11_16_8 : am_fk 11 16 8 = some 2 := by decide +kernel
theorem fk_11_16_9 : am_fk 11 16 9 = some 2 := by decide +kernel
theorem fk_11_16_10 : am_fk 11 16 10 = some 2 := by decide +kernel
theorem fk_11_16_11 : am_fk 11 16 11 = some 2 := by decide +kernel
theorem fk_1_106_6 : am_fk 1 106 6 = some 2 := by decide +kernel
theorem fk_1_106_7 : am_fk 1 106 7 = some 2 := by decide +kernel
theorem fk_1_106_8 : am_fk 1 106 8 = some 2 := by decide +kernel
theorem fk_1_106_9 : am_fk 1 106 9 = some 2 := by decide +kernel
theorem fk_1_106_10 : am_fk 1 106 10 = some 2 := by decide +kernel
theorem fk_1_106_11 : am_fk 1 106 11 = some 2 := by decide +kernel
theorem fk_6_21_6 : am_fk 6 21 6 = some 3 := by decide +kernel
theorem fk_6_21_7 : am_fk 6 21 7 = some 3 := by decide +kernel
theorem fk_6_21_8 : am_fk 6 21 8 = some 3 := by decide +kernel
theorem fk_6_21_9 : am_fk 6 21 9 = some 3 := by decide +kernel
theorem fk_6_21_10 : am_fk 6 21 10 = some 3 := by decide +kernel
theorem fk_6_21_11 : am_fk 6 21 11 = some 3 := by decide +kernel
theorem fk_8_16_6 : am_fk 8 16 6 = some 3 := by decide +kernel
theorem fk_8_16_7 : am_fk 8 16 7 = some 3 := by decide +kernel
theorem fk_8_16_8 : am_fk 8 16 8 = some 3 := by decide +kernel
theorem fk_8_16_9 : am_fk 8 16 9 = some 3 := by decide +kernel
theorem fk_8_16_10 : am_fk 8 16 10 = some 3 := by decide +kernel
theorem fk_8_16_11 : am_fk 8 16 11 = some 3 := by decide +kernel
theorem fk_10_20_6 : am_fk 10 20 6 = some 3 := by decide +kernel
theorem fk_10_20_7 : am_fk 10 20 7 = some 3 := by decide +kernel
theorem fk_10_20_8 : am_fk 10 20 8 = some 3 := by decide +kernel
theorem fk_10_20_9 : am_fk 10 20 9 = some 3 := by decide +kernel
theorem fk_10_20_10 : am_fk 10 20 10 = some 3 := by decide +kernel
theorem fk_10_20_11 : am_fk 10 20 11 = some 3 := by decide +kernel
theorem fk_0_123_6 : am_fk 0 123 6 = some 3 := by decide +kernel
theorem fk_0_123_7 : am_fk 0 123 7 = some 3 := by decide +kernel
theorem fk_0_123_8 : am_fk 0 123 8 = some 3 := by decide +kernel
theorem fk_0_123_9 : am_fk 0 123 9 = some 3 := by decide +kernel
theorem fk_0_123_10 : am_fk 0 123 10 = some 3 := by decide +kernel
theorem fk_0_123_11 : am_fk 0 123 11 = some 3 := by decide +kernel
theorem fk_9_19_6 : am_fk 9 19 6 = some 3 := by decide +kernel
theorem fk_9_19_7 : am_fk 9 19 7 = some 3 := by decide +kernel
theorem fk_9_19_8 : am_fk 9 19 8 = some 3 := by decide +kernel
theorem fk_9_19_9 : am_fk 9 19 9 = some 3 := by decide +kernel
theorem fk_9_19_10 : am_fk 9 19 10 = some 3 := by decide +kernel
theorem fk_9_19_11 : am_fk 9 19 11 = some 3 := by decide +kernel
theorem fk_7_19_6 : am_fk 7 19 6 = some 3 := by decide +kernel
theorem fk_7_19_7 : am_fk 7 19 7 = some 3 := by decide +kernel
theorem fk_7_19_8 : am_fk 7 19 8 = some 3 := by decide +kernel
theorem fk_7_19_9 : am_fk 7 19 9 = some 3 := by decide +kernel
theorem fk_7_19_10 : am_fk 7 19 10 = some 3 := by decide +kernel
theorem fk_7_19_11 : am_fk 7 19 11 = some 3 := by decide +kernel
theorem fk_11_19_6 : am_fk 11 19 6 = some 3 := by decide +kernel
theorem fk_11_19_7 : am_fk 11 19 7 = some 3 := by decide +kernel
theorem fk_11_19_8 : am_fk 11 19 8 = some 3 := by decide +kernel
theorem fk_11_19_9 : am_fk 11 19 9 = some 3 := by decide +kernel
theorem fk_11_19_10 : am_fk 11 19 10 = some 3 := by decide +kernel
theorem fk_11_19_11 : am_fk 11 19 11 = some 3 := by decide +kernel
theorem fk_1_78_6 : am_fk 1 78 6 = some 3 := by decide +kernel
theorem fk_1_78_7 : am_fk 1 78 7 = some 3 := by decide +kernel
theorem fk_1_78_8 : am_fk 1 78 8 = some 3 := by decide +kernel
theorem fk_1_78_9 : am_fk 1 78 9 = some 3 := by decide +kernel
theorem fk_1_78_10 : am_fk 1 78 10 = some 3 := by decide +kernel
theorem fk_1_78_11 : am_fk 1 78 11 = some 3 := by decide +kernel
theorem fk_4_160_6 : am_fk 4 160 6 = some 3 := by decide +kernel
theorem fk_4_160_7 : am_fk 4 160 7 = some 3 := by decide +kernel
theorem fk_4_160_8 : am_fk 4 160 8 = some 3 := by decide +kernel
theorem fk_4_160_9 : am_fk 4 160 9 = some 3 := by decide +kernel
theorem fk_4_160_10 : am_fk 4 160 10 = some 3 := by decide +kernel
theorem fk_4_160_11 : am_fk 4 160 11 = some 3 := by decide +kernel
theorem fk_6_25_6 : am_fk 6 25 6 = some 4 := by decide +kernel
theorem fk_6_25_7 : am_fk 6 25 7 = some 4 := by decide +kernel
theorem fk_6_25_8 : am_fk 6 25 8 = some 4 := by decide +kernel
theorem fk_6_25_9 : am_fk 6 25 9 = some 4 := by decide +kernel
theorem fk_6_25_10 : am_fk 6 25 10 = some 4 := by decide +kernel
theorem fk_6_25_11 : am_fk 6 25 11 = some 4 := by decide +kernel
theorem fk_8_20_6 : am_fk 8 20 6 = some 4 := by decide +kernel
theorem fk_8_20_7 : am_fk 8 20 7 = some 4 := by decide +kernel
theorem fk_8_20_8 : am_fk 8 20 8 = some 4 := by decide +kernel
theorem fk_8_20_9 : am_fk 8 20 9 = some 4 := by decide +kernel
theorem fk_8_20_10 : am_fk 8 20 10 = some 4 := by decide +kernel
theorem fk_8_20_11 : am_fk 8 20 11 = some 4 := by decide +kernel
theorem fk_10_23_6 : am_fk 10 23 6 = some 4 := by decide +kernel
theorem fk_10_23_7 : am_fk 10 23 7 = some 4 := by decide +kernel
theorem fk_10_23_8 : am_fk 10 23 8 = some 4 := by decide +kernel
theorem fk_10_23_9 : am_fk 10 23 9 = some 4 := by decide +kernel
theorem fk_10_23_10 : am_fk 10 23 10 = some 4 := by decide +kernel
theorem fk_10_23_11 : am_fk 10 23 11 = some 4 := by decide +kernel
theorem fk_0_126_6 : am_fk 0 126 6 = some 4 := by decide +kernel
theorem fk_0_126_7 : am_fk 0 126 7 = some 4 := by decide +kernel
theorem fk_0_126_8 : am_fk 0 126 8 = some 4 := by decide +kernel
theorem fk_0_126_9 : am_fk 0 126 9 = some 4 := by decide +kernel
theorem fk_0_126_10 : am_fk 0 126 10 = some 4 := by decide +kernel
theorem fk_0_126_11 : am_fk 0 126 11 = some 4 := by decide +kernel
theorem fk_9_23_6 : am_fk 9 23 6 = some 4 := by decide +kernel
theorem fk_9_23_7 : am_fk 9 23 7 = some 4 := by decide +kernel
theorem fk_9_23_8 : am_fk 9 23 8 = some 4 := by decide +kernel
theorem fk_9_23_9 : am_fk 9 23 9 = some 4 := by decide +kernel
theorem fk_9_23_10 : am_fk 9 23 10 = some 4 := by decide +kernel
theorem fk_9_23_11 : am_fk 9 23 11 = some 4 := by decide +kernel
theorem fk_7_23_6 : am_fk 7 23 6 = some 4 := by decide +kernel
theorem fk_7_23_7 : am_fk 7 23 7 = some 4 := by decide +kernel
theorem fk_7_23_8 : am_fk 7 23 8 = some 4 := by decide +kernel
theorem fk_7_23_9 : am_fk 7 23 9 = some 4 := by decide +kernel
theorem fk_7_23_10 : am_fk 7 23 10 = some 4 := by decide +kernel
theorem fk_7_23_11 : am_fk 7 23 11 = some 4 := by decide +kernel
theorem fk_11_23_6 : am_fk 11 23 6 = some 4 := by decide +kernel
theorem fk_11_23_7 : am_fk 11 23 7 = some 4 := by decide +kernel
theorem fk_11_23_8 : am_fk 11 23 8 = some 4 := by decide +kernel
theorem fk_11_23_9 : am_fk 11 23 9 = some 4 := by decide +kernel
theorem fk_11_23_10 : am_fk 11 23 10 = some 4 := by decide +kernel
theorem fk_11_23_11 : am_fk 11 23 11 = some 4 := by decide +kernel
theorem fk_1_122_6 : am_fk 1 122 6 = some 4 := by decide +kernel
theorem fk_1_122_7 : am_fk 1 122 7 = some 4 := by decide +kernel
theorem fk_1_122_8 : am_fk 1 122 8 = some 4 := by decide +kernel
theorem fk_1_122_9 : am_fk 1 122 9 = some 4 := by decide +kernel
theorem fk_1_122_10 : am_fk 1 122 10 = some 4 := by decide +kernel
theorem fk_1_122_11 : am_fk 1 122 11 = some 4 := by decide +kernel
theorem fk_9_7_9 : am_fk 9 7 9 = some 5 := by decide +kernel
theorem fk_9_7_10 : am_fk 9 7 10 = some 5 := by decide +kernel
theorem fk_10_26_9 : am_fk 10 26 9 = some 5 := by decide +kernel
theorem fk_10_26_10 : am_fk 10 26 10 = some 5 := by decide +kernel
theorem fk_1_62_9 : am_fk 1 62 9 = some 5 := by decide +kernel
theorem fk_1_62_10 : am_fk 1 62 10 = some 5 := by decide +kernel
theorem fk_10_7_10 : am_fk 10 7 10 = some 6 := by decide +kernel
theorem fk_1_65_10 : am_fk 1 65 10 = some 6 := by decide +kernel
theorem fk_11_7_11 : am_fk 11 7 11 = some 5 := by decide +kernel
theorem fk_12_9_12 : am_fk 12 9 12 = some 0 := by decide +kernel
theorem fk_12_13_12 : am_fk 12 13 12 = some 1 := by decide +kernel
theorem fk_12_16_12 : am_fk 12 16 12 = some 2 := by decide +kernel
theorem fk_12_19_12 : am_fk 12 19 12 = some 3 := by decide +kernel
theorem fk_12_22_12 : am_fk 12 22 12 = some 4 := by decide +kernel
theorem fk_12_25_12 : am_fk 12 25 12 = some 5 := by decide +kernel
theorem fk_12_28_12 : am_fk 12 28 12 = some 6 := by decide +kernel
theorem fk_12_31_12 : am_fk 12 31 12 = some 7 := by decide +kernel
theorem fk_12_34_12 : am_fk 12 34 12 = some 8 := by decide +kernel
theorem fk_12_37_12 : am_fk 12 37 12 = some 9 := by decide +kernel
theorem fk_12_316_12 : am_fk 12 316 12 = some 10 := by decide +kernel
theorem fk_12_69_12 : am_fk 12 69 12 = some 11 := by decide +kernel
theorem fk_12_83_12 : am_fk 12 83 12 = some 12 := by decide +kernel
theorem fk_12_89_12 : am_fk 12 89 12 = some 13 := by decide +kernel
theorem fk_12_86_12 : am_fk 12 86 12 = some 14 := by decide +kernel
theorem fk_12_100_12 : am_fk 12 100 12 = some 15 := by decide +kernel
theorem fk_12_40_12 : am_fk 12 40 12 = some 16 := by decide +kernel
theorem fk_12_43_12 : am_fk 12 43 12 = some 17 := by decide +kernel
theorem fk_12_46_12 : am_fk 12 46 12 = some 18 := by decide +kernel
theorem fk_12_116_12 : am_fk 12 116 12 = some 19 := by decide +kernel
theorem fk_12_123_12 : am_fk 12 123 12 = some 20 := by decide +kernel
theorem fk_12_103_12 : am_fk 12 103 12 = some 21 := by decide +kernel
theorem fk_12_109_12 : am_fk 12 109 12 = some 22 := by decide +kernel
theorem fk_12_126_12 : am_fk 12 126 12 = some 23 := by decide +kernel
theorem fk_12_106_12 : am_fk 12 106 12 = some 24 := by decide +kernel
theorem fk_12_219_12 : am_fk 12 219 12 = some 25 := by decide +kernel
theorem fk_12_223_12 : am_fk 12 223 12 = some 26 := by decide +kernel
theorem fk_12_49_12 : am_fk 12 49 12 = some 27 := by decide +kernel
theorem fk_12_53_12 : am_fk 12 53 12 = some 28 := by decide +kernel
theorem fk_12_56_12 : am_fk 12 56 12 = some 29 := by decide +kernel
theorem fk_12_59_12 : am_fk 12 59 12 = some 30 := by decide +kernel
theorem fk_12_63_12 : am_fk 12 63 12 = some 31 := by decide +kernel
theorem fk_12_170_12 : am_fk 12 170 12 = some 32 := by decide +kernel
theorem fk_12_66_12 : am_fk 12 66 12 = some 33 := by decide +kernel
theorem fk_12_293_12 : am_fk 12 293 12 = some 34 := by decide +kernel
theorem fk_12_290_12 : am_fk 12 290 12 = some 35 := by decide +kernel
theorem fk_12_300_12 : am_fk 12 300 12 = some 36 := by decide +kernel
theorem pk_1_11_1 : am_pk 1 11 1 = some (0, true, .array (.object "BoxSearch$Box")) := by decide +kernel
theorem pk_1_44_1 : am_pk 1 44 1 = some (1, false, .int) := by decide +kernel
theorem pk_5_29_1 : am_pk 5 29 1 = some (1, false, .int) := by decide +kernel
theorem pk_0_80_1 : am_pk 0 80 1 = some (1, false, .int) := by decide +kernel
theorem pk_4_52_1 : am_pk 4 52 1 = some (1, false, .int) := by decide +kernel
theorem pk_2_40_1 : am_pk 2 40 1 = some (1, false, .int) := by decide +kernel
theorem pk_3_107_1 : am_pk 3 107 1 = some (1, false, .int) := by decide +kernel
theorem pk_1_17_1 : am_pk 1 17 1 = some (2, false, .int) := by decide +kernel
theorem pk_0_136_1 : am_pk 0 136 1 = some (2, false, .int) := by decide +kernel
theorem pk_3_104_1 : am_pk 3 104 1 = some (2, false, .int) := by decide +kernel
theorem pk_1_21_1 : am_pk 1 21 1 = some (3, true, .array .int) := by decide +kernel
theorem pk_1_25_1 : am_pk 1 25 1 = some (4, true, .array .int) := by decide +kernel
theorem pk_1_28_1 : am_pk 1 28 1 = some (5, false, .int) := by decide +kernel
theorem pk_4_84_1 : am_pk 4 84 1 = some (5, false, .int) := by decide +kernel
theorem pk_5_86_1 : am_pk 5 86 1 = some (5, false, .int) := by decide +kernel
theorem pk_1_31_1 : am_pk 1 31 1 = some (6, true, .array .int) := by decide +kernel
theorem pk_1_34_1 : am_pk 1 34 1 = some (7, true, .array .int) := by decide +kernel
theorem pk_1_37_1 : am_pk 1 37 1 = some (8, true, .array .long) := by decide +kernel
theorem pk_1_41_1 : am_pk 1 41 1 = some (9, true, .array .long) := by decide +kernel
theorem pk_2_9_2 : am_pk 2 9 2 = some (0, true, .array .int) := by decide +kernel
theorem pk_2_15_2 : am_pk 2 15 2 = some (1, true, .array .int) := by decide +kernel
theorem pk_2_18_2 : am_pk 2 18 2 = some (2, true, .array .int) := by decide +kernel
theorem pk_2_21_2 : am_pk 2 21 2 = some (3, true, .array .int) := by decide +kernel
theorem pk_2_30_2 : am_pk 2 30 2 = some (4, false, .int) := by decide +kernel
theorem pk_0_165_2 : am_pk 0 165 2 = some (4, false, .int) := by decide +kernel
theorem pk_3_9_3 : am_pk 3 9 3 = some (0, false, .array .int) := by decide +kernel
theorem pk_3_31_3 : am_pk 3 31 3 = some (1, false, .int) := by decide +kernel
theorem pk_3_46_3 : am_pk 3 46 3 = some (2, false, .int) := by decide +kernel
theorem pk_3_49_3 : am_pk 3 49 3 = some (3, false, .boolean) := by decide +kernel
theorem pk_3_18_3 : am_pk 3 18 3 = some (4, true, .object "BoxSearch$Told") := by decide +kernel
theorem pk_3_67_3 : am_pk 3 67 3 = some (5, false, .int) := by decide +kernel
theorem pk_3_80_3 : am_pk 3 80 3 = some (6, false, .int) := by decide +kernel
theorem pk_3_83_3 : am_pk 3 83 3 = some (7, false, .int) := by decide +kernel
theorem pk_3_95_3 : am_pk 3 95 3 = some (8, false, .int) := by decide +kernel
theorem pk_3_22_3 : am_pk 3 22 3 = some (9, true, .array .int) := by decide +kernel
theorem pk_3_25_3 : am_pk 3 25 3 = some (10, true, .array .int) := by decide +kernel
theorem pk_3_98_3 : am_pk 3 98 3 = some (11, false, .int) := by decide +kernel
theorem pk_3_73_3 : am_pk 3 73 3 = some (12, false, .int) := by decide +kernel
theorem pk_3_101_3 : am_pk 3 101 3 = some (13, false, .int) := by decide +kernel
theorem pk_3_28_3 : am_pk 3 28 3 = some (14, true, .array .int) := by decide +kernel
theorem pk_4_38_4 : am_pk 4 38 4 = some (0, true, .object "BoxSearch$Told") := by decide +kernel
theorem pk_4_9_4 : am_pk 4 9 4 = some (1, true, .array .int) := by decide +kernel
theorem pk_4_42_4 : am_pk 4 42 4 = some (2, false, .boolean) := by decide +kernel
theorem pk_4_15_4 : am_pk 4 15 4 = some (3, false, .array .long) := by decide +kernel
theorem pk_4_19_4 : am_pk 4 19 4 = some (4, false, .array .int) := by decide +kernel
theorem pk_4_90_4 : am_pk 4 90 4 = some (5, false, .int) := by decide +kernel
theorem pk_4_97_4 : am_pk 4 97 4 = some (6, false, .long) := by decide +kernel
theorem pk_4_22_4 : am_pk 4 22 4 = some (7, true, .array .boolean) := by decide +kernel
theorem pk_4_26_4 : am_pk 4 26 4 = some (8, true, .array .int) := by decide +kernel
theorem pk_4_29_4 : am_pk 4 29 4 = some (9, true, .array .int) := by decide +kernel
theorem pk_4_101_4 : am_pk 4 101 4 = some (10, false, .int) := by decide +kernel
theorem pk_4_104_4 : am_pk 4 104 4 = some (11, false, .long) := by decide +kernel
theorem pk_4_32_4 : am_pk 4 32 4 = some (12, true, .array .long) := by decide +kernel
theorem pk_4_35_4 : am_pk 4 35 4 = some (13, true, .array .long) := by decide +kernel
theorem pk_5_22_5 : am_pk 5 22 5 = some (0, true, .object "BoxSearch$Told") := by decide +kernel
theorem pk_5_11_5 : am_pk 5 11 5 = some (1, true, .array .int) := by decide +kernel
theorem pk_5_62_5 : am_pk 5 62 5 = some (2, false, .int) := by decide +kernel
theorem pk_5_15_5 : am_pk 5 15 5 = some (3, false, .array .int) := by decide +kernel
theorem pk_5_18_5 : am_pk 5 18 5 = some (4, false, .array .long) := by decide +kernel
theorem pk_5_45_5 : am_pk 5 45 5 = some (5, false, .int) := by decide +kernel
theorem pk_5_52_5 : am_pk 5 52 5 = some (6, false, .long) := by decide +kernel
theorem pk_5_56_5 : am_pk 5 56 5 = some (7, false, .int) := by decide +kernel
theorem pk_0_12_0 : am_pk 0 12 0 = some (0, true, .object "BoxSearch$Told") := by decide +kernel
theorem pk_0_19_0 : am_pk 0 19 0 = some (1, true, .object "BoxSearch$Place") := by decide +kernel
theorem pk_0_23_0 : am_pk 0 23 0 = some (2, true, .object "BoxSearch$Told") := by decide +kernel
theorem pk_0_26_0 : am_pk 0 26 0 = some (3, true, .object "BoxSearch$Place") := by decide +kernel
theorem pk_0_268_0 : am_pk 0 268 0 = some (4, false, .boolean) := by decide +kernel
theorem pk_0_32_0 : am_pk 0 32 0 = some (5, true, .object "BoxSearch$Reader") := by decide +kernel
theorem pk_0_41_0 : am_pk 0 41 0 = some (6, true, .object "BoxSearch$Plan") := by decide +kernel
theorem pk_0_48_0 : am_pk 0 48 0 = some (7, true, .object "BoxSearch$Street") := by decide +kernel
theorem pk_0_52_0 : am_pk 0 52 0 = some (8, true, .array .int) := by decide +kernel
theorem pk_0_58_0 : am_pk 0 58 0 = some (9, true, .array (.object "BoxSearch$Box")) := by decide +kernel
theorem pk_0_64_0 : am_pk 0 64 0 = some (10, true, .array (.array .int)) := by decide +kernel
theorem pk_0_67_0 : am_pk 0 67 0 = some (11, true, .array .int) := by decide +kernel
theorem pk_0_70_0 : am_pk 0 70 0 = some (12, true, .array .int) := by decide +kernel
theorem pk_7_7_7 : am_pk 7 7 7 = some (5, true, .int) := by decide +kernel
theorem pk_6_9_6 : am_pk 6 9 6 = some (0, true, .int) := by decide +kernel
theorem pk_6_9_7 : am_pk 6 9 7 = some (0, true, .int) := by decide +kernel
theorem pk_6_9_8 : am_pk 6 9 8 = some (0, true, .int) := by decide +kernel
theorem pk_6_9_9 : am_pk 6 9 9 = some (0, true, .int) := by decide +kernel
theorem pk_6_9_10 : am_pk 6 9 10 = some (0, true, .int) := by decide +kernel
theorem pk_6_9_11 : am_pk 6 9 11 = some (0, true, .int) := by decide +kernel
theorem pk_6_15_6 : am_pk 6 15 6 = some (1, true, .int) := by decide +kernel
theorem pk_6_15_7 : am_pk 6 15 7 = some (1, true, .int) := by decide +kernel
theorem pk_6_15_8 : am_pk 6 15 8 = some (1, true, .int) := by decide +kernel
theorem pk_6_15_9 : am_pk 6 15 9 = some (1, true, .int) := by decide +kernel
theorem pk_6_15_10 : am_pk 6 15 10 = some (1, true, .int) := by decide +kernel
theorem pk_6_15_11 : am_pk 6 15 11 = some (1, true, .int) := by decide +kernel
theorem pk_6_18_6 : am_pk 6 18 6 = some (2, true, .int) := by decide +kernel
theorem pk_6_18_7 : am_pk 6 18 7 = some (2, true, .int) := by decide +kernel
theorem pk_6_18_8 : am_pk 6 18 8 = some (2, true, .int) := by decide +kernel
theorem pk_6_18_9 : am_pk 6 18 9 = some (2, true, .int) := by decide +kernel
theorem pk_6_18_10 : am_pk 6 18 10 = some (2, true, .int) := by decide +kernel
theorem pk_6_18_11 : am_pk 6 18 11 = some (2, true, .int) := by decide +kernel
theorem pk_6_21_6 : am_pk 6 21 6 = some (3, true, .array .int) := by decide +kernel
theorem pk_6_21_7 : am_pk 6 21 7 = some (3, true, .array .int) := by decide +kernel
theorem pk_6_21_8 : am_pk 6 21 8 = some (3, true, .array .int) := by decide +kernel
theorem pk_6_21_9 : am_pk 6 21 9 = some (3, true, .array .int) := by decide +kernel
theorem pk_6_21_10 : am_pk 6 21 10 = some (3, true, .array .int) := by decide +kernel
theorem pk_6_21_11 : am_pk 6 21 11 = some (3, true, .array .int) := by decide +kernel
theorem pk_6_25_6 : am_pk 6 25 6 = some (4, true, .array .int) := by decide +kernel
theorem pk_6_25_7 : am_pk 6 25 7 = some (4, true, .array .int) := by decide +kernel
theorem pk_6_25_8 : am_pk 6 25 8 = some (4, true, .array .int) := by decide +kernel
theorem pk_6_25_9 : am_pk 6 25 9 = some (4, true, .array .int) := by decide +kernel
theorem pk_6_25_10 : am_pk 6 25 10 = some (4, true, .array .int) := by decide +kernel
theorem pk_6_25_11 : am_pk 6 25 11 = some (4, true, .array .int) := by decide +kernel
theorem pk_9_7_9 : am_pk 9 7 9 = some (5, true, .int) := by decide +kernel
theorem pk_9_7_10 : am_pk 9 7 10 = some (5, true, .int) := by decide +kernel
theorem pk_10_7_10 : am_pk 10 7 10 = some (6, true, .array .int) := by decide +kernel
theorem pk_11_7_11 : am_pk 11 7 11 = some (5, true, .int) := by decide +kernel
theorem pk_12_9_12 : am_pk 12 9 12 = some (0, true, .array .int) := by decide +kernel
theorem pk_12_13_12 : am_pk 12 13 12 = some (1, true, .array .int) := by decide +kernel
theorem pk_12_16_12 : am_pk 12 16 12 = some (2, true, .array .int) := by decide +kernel
theorem pk_12_19_12 : am_pk 12 19 12 = some (3, true, .array .int) := by decide +kernel
theorem pk_12_22_12 : am_pk 12 22 12 = some (4, true, .array .int) := by decide +kernel
theorem pk_12_25_12 : am_pk 12 25 12 = some (5, true, .array .int) := by decide +kernel
theorem pk_12_28_12 : am_pk 12 28 12 = some (6, true, .array .int) := by decide +kernel
theorem pk_12_31_12 : am_pk 12 31 12 = some (7, true, .array .int) := by decide +kernel
theorem pk_12_34_12 : am_pk 12 34 12 = some (8, true, .array .int) := by decide +kernel
theorem pk_12_37_12 : am_pk 12 37 12 = some (9, true, .array .int) := by decide +kernel
theorem pk_12_316_12 : am_pk 12 316 12 = some (10, false, .boolean) := by decide +kernel
theorem pk_12_69_12 : am_pk 12 69 12 = some (11, false, .int) := by decide +kernel
theorem pk_12_83_12 : am_pk 12 83 12 = some (12, false, .int) := by decide +kernel
theorem pk_12_89_12 : am_pk 12 89 12 = some (13, false, .int) := by decide +kernel
theorem pk_12_86_12 : am_pk 12 86 12 = some (14, false, .int) := by decide +kernel
theorem pk_12_100_12 : am_pk 12 100 12 = some (15, false, .int) := by decide +kernel
theorem pk_12_40_12 : am_pk 12 40 12 = some (16, true, .array .int) := by decide +kernel
theorem pk_12_43_12 : am_pk 12 43 12 = some (17, true, .array .int) := by decide +kernel
theorem pk_12_46_12 : am_pk 12 46 12 = some (18, true, .array .int) := by decide +kernel
theorem pk_12_116_12 : am_pk 12 116 12 = some (19, false, .int) := by decide +kernel
theorem pk_12_123_12 : am_pk 12 123 12 = some (20, false, .int) := by decide +kernel
theorem pk_12_103_12 : am_pk 12 103 12 = some (21, false, .int) := by decide +kernel
theorem pk_12_109_12 : am_pk 12 109 12 = some (22, false, .int) := by decide +kernel
theorem pk_12_126_12 : am_pk 12 126 12 = some (23, false, .int) := by decide +kernel
theorem pk_12_106_12 : am_pk 12 106 12 = some (24, false, .int) := by decide +kernel
theorem pk_12_219_12 : am_pk 12 219 12 = some (25, false, .long) := by decide +kernel
theorem pk_12_223_12 : am_pk 12 223 12 = some (26, false, .long) := by decide +kernel
theorem pk_12_49_12 : am_pk 12 49 12 = some (27, true, .array .long) := by decide +kernel
theorem pk_12_53_12 : am_pk 12 53 12 = some (28, true, .array .long) := by decide +kernel
theorem pk_12_56_12 : am_pk 12 56 12 = some (29, true, .array .int) := by decide +kernel
theorem pk_12_59_12 : am_pk 12 59 12 = some (30, true, .array .boolean) := by decide +kernel
theorem pk_12_63_12 : am_pk 12 63 12 = some (31, true, .array .boolean) := by decide +kernel
theorem pk_12_170_12 : am_pk 12 170 12 = some (32, false, .boolean) := by decide +kernel
theorem pk_12_66_12 : am_pk 12 66 12 = some (33, true, .array .int) := by decide +kernel
theorem pk_12_293_12 : am_pk 12 293 12 = some (34, false, .long) := by decide +kernel
theorem pk_12_290_12 : am_pk 12 290 12 = some (35, false, .int) := by decide +kernel
theorem pk_12_300_12 : am_pk 12 300 12 = some (36, false, .int) := by decide +kernel
theorem cv_13_24_0 {b : Nat} {x0 : Value} (ho : am_own t = 13) (h2 : am_ci1 (σ.1 b) = some 0) (hr : rest.length ≤ 8) : am_J X rec t (some (.invokevirtual 24, nx, tg)) pc lv (x0 :: .ref b :: rest) σ = am_JR X rec t pc nx lv rest (rec 6 [.ref b, x0] σ) := J_vG (n := 1) [x0] (by rw [ho]; decide +kernel) rfl h2 (by rw [ho]; decide +kernel) hr
theorem cv_0_77_0 {b : Nat} {x0 : Value} (ho : am_own t = 0) (h2 : am_ci1 (σ.1 b) = some 0) (hr : rest.length ≤ 8) : am_J X rec t (some (.invokevirtual 77, nx, tg)) pc lv (x0 :: .ref b :: rest) σ = am_JR X rec t pc nx lv rest (rec 8 [.ref b, x0] σ) := J_vG (n := 1) [x0] (by rw [ho]; decide +kernel) rfl h2 (by rw [ho]; decide +kernel) hr
theorem cv_0_84_3 {b : Nat} {x0 x1 x2 : Value} (ho : am_own t = 0) (h2 : am_ci1 (σ.1 b) = some 3) (hr : rest.length ≤ 8) : am_J X rec t (some (.invokevirtual 84, nx, tg)) pc lv (x2 :: x1 :: x0 :: .ref b :: rest) σ = am_JR X rec t pc nx lv rest (rec 9 [.ref b, x0, x1, x2] σ) := J_vG (n := 3) [x0, x1, x2] (by rw [ho]; decide +kernel) rfl h2 (by rw [ho]; decide +kernel) hr
theorem cv_3_35_3 {b : Nat} (ho : am_own t = 3) (h2 : am_ci1 (σ.1 b) = some 3) (hr : rest.length ≤ 8) : am_J X rec t (some (.invokevirtual 35, nx, tg)) pc lv (.ref b :: rest) σ = am_JR X rec t pc nx lv rest (rec 10 [.ref b] σ) := J_vG (n := 0) [] (by rw [ho]; decide +kernel) rfl h2 (by rw [ho]; decide +kernel) hr
theorem cv_3_53_3 {b : Nat} (ho : am_own t = 3) (h2 : am_ci1 (σ.1 b) = some 3) (hr : rest.length ≤ 8) : am_J X rec t (some (.invokevirtual 53, nx, tg)) pc lv (.ref b :: rest) σ = am_JR X rec t pc nx lv rest (rec 11 [.ref b] σ) := J_vG (n := 0) [] (by rw [ho]; decide +kernel) rfl h2 (by rw [ho]; decide +kernel) hr
theorem cv_3_60_3 {b : Nat} (ho : am_own t = 3) (h2 : am_ci1 (σ.1 b) = some 3) (hr : rest.length ≤ 8) : am_J X rec t (some (.invokevirtual 60, nx, tg)) pc lv (.ref b :: rest) σ = am_JR X rec t pc nx lv rest (rec 12 [.ref b] σ) := J_vG (n := 0) [] (by rw [ho]; decide +kernel) rfl h2 (by rw [ho]; decide +kernel) hr
theorem cv_3_70_3 {b : Nat} (ho : am_own t = 3) (h2 : am_ci1 (σ.1 b) = some 3) (hr : rest.length ≤ 8) : am_J X rec t (some (.invokevirtual 70, nx, tg)) pc lv (.ref b :: rest) σ = am_JR X rec t pc nx lv rest (rec 13 [.ref b] σ) := J_vG (n := 0) [] (by rw [ho]; decide +kernel) rfl h2 (by rw [ho]; decide +kernel) hr
theorem cv_3_76_3 {b : Nat} {x0 : Value} (ho : am_own t = 3) (h2 : am_ci1 (σ.1 b) = some 3) (hr : rest.length ≤ 8) : am_J X rec t (some (.invokevirtual 76, nx, tg)) pc lv (x0 :: .ref b :: rest) σ = am_JR X rec t pc nx lv rest (rec 15 [.ref b, x0] σ) := J_vG (n := 1) [x0] (by rw [ho]; decide +kernel) rfl h2 (by rw [ho]; decide +kernel) hr
theorem cv_3_86_3 {b : Nat} (ho : am_own t = 3) (h2 : am_ci1 (σ.1 b) = some 3) (hr : rest.length ≤ 8) : am_J X rec t (some (.invokevirtual 86, nx, tg)) pc lv (.ref b :: rest) σ = am_JR X rec t pc nx lv rest (rec 16 [.ref b] σ) := J_vG (n := 0) [] (by rw [ho]; decide +kernel) rfl h2 (by rw [ho]; decide +kernel) hr
theorem cv_3_89_3 {b : Nat} (ho : am_own t = 3) (h2 : am_ci1 (σ.1 b) = some 3) (hr : rest.length ≤ 8) : am_J X rec t (some (.invokevirtual 89, nx, tg)) pc lv (.ref b :: rest) σ = am_JR X rec t pc nx lv rest (rec 17 [.ref b] σ) := J_vG (n := 0) [] (by rw [ho]; decide +kernel) rfl h2 (by rw [ho]; decide +kernel) hr
theorem cv_3_92_3 {b : Nat} (ho : am_own t = 3) (h2 : am_ci1 (σ.1 b) = some 3) (hr : rest.length ≤ 8) : am_J X rec t (some (.invokevirtual 92, nx, tg)) pc lv (.ref b :: rest) σ = am_JR X rec t pc nx lv rest (rec 18 [.ref b] σ) := J_vG (n := 0) [] (by rw [ho]; decide +kernel) rfl h2 (by rw [ho]; decide +kernel) hr
theorem cv_3_39_1 {b : Nat} {x0 : Value} (ho : am_own t = 3) (h2 : am_ci1 (σ.1 b) = some 1) (hr : rest.length ≤ 8) : am_J X rec t (some (.invokevirtual 39, nx, tg)) pc lv (x0 :: .ref b :: rest) σ = am_JR X rec t pc nx lv rest (rec 19 [.ref b, x0] σ) := J_vG (n := 1) [x0] (by rw [ho]; decide +kernel) rfl h2 (by rw [ho]; decide +kernel) hr
theorem cv_1_47_1 {b : Nat} (ho : am_own t = 1) (h2 : am_ci1 (σ.1 b) = some 1) (hr : rest.length ≤ 8) : am_J X rec t (some (.invokevirtual 47, nx, tg)) pc lv (.ref b :: rest) σ = am_JR X rec t pc nx lv rest (rec 20 [.ref b] σ) := J_vG (n := 0) [] (by rw [ho]; decide +kernel) rfl h2 (by rw [ho]; decide +kernel) hr
theorem cv_1_74_6 {b : Nat} (ho : am_own t = 1) (h2 : am_ci1 (σ.1 b) = some 6) (hr : rest.length ≤ 8) : am_J X rec t (some (.invokevirtual 74, nx, tg)) pc lv (.ref b :: rest) σ = am_JR X rec t pc nx lv rest (rec 22 [.ref b] σ) := J_vG (n := 0) [] (by rw [ho]; decide +kernel) rfl h2 (by rw [ho]; decide +kernel) hr
theorem cv_1_74_9 {b : Nat} (ho : am_own t = 1) (h2 : am_ci1 (σ.1 b) = some 9) (hr : rest.length ≤ 8) : am_J X rec t (some (.invokevirtual 74, nx, tg)) pc lv (.ref b :: rest) σ = am_JR X rec t pc nx lv rest (rec 22 [.ref b] σ) := J_vG (n := 0) [] (by rw [ho]; decide +kernel) rfl h2 (by rw [ho]; decide +kernel) hr
theorem cv_1_74_8 {b : Nat} (ho : am_own t = 1) (h2 : am_ci1 (σ.1 b) = some 8) (hr : rest.length ≤ 8) : am_J X rec t (some (.invokevirtual 74, nx, tg)) pc lv (.ref b :: rest) σ = am_JR X rec t pc nx lv rest (rec 22 [.ref b] σ) := J_vG (n := 0) [] (by rw [ho]; decide +kernel) rfl h2 (by rw [ho]; decide +kernel) hr
theorem cv_1_74_10 {b : Nat} (ho : am_own t = 1) (h2 : am_ci1 (σ.1 b) = some 10) (hr : rest.length ≤ 8) : am_J X rec t (some (.invokevirtual 74, nx, tg)) pc lv (.ref b :: rest) σ = am_JR X rec t pc nx lv rest (rec 22 [.ref b] σ) := J_vG (n := 0) [] (by rw [ho]; decide +kernel) rfl h2 (by rw [ho]; decide +kernel) hr
theorem cv_1_74_7 {b : Nat} (ho : am_own t = 1) (h2 : am_ci1 (σ.1 b) = some 7) (hr : rest.length ≤ 8) : am_J X rec t (some (.invokevirtual 74, nx, tg)) pc lv (.ref b :: rest) σ = am_JR X rec t pc nx lv rest (rec 22 [.ref b] σ) := J_vG (n := 0) [] (by rw [ho]; decide +kernel) rfl h2 (by rw [ho]; decide +kernel) hr
theorem cv_1_74_11 {b : Nat} (ho : am_own t = 1) (h2 : am_ci1 (σ.1 b) = some 11) (hr : rest.length ≤ 8) : am_J X rec t (some (.invokevirtual 74, nx, tg)) pc lv (.ref b :: rest) σ = am_JR X rec t pc nx lv rest (rec 22 [.ref b] σ) := J_vG (n := 0) [] (by rw [ho]; decide +kernel) rfl h2 (by rw [ho]; decide +kernel) hr
theorem cv_1_79_1 {b : Nat} {x0 : Value} (ho : am_own t = 1) (h2 : am_ci1 (σ.1 b) = some 1) (hr : rest.length ≤ 8) : am_J X rec t (some (.invokevirtual 79, nx, tg)) pc lv (x0 :: .ref b :: rest) σ = am_JR X rec t pc nx lv rest (rec 23 [.ref b, x0] σ) := J_vG (n := 1) [x0] (by rw [ho]; decide +kernel) rfl h2 (by rw [ho]; decide +kernel) hr
theorem cv_1_83_1 {b : Nat} {x0 : Value} (ho : am_own t = 1) (h2 : am_ci1 (σ.1 b) = some 1) (hr : rest.length ≤ 8) : am_J X rec t (some (.invokevirtual 83, nx, tg)) pc lv (x0 :: .ref b :: rest) σ = am_JR X rec t pc nx lv rest (rec 24 [.ref b, x0] σ) := J_vG (n := 1) [x0] (by rw [ho]; decide +kernel) rfl h2 (by rw [ho]; decide +kernel) hr
theorem cv_1_87_1 {b : Nat} {x0 x1 : Value} (ho : am_own t = 1) (h2 : am_ci1 (σ.1 b) = some 1) (hr : rest.length ≤ 8) : am_J X rec t (some (.invokevirtual 87, nx, tg)) pc lv (x1 :: x0 :: .ref b :: rest) σ = am_JR X rec t pc nx lv rest (rec 25 [.ref b, x0, x1] σ) := J_vG (n := 2) [x0, x1] (by rw [ho]; decide +kernel) rfl h2 (by rw [ho]; decide +kernel) hr
theorem cv_3_43_3 {b : Nat} (ho : am_own t = 3) (h2 : am_ci1 (σ.1 b) = some 3) (hr : rest.length ≤ 8) : am_J X rec t (some (.invokevirtual 43, nx, tg)) pc lv (.ref b :: rest) σ = am_JR X rec t pc nx lv rest (rec 27 [.ref b] σ) := J_vG (n := 0) [] (by rw [ho]; decide +kernel) rfl h2 (by rw [ho]; decide +kernel) hr
theorem cv_3_56_3 {b : Nat} (ho : am_own t = 3) (h2 : am_ci1 (σ.1 b) = some 3) (hr : rest.length ≤ 8) : am_J X rec t (some (.invokevirtual 56, nx, tg)) pc lv (.ref b :: rest) σ = am_JR X rec t pc nx lv rest (rec 28 [.ref b] σ) := J_vG (n := 0) [] (by rw [ho]; decide +kernel) rfl h2 (by rw [ho]; decide +kernel) hr
theorem cv_3_110_3 {b : Nat} (ho : am_own t = 3) (h2 : am_ci1 (σ.1 b) = some 3) (hr : rest.length ≤ 8) : am_J X rec t (some (.invokevirtual 110, nx, tg)) pc lv (.ref b :: rest) σ = am_JR X rec t pc nx lv rest (rec 29 [.ref b] σ) := J_vG (n := 0) [] (by rw [ho]; decide +kernel) rfl h2 (by rw [ho]; decide +kernel) hr
theorem cv_3_113_3 {b : Nat} (ho : am_own t = 3) (h2 : am_ci1 (σ.1 b) = some 3) (hr : rest.length ≤ 8) : am_J X rec t (some (.invokevirtual 113, nx, tg)) pc lv (.ref b :: rest) σ = am_JR X rec t pc nx lv rest (rec 31 [.ref b] σ) := J_vG (n := 0) [] (by rw [ho]; decide +kernel) rfl h2 (by rw [ho]; decide +kernel) hr
theorem cv_3_128_1 {b : Nat} {x0 : Value} (ho : am_own t = 3) (h2 : am_ci1 (σ.1 b) = some 1) (hr : rest.length ≤ 8) : am_J X rec t (some (.invokevirtual 128, nx, tg)) pc lv (x0 :: .ref b :: rest) σ = am_JR X rec t pc nx lv rest (rec 32 [.ref b, x0] σ) := J_vG (n := 1) [x0] (by rw [ho]; decide +kernel) rfl h2 (by rw [ho]; decide +kernel) hr
theorem cv_3_131_3 {b : Nat} (ho : am_own t = 3) (h2 : am_ci1 (σ.1 b) = some 3) (hr : rest.length ≤ 8) : am_J X rec t (some (.invokevirtual 131, nx, tg)) pc lv (.ref b :: rest) σ = am_JR X rec t pc nx lv rest (rec 33 [.ref b] σ) := J_vG (n := 0) [] (by rw [ho]; decide +kernel) rfl h2 (by rw [ho]; decide +kernel) hr
theorem cv_3_138_6 {b : Nat} (ho : am_own t = 3) (h2 : am_ci1 (σ.1 b) = some 6) (hr : rest.length ≤ 8) : am_J X rec t (some (.invokevirtual 138, nx, tg)) pc lv (.ref b :: rest) σ = am_JR X rec t pc nx lv rest (rec 35 [.ref b] σ) := J_vG (n := 0) [] (by rw [ho]; decide +kernel) rfl h2 (by rw [ho]; decide +kernel) hr
theorem cv_3_138_9 {b : Nat} (ho : am_own t = 3) (h2 : am_ci1 (σ.1 b) = some 9) (hr : rest.length ≤ 8) : am_J X rec t (some (.invokevirtual 138, nx, tg)) pc lv (.ref b :: rest) σ = am_JR X rec t pc nx lv rest (rec 35 [.ref b] σ) := J_vG (n := 0) [] (by rw [ho]; decide +kernel) rfl h2 (by rw [ho]; decide +kernel) hr
theorem cv_3_138_8 {b : Nat} (ho : am_own t = 3) (h2 : am_ci1 (σ.1 b) = some 8) (hr : rest.length ≤ 8) : am_J X rec t (some (.invokevirtual 138, nx, tg)) pc lv (.ref b :: rest) σ = am_JR X rec t pc nx lv rest (rec 35 [.ref b] σ) := J_vG (n := 0) [] (by rw [ho]; decide +kernel) rfl h2 (by rw [ho]; decide +kernel) hr
theorem cv_3_138_10 {b : Nat} (ho : am_own t = 3) (h2 : am_ci1 (σ.1 b) = some 10) (hr : rest.length ≤ 8) : am_J X rec t (some (.invokevirtual 138, nx, tg)) pc lv (.ref b :: rest) σ = am_JR X rec t pc nx lv rest (rec 35 [.ref b] σ) := J_vG (n := 0) [] (by rw [ho]; decide +kernel) rfl h2 (by rw [ho]; decide +kernel) hr
theorem cv_3_138_7 {b : Nat} (ho : am_own t = 3) (h2 : am_ci1 (σ.1 b) = some 7) (hr : rest.length ≤ 8) : am_J X rec t (some (.invokevirtual 138, nx, tg)) pc lv (.ref b :: rest) σ = am_JR X rec t pc nx lv rest (rec 34 [.ref b] σ) := J_vG (n := 0) [] (by rw [ho]; decide +kernel) rfl h2 (by rw [ho]; decide +kernel) hr
theorem cv_3_138_11 {b : Nat} (ho : am_own t = 3) (h2 : am_ci1 (σ.1 b) = some 11) (hr : rest.length ≤ 8) : am_J X rec t (some (.invokevirtual 138, nx, tg)) pc lv (.ref b :: rest) σ = am_JR X rec t pc nx lv rest (rec 35 [.ref b] σ) := J_vG (n := 0) [] (by rw [ho]; decide +kernel) rfl h2 (by rw [ho]; decide +kernel) hr
theorem cv_3_146_6 {b : Nat} (ho : am_own t = 3) (h2 : am_ci1 (σ.1 b) = some 6) (hr : rest.length ≤ 8) : am_J X rec t (some (.invokevirtual 146, nx, tg)) pc lv (.ref b :: rest) σ = am_JR X rec t pc nx lv rest (rec 22 [.ref b] σ) := J_vG (n := 0) [] (by rw [ho]; decide +kernel) rfl h2 (by rw [ho]; decide +kernel) hr
theorem cv_3_146_9 {b : Nat} (ho : am_own t = 3) (h2 : am_ci1 (σ.1 b) = some 9) (hr : rest.length ≤ 8) : am_J X rec t (some (.invokevirtual 146, nx, tg)) pc lv (.ref b :: rest) σ = am_JR X rec t pc nx lv rest (rec 22 [.ref b] σ) := J_vG (n := 0) [] (by rw [ho]; decide +kernel) rfl h2 (by rw [ho]; decide +kernel) hr
theorem cv_3_146_8 {b : Nat} (ho : am_own t = 3) (h2 : am_ci1 (σ.1 b) = some 8) (hr : rest.length ≤ 8) : am_J X rec t (some (.invokevirtual 146, nx, tg)) pc lv (.ref b :: rest) σ = am_JR X rec t pc nx lv rest (rec 22 [.ref b] σ) := J_vG (n := 0) [] (by rw [ho]; decide +kernel) rfl h2 (by rw [ho]; decide +kernel) hr
theorem cv_3_146_10 {b : Nat} (ho : am_own t = 3) (h2 : am_ci1 (σ.1 b) = some 10) (hr : rest.length ≤ 8) : am_J X rec t (some (.invokevirtual 146, nx, tg)) pc lv (.ref b :: rest) σ = am_JR X rec t pc nx lv rest (rec 22 [.ref b] σ) := J_vG (n := 0) [] (by rw [ho]; decide +kernel) rfl h2 (by rw [ho]; decide +kernel) hr
theorem cv_3_146_7 {b : Nat} (ho : am_own t = 3) (h2 : am_ci1 (σ.1 b) = some 7) (hr : rest.length ≤ 8) : am_J X rec t (some (.invokevirtual 146, nx, tg)) pc lv (.ref b :: rest) σ = am_JR X rec t pc nx lv rest (rec 22 [.ref b] σ) := J_vG (n := 0) [] (by rw [ho]; decide +kernel) rfl h2 (by rw [ho]; decide +kernel) hr
theorem cv_3_146_11 {b : Nat} (ho : am_own t = 3) (h2 : am_ci1 (σ.1 b) = some 11) (hr : rest.length ≤ 8) : am_J X rec t (some (.invokevirtual 146, nx, tg)) pc lv (.ref b :: rest) σ = am_JR X rec t pc nx lv rest (rec 22 [.ref b] σ) := J_vG (n := 0) [] (by rw [ho]; decide +kernel) rfl h2 (by rw [ho]; decide +kernel) hr
theorem cv_3_116_3 {b : Nat} (ho : am_own t = 3) (h2 : am_ci1 (σ.1 b) = some 3) (hr : rest.length ≤ 8) : am_J X rec t (some (.invokevirtual 116, nx, tg)) pc lv (.ref b :: rest) σ = am_JR X rec t pc nx lv rest (rec 36 [.ref b] σ) := J_vG (n := 0) [] (by rw [ho]; decide +kernel) rfl h2 (by rw [ho]; decide +kernel) hr
theorem cv_3_120_1 {b : Nat} {x0 : Value} (ho : am_own t = 3) (h2 : am_ci1 (σ.1 b) = some 1) (hr : rest.length ≤ 8) : am_J X rec t (some (.invokevirtual 120, nx, tg)) pc lv (x0 :: .ref b :: rest) σ = am_JR X rec t pc nx lv rest (rec 44 [.ref b, x0] σ) := J_vG (n := 1) [x0] (by rw [ho]; decide +kernel) rfl h2 (by rw [ho]; decide +kernel) hr
theorem cv_0_88_4 {b : Nat} (ho : am_own t = 0) (h2 : am_ci1 (σ.1 b) = some 4) (hr : rest.length ≤ 8) : am_J X rec t (some (.invokevirtual 88, nx, tg)) pc lv (.ref b :: rest) σ = am_JR X rec t pc nx lv rest (rec 45 [.ref b] σ) := J_vG (n := 0) [] (by rw [ho]; decide +kernel) rfl h2 (by rw [ho]; decide +kernel) hr
theorem cv_0_91_2 {b : Nat} (ho : am_own t = 0) (h2 : am_ci1 (σ.1 b) = some 2) (hr : rest.length ≤ 8) : am_J X rec t (some (.invokevirtual 91, nx, tg)) pc lv (.ref b :: rest) σ = am_JR X rec t pc nx lv rest (rec 46 [.ref b] σ) := J_vG (n := 0) [] (by rw [ho]; decide +kernel) rfl h2 (by rw [ho]; decide +kernel) hr
theorem cv_13_29_0 {b : Nat} {x0 x1 : Value} (ho : am_own t = 13) (h2 : am_ci1 (σ.1 b) = some 0) (hr : rest.length ≤ 8) : am_J X rec t (some (.invokevirtual 29, nx, tg)) pc lv (x1 :: x0 :: .ref b :: rest) σ = am_JR X rec t pc nx lv rest (rec 47 [.ref b, x0, x1] σ) := J_vG (n := 2) [x0, x1] (by rw [ho]; decide +kernel) rfl h2 (by rw [ho]; decide +kernel) hr
theorem cv_0_94_1 {b : Nat} {x0 : Value} (ho : am_own t = 0) (h2 : am_ci1 (σ.1 b) = some 1) (hr : rest.length ≤ 8) : am_J X rec t (some (.invokevirtual 94, nx, tg)) pc lv (x0 :: .ref b :: rest) σ = am_JR X rec t pc nx lv rest (rec 32 [.ref b, x0] σ) := J_vG (n := 1) [x0] (by rw [ho]; decide +kernel) rfl h2 (by rw [ho]; decide +kernel) hr
theorem cv_0_100_6 {b : Nat} (ho : am_own t = 0) (h2 : am_ci1 (σ.1 b) = some 6) (hr : rest.length ≤ 8) : am_J X rec t (some (.invokevirtual 100, nx, tg)) pc lv (.ref b :: rest) σ = am_JR X rec t pc nx lv rest (rec 53 [.ref b] σ) := J_vG (n := 0) [] (by rw [ho]; decide +kernel) rfl h2 (by rw [ho]; decide +kernel) hr
theorem cv_0_100_9 {b : Nat} (ho : am_own t = 0) (h2 : am_ci1 (σ.1 b) = some 9) (hr : rest.length ≤ 8) : am_J X rec t (some (.invokevirtual 100, nx, tg)) pc lv (.ref b :: rest) σ = am_JR X rec t pc nx lv rest (rec 48 [.ref b] σ) := J_vG (n := 0) [] (by rw [ho]; decide +kernel) rfl h2 (by rw [ho]; decide +kernel) hr
theorem cv_0_100_8 {b : Nat} (ho : am_own t = 0) (h2 : am_ci1 (σ.1 b) = some 8) (hr : rest.length ≤ 8) : am_J X rec t (some (.invokevirtual 100, nx, tg)) pc lv (.ref b :: rest) σ = am_JR X rec t pc nx lv rest (rec 49 [.ref b] σ) := J_vG (n := 0) [] (by rw [ho]; decide +kernel) rfl h2 (by rw [ho]; decide +kernel) hr
theorem cv_0_100_10 {b : Nat} (ho : am_own t = 0) (h2 : am_ci1 (σ.1 b) = some 10) (hr : rest.length ≤ 8) : am_J X rec t (some (.invokevirtual 100, nx, tg)) pc lv (.ref b :: rest) σ = am_JR X rec t pc nx lv rest (rec 50 [.ref b] σ) := J_vG (n := 0) [] (by rw [ho]; decide +kernel) rfl h2 (by rw [ho]; decide +kernel) hr
theorem cv_0_100_7 {b : Nat} (ho : am_own t = 0) (h2 : am_ci1 (σ.1 b) = some 7) (hr : rest.length ≤ 8) : am_J X rec t (some (.invokevirtual 100, nx, tg)) pc lv (.ref b :: rest) σ = am_JR X rec t pc nx lv rest (rec 51 [.ref b] σ) := J_vG (n := 0) [] (by rw [ho]; decide +kernel) rfl h2 (by rw [ho]; decide +kernel) hr
theorem cv_0_100_11 {b : Nat} (ho : am_own t = 0) (h2 : am_ci1 (σ.1 b) = some 11) (hr : rest.length ≤ 8) : am_J X rec t (some (.invokevirtual 100, nx, tg)) pc lv (.ref b :: rest) σ = am_JR X rec t pc nx lv rest (rec 52 [.ref b] σ) := J_vG (n := 0) [] (by rw [ho]; decide +kernel) rfl h2 (by rw [ho]; decide +kernel) hr
theorem cv_0_110_6 {b : Nat} (ho : am_own t = 0) (h2 : am_ci1 (σ.1 b) = some 6) (hr : rest.length ≤ 8) : am_J X rec t (some (.invokevirtual 110, nx, tg)) pc lv (.ref b :: rest) σ = am_JR X rec t pc nx lv rest (rec 22 [.ref b] σ) := J_vG (n := 0) [] (by rw [ho]; decide +kernel) rfl h2 (by rw [ho]; decide +kernel) hr
theorem cv_0_110_9 {b : Nat} (ho : am_own t = 0) (h2 : am_ci1 (σ.1 b) = some 9) (hr : rest.length ≤ 8) : am_J X rec t (some (.invokevirtual 110, nx, tg)) pc lv (.ref b :: rest) σ = am_JR X rec t pc nx lv rest (rec 22 [.ref b] σ) := J_vG (n := 0) [] (by rw [ho]; decide +kernel) rfl h2 (by rw [ho]; decide +kernel) hr
theorem cv_0_110_8 {b : Nat} (ho : am_own t = 0) (h2 : am_ci1 (σ.1 b) = some 8) (hr : rest.length ≤ 8) : am_J X rec t (some (.invokevirtual 110, nx, tg)) pc lv (.ref b :: rest) σ = am_JR X rec t pc nx lv rest (rec 22 [.ref b] σ) := J_vG (n := 0) [] (by rw [ho]; decide +kernel) rfl h2 (by rw [ho]; decide +kernel) hr
theorem cv_0_110_10 {b : Nat} (ho : am_own t = 0) (h2 : am_ci1 (σ.1 b) = some 10) (hr : rest.length ≤ 8) : am_J X rec t (some (.invokevirtual 110, nx, tg)) pc lv (.ref b :: rest) σ = am_JR X rec t pc nx lv rest (rec 22 [.ref b] σ) := J_vG (n := 0) [] (by rw [ho]; decide +kernel) rfl h2 (by rw [ho]; decide +kernel) hr
theorem cv_0_110_7 {b : Nat} (ho : am_own t = 0) (h2 : am_ci1 (σ.1 b) = some 7) (hr : rest.length ≤ 8) : am_J X rec t (some (.invokevirtual 110, nx, tg)) pc lv (.ref b :: rest) σ = am_JR X rec t pc nx lv rest (rec 22 [.ref b] σ) := J_vG (n := 0) [] (by rw [ho]; decide +kernel) rfl h2 (by rw [ho]; decide +kernel) hr
theorem cv_0_110_11 {b : Nat} (ho : am_own t = 0) (h2 : am_ci1 (σ.1 b) = some 11) (hr : rest.length ≤ 8) : am_J X rec t (some (.invokevirtual 110, nx, tg)) pc lv (.ref b :: rest) σ = am_JR X rec t pc nx lv rest (rec 22 [.ref b] σ) := J_vG (n := 0) [] (by rw [ho]; decide +kernel) rfl h2 (by rw [ho]; decide +kernel) hr
theorem cv_0_113_6 {b : Nat} (ho : am_own t = 0) (h2 : am_ci1 (σ.1 b) = some 6) (hr : rest.length ≤ 8) : am_J X rec t (some (.invokevirtual 113, nx, tg)) pc lv (.ref b :: rest) σ = am_JR X rec t pc nx lv rest (rec 57 [.ref b] σ) := J_vG (n := 0) [] (by rw [ho]; decide +kernel) rfl h2 (by rw [ho]; decide +kernel) hr
theorem cv_0_113_9 {b : Nat} (ho : am_own t = 0) (h2 : am_ci1 (σ.1 b) = some 9) (hr : rest.length ≤ 8) : am_J X rec t (some (.invokevirtual 113, nx, tg)) pc lv (.ref b :: rest) σ = am_JR X rec t pc nx lv rest (rec 54 [.ref b] σ) := J_vG (n := 0) [] (by rw [ho]; decide +kernel) rfl h2 (by rw [ho]; decide +kernel) hr
theorem cv_0_113_8 {b : Nat} (ho : am_own t = 0) (h2 : am_ci1 (σ.1 b) = some 8) (hr : rest.length ≤ 8) : am_J X rec t (some (.invokevirtual 113, nx, tg)) pc lv (.ref b :: rest) σ = am_JR X rec t pc nx lv rest (rec 57 [.ref b] σ) := J_vG (n := 0) [] (by rw [ho]; decide +kernel) rfl h2 (by rw [ho]; decide +kernel) hr
theorem cv_0_113_10 {b : Nat} (ho : am_own t = 0) (h2 : am_ci1 (σ.1 b) = some 10) (hr : rest.length ≤ 8) : am_J X rec t (some (.invokevirtual 113, nx, tg)) pc lv (.ref b :: rest) σ = am_JR X rec t pc nx lv rest (rec 54 [.ref b] σ) := J_vG (n := 0) [] (by rw [ho]; decide +kernel) rfl h2 (by rw [ho]; decide +kernel) hr
theorem cv_0_113_7 {b : Nat} (ho : am_own t = 0) (h2 : am_ci1 (σ.1 b) = some 7) (hr : rest.length ≤ 8) : am_J X rec t (some (.invokevirtual 113, nx, tg)) pc lv (.ref b :: rest) σ = am_JR X rec t pc nx lv rest (rec 55 [.ref b] σ) := J_vG (n := 0) [] (by rw [ho]; decide +kernel) rfl h2 (by rw [ho]; decide +kernel) hr
theorem cv_0_113_11 {b : Nat} (ho : am_own t = 0) (h2 : am_ci1 (σ.1 b) = some 11) (hr : rest.length ≤ 8) : am_J X rec t (some (.invokevirtual 113, nx, tg)) pc lv (.ref b :: rest) σ = am_JR X rec t pc nx lv rest (rec 56 [.ref b] σ) := J_vG (n := 0) [] (by rw [ho]; decide +kernel) rfl h2 (by rw [ho]; decide +kernel) hr
theorem cv_13_34_0 {b : Nat} {x0 x1 x2 : Value} (ho : am_own t = 13) (h2 : am_ci1 (σ.1 b) = some 0) (hr : rest.length ≤ 8) : am_J X rec t (some (.invokevirtual 34, nx, tg)) pc lv (x2 :: x1 :: x0 :: .ref b :: rest) σ = am_JR X rec t pc nx lv rest (rec 58 [.ref b, x0, x1, x2] σ) := J_vG (n := 3) [x0, x1, x2] (by rw [ho]; decide +kernel) rfl h2 (by rw [ho]; decide +kernel) hr
theorem cv_0_119_0 {b : Nat} {x0 x1 : Value} (ho : am_own t = 0) (h2 : am_ci1 (σ.1 b) = some 0) (hr : rest.length ≤ 8) : am_J X rec t (some (.invokevirtual 119, nx, tg)) pc lv (x1 :: x0 :: .ref b :: rest) σ = am_JR X rec t pc nx lv rest (rec 59 [.ref b, x0, x1] σ) := J_vG (n := 2) [x0, x1] (by rw [ho]; decide +kernel) rfl h2 (by rw [ho]; decide +kernel) hr
theorem cv_13_39_0 {b : Nat} {x0 x1 : Value} (ho : am_own t = 13) (h2 : am_ci1 (σ.1 b) = some 0) (hr : rest.length ≤ 8) : am_J X rec t (some (.invokevirtual 39, nx, tg)) pc lv (x1 :: x0 :: .ref b :: rest) σ = am_JR X rec t pc nx lv rest (rec 60 [.ref b, x0, x1] σ) := J_vG (n := 2) [x0, x1] (by rw [ho]; decide +kernel) rfl h2 (by rw [ho]; decide +kernel) hr
theorem cv_0_132_1 {b : Nat} {x0 x1 : Value} (ho : am_own t = 0) (h2 : am_ci1 (σ.1 b) = some 1) (hr : rest.length ≤ 8) : am_J X rec t (some (.invokevirtual 132, nx, tg)) pc lv (x1 :: x0 :: .ref b :: rest) σ = am_JR X rec t pc nx lv rest (rec 61 [.ref b, x0, x1] σ) := J_vG (n := 2) [x0, x1] (by rw [ho]; decide +kernel) rfl h2 (by rw [ho]; decide +kernel) hr
theorem cv_1_50_6 {b : Nat} {x0 : Value} (ho : am_own t = 1) (h2 : am_ci1 (σ.1 b) = some 6) (hr : rest.length ≤ 8) : am_J X rec t (some (.invokevirtual 50, nx, tg)) pc lv (x0 :: .ref b :: rest) σ = am_JR X rec t pc nx lv rest (rec 67 [.ref b, x0] σ) := J_vG (n := 1) [x0] (by rw [ho]; decide +kernel) rfl h2 (by rw [ho]; decide +kernel) hr
theorem cv_1_50_9 {b : Nat} {x0 : Value} (ho : am_own t = 1) (h2 : am_ci1 (σ.1 b) = some 9) (hr : rest.length ≤ 8) : am_J X rec t (some (.invokevirtual 50, nx, tg)) pc lv (x0 :: .ref b :: rest) σ = am_JR X rec t pc nx lv rest (rec 62 [.ref b, x0] σ) := J_vG (n := 1) [x0] (by rw [ho]; decide +kernel) rfl h2 (by rw [ho]; decide +kernel) hr
theorem cv_1_50_8 {b : Nat} {x0 : Value} (ho : am_own t = 1) (h2 : am_ci1 (σ.1 b) = some 8) (hr : rest.length ≤ 8) : am_J X rec t (some (.invokevirtual 50, nx, tg)) pc lv (x0 :: .ref b :: rest) σ = am_JR X rec t pc nx lv rest (rec 63 [.ref b, x0] σ) := J_vG (n := 1) [x0] (by rw [ho]; decide +kernel) rfl h2 (by rw [ho]; decide +kernel) hr
theorem cv_1_50_10 {b : Nat} {x0 : Value} (ho : am_own t = 1) (h2 : am_ci1 (σ.1 b) = some 10) (hr : rest.length ≤ 8) : am_J X rec t (some (.invokevirtual 50, nx, tg)) pc lv (x0 :: .ref b :: rest) σ = am_JR X rec t pc nx lv rest (rec 64 [.ref b, x0] σ) := J_vG (n := 1) [x0] (by rw [ho]; decide +kernel) rfl h2 (by rw [ho]; decide +kernel) hr
theorem cv_1_50_7 {b : Nat} {x0 : Value} (ho : am_own t = 1) (h2 : am_ci1 (σ.1 b) = some 7) (hr : rest.length ≤ 8) : am_J X rec t (some (.invokevirtual 50, nx, tg)) pc lv (x0 :: .ref b :: rest) σ = am_JR X rec t pc nx lv rest (rec 65 [.ref b, x0] σ) := J_vG (n := 1) [x0] (by rw [ho]; decide +kernel) rfl h2 (by rw [ho]; decide +kernel) hr
theorem cv_1_50_11 {b : Nat} {x0 : Value} (ho : am_own t = 1) (h2 : am_ci1 (σ.1 b) = some 11) (hr : rest.length ≤ 8) : am_J X rec t (some (.invokevirtual 50, nx, tg)) pc lv (x0 :: .ref b :: rest) σ = am_JR X rec t pc nx lv rest (rec 66 [.ref b, x0] σ) := J_vG (n := 1) [x0] (by rw [ho]; decide +kernel) rfl h2 (by rw [ho]; decide +kernel) hr
theorem cv_13_43_0 {b : Nat} {x0 : Value} (ho : am_own t = 13) (h2 : am_ci1 (σ.1 b) = some 0) (hr : rest.length ≤ 8) : am_J X rec t (some (.invokevirtual 43, nx, tg)) pc lv (x0 :: .ref b :: rest) σ = am_JR X rec t pc nx lv rest (rec 68 [.ref b, x0] σ) := J_vG (n := 1) [x0] (by rw [ho]; decide +kernel) rfl h2 (by rw [ho]; decide +kernel) hr
theorem cv_13_47_0 {b : Nat} {x0 : Value} (ho : am_own t = 13) (h2 : am_ci1 (σ.1 b) = some 0) (hr : rest.length ≤ 8) : am_J X rec t (some (.invokevirtual 47, nx, tg)) pc lv (x0 :: .ref b :: rest) σ = am_JR X rec t pc nx lv rest (rec 69 [.ref b, x0] σ) := J_vG (n := 1) [x0] (by rw [ho]; decide +kernel) rfl h2 (by rw [ho]; decide +kernel) hr
theorem cv_13_51_0 {b : Nat} {x0 : Value} (ho : am_own t = 13) (h2 : am_ci1 (σ.1 b) = some 0) (hr : rest.length ≤ 8) : am_J X rec t (some (.invokevirtual 51, nx, tg)) pc lv (x0 :: .ref b :: rest) σ = am_JR X rec t pc nx lv rest (rec 70 [.ref b, x0] σ) := J_vG (n := 1) [x0] (by rw [ho]; decide +kernel) rfl h2 (by rw [ho]; decide +kernel) hr
theorem cv_0_142_2 {b : Nat} {x0 : Value} (ho : am_own t = 0) (h2 : am_ci1 (σ.1 b) = some 2) (hr : rest.length ≤ 8) : am_J X rec t (some (.invokevirtual 142, nx, tg)) pc lv (x0 :: .ref b :: rest) σ = am_JR X rec t pc nx lv rest (rec 71 [.ref b, x0] σ) := J_vG (n := 1) [x0] (by rw [ho]; decide +kernel) rfl h2 (by rw [ho]; decide +kernel) hr
theorem cv_2_45_2 {b : Nat} {x0 : Value} (ho : am_own t = 2) (h2 : am_ci1 (σ.1 b) = some 2) (hr : rest.length ≤ 8) : am_J X rec t (some (.invokevirtual 45, nx, tg)) pc lv (x0 :: .ref b :: rest) σ = am_JR X rec t pc nx lv rest (rec 72 [.ref b, x0] σ) := J_vG (n := 1) [x0] (by rw [ho]; decide +kernel) rfl h2 (by rw [ho]; decide +kernel) hr
theorem cv_2_49_1 {b : Nat} {x0 x1 x2 : Value} (ho : am_own t = 2) (h2 : am_ci1 (σ.1 b) = some 1) (hr : rest.length ≤ 8) : am_J X rec t (some (.invokevirtual 49, nx, tg)) pc lv (x2 :: x1 :: x0 :: .ref b :: rest) σ = am_JR X rec t pc nx lv rest (rec 73 [.ref b, x0, x1, x2] σ) := J_vG (n := 3) [x0, x1, x2] (by rw [ho]; decide +kernel) rfl h2 (by rw [ho]; decide +kernel) hr
theorem cv_2_53_1 {b : Nat} {x0 x1 x2 : Value} (ho : am_own t = 2) (h2 : am_ci1 (σ.1 b) = some 1) (hr : rest.length ≤ 8) : am_J X rec t (some (.invokevirtual 53, nx, tg)) pc lv (x2 :: x1 :: x0 :: .ref b :: rest) σ = am_JR X rec t pc nx lv rest (rec 74 [.ref b, x0, x1, x2] σ) := J_vG (n := 3) [x0, x1, x2] (by rw [ho]; decide +kernel) rfl h2 (by rw [ho]; decide +kernel) hr
theorem cv_0_146_1 {b : Nat} {x0 x1 : Value} (ho : am_own t = 0) (h2 : am_ci1 (σ.1 b) = some 1) (hr : rest.length ≤ 8) : am_J X rec t (some (.invokevirtual 146, nx, tg)) pc lv (x1 :: x0 :: .ref b :: rest) σ = am_JR X rec t pc nx lv rest (rec 75 [.ref b, x0, x1] σ) := J_vG (n := 2) [x0, x1] (by rw [ho]; decide +kernel) rfl h2 (by rw [ho]; decide +kernel) hr
theorem cv_1_109_1 {b : Nat} {x0 : Value} (ho : am_own t = 1) (h2 : am_ci1 (σ.1 b) = some 1) (hr : rest.length ≤ 8) : am_J X rec t (some (.invokevirtual 109, nx, tg)) pc lv (x0 :: .ref b :: rest) σ = am_JR X rec t pc nx lv rest (rec 76 [.ref b, x0] σ) := J_vG (n := 1) [x0] (by rw [ho]; decide +kernel) rfl h2 (by rw [ho]; decide +kernel) hr
theorem cv_1_95_1 {b : Nat} {x0 x1 : Value} (ho : am_own t = 1) (h2 : am_ci1 (σ.1 b) = some 1) (hr : rest.length ≤ 8) : am_J X rec t (some (.invokevirtual 95, nx, tg)) pc lv (x1 :: x0 :: .ref b :: rest) σ = am_JR X rec t pc nx lv rest (rec 77 [.ref b, x0, x1] σ) := J_vG (n := 2) [x0, x1] (by rw [ho]; decide +kernel) rfl h2 (by rw [ho]; decide +kernel) hr
theorem cv_1_112_1 {b : Nat} {x0 : Value} (ho : am_own t = 1) (h2 : am_ci1 (σ.1 b) = some 1) (hr : rest.length ≤ 8) : am_J X rec t (some (.invokevirtual 112, nx, tg)) pc lv (x0 :: .ref b :: rest) σ = am_JR X rec t pc nx lv rest (rec 78 [.ref b, x0] σ) := J_vG (n := 1) [x0] (by rw [ho]; decide +kernel) rfl h2 (by rw [ho]; decide +kernel) hr
theorem cv_1_115_1 {b : Nat} {x0 x1 x2 : Value} (ho : am_own t = 1) (h2 : am_ci1 (σ.1 b) = some 1) (hr : rest.length ≤ 8) : am_J X rec t (some (.invokevirtual 115, nx, tg)) pc lv (x2 :: x1 :: x0 :: .ref b :: rest) σ = am_JR X rec t pc nx lv rest (rec 79 [.ref b, x0, x1, x2] σ) := J_vG (n := 3) [x0, x1, x2] (by rw [ho]; decide +kernel) rfl h2 (by rw [ho]; decide +kernel) hr
theorem cv_1_119_6 {b : Nat} {x0 x1 : Value} (ho : am_own t = 1) (h2 : am_ci1 (σ.1 b) = some 6) (hr : rest.length ≤ 8) : am_J X rec t (some (.invokevirtual 119, nx, tg)) pc lv (x1 :: x0 :: .ref b :: rest) σ = am_JR X rec t pc nx lv rest (rec 83 [.ref b, x0, x1] σ) := J_vG (n := 2) [x0, x1] (by rw [ho]; decide +kernel) rfl h2 (by rw [ho]; decide +kernel) hr
theorem cv_1_119_9 {b : Nat} {x0 x1 : Value} (ho : am_own t = 1) (h2 : am_ci1 (σ.1 b) = some 9) (hr : rest.length ≤ 8) : am_J X rec t (some (.invokevirtual 119, nx, tg)) pc lv (x1 :: x0 :: .ref b :: rest) σ = am_JR X rec t pc nx lv rest (rec 80 [.ref b, x0, x1] σ) := J_vG (n := 2) [x0, x1] (by rw [ho]; decide +kernel) rfl h2 (by rw [ho]; decide +kernel) hr
theorem cv_1_119_8 {b : Nat} {x0 x1 : Value} (ho : am_own t = 1) (h2 : am_ci1 (σ.1 b) = some 8) (hr : rest.length ≤ 8) : am_J X rec t (some (.invokevirtual 119, nx, tg)) pc lv (x1 :: x0 :: .ref b :: rest) σ = am_JR X rec t pc nx lv rest (rec 83 [.ref b, x0, x1] σ) := J_vG (n := 2) [x0, x1] (by rw [ho]; decide +kernel) rfl h2 (by rw [ho]; decide +kernel) hr
theorem cv_1_119_10 {b : Nat} {x0 x1 : Value} (ho : am_own t = 1) (h2 : am_ci1 (σ.1 b) = some 10) (hr : rest.length ≤ 8) : am_J X rec t (some (.invokevirtual 119, nx, tg)) pc lv (x1 :: x0 :: .ref b :: rest) σ = am_JR X rec t pc nx lv rest (rec 81 [.ref b, x0, x1] σ) := J_vG (n := 2) [x0, x1] (by rw [ho]; decide +kernel) rfl h2 (by rw [ho]; decide +kernel) hr
theorem cv_1_119_7 {b : Nat} {x0 x1 : Value} (ho : am_own t = 1) (h2 : am_ci1 (σ.1 b) = some 7) (hr : rest.length ≤ 8) : am_J X rec t (some (.invokevirtual 119, nx, tg)) pc lv (x1 :: x0 :: .ref b :: rest) σ = am_JR X rec t pc nx lv rest (rec 83 [.ref b, x0, x1] σ) := J_vG (n := 2) [x0, x1] (by rw [ho]; decide +kernel) rfl h2 (by rw [ho]; decide +kernel) hr
theorem cv_1_119_11 {b : Nat} {x0 x1 : Value} (ho : am_own t = 1) (h2 : am_ci1 (σ.1 b) = some 11) (hr : rest.length ≤ 8) : am_J X rec t (some (.invokevirtual 119, nx, tg)) pc lv (x1 :: x0 :: .ref b :: rest) σ = am_JR X rec t pc nx lv rest (rec 82 [.ref b, x0, x1] σ) := J_vG (n := 2) [x0, x1] (by rw [ho]; decide +kernel) rfl h2 (by rw [ho]; decide +kernel) hr
theorem cv_13_55_0 {b : Nat} {x0 x1 : Value} (ho : am_own t = 13) (h2 : am_ci1 (σ.1 b) = some 0) (hr : rest.length ≤ 8) : am_J X rec t (some (.invokevirtual 55, nx, tg)) pc lv (x1 :: x0 :: .ref b :: rest) σ = am_JR X rec t pc nx lv rest (rec 84 [.ref b, x0, x1] σ) := J_vG (n := 2) [x0, x1] (by rw [ho]; decide +kernel) rfl h2 (by rw [ho]; decide +kernel) hr
theorem cv_0_149_1 {b : Nat} {x0 x1 x2 : Value} (ho : am_own t = 0) (h2 : am_ci1 (σ.1 b) = some 1) (hr : rest.length ≤ 8) : am_J X rec t (some (.invokevirtual 149, nx, tg)) pc lv (x2 :: x1 :: x0 :: .ref b :: rest) σ = am_JR X rec t pc nx lv rest (rec 85 [.ref b, x0, x1, x2] σ) := J_vG (n := 3) [x0, x1, x2] (by rw [ho]; decide +kernel) rfl h2 (by rw [ho]; decide +kernel) hr
theorem cv_1_125_1 {b : Nat} {x0 x1 : Value} (ho : am_own t = 1) (h2 : am_ci1 (σ.1 b) = some 1) (hr : rest.length ≤ 8) : am_J X rec t (some (.invokevirtual 125, nx, tg)) pc lv (x1 :: x0 :: .ref b :: rest) σ = am_JR X rec t pc nx lv rest (rec 87 [.ref b, x0, x1] σ) := J_vG (n := 2) [x0, x1] (by rw [ho]; decide +kernel) rfl h2 (by rw [ho]; decide +kernel) hr
theorem cv_0_156_2 {b : Nat} {x0 x1 : Value} (ho : am_own t = 0) (h2 : am_ci1 (σ.1 b) = some 2) (hr : rest.length ≤ 8) : am_J X rec t (some (.invokevirtual 156, nx, tg)) pc lv (x1 :: x0 :: .ref b :: rest) σ = am_JR X rec t pc nx lv rest (rec 88 [.ref b, x0, x1] σ) := J_vG (n := 2) [x0, x1] (by rw [ho]; decide +kernel) rfl h2 (by rw [ho]; decide +kernel) hr
theorem cv_0_159_0 {b : Nat} (ho : am_own t = 0) (h2 : am_ci1 (σ.1 b) = some 0) (hr : rest.length ≤ 8) : am_J X rec t (some (.invokevirtual 159, nx, tg)) pc lv (.ref b :: rest) σ = am_JR X rec t pc nx lv rest (rec 89 [.ref b] σ) := J_vG (n := 0) [] (by rw [ho]; decide +kernel) rfl h2 (by rw [ho]; decide +kernel) hr
theorem cv_0_198_2 {b : Nat} {x0 : Value} (ho : am_own t = 0) (h2 : am_ci1 (σ.1 b) = some 2) (hr : rest.length ≤ 8) : am_J X rec t (some (.invokevirtual 198, nx, tg)) pc lv (x0 :: .ref b :: rest) σ = am_JR X rec t pc nx lv rest (rec 90 [.ref b, x0] σ) := J_vG (n := 1) [x0] (by rw [ho]; decide +kernel) rfl h2 (by rw [ho]; decide +kernel) hr
theorem cv_2_57_1 {b : Nat} {x0 x1 : Value} (ho : am_own t = 2) (h2 : am_ci1 (σ.1 b) = some 1) (hr : rest.length ≤ 8) : am_J X rec t (some (.invokevirtual 57, nx, tg)) pc lv (x1 :: x0 :: .ref b :: rest) σ = am_JR X rec t pc nx lv rest (rec 91 [.ref b, x0, x1] σ) := J_vG (n := 2) [x0, x1] (by rw [ho]; decide +kernel) rfl h2 (by rw [ho]; decide +kernel) hr
theorem cv_13_59_0 {b : Nat} {x0 x1 : Value} (ho : am_own t = 13) (h2 : am_ci1 (σ.1 b) = some 0) (hr : rest.length ≤ 8) : am_J X rec t (some (.invokevirtual 59, nx, tg)) pc lv (x1 :: x0 :: .ref b :: rest) σ = am_JR X rec t pc nx lv rest (rec 92 [.ref b, x0, x1] σ) := J_vG (n := 2) [x0, x1] (by rw [ho]; decide +kernel) rfl h2 (by rw [ho]; decide +kernel) hr
theorem cv_0_161_6 {b : Nat} (ho : am_own t = 0) (h2 : am_ci1 (σ.1 b) = some 6) (hr : rest.length ≤ 8) : am_J X rec t (some (.invokevirtual 161, nx, tg)) pc lv (.ref b :: rest) σ = am_JR X rec t pc nx lv rest (rec 35 [.ref b] σ) := J_vG (n := 0) [] (by rw [ho]; decide +kernel) rfl h2 (by rw [ho]; decide +kernel) hr
theorem cv_0_161_9 {b : Nat} (ho : am_own t = 0) (h2 : am_ci1 (σ.1 b) = some 9) (hr : rest.length ≤ 8) : am_J X rec t (some (.invokevirtual 161, nx, tg)) pc lv (.ref b :: rest) σ = am_JR X rec t pc nx lv rest (rec 35 [.ref b] σ) := J_vG (n := 0) [] (by rw [ho]; decide +kernel) rfl h2 (by rw [ho]; decide +kernel) hr
theorem cv_0_161_8 {b : Nat} (ho : am_own t = 0) (h2 : am_ci1 (σ.1 b) = some 8) (hr : rest.length ≤ 8) : am_J X rec t (some (.invokevirtual 161, nx, tg)) pc lv (.ref b :: rest) σ = am_JR X rec t pc nx lv rest (rec 35 [.ref b] σ) := J_vG (n := 0) [] (by rw [ho]; decide +kernel) rfl h2 (by rw [ho]; decide +kernel) hr
theorem cv_0_161_10 {b : Nat} (ho : am_own t = 0) (h2 : am_ci1 (σ.1 b) = some 10) (hr : rest.length ≤ 8) : am_J X rec t (some (.invokevirtual 161, nx, tg)) pc lv (.ref b :: rest) σ = am_JR X rec t pc nx lv rest (rec 35 [.ref b] σ) := J_vG (n := 0) [] (by rw [ho]; decide +kernel) rfl h2 (by rw [ho]; decide +kernel) hr
theorem cv_0_161_7 {b : Nat} (ho : am_own t = 0) (h2 : am_ci1 (σ.1 b) = some 7) (hr : rest.length ≤ 8) : am_J X rec t (some (.invokevirtual 161, nx, tg)) pc lv (.ref b :: rest) σ = am_JR X rec t pc nx lv rest (rec 34 [.ref b] σ) := J_vG (n := 0) [] (by rw [ho]; decide +kernel) rfl h2 (by rw [ho]; decide +kernel) hr
theorem cv_0_161_11 {b : Nat} (ho : am_own t = 0) (h2 : am_ci1 (σ.1 b) = some 11) (hr : rest.length ≤ 8) : am_J X rec t (some (.invokevirtual 161, nx, tg)) pc lv (.ref b :: rest) σ = am_JR X rec t pc nx lv rest (rec 35 [.ref b] σ) := J_vG (n := 0) [] (by rw [ho]; decide +kernel) rfl h2 (by rw [ho]; decide +kernel) hr
theorem cv_13_64_0 {b : Nat} (ho : am_own t = 13) (h2 : am_ci1 (σ.1 b) = some 0) (hr : rest.length ≤ 8) : am_J X rec t (some (.invokevirtual 64, nx, tg)) pc lv (.ref b :: rest) σ = am_JR X rec t pc nx lv rest (rec 93 [.ref b] σ) := J_vG (n := 0) [] (by rw [ho]; decide +kernel) rfl h2 (by rw [ho]; decide +kernel) hr
theorem cv_0_168_2 {b : Nat} (ho : am_own t = 0) (h2 : am_ci1 (σ.1 b) = some 2) (hr : rest.length ≤ 8) : am_J X rec t (some (.invokevirtual 168, nx, tg)) pc lv (.ref b :: rest) σ = am_JR X rec t pc nx lv rest (rec 94 [.ref b] σ) := J_vG (n := 0) [] (by rw [ho]; decide +kernel) rfl h2 (by rw [ho]; decide +kernel) hr
theorem cv_13_69_0 {b : Nat} {x0 : Value} (ho : am_own t = 13) (h2 : am_ci1 (σ.1 b) = some 0) (hr : rest.length ≤ 8) : am_J X rec t (some (.invokevirtual 69, nx, tg)) pc lv (x0 :: .ref b :: rest) σ = am_JR X rec t pc nx lv rest (rec 95 [.ref b, x0] σ) := J_vG (n := 1) [x0] (by rw [ho]; decide +kernel) rfl h2 (by rw [ho]; decide +kernel) hr
theorem cv_0_171_2 {b : Nat} (ho : am_own t = 0) (h2 : am_ci1 (σ.1 b) = some 2) (hr : rest.length ≤ 8) : am_J X rec t (some (.invokevirtual 171, nx, tg)) pc lv (.ref b :: rest) σ = am_JR X rec t pc nx lv rest (rec 96 [.ref b] σ) := J_vG (n := 0) [] (by rw [ho]; decide +kernel) rfl h2 (by rw [ho]; decide +kernel) hr
theorem cv_0_174_1 {b : Nat} {x0 : Value} (ho : am_own t = 0) (h2 : am_ci1 (σ.1 b) = some 1) (hr : rest.length ≤ 8) : am_J X rec t (some (.invokevirtual 174, nx, tg)) pc lv (x0 :: .ref b :: rest) σ = am_JR X rec t pc nx lv rest (rec 76 [.ref b, x0] σ) := J_vG (n := 1) [x0] (by rw [ho]; decide +kernel) rfl h2 (by rw [ho]; decide +kernel) hr
theorem cv_0_178_1 {b : Nat} {x0 : Value} (ho : am_own t = 0) (h2 : am_ci1 (σ.1 b) = some 1) (hr : rest.length ≤ 8) : am_J X rec t (some (.invokevirtual 178, nx, tg)) pc lv (x0 :: .ref b :: rest) σ = am_JR X rec t pc nx lv rest (rec 78 [.ref b, x0] σ) := J_vG (n := 1) [x0] (by rw [ho]; decide +kernel) rfl h2 (by rw [ho]; decide +kernel) hr
theorem cv_13_73_0 {b : Nat} (ho : am_own t = 13) (h2 : am_ci1 (σ.1 b) = some 0) (hr : rest.length ≤ 8) : am_J X rec t (some (.invokevirtual 73, nx, tg)) pc lv (.ref b :: rest) σ = am_JR X rec t pc nx lv rest (rec 97 [.ref b] σ) := J_vG (n := 0) [] (by rw [ho]; decide +kernel) rfl h2 (by rw [ho]; decide +kernel) hr
theorem cv_0_181_1 {b : Nat} {x0 : Value} (ho : am_own t = 0) (h2 : am_ci1 (σ.1 b) = some 1) (hr : rest.length ≤ 8) : am_J X rec t (some (.invokevirtual 181, nx, tg)) pc lv (x0 :: .ref b :: rest) σ = am_JR X rec t pc nx lv rest (rec 98 [.ref b, x0] σ) := J_vG (n := 1) [x0] (by rw [ho]; decide +kernel) rfl h2 (by rw [ho]; decide +kernel) hr
theorem cv_1_128_1 {b : Nat} {x0 x1 : Value} (ho : am_own t = 1) (h2 : am_ci1 (σ.1 b) = some 1) (hr : rest.length ≤ 8) : am_J X rec t (some (.invokevirtual 128, nx, tg)) pc lv (x1 :: x0 :: .ref b :: rest) σ = am_JR X rec t pc nx lv rest (rec 99 [.ref b, x0, x1] σ) := J_vG (n := 2) [x0, x1] (by rw [ho]; decide +kernel) rfl h2 (by rw [ho]; decide +kernel) hr
theorem cv_13_78_0 {b : Nat} {x0 x1 : Value} (ho : am_own t = 13) (h2 : am_ci1 (σ.1 b) = some 0) (hr : rest.length ≤ 8) : am_J X rec t (some (.invokevirtual 78, nx, tg)) pc lv (x1 :: x0 :: .ref b :: rest) σ = am_JR X rec t pc nx lv rest (rec 100 [.ref b, x0, x1] σ) := J_vG (n := 2) [x0, x1] (by rw [ho]; decide +kernel) rfl h2 (by rw [ho]; decide +kernel) hr
theorem cv_0_187_1 {b : Nat} {x0 x1 : Value} (ho : am_own t = 0) (h2 : am_ci1 (σ.1 b) = some 1) (hr : rest.length ≤ 8) : am_J X rec t (some (.invokevirtual 187, nx, tg)) pc lv (x1 :: x0 :: .ref b :: rest) σ = am_JR X rec t pc nx lv rest (rec 101 [.ref b, x0, x1] σ) := J_vG (n := 2) [x0, x1] (by rw [ho]; decide +kernel) rfl h2 (by rw [ho]; decide +kernel) hr
theorem cv_13_82_0 {b : Nat} (ho : am_own t = 13) (h2 : am_ci1 (σ.1 b) = some 0) (hr : rest.length ≤ 8) : am_J X rec t (some (.invokevirtual 82, nx, tg)) pc lv (.ref b :: rest) σ = am_JR X rec t pc nx lv rest (rec 102 [.ref b] σ) := J_vG (n := 0) [] (by rw [ho]; decide +kernel) rfl h2 (by rw [ho]; decide +kernel) hr
theorem cv_0_201_4 {b : Nat} {x0 x1 : Value} (ho : am_own t = 0) (h2 : am_ci1 (σ.1 b) = some 4) (hr : rest.length ≤ 8) : am_J X rec t (some (.invokevirtual 201, nx, tg)) pc lv (x1 :: x0 :: .ref b :: rest) σ = am_JR X rec t pc nx lv rest (rec 103 [.ref b, x0, x1] σ) := J_vG (n := 2) [x0, x1] (by rw [ho]; decide +kernel) rfl h2 (by rw [ho]; decide +kernel) hr
theorem cv_4_176_1 {b : Nat} {x0 x1 : Value} (ho : am_own t = 4) (h2 : am_ci1 (σ.1 b) = some 1) (hr : rest.length ≤ 8) : am_J X rec t (some (.invokevirtual 176, nx, tg)) pc lv (x1 :: x0 :: .ref b :: rest) σ = am_JR X rec t pc nx lv rest (rec 101 [.ref b, x0, x1] σ) := J_vG (n := 2) [x0, x1] (by rw [ho]; decide +kernel) rfl h2 (by rw [ho]; decide +kernel) hr
theorem cv_4_185_1 {b : Nat} {x0 x1 : Value} (ho : am_own t = 4) (h2 : am_ci1 (σ.1 b) = some 1) (hr : rest.length ≤ 8) : am_J X rec t (some (.invokevirtual 185, nx, tg)) pc lv (x1 :: x0 :: .ref b :: rest) σ = am_JR X rec t pc nx lv rest (rec 75 [.ref b, x0, x1] σ) := J_vG (n := 2) [x0, x1] (by rw [ho]; decide +kernel) rfl h2 (by rw [ho]; decide +kernel) hr
theorem cv_13_86_0 {b : Nat} (ho : am_own t = 13) (h2 : am_ci1 (σ.1 b) = some 0) (hr : rest.length ≤ 8) : am_J X rec t (some (.invokevirtual 86, nx, tg)) pc lv (.ref b :: rest) σ = am_JR X rec t pc nx lv rest (rec 104 [.ref b] σ) := J_vG (n := 0) [] (by rw [ho]; decide +kernel) rfl h2 (by rw [ho]; decide +kernel) hr
theorem cv_0_204_4 {b : Nat} {x0 x1 : Value} (ho : am_own t = 0) (h2 : am_ci1 (σ.1 b) = some 4) (hr : rest.length ≤ 8) : am_J X rec t (some (.invokevirtual 204, nx, tg)) pc lv (x1 :: x0 :: .ref b :: rest) σ = am_JR X rec t pc nx lv rest (rec 105 [.ref b, x0, x1] σ) := J_vG (n := 2) [x0, x1] (by rw [ho]; decide +kernel) rfl h2 (by rw [ho]; decide +kernel) hr
theorem cv_4_188_4 {b : Nat} {x0 x1 x2 : Value} (ho : am_own t = 4) (h2 : am_ci1 (σ.1 b) = some 4) (hr : rest.length ≤ 8) : am_J X rec t (some (.invokevirtual 188, nx, tg)) pc lv (x2 :: x1 :: x0 :: .ref b :: rest) σ = am_JR X rec t pc nx lv rest (rec 106 [.ref b, x0, x1, x2] σ) := J_vG (n := 3) [x0, x1, x2] (by rw [ho]; decide +kernel) rfl h2 (by rw [ho]; decide +kernel) hr
theorem cv_4_192_4 {b : Nat} {x0 x1 : Value} (ho : am_own t = 4) (h2 : am_ci1 (σ.1 b) = some 4) (hr : rest.length ≤ 8) : am_J X rec t (some (.invokevirtual 192, nx, tg)) pc lv (x1 :: x0 :: .ref b :: rest) σ = am_JR X rec t pc nx lv rest (rec 103 [.ref b, x0, x1] σ) := J_vG (n := 2) [x0, x1] (by rw [ho]; decide +kernel) rfl h2 (by rw [ho]; decide +kernel) hr
theorem cv_4_93_1 {b : Nat} {x0 : Value} (ho : am_own t = 4) (h2 : am_ci1 (σ.1 b) = some 1) (hr : rest.length ≤ 8) : am_J X rec t (some (.invokevirtual 93, nx, tg)) pc lv (x0 :: .ref b :: rest) σ = am_JR X rec t pc nx lv rest (rec 98 [.ref b, x0] σ) := J_vG (n := 1) [x0] (by rw [ho]; decide +kernel) rfl h2 (by rw [ho]; decide +kernel) hr
theorem cv_4_117_6 {b : Nat} (ho : am_own t = 4) (h2 : am_ci1 (σ.1 b) = some 6) (hr : rest.length ≤ 8) : am_J X rec t (some (.invokevirtual 117, nx, tg)) pc lv (.ref b :: rest) σ = am_JR X rec t pc nx lv rest (rec 22 [.ref b] σ) := J_vG (n := 0) [] (by rw [ho]; decide +kernel) rfl h2 (by rw [ho]; decide +kernel) hr
theorem cv_4_117_9 {b : Nat} (ho : am_own t = 4) (h2 : am_ci1 (σ.1 b) = some 9) (hr : rest.length ≤ 8) : am_J X rec t (some (.invokevirtual 117, nx, tg)) pc lv (.ref b :: rest) σ = am_JR X rec t pc nx lv rest (rec 22 [.ref b] σ) := J_vG (n := 0) [] (by rw [ho]; decide +kernel) rfl h2 (by rw [ho]; decide +kernel) hr
theorem cv_4_117_8 {b : Nat} (ho : am_own t = 4) (h2 : am_ci1 (σ.1 b) = some 8) (hr : rest.length ≤ 8) : am_J X rec t (some (.invokevirtual 117, nx, tg)) pc lv (.ref b :: rest) σ = am_JR X rec t pc nx lv rest (rec 22 [.ref b] σ) := J_vG (n := 0) [] (by rw [ho]; decide +kernel) rfl h2 (by rw [ho]; decide +kernel) hr
theorem cv_4_117_10 {b : Nat} (ho : am_own t = 4) (h2 : am_ci1 (σ.1 b) = some 10) (hr : rest.length ≤ 8) : am_J X rec t (some (.invokevirtual 117, nx, tg)) pc lv (.ref b :: rest) σ = am_JR X rec t pc nx lv rest (rec 22 [.ref b] σ) := J_vG (n := 0) [] (by rw [ho]; decide +kernel) rfl h2 (by rw [ho]; decide +kernel) hr
theorem cv_4_117_7 {b : Nat} (ho : am_own t = 4) (h2 : am_ci1 (σ.1 b) = some 7) (hr : rest.length ≤ 8) : am_J X rec t (some (.invokevirtual 117, nx, tg)) pc lv (.ref b :: rest) σ = am_JR X rec t pc nx lv rest (rec 22 [.ref b] σ) := J_vG (n := 0) [] (by rw [ho]; decide +kernel) rfl h2 (by rw [ho]; decide +kernel) hr
theorem cv_4_117_11 {b : Nat} (ho : am_own t = 4) (h2 : am_ci1 (σ.1 b) = some 11) (hr : rest.length ≤ 8) : am_J X rec t (some (.invokevirtual 117, nx, tg)) pc lv (.ref b :: rest) σ = am_JR X rec t pc nx lv rest (rec 22 [.ref b] σ) := J_vG (n := 0) [] (by rw [ho]; decide +kernel) rfl h2 (by rw [ho]; decide +kernel) hr
theorem cv_4_120_1 {b : Nat} {x0 x1 x2 : Value} (ho : am_own t = 4) (h2 : am_ci1 (σ.1 b) = some 1) (hr : rest.length ≤ 8) : am_J X rec t (some (.invokevirtual 120, nx, tg)) pc lv (x2 :: x1 :: x0 :: .ref b :: rest) σ = am_JR X rec t pc nx lv rest (rec 85 [.ref b, x0, x1, x2] σ) := J_vG (n := 3) [x0, x1, x2] (by rw [ho]; decide +kernel) rfl h2 (by rw [ho]; decide +kernel) hr
theorem cv_4_195_1 {b : Nat} {x0 x1 : Value} (ho : am_own t = 4) (h2 : am_ci1 (σ.1 b) = some 1) (hr : rest.length ≤ 8) : am_J X rec t (some (.invokevirtual 195, nx, tg)) pc lv (x1 :: x0 :: .ref b :: rest) σ = am_JR X rec t pc nx lv rest (rec 91 [.ref b, x0, x1] σ) := J_vG (n := 2) [x0, x1] (by rw [ho]; decide +kernel) rfl h2 (by rw [ho]; decide +kernel) hr
theorem cv_4_124_1 {b : Nat} {x0 x1 x2 : Value} (ho : am_own t = 4) (h2 : am_ci1 (σ.1 b) = some 1) (hr : rest.length ≤ 8) : am_J X rec t (some (.invokevirtual 124, nx, tg)) pc lv (x2 :: x1 :: x0 :: .ref b :: rest) σ = am_JR X rec t pc nx lv rest (rec 73 [.ref b, x0, x1, x2] σ) := J_vG (n := 3) [x0, x1, x2] (by rw [ho]; decide +kernel) rfl h2 (by rw [ho]; decide +kernel) hr
theorem cv_13_90_0 {b : Nat} (ho : am_own t = 13) (h2 : am_ci1 (σ.1 b) = some 0) (hr : rest.length ≤ 8) : am_J X rec t (some (.invokevirtual 90, nx, tg)) pc lv (.ref b :: rest) σ = am_JR X rec t pc nx lv rest (rec 107 [.ref b] σ) := J_vG (n := 0) [] (by rw [ho]; decide +kernel) rfl h2 (by rw [ho]; decide +kernel) hr
theorem cv_0_208_4 {b : Nat} {x0 x1 : Value} (ho : am_own t = 0) (h2 : am_ci1 (σ.1 b) = some 4) (hr : rest.length ≤ 8) : am_J X rec t (some (.invokevirtual 208, nx, tg)) pc lv (x1 :: x0 :: .ref b :: rest) σ = am_JR X rec t pc nx lv rest (rec 108 [.ref b, x0, x1] σ) := J_vG (n := 2) [x0, x1] (by rw [ho]; decide +kernel) rfl h2 (by rw [ho]; decide +kernel) hr
theorem cv_4_173_4 {b : Nat} (ho : am_own t = 4) (h2 : am_ci1 (σ.1 b) = some 4) (hr : rest.length ≤ 8) : am_J X rec t (some (.invokevirtual 173, nx, tg)) pc lv (.ref b :: rest) σ = am_JR X rec t pc nx lv rest (rec 109 [.ref b] σ) := J_vG (n := 0) [] (by rw [ho]; decide +kernel) rfl h2 (by rw [ho]; decide +kernel) hr
theorem cv_4_46_1 {b : Nat} (ho : am_own t = 4) (h2 : am_ci1 (σ.1 b) = some 1) (hr : rest.length ≤ 8) : am_J X rec t (some (.invokevirtual 46, nx, tg)) pc lv (.ref b :: rest) σ = am_JR X rec t pc nx lv rest (rec 110 [.ref b] σ) := J_vG (n := 0) [] (by rw [ho]; decide +kernel) rfl h2 (by rw [ho]; decide +kernel) hr
theorem cv_4_65_4 {b : Nat} {x0 : Value} (ho : am_own t = 4) (h2 : am_ci1 (σ.1 b) = some 4) (hr : rest.length ≤ 8) : am_J X rec t (some (.invokevirtual 65, nx, tg)) pc lv (x0 :: .ref b :: rest) σ = am_JR X rec t pc nx lv rest (rec 111 [.ref b, x0] σ) := J_vG (n := 1) [x0] (by rw [ho]; decide +kernel) rfl h2 (by rw [ho]; decide +kernel) hr
theorem cv_4_69_1 {b : Nat} {x0 : Value} (ho : am_own t = 4) (h2 : am_ci1 (σ.1 b) = some 1) (hr : rest.length ≤ 8) : am_J X rec t (some (.invokevirtual 69, nx, tg)) pc lv (x0 :: .ref b :: rest) σ = am_JR X rec t pc nx lv rest (rec 112 [.ref b, x0] σ) := J_vG (n := 1) [x0] (by rw [ho]; decide +kernel) rfl h2 (by rw [ho]; decide +kernel) hr
theorem cv_1_99_6 {b : Nat} (ho : am_own t = 1) (h2 : am_ci1 (σ.1 b) = some 6) (hr : rest.length ≤ 8) : am_J X rec t (some (.invokevirtual 99, nx, tg)) pc lv (.ref b :: rest) σ = am_JR X rec t pc nx lv rest (rec 35 [.ref b] σ) := J_vG (n := 0) [] (by rw [ho]; decide +kernel) rfl h2 (by rw [ho]; decide +kernel) hr
theorem cv_1_99_9 {b : Nat} (ho : am_own t = 1) (h2 : am_ci1 (σ.1 b) = some 9) (hr : rest.length ≤ 8) : am_J X rec t (some (.invokevirtual 99, nx, tg)) pc lv (.ref b :: rest) σ = am_JR X rec t pc nx lv rest (rec 35 [.ref b] σ) := J_vG (n := 0) [] (by rw [ho]; decide +kernel) rfl h2 (by rw [ho]; decide +kernel) hr
theorem cv_1_99_8 {b : Nat} (ho : am_own t = 1) (h2 : am_ci1 (σ.1 b) = some 8) (hr : rest.length ≤ 8) : am_J X rec t (some (.invokevirtual 99, nx, tg)) pc lv (.ref b :: rest) σ = am_JR X rec t pc nx lv rest (rec 35 [.ref b] σ) := J_vG (n := 0) [] (by rw [ho]; decide +kernel) rfl h2 (by rw [ho]; decide +kernel) hr
theorem cv_1_99_10 {b : Nat} (ho : am_own t = 1) (h2 : am_ci1 (σ.1 b) = some 10) (hr : rest.length ≤ 8) : am_J X rec t (some (.invokevirtual 99, nx, tg)) pc lv (.ref b :: rest) σ = am_JR X rec t pc nx lv rest (rec 35 [.ref b] σ) := J_vG (n := 0) [] (by rw [ho]; decide +kernel) rfl h2 (by rw [ho]; decide +kernel) hr
theorem cv_1_99_7 {b : Nat} (ho : am_own t = 1) (h2 : am_ci1 (σ.1 b) = some 7) (hr : rest.length ≤ 8) : am_J X rec t (some (.invokevirtual 99, nx, tg)) pc lv (.ref b :: rest) σ = am_JR X rec t pc nx lv rest (rec 34 [.ref b] σ) := J_vG (n := 0) [] (by rw [ho]; decide +kernel) rfl h2 (by rw [ho]; decide +kernel) hr
theorem cv_1_99_11 {b : Nat} (ho : am_own t = 1) (h2 : am_ci1 (σ.1 b) = some 11) (hr : rest.length ≤ 8) : am_J X rec t (some (.invokevirtual 99, nx, tg)) pc lv (.ref b :: rest) σ = am_JR X rec t pc nx lv rest (rec 35 [.ref b] σ) := J_vG (n := 0) [] (by rw [ho]; decide +kernel) rfl h2 (by rw [ho]; decide +kernel) hr
theorem cv_4_73_1 {b : Nat} {x0 x1 : Value} (ho : am_own t = 4) (h2 : am_ci1 (σ.1 b) = some 1) (hr : rest.length ≤ 8) : am_J X rec t (some (.invokevirtual 73, nx, tg)) pc lv (x1 :: x0 :: .ref b :: rest) σ = am_JR X rec t pc nx lv rest (rec 77 [.ref b, x0, x1] σ) := J_vG (n := 2) [x0, x1] (by rw [ho]; decide +kernel) rfl h2 (by rw [ho]; decide +kernel) hr
theorem cv_4_77_4 {b : Nat} {x0 : Value} (ho : am_own t = 4) (h2 : am_ci1 (σ.1 b) = some 4) (hr : rest.length ≤ 8) : am_J X rec t (some (.invokevirtual 77, nx, tg)) pc lv (x0 :: .ref b :: rest) σ = am_JR X rec t pc nx lv rest (rec 113 [.ref b, x0] σ) := J_vG (n := 1) [x0] (by rw [ho]; decide +kernel) rfl h2 (by rw [ho]; decide +kernel) hr
theorem cv_4_107_1 {b : Nat} {x0 : Value} (ho : am_own t = 4) (h2 : am_ci1 (σ.1 b) = some 1) (hr : rest.length ≤ 8) : am_J X rec t (some (.invokevirtual 107, nx, tg)) pc lv (x0 :: .ref b :: rest) σ = am_JR X rec t pc nx lv rest (rec 76 [.ref b, x0] σ) := J_vG (n := 1) [x0] (by rw [ho]; decide +kernel) rfl h2 (by rw [ho]; decide +kernel) hr
theorem cv_4_110_1 {b : Nat} {x0 : Value} (ho : am_own t = 4) (h2 : am_ci1 (σ.1 b) = some 1) (hr : rest.length ≤ 8) : am_J X rec t (some (.invokevirtual 110, nx, tg)) pc lv (x0 :: .ref b :: rest) σ = am_JR X rec t pc nx lv rest (rec 78 [.ref b, x0] σ) := J_vG (n := 1) [x0] (by rw [ho]; decide +kernel) rfl h2 (by rw [ho]; decide +kernel) hr
theorem cv_4_113_1 {b : Nat} {x0 x1 x2 : Value} (ho : am_own t = 4) (h2 : am_ci1 (σ.1 b) = some 1) (hr : rest.length ≤ 8) : am_J X rec t (some (.invokevirtual 113, nx, tg)) pc lv (x2 :: x1 :: x0 :: .ref b :: rest) σ = am_JR X rec t pc nx lv rest (rec 79 [.ref b, x0, x1, x2] σ) := J_vG (n := 3) [x0, x1, x2] (by rw [ho]; decide +kernel) rfl h2 (by rw [ho]; decide +kernel) hr
theorem cv_4_127_6 {b : Nat} (ho : am_own t = 4) (h2 : am_ci1 (σ.1 b) = some 6) (hr : rest.length ≤ 8) : am_J X rec t (some (.invokevirtual 127, nx, tg)) pc lv (.ref b :: rest) σ = am_JR X rec t pc nx lv rest (rec 115 [.ref b] σ) := J_vG (n := 0) [] (by rw [ho]; decide +kernel) rfl h2 (by rw [ho]; decide +kernel) hr
theorem cv_4_127_9 {b : Nat} (ho : am_own t = 4) (h2 : am_ci1 (σ.1 b) = some 9) (hr : rest.length ≤ 8) : am_J X rec t (some (.invokevirtual 127, nx, tg)) pc lv (.ref b :: rest) σ = am_JR X rec t pc nx lv rest (rec 115 [.ref b] σ) := J_vG (n := 0) [] (by rw [ho]; decide +kernel) rfl h2 (by rw [ho]; decide +kernel) hr
theorem cv_4_127_8 {b : Nat} (ho : am_own t = 4) (h2 : am_ci1 (σ.1 b) = some 8) (hr : rest.length ≤ 8) : am_J X rec t (some (.invokevirtual 127, nx, tg)) pc lv (.ref b :: rest) σ = am_JR X rec t pc nx lv rest (rec 114 [.ref b] σ) := J_vG (n := 0) [] (by rw [ho]; decide +kernel) rfl h2 (by rw [ho]; decide +kernel) hr
theorem cv_4_127_10 {b : Nat} (ho : am_own t = 4) (h2 : am_ci1 (σ.1 b) = some 10) (hr : rest.length ≤ 8) : am_J X rec t (some (.invokevirtual 127, nx, tg)) pc lv (.ref b :: rest) σ = am_JR X rec t pc nx lv rest (rec 115 [.ref b] σ) := J_vG (n := 0) [] (by rw [ho]; decide +kernel) rfl h2 (by rw [ho]; decide +kernel) hr
theorem cv_4_127_7 {b : Nat} (ho : am_own t = 4) (h2 : am_ci1 (σ.1 b) = some 7) (hr : rest.length ≤ 8) : am_J X rec t (some (.invokevirtual 127, nx, tg)) pc lv (.ref b :: rest) σ = am_JR X rec t pc nx lv rest (rec 115 [.ref b] σ) := J_vG (n := 0) [] (by rw [ho]; decide +kernel) rfl h2 (by rw [ho]; decide +kernel) hr
theorem cv_4_127_11 {b : Nat} (ho : am_own t = 4) (h2 : am_ci1 (σ.1 b) = some 11) (hr : rest.length ≤ 8) : am_J X rec t (some (.invokevirtual 127, nx, tg)) pc lv (.ref b :: rest) σ = am_JR X rec t pc nx lv rest (rec 115 [.ref b] σ) := J_vG (n := 0) [] (by rw [ho]; decide +kernel) rfl h2 (by rw [ho]; decide +kernel) hr
theorem cv_4_131_4 {b : Nat} {x0 : Value} (ho : am_own t = 4) (h2 : am_ci1 (σ.1 b) = some 4) (hr : rest.length ≤ 8) : am_J X rec t (some (.invokevirtual 131, nx, tg)) pc lv (x0 :: .ref b :: rest) σ = am_JR X rec t pc nx lv rest (rec 116 [.ref b, x0] σ) := J_vG (n := 1) [x0] (by rw [ho]; decide +kernel) rfl h2 (by rw [ho]; decide +kernel) hr
theorem cv_4_134_4 {b : Nat} {x0 : Value} (ho : am_own t = 4) (h2 : am_ci1 (σ.1 b) = some 4) (hr : rest.length ≤ 8) : am_J X rec t (some (.invokevirtual 134, nx, tg)) pc lv (x0 :: .ref b :: rest) σ = am_JR X rec t pc nx lv rest (rec 117 [.ref b, x0] σ) := J_vG (n := 1) [x0] (by rw [ho]; decide +kernel) rfl h2 (by rw [ho]; decide +kernel) hr
theorem cv_4_80_1 {b : Nat} {x0 : Value} (ho : am_own t = 4) (h2 : am_ci1 (σ.1 b) = some 1) (hr : rest.length ≤ 8) : am_J X rec t (some (.invokevirtual 80, nx, tg)) pc lv (x0 :: .ref b :: rest) σ = am_JR X rec t pc nx lv rest (rec 118 [.ref b, x0] σ) := J_vG (n := 1) [x0] (by rw [ho]; decide +kernel) rfl h2 (by rw [ho]; decide +kernel) hr
theorem cv_1_103_1 {b : Nat} {x0 x1 : Value} (ho : am_own t = 1) (h2 : am_ci1 (σ.1 b) = some 1) (hr : rest.length ≤ 8) : am_J X rec t (some (.invokevirtual 103, nx, tg)) pc lv (x1 :: x0 :: .ref b :: rest) σ = am_JR X rec t pc nx lv rest (rec 91 [.ref b, x0, x1] σ) := J_vG (n := 2) [x0, x1] (by rw [ho]; decide +kernel) rfl h2 (by rw [ho]; decide +kernel) hr
theorem cv_4_87_4 {b : Nat} {x0 : Value} (ho : am_own t = 4) (h2 : am_ci1 (σ.1 b) = some 4) (hr : rest.length ≤ 8) : am_J X rec t (some (.invokevirtual 87, nx, tg)) pc lv (x0 :: .ref b :: rest) σ = am_JR X rec t pc nx lv rest (rec 119 [.ref b, x0] σ) := J_vG (n := 1) [x0] (by rw [ho]; decide +kernel) rfl h2 (by rw [ho]; decide +kernel) hr
theorem cv_4_137_4 {b : Nat} {x0 : Value} (ho : am_own t = 4) (h2 : am_ci1 (σ.1 b) = some 4) (hr : rest.length ≤ 8) : am_J X rec t (some (.invokevirtual 137, nx, tg)) pc lv (x0 :: .ref b :: rest) σ = am_JR X rec t pc nx lv rest (rec 120 [.ref b, x0] σ) := J_vG (n := 1) [x0] (by rw [ho]; decide +kernel) rfl h2 (by rw [ho]; decide +kernel) hr
theorem cv_4_140_4 {b : Nat} {x0 x1 : Value} (ho : am_own t = 4) (h2 : am_ci1 (σ.1 b) = some 4) (hr : rest.length ≤ 8) : am_J X rec t (some (.invokevirtual 140, nx, tg)) pc lv (x1 :: x0 :: .ref b :: rest) σ = am_JR X rec t pc nx lv rest (rec 121 [.ref b, x0, x1] σ) := J_vG (n := 2) [x0, x1] (by rw [ho]; decide +kernel) rfl h2 (by rw [ho]; decide +kernel) hr
theorem cv_4_150_1 {b : Nat} {x0 x1 : Value} (ho : am_own t = 4) (h2 : am_ci1 (σ.1 b) = some 1) (hr : rest.length ≤ 8) : am_J X rec t (some (.invokevirtual 150, nx, tg)) pc lv (x1 :: x0 :: .ref b :: rest) σ = am_JR X rec t pc nx lv rest (rec 122 [.ref b, x0, x1] σ) := J_vG (n := 2) [x0, x1] (by rw [ho]; decide +kernel) rfl h2 (by rw [ho]; decide +kernel) hr
theorem cv_4_144_6 {b : Nat} (ho : am_own t = 4) (h2 : am_ci1 (σ.1 b) = some 6) (hr : rest.length ≤ 8) : am_J X rec t (some (.invokevirtual 144, nx, tg)) pc lv (.ref b :: rest) σ = am_JR X rec t pc nx lv rest (rec 35 [.ref b] σ) := J_vG (n := 0) [] (by rw [ho]; decide +kernel) rfl h2 (by rw [ho]; decide +kernel) hr
theorem cv_4_144_9 {b : Nat} (ho : am_own t = 4) (h2 : am_ci1 (σ.1 b) = some 9) (hr : rest.length ≤ 8) : am_J X rec t (some (.invokevirtual 144, nx, tg)) pc lv (.ref b :: rest) σ = am_JR X rec t pc nx lv rest (rec 35 [.ref b] σ) := J_vG (n := 0) [] (by rw [ho]; decide +kernel) rfl h2 (by rw [ho]; decide +kernel) hr
theorem cv_4_144_8 {b : Nat} (ho : am_own t = 4) (h2 : am_ci1 (σ.1 b) = some 8) (hr : rest.length ≤ 8) : am_J X rec t (some (.invokevirtual 144, nx, tg)) pc lv (.ref b :: rest) σ = am_JR X rec t pc nx lv rest (rec 35 [.ref b] σ) := J_vG (n := 0) [] (by rw [ho]; decide +kernel) rfl h2 (by rw [ho]; decide +kernel) hr
theorem cv_4_144_10 {b : Nat} (ho : am_own t = 4) (h2 : am_ci1 (σ.1 b) = some 10) (hr : rest.length ≤ 8) : am_J X rec t (some (.invokevirtual 144, nx, tg)) pc lv (.ref b :: rest) σ = am_JR X rec t pc nx lv rest (rec 35 [.ref b] σ) := J_vG (n := 0) [] (by rw [ho]; decide +kernel) rfl h2 (by rw [ho]; decide +kernel) hr
theorem cv_4_144_7 {b : Nat} (ho : am_own t = 4) (h2 : am_ci1 (σ.1 b) = some 7) (hr : rest.length ≤ 8) : am_J X rec t (some (.invokevirtual 144, nx, tg)) pc lv (.ref b :: rest) σ = am_JR X rec t pc nx lv rest (rec 34 [.ref b] σ) := J_vG (n := 0) [] (by rw [ho]; decide +kernel) rfl h2 (by rw [ho]; decide +kernel) hr
theorem cv_4_144_11 {b : Nat} (ho : am_own t = 4) (h2 : am_ci1 (σ.1 b) = some 11) (hr : rest.length ≤ 8) : am_J X rec t (some (.invokevirtual 144, nx, tg)) pc lv (.ref b :: rest) σ = am_JR X rec t pc nx lv rest (rec 35 [.ref b] σ) := J_vG (n := 0) [] (by rw [ho]; decide +kernel) rfl h2 (by rw [ho]; decide +kernel) hr
theorem cv_4_147_4 {b : Nat} {x0 x1 : Value} (ho : am_own t = 4) (h2 : am_ci1 (σ.1 b) = some 4) (hr : rest.length ≤ 8) : am_J X rec t (some (.invokevirtual 147, nx, tg)) pc lv (x1 :: x0 :: .ref b :: rest) σ = am_JR X rec t pc nx lv rest (rec 123 [.ref b, x0, x1] σ) := J_vG (n := 2) [x0, x1] (by rw [ho]; decide +kernel) rfl h2 (by rw [ho]; decide +kernel) hr
theorem cv_4_166_1 {b : Nat} {x0 x1 x2 : Value} (ho : am_own t = 4) (h2 : am_ci1 (σ.1 b) = some 1) (hr : rest.length ≤ 8) : am_J X rec t (some (.invokevirtual 166, nx, tg)) pc lv (x2 :: x1 :: x0 :: .ref b :: rest) σ = am_JR X rec t pc nx lv rest (rec 74 [.ref b, x0, x1, x2] σ) := J_vG (n := 3) [x0, x1, x2] (by rw [ho]; decide +kernel) rfl h2 (by rw [ho]; decide +kernel) hr
theorem cv_4_170_6 {b : Nat} (ho : am_own t = 4) (h2 : am_ci1 (σ.1 b) = some 6) (hr : rest.length ≤ 8) : am_J X rec t (some (.invokevirtual 170, nx, tg)) pc lv (.ref b :: rest) σ = am_JR X rec t pc nx lv rest (rec 57 [.ref b] σ) := J_vG (n := 0) [] (by rw [ho]; decide +kernel) rfl h2 (by rw [ho]; decide +kernel) hr
theorem cv_4_170_9 {b : Nat} (ho : am_own t = 4) (h2 : am_ci1 (σ.1 b) = some 9) (hr : rest.length ≤ 8) : am_J X rec t (some (.invokevirtual 170, nx, tg)) pc lv (.ref b :: rest) σ = am_JR X rec t pc nx lv rest (rec 54 [.ref b] σ) := J_vG (n := 0) [] (by rw [ho]; decide +kernel) rfl h2 (by rw [ho]; decide +kernel) hr
theorem cv_4_170_8 {b : Nat} (ho : am_own t = 4) (h2 : am_ci1 (σ.1 b) = some 8) (hr : rest.length ≤ 8) : am_J X rec t (some (.invokevirtual 170, nx, tg)) pc lv (.ref b :: rest) σ = am_JR X rec t pc nx lv rest (rec 57 [.ref b] σ) := J_vG (n := 0) [] (by rw [ho]; decide +kernel) rfl h2 (by rw [ho]; decide +kernel) hr
theorem cv_4_170_10 {b : Nat} (ho : am_own t = 4) (h2 : am_ci1 (σ.1 b) = some 10) (hr : rest.length ≤ 8) : am_J X rec t (some (.invokevirtual 170, nx, tg)) pc lv (.ref b :: rest) σ = am_JR X rec t pc nx lv rest (rec 54 [.ref b] σ) := J_vG (n := 0) [] (by rw [ho]; decide +kernel) rfl h2 (by rw [ho]; decide +kernel) hr
theorem cv_4_170_7 {b : Nat} (ho : am_own t = 4) (h2 : am_ci1 (σ.1 b) = some 7) (hr : rest.length ≤ 8) : am_J X rec t (some (.invokevirtual 170, nx, tg)) pc lv (.ref b :: rest) σ = am_JR X rec t pc nx lv rest (rec 55 [.ref b] σ) := J_vG (n := 0) [] (by rw [ho]; decide +kernel) rfl h2 (by rw [ho]; decide +kernel) hr
theorem cv_4_170_11 {b : Nat} (ho : am_own t = 4) (h2 : am_ci1 (σ.1 b) = some 11) (hr : rest.length ≤ 8) : am_J X rec t (some (.invokevirtual 170, nx, tg)) pc lv (.ref b :: rest) σ = am_JR X rec t pc nx lv rest (rec 56 [.ref b] σ) := J_vG (n := 0) [] (by rw [ho]; decide +kernel) rfl h2 (by rw [ho]; decide +kernel) hr
theorem cv_13_94_0 {b : Nat} (ho : am_own t = 13) (h2 : am_ci1 (σ.1 b) = some 0) (hr : rest.length ≤ 8) : am_J X rec t (some (.invokevirtual 94, nx, tg)) pc lv (.ref b :: rest) σ = am_JR X rec t pc nx lv rest (rec 124 [.ref b] σ) := J_vG (n := 0) [] (by rw [ho]; decide +kernel) rfl h2 (by rw [ho]; decide +kernel) hr
theorem cv_0_211_4 {b : Nat} {x0 x1 : Value} (ho : am_own t = 0) (h2 : am_ci1 (σ.1 b) = some 4) (hr : rest.length ≤ 8) : am_J X rec t (some (.invokevirtual 211, nx, tg)) pc lv (x1 :: x0 :: .ref b :: rest) σ = am_JR X rec t pc nx lv rest (rec 125 [.ref b, x0, x1] σ) := J_vG (n := 2) [x0, x1] (by rw [ho]; decide +kernel) rfl h2 (by rw [ho]; decide +kernel) hr
theorem cv_13_98_0 {b : Nat} (ho : am_own t = 13) (h2 : am_ci1 (σ.1 b) = some 0) (hr : rest.length ≤ 8) : am_J X rec t (some (.invokevirtual 98, nx, tg)) pc lv (.ref b :: rest) σ = am_JR X rec t pc nx lv rest (rec 126 [.ref b] σ) := J_vG (n := 0) [] (by rw [ho]; decide +kernel) rfl h2 (by rw [ho]; decide +kernel) hr
theorem cv_13_102_0 {b : Nat} (ho : am_own t = 13) (h2 : am_ci1 (σ.1 b) = some 0) (hr : rest.length ≤ 8) : am_J X rec t (some (.invokevirtual 102, nx, tg)) pc lv (.ref b :: rest) σ = am_JR X rec t pc nx lv rest (rec 127 [.ref b] σ) := J_vG (n := 0) [] (by rw [ho]; decide +kernel) rfl h2 (by rw [ho]; decide +kernel) hr
theorem cv_0_214_4 {b : Nat} {x0 x1 x2 : Value} (ho : am_own t = 0) (h2 : am_ci1 (σ.1 b) = some 4) (hr : rest.length ≤ 8) : am_J X rec t (some (.invokevirtual 214, nx, tg)) pc lv (x2 :: x1 :: x0 :: .ref b :: rest) σ = am_JR X rec t pc nx lv rest (rec 128 [.ref b, x0, x1, x2] σ) := J_vG (n := 3) [x0, x1, x2] (by rw [ho]; decide +kernel) rfl h2 (by rw [ho]; decide +kernel) hr
theorem cv_4_203_4 {b : Nat} {x0 x1 x2 x3 : Value} (ho : am_own t = 4) (h2 : am_ci1 (σ.1 b) = some 4) (hr : rest.length ≤ 8) : am_J X rec t (some (.invokevirtual 203, nx, tg)) pc lv (x3 :: x2 :: x1 :: x0 :: .ref b :: rest) σ = am_JR X rec t pc nx lv rest (rec 129 [.ref b, x0, x1, x2, x3] σ) := J_vG (n := 4) [x0, x1, x2, x3] (by rw [ho]; decide +kernel) rfl h2 (by rw [ho]; decide +kernel) hr
theorem cv_13_106_0 {b : Nat} {x0 x1 : Value} (ho : am_own t = 13) (h2 : am_ci1 (σ.1 b) = some 0) (hr : rest.length ≤ 8) : am_J X rec t (some (.invokevirtual 106, nx, tg)) pc lv (x1 :: x0 :: .ref b :: rest) σ = am_JR X rec t pc nx lv rest (rec 130 [.ref b, x0, x1] σ) := J_vG (n := 2) [x0, x1] (by rw [ho]; decide +kernel) rfl h2 (by rw [ho]; decide +kernel) hr
theorem cv_0_219_2 {b : Nat} {x0 : Value} (ho : am_own t = 0) (h2 : am_ci1 (σ.1 b) = some 2) (hr : rest.length ≤ 8) : am_J X rec t (some (.invokevirtual 219, nx, tg)) pc lv (x0 :: .ref b :: rest) σ = am_JR X rec t pc nx lv rest (rec 131 [.ref b, x0] σ) := J_vG (n := 1) [x0] (by rw [ho]; decide +kernel) rfl h2 (by rw [ho]; decide +kernel) hr
theorem cv_2_66_2 {b : Nat} {x0 : Value} (ho : am_own t = 2) (h2 : am_ci1 (σ.1 b) = some 2) (hr : rest.length ≤ 8) : am_J X rec t (some (.invokevirtual 66, nx, tg)) pc lv (x0 :: .ref b :: rest) σ = am_JR X rec t pc nx lv rest (rec 90 [.ref b, x0] σ) := J_vG (n := 1) [x0] (by rw [ho]; decide +kernel) rfl h2 (by rw [ho]; decide +kernel) hr
theorem cv_0_222_4 {b : Nat} {x0 x1 x2 : Value} (ho : am_own t = 0) (h2 : am_ci1 (σ.1 b) = some 4) (hr : rest.length ≤ 8) : am_J X rec t (some (.invokevirtual 222, nx, tg)) pc lv (x2 :: x1 :: x0 :: .ref b :: rest) σ = am_JR X rec t pc nx lv rest (rec 132 [.ref b, x0, x1, x2] σ) := J_vG (n := 3) [x0, x1, x2] (by rw [ho]; decide +kernel) rfl h2 (by rw [ho]; decide +kernel) hr
theorem cv_4_212_4 {b : Nat} {x0 x1 x2 : Value} (ho : am_own t = 4) (h2 : am_ci1 (σ.1 b) = some 4) (hr : rest.length ≤ 8) : am_J X rec t (some (.invokevirtual 212, nx, tg)) pc lv (x2 :: x1 :: x0 :: .ref b :: rest) σ = am_JR X rec t pc nx lv rest (rec 133 [.ref b, x0, x1, x2] σ) := J_vG (n := 3) [x0, x1, x2] (by rw [ho]; decide +kernel) rfl h2 (by rw [ho]; decide +kernel) hr
theorem cv_4_221_4 {b : Nat} {x0 x1 x2 x3 x4 : Value} (ho : am_own t = 4) (h2 : am_ci1 (σ.1 b) = some 4) (hr : rest.length ≤ 8) : am_J X rec t (some (.invokevirtual 221, nx, tg)) pc lv (x4 :: x3 :: x2 :: x1 :: x0 :: .ref b :: rest) σ = am_JR X rec t pc nx lv rest (rec 135 [.ref b, x0, x1, x2, x3, x4] σ) := J_vG (n := 5) [x0, x1, x2, x3, x4] (by rw [ho]; decide +kernel) rfl h2 (by rw [ho]; decide +kernel) hr
theorem cv_13_110_0 {b : Nat} {x0 : Value} (ho : am_own t = 13) (h2 : am_ci1 (σ.1 b) = some 0) (hr : rest.length ≤ 8) : am_J X rec t (some (.invokevirtual 110, nx, tg)) pc lv (x0 :: .ref b :: rest) σ = am_JR X rec t pc nx lv rest (rec 137 [.ref b, x0] σ) := J_vG (n := 1) [x0] (by rw [ho]; decide +kernel) rfl h2 (by rw [ho]; decide +kernel) hr
theorem cv_0_232_2 {b : Nat} {x0 : Value} (ho : am_own t = 0) (h2 : am_ci1 (σ.1 b) = some 2) (hr : rest.length ≤ 8) : am_J X rec t (some (.invokevirtual 232, nx, tg)) pc lv (x0 :: .ref b :: rest) σ = am_JR X rec t pc nx lv rest (rec 72 [.ref b, x0] σ) := J_vG (n := 1) [x0] (by rw [ho]; decide +kernel) rfl h2 (by rw [ho]; decide +kernel) hr
theorem cv_0_235_4 {b : Nat} {x0 x1 x2 : Value} (ho : am_own t = 0) (h2 : am_ci1 (σ.1 b) = some 4) (hr : rest.length ≤ 8) : am_J X rec t (some (.invokevirtual 235, nx, tg)) pc lv (x2 :: x1 :: x0 :: .ref b :: rest) σ = am_JR X rec t pc nx lv rest (rec 138 [.ref b, x0, x1, x2] σ) := J_vG (n := 3) [x0, x1, x2] (by rw [ho]; decide +kernel) rfl h2 (by rw [ho]; decide +kernel) hr
theorem cv_4_231_4 {b : Nat} {x0 x1 x2 : Value} (ho : am_own t = 4) (h2 : am_ci1 (σ.1 b) = some 4) (hr : rest.length ≤ 8) : am_J X rec t (some (.invokevirtual 231, nx, tg)) pc lv (x2 :: x1 :: x0 :: .ref b :: rest) σ = am_JR X rec t pc nx lv rest (rec 139 [.ref b, x0, x1, x2] σ) := J_vG (n := 3) [x0, x1, x2] (by rw [ho]; decide +kernel) rfl h2 (by rw [ho]; decide +kernel) hr
theorem cv_4_234_4 {b : Nat} {x0 x1 : Value} (ho : am_own t = 4) (h2 : am_ci1 (σ.1 b) = some 4) (hr : rest.length ≤ 8) : am_J X rec t (some (.invokevirtual 234, nx, tg)) pc lv (x1 :: x0 :: .ref b :: rest) σ = am_JR X rec t pc nx lv rest (rec 140 [.ref b, x0, x1] σ) := J_vG (n := 2) [x0, x1] (by rw [ho]; decide +kernel) rfl h2 (by rw [ho]; decide +kernel) hr
theorem cv_13_114_0 {b : Nat} {x0 : Value} (ho : am_own t = 13) (h2 : am_ci1 (σ.1 b) = some 0) (hr : rest.length ≤ 8) : am_J X rec t (some (.invokevirtual 114, nx, tg)) pc lv (x0 :: .ref b :: rest) σ = am_JR X rec t pc nx lv rest (rec 141 [.ref b, x0] σ) := J_vG (n := 1) [x0] (by rw [ho]; decide +kernel) rfl h2 (by rw [ho]; decide +kernel) hr
theorem cv_0_238_4 {b : Nat} {x0 : Value} (ho : am_own t = 0) (h2 : am_ci1 (σ.1 b) = some 4) (hr : rest.length ≤ 8) : am_J X rec t (some (.invokevirtual 238, nx, tg)) pc lv (x0 :: .ref b :: rest) σ = am_JR X rec t pc nx lv rest (rec 142 [.ref b, x0] σ) := J_vG (n := 1) [x0] (by rw [ho]; decide +kernel) rfl h2 (by rw [ho]; decide +kernel) hr
theorem cv_13_118_0 {b : Nat} {x0 : Value} (ho : am_own t = 13) (h2 : am_ci1 (σ.1 b) = some 0) (hr : rest.length ≤ 8) : am_J X rec t (some (.invokevirtual 118, nx, tg)) pc lv (x0 :: .ref b :: rest) σ = am_JR X rec t pc nx lv rest (rec 143 [.ref b, x0] σ) := J_vG (n := 1) [x0] (by rw [ho]; decide +kernel) rfl h2 (by rw [ho]; decide +kernel) hr
theorem cv_0_241_0 {b : Nat} {x0 : Value} (ho : am_own t = 0) (h2 : am_ci1 (σ.1 b) = some 0) (hr : rest.length ≤ 8) : am_J X rec t (some (.invokevirtual 241, nx, tg)) pc lv (x0 :: .ref b :: rest) σ = am_JR X rec t pc nx lv rest (rec 144 [.ref b, x0] σ) := J_vG (n := 1) [x0] (by rw [ho]; decide +kernel) rfl h2 (by rw [ho]; decide +kernel) hr
theorem cv_0_244_5 {b : Nat} {x0 x1 : Value} (ho : am_own t = 0) (h2 : am_ci1 (σ.1 b) = some 5) (hr : rest.length ≤ 8) : am_J X rec t (some (.invokevirtual 244, nx, tg)) pc lv (x1 :: x0 :: .ref b :: rest) σ = am_JR X rec t pc nx lv rest (rec 145 [.ref b, x0, x1] σ) := J_vG (n := 2) [x0, x1] (by rw [ho]; decide +kernel) rfl h2 (by rw [ho]; decide +kernel) hr
theorem cv_5_26_5 {b : Nat} (ho : am_own t = 5) (h2 : am_ci1 (σ.1 b) = some 5) (hr : rest.length ≤ 8) : am_J X rec t (some (.invokevirtual 26, nx, tg)) pc lv (.ref b :: rest) σ = am_JR X rec t pc nx lv rest (rec 146 [.ref b] σ) := J_vG (n := 0) [] (by rw [ho]; decide +kernel) rfl h2 (by rw [ho]; decide +kernel) hr
theorem cv_5_65_5 {b : Nat} (ho : am_own t = 5) (h2 : am_ci1 (σ.1 b) = some 5) (hr : rest.length ≤ 8) : am_J X rec t (some (.invokevirtual 65, nx, tg)) pc lv (.ref b :: rest) σ = am_JR X rec t pc nx lv rest (rec 147 [.ref b] σ) := J_vG (n := 0) [] (by rw [ho]; decide +kernel) rfl h2 (by rw [ho]; decide +kernel) hr
theorem cv_5_72_1 {b : Nat} (ho : am_own t = 5) (h2 : am_ci1 (σ.1 b) = some 1) (hr : rest.length ≤ 8) : am_J X rec t (some (.invokevirtual 72, nx, tg)) pc lv (.ref b :: rest) σ = am_JR X rec t pc nx lv rest (rec 110 [.ref b] σ) := J_vG (n := 0) [] (by rw [ho]; decide +kernel) rfl h2 (by rw [ho]; decide +kernel) hr
theorem cv_5_75_1 {b : Nat} {x0 : Value} (ho : am_own t = 5) (h2 : am_ci1 (σ.1 b) = some 1) (hr : rest.length ≤ 8) : am_J X rec t (some (.invokevirtual 75, nx, tg)) pc lv (x0 :: .ref b :: rest) σ = am_JR X rec t pc nx lv rest (rec 112 [.ref b, x0] σ) := J_vG (n := 1) [x0] (by rw [ho]; decide +kernel) rfl h2 (by rw [ho]; decide +kernel) hr
theorem cv_5_79_1 {b : Nat} {x0 : Value} (ho : am_own t = 5) (h2 : am_ci1 (σ.1 b) = some 1) (hr : rest.length ≤ 8) : am_J X rec t (some (.invokevirtual 79, nx, tg)) pc lv (x0 :: .ref b :: rest) σ = am_JR X rec t pc nx lv rest (rec 148 [.ref b, x0] σ) := J_vG (n := 1) [x0] (by rw [ho]; decide +kernel) rfl h2 (by rw [ho]; decide +kernel) hr
theorem cv_5_68_5 {b : Nat} {x0 : Value} (ho : am_own t = 5) (h2 : am_ci1 (σ.1 b) = some 5) (hr : rest.length ≤ 8) : am_J X rec t (some (.invokevirtual 68, nx, tg)) pc lv (x0 :: .ref b :: rest) σ = am_JR X rec t pc nx lv rest (rec 149 [.ref b, x0] σ) := J_vG (n := 1) [x0] (by rw [ho]; decide +kernel) rfl h2 (by rw [ho]; decide +kernel) hr
theorem cv_5_82_1 {b : Nat} {x0 : Value} (ho : am_own t = 5) (h2 : am_ci1 (σ.1 b) = some 1) (hr : rest.length ≤ 8) : am_J X rec t (some (.invokevirtual 82, nx, tg)) pc lv (x0 :: .ref b :: rest) σ = am_JR X rec t pc nx lv rest (rec 98 [.ref b, x0] σ) := J_vG (n := 1) [x0] (by rw [ho]; decide +kernel) rfl h2 (by rw [ho]; decide +kernel) hr
theorem cv_5_89_5 {b : Nat} {x0 x1 : Value} (ho : am_own t = 5) (h2 : am_ci1 (σ.1 b) = some 5) (hr : rest.length ≤ 8) : am_J X rec t (some (.invokevirtual 89, nx, tg)) pc lv (x1 :: x0 :: .ref b :: rest) σ = am_JR X rec t pc nx lv rest (rec 150 [.ref b, x0, x1] σ) := J_vG (n := 2) [x0, x1] (by rw [ho]; decide +kernel) rfl h2 (by rw [ho]; decide +kernel) hr
theorem cv_5_35_5 {b : Nat} {x0 x1 x2 : Value} (ho : am_own t = 5) (h2 : am_ci1 (σ.1 b) = some 5) (hr : rest.length ≤ 8) : am_J X rec t (some (.invokevirtual 35, nx, tg)) pc lv (x2 :: x1 :: x0 :: .ref b :: rest) σ = am_JR X rec t pc nx lv rest (rec 151 [.ref b, x0, x1, x2] σ) := J_vG (n := 3) [x0, x1, x2] (by rw [ho]; decide +kernel) rfl h2 (by rw [ho]; decide +kernel) hr
theorem cv_5_95_5 {b : Nat} {x0 x1 x2 : Value} (ho : am_own t = 5) (h2 : am_ci1 (σ.1 b) = some 5) (hr : rest.length ≤ 8) : am_J X rec t (some (.invokevirtual 95, nx, tg)) pc lv (x2 :: x1 :: x0 :: .ref b :: rest) σ = am_JR X rec t pc nx lv rest (rec 152 [.ref b, x0, x1, x2] σ) := J_vG (n := 3) [x0, x1, x2] (by rw [ho]; decide +kernel) rfl h2 (by rw [ho]; decide +kernel) hr
theorem cv_5_98_1 {b : Nat} {x0 x1 : Value} (ho : am_own t = 5) (h2 : am_ci1 (σ.1 b) = some 1) (hr : rest.length ≤ 8) : am_J X rec t (some (.invokevirtual 98, nx, tg)) pc lv (x1 :: x0 :: .ref b :: rest) σ = am_JR X rec t pc nx lv rest (rec 75 [.ref b, x0, x1] σ) := J_vG (n := 2) [x0, x1] (by rw [ho]; decide +kernel) rfl h2 (by rw [ho]; decide +kernel) hr
theorem cv_5_111_1 {b : Nat} {x0 : Value} (ho : am_own t = 5) (h2 : am_ci1 (σ.1 b) = some 1) (hr : rest.length ≤ 8) : am_J X rec t (some (.invokevirtual 111, nx, tg)) pc lv (x0 :: .ref b :: rest) σ = am_JR X rec t pc nx lv rest (rec 118 [.ref b, x0] σ) := J_vG (n := 1) [x0] (by rw [ho]; decide +kernel) rfl h2 (by rw [ho]; decide +kernel) hr
theorem cv_5_115_5 {b : Nat} {x0 x1 x2 x3 : Value} (ho : am_own t = 5) (h2 : am_ci1 (σ.1 b) = some 5) (hr : rest.length ≤ 8) : am_J X rec t (some (.invokevirtual 115, nx, tg)) pc lv (x3 :: x2 :: x1 :: x0 :: .ref b :: rest) σ = am_JR X rec t pc nx lv rest (rec 153 [.ref b, x0, x1, x2, x3] σ) := J_vG (n := 4) [x0, x1, x2, x3] (by rw [ho]; decide +kernel) rfl h2 (by rw [ho]; decide +kernel) hr
theorem cv_5_123_6 {b : Nat} (ho : am_own t = 5) (h2 : am_ci1 (σ.1 b) = some 6) (hr : rest.length ≤ 8) : am_J X rec t (some (.invokevirtual 123, nx, tg)) pc lv (.ref b :: rest) σ = am_JR X rec t pc nx lv rest (rec 22 [.ref b] σ) := J_vG (n := 0) [] (by rw [ho]; decide +kernel) rfl h2 (by rw [ho]; decide +kernel) hr
theorem cv_5_123_9 {b : Nat} (ho : am_own t = 5) (h2 : am_ci1 (σ.1 b) = some 9) (hr : rest.length ≤ 8) : am_J X rec t (some (.invokevirtual 123, nx, tg)) pc lv (.ref b :: rest) σ = am_JR X rec t pc nx lv rest (rec 22 [.ref b] σ) := J_vG (n := 0) [] (by rw [ho]; decide +kernel) rfl h2 (by rw [ho]; decide +kernel) hr
theorem cv_5_123_8 {b : Nat} (ho : am_own t = 5) (h2 : am_ci1 (σ.1 b) = some 8) (hr : rest.length ≤ 8) : am_J X rec t (some (.invokevirtual 123, nx, tg)) pc lv (.ref b :: rest) σ = am_JR X rec t pc nx lv rest (rec 22 [.ref b] σ) := J_vG (n := 0) [] (by rw [ho]; decide +kernel) rfl h2 (by rw [ho]; decide +kernel) hr
theorem cv_5_123_10 {b : Nat} (ho : am_own t = 5) (h2 : am_ci1 (σ.1 b) = some 10) (hr : rest.length ≤ 8) : am_J X rec t (some (.invokevirtual 123, nx, tg)) pc lv (.ref b :: rest) σ = am_JR X rec t pc nx lv rest (rec 22 [.ref b] σ) := J_vG (n := 0) [] (by rw [ho]; decide +kernel) rfl h2 (by rw [ho]; decide +kernel) hr
theorem cv_5_123_7 {b : Nat} (ho : am_own t = 5) (h2 : am_ci1 (σ.1 b) = some 7) (hr : rest.length ≤ 8) : am_J X rec t (some (.invokevirtual 123, nx, tg)) pc lv (.ref b :: rest) σ = am_JR X rec t pc nx lv rest (rec 22 [.ref b] σ) := J_vG (n := 0) [] (by rw [ho]; decide +kernel) rfl h2 (by rw [ho]; decide +kernel) hr
theorem cv_5_123_11 {b : Nat} (ho : am_own t = 5) (h2 : am_ci1 (σ.1 b) = some 11) (hr : rest.length ≤ 8) : am_J X rec t (some (.invokevirtual 123, nx, tg)) pc lv (.ref b :: rest) σ = am_JR X rec t pc nx lv rest (rec 22 [.ref b] σ) := J_vG (n := 0) [] (by rw [ho]; decide +kernel) rfl h2 (by rw [ho]; decide +kernel) hr
theorem cv_5_126_1 {b : Nat} {x0 x1 : Value} (ho : am_own t = 5) (h2 : am_ci1 (σ.1 b) = some 1) (hr : rest.length ≤ 8) : am_J X rec t (some (.invokevirtual 126, nx, tg)) pc lv (x1 :: x0 :: .ref b :: rest) σ = am_JR X rec t pc nx lv rest (rec 91 [.ref b, x0, x1] σ) := J_vG (n := 2) [x0, x1] (by rw [ho]; decide +kernel) rfl h2 (by rw [ho]; decide +kernel) hr
theorem cv_5_131_1 {b : Nat} {x0 x1 x2 : Value} (ho : am_own t = 5) (h2 : am_ci1 (σ.1 b) = some 1) (hr : rest.length ≤ 8) : am_J X rec t (some (.invokevirtual 131, nx, tg)) pc lv (x2 :: x1 :: x0 :: .ref b :: rest) σ = am_JR X rec t pc nx lv rest (rec 85 [.ref b, x0, x1, x2] σ) := J_vG (n := 3) [x0, x1, x2] (by rw [ho]; decide +kernel) rfl h2 (by rw [ho]; decide +kernel) hr
theorem cv_5_135_1 {b : Nat} {x0 x1 x2 : Value} (ho : am_own t = 5) (h2 : am_ci1 (σ.1 b) = some 1) (hr : rest.length ≤ 8) : am_J X rec t (some (.invokevirtual 135, nx, tg)) pc lv (x2 :: x1 :: x0 :: .ref b :: rest) σ = am_JR X rec t pc nx lv rest (rec 73 [.ref b, x0, x1, x2] σ) := J_vG (n := 3) [x0, x1, x2] (by rw [ho]; decide +kernel) rfl h2 (by rw [ho]; decide +kernel) hr
theorem cv_13_123_0 {b : Nat} (ho : am_own t = 13) (h2 : am_ci1 (σ.1 b) = some 0) (hr : rest.length ≤ 8) : am_J X rec t (some (.invokevirtual 123, nx, tg)) pc lv (.ref b :: rest) σ = am_JR X rec t pc nx lv rest (rec 154 [.ref b] σ) := J_vG (n := 0) [] (by rw [ho]; decide +kernel) rfl h2 (by rw [ho]; decide +kernel) hr
theorem cv_0_248_5 {b : Nat} (ho : am_own t = 0) (h2 : am_ci1 (σ.1 b) = some 5) (hr : rest.length ≤ 8) : am_J X rec t (some (.invokevirtual 248, nx, tg)) pc lv (.ref b :: rest) σ = am_JR X rec t pc nx lv rest (rec 155 [.ref b] σ) := J_vG (n := 0) [] (by rw [ho]; decide +kernel) rfl h2 (by rw [ho]; decide +kernel) hr
theorem cv_5_59_5 {b : Nat} {x0 x1 x2 : Value} (ho : am_own t = 5) (h2 : am_ci1 (σ.1 b) = some 5) (hr : rest.length ≤ 8) : am_J X rec t (some (.invokevirtual 59, nx, tg)) pc lv (x2 :: x1 :: x0 :: .ref b :: rest) σ = am_JR X rec t pc nx lv rest (rec 156 [.ref b, x0, x1, x2] σ) := J_vG (n := 3) [x0, x1, x2] (by rw [ho]; decide +kernel) rfl h2 (by rw [ho]; decide +kernel) hr
theorem cv_13_136_0 {b : Nat} (ho : am_own t = 13) (h2 : am_ci1 (σ.1 b) = some 0) (hr : rest.length ≤ 8) : am_J X rec t (some (.invokevirtual 136, nx, tg)) pc lv (.ref b :: rest) σ = am_JR X rec t pc nx lv rest (rec 157 [.ref b] σ) := J_vG (n := 0) [] (by rw [ho]; decide +kernel) rfl h2 (by rw [ho]; decide +kernel) hr
theorem cv_0_262_1 {b : Nat} {x0 : Value} (ho : am_own t = 0) (h2 : am_ci1 (σ.1 b) = some 1) (hr : rest.length ≤ 8) : am_J X rec t (some (.invokevirtual 262, nx, tg)) pc lv (x0 :: .ref b :: rest) σ = am_JR X rec t pc nx lv rest (rec 19 [.ref b, x0] σ) := J_vG (n := 1) [x0] (by rw [ho]; decide +kernel) rfl h2 (by rw [ho]; decide +kernel) hr
theorem cv_0_265_2 {b : Nat} {x0 : Value} (ho : am_own t = 0) (h2 : am_ci1 (σ.1 b) = some 2) (hr : rest.length ≤ 8) : am_J X rec t (some (.invokevirtual 265, nx, tg)) pc lv (x0 :: .ref b :: rest) σ = am_JR X rec t pc nx lv rest (rec 158 [.ref b, x0] σ) := J_vG (n := 1) [x0] (by rw [ho]; decide +kernel) rfl h2 (by rw [ho]; decide +kernel) hr
theorem cv_13_140_0 {b : Nat} (ho : am_own t = 13) (h2 : am_ci1 (σ.1 b) = some 0) (hr : rest.length ≤ 8) : am_J X rec t (some (.invokevirtual 140, nx, tg)) pc lv (.ref b :: rest) σ = am_JR X rec t pc nx lv rest (rec 159 [.ref b] σ) := J_vG (n := 0) [] (by rw [ho]; decide +kernel) rfl h2 (by rw [ho]; decide +kernel) hr
theorem cv_13_144_0 {b : Nat} {x0 : Value} (ho : am_own t = 13) (h2 : am_ci1 (σ.1 b) = some 0) (hr : rest.length ≤ 8) : am_J X rec t (some (.invokevirtual 144, nx, tg)) pc lv (x0 :: .ref b :: rest) σ = am_JR X rec t pc nx lv rest (rec 160 [.ref b, x0] σ) := J_vG (n := 1) [x0] (by rw [ho]; decide +kernel) rfl h2 (by rw [ho]; decide +kernel) hr
theorem cv_0_272_1 {b : Nat} (ho : am_own t = 0) (h2 : am_ci1 (σ.1 b) = some 1) (hr : rest.length ≤ 8) : am_J X rec t (some (.invokevirtual 272, nx, tg)) pc lv (.ref b :: rest) σ = am_JR X rec t pc nx lv rest (rec 161 [.ref b] σ) := J_vG (n := 0) [] (by rw [ho]; decide +kernel) rfl h2 (by rw [ho]; decide +kernel) hr
theorem cv_0_275_2 {b : Nat} {x0 x1 : Value} (ho : am_own t = 0) (h2 : am_ci1 (σ.1 b) = some 2) (hr : rest.length ≤ 8) : am_J X rec t (some (.invokevirtual 275, nx, tg)) pc lv (x1 :: x0 :: .ref b :: rest) σ = am_JR X rec t pc nx lv rest (rec 162 [.ref b, x0, x1] σ) := J_vG (n := 2) [x0, x1] (by rw [ho]; decide +kernel) rfl h2 (by rw [ho]; decide +kernel) hr
theorem cv_0_278_0 {b : Nat} (ho : am_own t = 0) (h2 : am_ci1 (σ.1 b) = some 0) (hr : rest.length ≤ 8) : am_J X rec t (some (.invokevirtual 278, nx, tg)) pc lv (.ref b :: rest) σ = am_JR X rec t pc nx lv rest (rec 163 [.ref b] σ) := J_vG (n := 0) [] (by rw [ho]; decide +kernel) rfl h2 (by rw [ho]; decide +kernel) hr
theorem cv_13_148_0 {b : Nat} {x0 x1 x2 : Value} (ho : am_own t = 13) (h2 : am_ci1 (σ.1 b) = some 0) (hr : rest.length ≤ 8) : am_J X rec t (some (.invokevirtual 148, nx, tg)) pc lv (x2 :: x1 :: x0 :: .ref b :: rest) σ = am_JR X rec t pc nx lv rest (rec 164 [.ref b, x0, x1, x2] σ) := J_vG (n := 3) [x0, x1, x2] (by rw [ho]; decide +kernel) rfl h2 (by rw [ho]; decide +kernel) hr
theorem cv_13_152_0 {b : Nat} {x0 x1 x2 : Value} (ho : am_own t = 13) (h2 : am_ci1 (σ.1 b) = some 0) (hr : rest.length ≤ 8) : am_J X rec t (some (.invokevirtual 152, nx, tg)) pc lv (x2 :: x1 :: x0 :: .ref b :: rest) σ = am_JR X rec t pc nx lv rest (rec 165 [.ref b, x0, x1, x2] σ) := J_vG (n := 3) [x0, x1, x2] (by rw [ho]; decide +kernel) rfl h2 (by rw [ho]; decide +kernel) hr
theorem cv_13_156_0 {b : Nat} {x0 x1 x2 : Value} (ho : am_own t = 13) (h2 : am_ci1 (σ.1 b) = some 0) (hr : rest.length ≤ 8) : am_J X rec t (some (.invokevirtual 156, nx, tg)) pc lv (x2 :: x1 :: x0 :: .ref b :: rest) σ = am_JR X rec t pc nx lv rest (rec 166 [.ref b, x0, x1, x2] σ) := J_vG (n := 3) [x0, x1, x2] (by rw [ho]; decide +kernel) rfl h2 (by rw [ho]; decide +kernel) hr
theorem cv_13_163_0 {b : Nat} {x0 x1 x2 x3 x4 : Value} (ho : am_own t = 13) (h2 : am_ci1 (σ.1 b) = some 0) (hr : rest.length ≤ 8) : am_J X rec t (some (.invokevirtual 163, nx, tg)) pc lv (x4 :: x3 :: x2 :: x1 :: x0 :: .ref b :: rest) σ = am_JR X rec t pc nx lv rest (rec 168 [.ref b, x0, x1, x2, x3, x4] σ) := J_vG (n := 5) [x0, x1, x2, x3, x4] (by rw [ho]; decide +kernel) rfl h2 (by rw [ho]; decide +kernel) hr
theorem cv_0_297_0 {b : Nat} {x0 x1 x2 : Value} (ho : am_own t = 0) (h2 : am_ci1 (σ.1 b) = some 0) (hr : rest.length ≤ 8) : am_J X rec t (some (.invokevirtual 297, nx, tg)) pc lv (x2 :: x1 :: x0 :: .ref b :: rest) σ = am_JR X rec t pc nx lv rest (rec 169 [.ref b, x0, x1, x2] σ) := J_vG (n := 3) [x0, x1, x2] (by rw [ho]; decide +kernel) rfl h2 (by rw [ho]; decide +kernel) hr
theorem cv_13_168_0 {b : Nat} {x0 : Value} (ho : am_own t = 13) (h2 : am_ci1 (σ.1 b) = some 0) (hr : rest.length ≤ 8) : am_J X rec t (some (.invokevirtual 168, nx, tg)) pc lv (x0 :: .ref b :: rest) σ = am_JR X rec t pc nx lv rest (rec 170 [.ref b, x0] σ) := J_vG (n := 1) [x0] (by rw [ho]; decide +kernel) rfl h2 (by rw [ho]; decide +kernel) hr
theorem cv_0_307_0 {b : Nat} {x0 : Value} (ho : am_own t = 0) (h2 : am_ci1 (σ.1 b) = some 0) (hr : rest.length ≤ 8) : am_J X rec t (some (.invokevirtual 307, nx, tg)) pc lv (x0 :: .ref b :: rest) σ = am_JR X rec t pc nx lv rest (rec 171 [.ref b, x0] σ) := J_vG (n := 1) [x0] (by rw [ho]; decide +kernel) rfl h2 (by rw [ho]; decide +kernel) hr
theorem cv_0_310_6 {b : Nat} (ho : am_own t = 0) (h2 : am_ci1 (σ.1 b) = some 6) (hr : rest.length ≤ 8) : am_J X rec t (some (.invokevirtual 310, nx, tg)) pc lv (.ref b :: rest) σ = am_JR X rec t pc nx lv rest (rec 177 [.ref b] σ) := J_vG (n := 0) [] (by rw [ho]; decide +kernel) rfl h2 (by rw [ho]; decide +kernel) hr
theorem cv_0_310_9 {b : Nat} (ho : am_own t = 0) (h2 : am_ci1 (σ.1 b) = some 9) (hr : rest.length ≤ 8) : am_J X rec t (some (.invokevirtual 310, nx, tg)) pc lv (.ref b :: rest) σ = am_JR X rec t pc nx lv rest (rec 172 [.ref b] σ) := J_vG (n := 0) [] (by rw [ho]; decide +kernel) rfl h2 (by rw [ho]; decide +kernel) hr
theorem cv_0_310_8 {b : Nat} (ho : am_own t = 0) (h2 : am_ci1 (σ.1 b) = some 8) (hr : rest.length ≤ 8) : am_J X rec t (some (.invokevirtual 310, nx, tg)) pc lv (.ref b :: rest) σ = am_JR X rec t pc nx lv rest (rec 173 [.ref b] σ) := J_vG (n := 0) [] (by rw [ho]; decide +kernel) rfl h2 (by rw [ho]; decide +kernel) hr
theorem cv_0_310_10 {b : Nat} (ho : am_own t = 0) (h2 : am_ci1 (σ.1 b) = some 10) (hr : rest.length ≤ 8) : am_J X rec t (some (.invokevirtual 310, nx, tg)) pc lv (.ref b :: rest) σ = am_JR X rec t pc nx lv rest (rec 174 [.ref b] σ) := J_vG (n := 0) [] (by rw [ho]; decide +kernel) rfl h2 (by rw [ho]; decide +kernel) hr
theorem cv_0_310_7 {b : Nat} (ho : am_own t = 0) (h2 : am_ci1 (σ.1 b) = some 7) (hr : rest.length ≤ 8) : am_J X rec t (some (.invokevirtual 310, nx, tg)) pc lv (.ref b :: rest) σ = am_JR X rec t pc nx lv rest (rec 175 [.ref b] σ) := J_vG (n := 0) [] (by rw [ho]; decide +kernel) rfl h2 (by rw [ho]; decide +kernel) hr
theorem cv_0_310_11 {b : Nat} (ho : am_own t = 0) (h2 : am_ci1 (σ.1 b) = some 11) (hr : rest.length ≤ 8) : am_J X rec t (some (.invokevirtual 310, nx, tg)) pc lv (.ref b :: rest) σ = am_JR X rec t pc nx lv rest (rec 176 [.ref b] σ) := J_vG (n := 0) [] (by rw [ho]; decide +kernel) rfl h2 (by rw [ho]; decide +kernel) hr
theorem cv_9_29_6 {b : Nat} (ho : am_own t = 9) (h2 : am_ci1 (σ.1 b) = some 6) (hr : rest.length ≤ 8) : am_J X rec t (some (.invokevirtual 29, nx, tg)) pc lv (.ref b :: rest) σ = am_JR X rec t pc nx lv rest (rec 177 [.ref b] σ) := J_vG (n := 0) [] (by rw [ho]; decide +kernel) rfl h2 (by rw [ho]; decide +kernel) hr
theorem cv_9_29_9 {b : Nat} (ho : am_own t = 9) (h2 : am_ci1 (σ.1 b) = some 9) (hr : rest.length ≤ 8) : am_J X rec t (some (.invokevirtual 29, nx, tg)) pc lv (.ref b :: rest) σ = am_JR X rec t pc nx lv rest (rec 172 [.ref b] σ) := J_vG (n := 0) [] (by rw [ho]; decide +kernel) rfl h2 (by rw [ho]; decide +kernel) hr
theorem cv_9_29_8 {b : Nat} (ho : am_own t = 9) (h2 : am_ci1 (σ.1 b) = some 8) (hr : rest.length ≤ 8) : am_J X rec t (some (.invokevirtual 29, nx, tg)) pc lv (.ref b :: rest) σ = am_JR X rec t pc nx lv rest (rec 173 [.ref b] σ) := J_vG (n := 0) [] (by rw [ho]; decide +kernel) rfl h2 (by rw [ho]; decide +kernel) hr
theorem cv_9_29_10 {b : Nat} (ho : am_own t = 9) (h2 : am_ci1 (σ.1 b) = some 10) (hr : rest.length ≤ 8) : am_J X rec t (some (.invokevirtual 29, nx, tg)) pc lv (.ref b :: rest) σ = am_JR X rec t pc nx lv rest (rec 174 [.ref b] σ) := J_vG (n := 0) [] (by rw [ho]; decide +kernel) rfl h2 (by rw [ho]; decide +kernel) hr
theorem cv_9_29_7 {b : Nat} (ho : am_own t = 9) (h2 : am_ci1 (σ.1 b) = some 7) (hr : rest.length ≤ 8) : am_J X rec t (some (.invokevirtual 29, nx, tg)) pc lv (.ref b :: rest) σ = am_JR X rec t pc nx lv rest (rec 175 [.ref b] σ) := J_vG (n := 0) [] (by rw [ho]; decide +kernel) rfl h2 (by rw [ho]; decide +kernel) hr
theorem cv_9_29_11 {b : Nat} (ho : am_own t = 9) (h2 : am_ci1 (σ.1 b) = some 11) (hr : rest.length ≤ 8) : am_J X rec t (some (.invokevirtual 29, nx, tg)) pc lv (.ref b :: rest) σ = am_JR X rec t pc nx lv rest (rec 176 [.ref b] σ) := J_vG (n := 0) [] (by rw [ho]; decide +kernel) rfl h2 (by rw [ho]; decide +kernel) hr
theorem cv_8_24_6 {b : Nat} (ho : am_own t = 8) (h2 : am_ci1 (σ.1 b) = some 6) (hr : rest.length ≤ 8) : am_J X rec t (some (.invokevirtual 24, nx, tg)) pc lv (.ref b :: rest) σ = am_JR X rec t pc nx lv rest (rec 177 [.ref b] σ) := J_vG (n := 0) [] (by rw [ho]; decide +kernel) rfl h2 (by rw [ho]; decide +kernel) hr
theorem cv_8_24_9 {b : Nat} (ho : am_own t = 8) (h2 : am_ci1 (σ.1 b) = some 9) (hr : rest.length ≤ 8) : am_J X rec t (some (.invokevirtual 24, nx, tg)) pc lv (.ref b :: rest) σ = am_JR X rec t pc nx lv rest (rec 172 [.ref b] σ) := J_vG (n := 0) [] (by rw [ho]; decide +kernel) rfl h2 (by rw [ho]; decide +kernel) hr
theorem cv_8_24_8 {b : Nat} (ho : am_own t = 8) (h2 : am_ci1 (σ.1 b) = some 8) (hr : rest.length ≤ 8) : am_J X rec t (some (.invokevirtual 24, nx, tg)) pc lv (.ref b :: rest) σ = am_JR X rec t pc nx lv rest (rec 173 [.ref b] σ) := J_vG (n := 0) [] (by rw [ho]; decide +kernel) rfl h2 (by rw [ho]; decide +kernel) hr
theorem cv_8_24_10 {b : Nat} (ho : am_own t = 8) (h2 : am_ci1 (σ.1 b) = some 10) (hr : rest.length ≤ 8) : am_J X rec t (some (.invokevirtual 24, nx, tg)) pc lv (.ref b :: rest) σ = am_JR X rec t pc nx lv rest (rec 174 [.ref b] σ) := J_vG (n := 0) [] (by rw [ho]; decide +kernel) rfl h2 (by rw [ho]; decide +kernel) hr
theorem cv_8_24_7 {b : Nat} (ho : am_own t = 8) (h2 : am_ci1 (σ.1 b) = some 7) (hr : rest.length ≤ 8) : am_J X rec t (some (.invokevirtual 24, nx, tg)) pc lv (.ref b :: rest) σ = am_JR X rec t pc nx lv rest (rec 175 [.ref b] σ) := J_vG (n := 0) [] (by rw [ho]; decide +kernel) rfl h2 (by rw [ho]; decide +kernel) hr
theorem cv_8_24_11 {b : Nat} (ho : am_own t = 8) (h2 : am_ci1 (σ.1 b) = some 11) (hr : rest.length ≤ 8) : am_J X rec t (some (.invokevirtual 24, nx, tg)) pc lv (.ref b :: rest) σ = am_JR X rec t pc nx lv rest (rec 176 [.ref b] σ) := J_vG (n := 0) [] (by rw [ho]; decide +kernel) rfl h2 (by rw [ho]; decide +kernel) hr
theorem cv_7_29_6 {b : Nat} (ho : am_own t = 7) (h2 : am_ci1 (σ.1 b) = some 6) (hr : rest.length ≤ 8) : am_J X rec t (some (.invokevirtual 29, nx, tg)) pc lv (.ref b :: rest) σ = am_JR X rec t pc nx lv rest (rec 177 [.ref b] σ) := J_vG (n := 0) [] (by rw [ho]; decide +kernel) rfl h2 (by rw [ho]; decide +kernel) hr
theorem cv_7_29_9 {b : Nat} (ho : am_own t = 7) (h2 : am_ci1 (σ.1 b) = some 9) (hr : rest.length ≤ 8) : am_J X rec t (some (.invokevirtual 29, nx, tg)) pc lv (.ref b :: rest) σ = am_JR X rec t pc nx lv rest (rec 172 [.ref b] σ) := J_vG (n := 0) [] (by rw [ho]; decide +kernel) rfl h2 (by rw [ho]; decide +kernel) hr
theorem cv_7_29_8 {b : Nat} (ho : am_own t = 7) (h2 : am_ci1 (σ.1 b) = some 8) (hr : rest.length ≤ 8) : am_J X rec t (some (.invokevirtual 29, nx, tg)) pc lv (.ref b :: rest) σ = am_JR X rec t pc nx lv rest (rec 173 [.ref b] σ) := J_vG (n := 0) [] (by rw [ho]; decide +kernel) rfl h2 (by rw [ho]; decide +kernel) hr
theorem cv_7_29_10 {b : Nat} (ho : am_own t = 7) (h2 : am_ci1 (σ.1 b) = some 10) (hr : rest.length ≤ 8) : am_J X rec t (some (.invokevirtual 29, nx, tg)) pc lv (.ref b :: rest) σ = am_JR X rec t pc nx lv rest (rec 174 [.ref b] σ) := J_vG (n := 0) [] (by rw [ho]; decide +kernel) rfl h2 (by rw [ho]; decide +kernel) hr
theorem cv_7_29_7 {b : Nat} (ho : am_own t = 7) (h2 : am_ci1 (σ.1 b) = some 7) (hr : rest.length ≤ 8) : am_J X rec t (some (.invokevirtual 29, nx, tg)) pc lv (.ref b :: rest) σ = am_JR X rec t pc nx lv rest (rec 175 [.ref b] σ) := J_vG (n := 0) [] (by rw [ho]; decide +kernel) rfl h2 (by rw [ho]; decide +kernel) hr
theorem cv_7_29_11 {b : Nat} (ho : am_own t = 7) (h2 : am_ci1 (σ.1 b) = some 11) (hr : rest.length ≤ 8) : am_J X rec t (some (.invokevirtual 29, nx, tg)) pc lv (.ref b :: rest) σ = am_JR X rec t pc nx lv rest (rec 176 [.ref b] σ) := J_vG (n := 0) [] (by rw [ho]; decide +kernel) rfl h2 (by rw [ho]; decide +kernel) hr
theorem cv_11_29_6 {b : Nat} (ho : am_own t = 11) (h2 : am_ci1 (σ.1 b) = some 6) (hr : rest.length ≤ 8) : am_J X rec t (some (.invokevirtual 29, nx, tg)) pc lv (.ref b :: rest) σ = am_JR X rec t pc nx lv rest (rec 177 [.ref b] σ) := J_vG (n := 0) [] (by rw [ho]; decide +kernel) rfl h2 (by rw [ho]; decide +kernel) hr
theorem cv_11_29_9 {b : Nat} (ho : am_own t = 11) (h2 : am_ci1 (σ.1 b) = some 9) (hr : rest.length ≤ 8) : am_J X rec t (some (.invokevirtual 29, nx, tg)) pc lv (.ref b :: rest) σ = am_JR X rec t pc nx lv rest (rec 172 [.ref b] σ) := J_vG (n := 0) [] (by rw [ho]; decide +kernel) rfl h2 (by rw [ho]; decide +kernel) hr
theorem cv_11_29_8 {b : Nat} (ho : am_own t = 11) (h2 : am_ci1 (σ.1 b) = some 8) (hr : rest.length ≤ 8) : am_J X rec t (some (.invokevirtual 29, nx, tg)) pc lv (.ref b :: rest) σ = am_JR X rec t pc nx lv rest (rec 173 [.ref b] σ) := J_vG (n := 0) [] (by rw [ho]; decide +kernel) rfl h2 (by rw [ho]; decide +kernel) hr
theorem cv_11_29_10 {b : Nat} (ho : am_own t = 11) (h2 : am_ci1 (σ.1 b) = some 10) (hr : rest.length ≤ 8) : am_J X rec t (some (.invokevirtual 29, nx, tg)) pc lv (.ref b :: rest) σ = am_JR X rec t pc nx lv rest (rec 174 [.ref b] σ) := J_vG (n := 0) [] (by rw [ho]; decide +kernel) rfl h2 (by rw [ho]; decide +kernel) hr
theorem cv_11_29_7 {b : Nat} (ho : am_own t = 11) (h2 : am_ci1 (σ.1 b) = some 7) (hr : rest.length ≤ 8) : am_J X rec t (some (.invokevirtual 29, nx, tg)) pc lv (.ref b :: rest) σ = am_JR X rec t pc nx lv rest (rec 175 [.ref b] σ) := J_vG (n := 0) [] (by rw [ho]; decide +kernel) rfl h2 (by rw [ho]; decide +kernel) hr
theorem cv_11_29_11 {b : Nat} (ho : am_own t = 11) (h2 : am_ci1 (σ.1 b) = some 11) (hr : rest.length ≤ 8) : am_J X rec t (some (.invokevirtual 29, nx, tg)) pc lv (.ref b :: rest) σ = am_JR X rec t pc nx lv rest (rec 176 [.ref b] σ) := J_vG (n := 0) [] (by rw [ho]; decide +kernel) rfl h2 (by rw [ho]; decide +kernel) hr
theorem cv_13_172_0 {b : Nat} {x0 : Value} (ho : am_own t = 13) (h2 : am_ci1 (σ.1 b) = some 0) (hr : rest.length ≤ 8) : am_J X rec t (some (.invokevirtual 172, nx, tg)) pc lv (x0 :: .ref b :: rest) σ = am_JR X rec t pc nx lv rest (rec 178 [.ref b, x0] σ) := J_vG (n := 1) [x0] (by rw [ho]; decide +kernel) rfl h2 (by rw [ho]; decide +kernel) hr
theorem cv_0_313_6 {b : Nat} (ho : am_own t = 0) (h2 : am_ci1 (σ.1 b) = some 6) (hr : rest.length ≤ 8) : am_J X rec t (some (.invokevirtual 313, nx, tg)) pc lv (.ref b :: rest) σ = am_JR X rec t pc nx lv rest (rec 179 [.ref b] σ) := J_vG (n := 0) [] (by rw [ho]; decide +kernel) rfl h2 (by rw [ho]; decide +kernel) hr
theorem cv_0_313_9 {b : Nat} (ho : am_own t = 0) (h2 : am_ci1 (σ.1 b) = some 9) (hr : rest.length ≤ 8) : am_J X rec t (some (.invokevirtual 313, nx, tg)) pc lv (.ref b :: rest) σ = am_JR X rec t pc nx lv rest (rec 179 [.ref b] σ) := J_vG (n := 0) [] (by rw [ho]; decide +kernel) rfl h2 (by rw [ho]; decide +kernel) hr
theorem cv_0_313_8 {b : Nat} (ho : am_own t = 0) (h2 : am_ci1 (σ.1 b) = some 8) (hr : rest.length ≤ 8) : am_J X rec t (some (.invokevirtual 313, nx, tg)) pc lv (.ref b :: rest) σ = am_JR X rec t pc nx lv rest (rec 179 [.ref b] σ) := J_vG (n := 0) [] (by rw [ho]; decide +kernel) rfl h2 (by rw [ho]; decide +kernel) hr
theorem cv_0_313_10 {b : Nat} (ho : am_own t = 0) (h2 : am_ci1 (σ.1 b) = some 10) (hr : rest.length ≤ 8) : am_J X rec t (some (.invokevirtual 313, nx, tg)) pc lv (.ref b :: rest) σ = am_JR X rec t pc nx lv rest (rec 179 [.ref b] σ) := J_vG (n := 0) [] (by rw [ho]; decide +kernel) rfl h2 (by rw [ho]; decide +kernel) hr
theorem cv_0_313_7 {b : Nat} (ho : am_own t = 0) (h2 : am_ci1 (σ.1 b) = some 7) (hr : rest.length ≤ 8) : am_J X rec t (some (.invokevirtual 313, nx, tg)) pc lv (.ref b :: rest) σ = am_JR X rec t pc nx lv rest (rec 179 [.ref b] σ) := J_vG (n := 0) [] (by rw [ho]; decide +kernel) rfl h2 (by rw [ho]; decide +kernel) hr
theorem cv_0_313_11 {b : Nat} (ho : am_own t = 0) (h2 : am_ci1 (σ.1 b) = some 11) (hr : rest.length ≤ 8) : am_J X rec t (some (.invokevirtual 313, nx, tg)) pc lv (.ref b :: rest) σ = am_JR X rec t pc nx lv rest (rec 179 [.ref b] σ) := J_vG (n := 0) [] (by rw [ho]; decide +kernel) rfl h2 (by rw [ho]; decide +kernel) hr
theorem cv_6_35_6 {b : Nat} (ho : am_own t = 6) (h2 : am_ci1 (σ.1 b) = some 6) (hr : rest.length ≤ 8) : am_J X rec t (some (.invokevirtual 35, nx, tg)) pc lv (.ref b :: rest) σ = am_JR X rec t pc nx lv rest (rec 181 [.ref b] σ) := J_vG (n := 0) [] (by rw [ho]; decide +kernel) rfl h2 (by rw [ho]; decide +kernel) hr
theorem cv_6_35_9 {b : Nat} (ho : am_own t = 6) (h2 : am_ci1 (σ.1 b) = some 9) (hr : rest.length ≤ 8) : am_J X rec t (some (.invokevirtual 35, nx, tg)) pc lv (.ref b :: rest) σ = am_JR X rec t pc nx lv rest (rec 181 [.ref b] σ) := J_vG (n := 0) [] (by rw [ho]; decide +kernel) rfl h2 (by rw [ho]; decide +kernel) hr
theorem cv_6_35_8 {b : Nat} (ho : am_own t = 6) (h2 : am_ci1 (σ.1 b) = some 8) (hr : rest.length ≤ 8) : am_J X rec t (some (.invokevirtual 35, nx, tg)) pc lv (.ref b :: rest) σ = am_JR X rec t pc nx lv rest (rec 180 [.ref b] σ) := J_vG (n := 0) [] (by rw [ho]; decide +kernel) rfl h2 (by rw [ho]; decide +kernel) hr
theorem cv_6_35_10 {b : Nat} (ho : am_own t = 6) (h2 : am_ci1 (σ.1 b) = some 10) (hr : rest.length ≤ 8) : am_J X rec t (some (.invokevirtual 35, nx, tg)) pc lv (.ref b :: rest) σ = am_JR X rec t pc nx lv rest (rec 181 [.ref b] σ) := J_vG (n := 0) [] (by rw [ho]; decide +kernel) rfl h2 (by rw [ho]; decide +kernel) hr
theorem cv_6_35_7 {b : Nat} (ho : am_own t = 6) (h2 : am_ci1 (σ.1 b) = some 7) (hr : rest.length ≤ 8) : am_J X rec t (some (.invokevirtual 35, nx, tg)) pc lv (.ref b :: rest) σ = am_JR X rec t pc nx lv rest (rec 181 [.ref b] σ) := J_vG (n := 0) [] (by rw [ho]; decide +kernel) rfl h2 (by rw [ho]; decide +kernel) hr
theorem cv_6_35_11 {b : Nat} (ho : am_own t = 6) (h2 : am_ci1 (σ.1 b) = some 11) (hr : rest.length ≤ 8) : am_J X rec t (some (.invokevirtual 35, nx, tg)) pc lv (.ref b :: rest) σ = am_JR X rec t pc nx lv rest (rec 181 [.ref b] σ) := J_vG (n := 0) [] (by rw [ho]; decide +kernel) rfl h2 (by rw [ho]; decide +kernel) hr
theorem cv_6_31_6 {b : Nat} (ho : am_own t = 6) (h2 : am_ci1 (σ.1 b) = some 6) (hr : rest.length ≤ 8) : am_J X rec t (some (.invokevirtual 31, nx, tg)) pc lv (.ref b :: rest) σ = am_JR X rec t pc nx lv rest (rec 22 [.ref b] σ) := J_vG (n := 0) [] (by rw [ho]; decide +kernel) rfl h2 (by rw [ho]; decide +kernel) hr
theorem cv_6_31_9 {b : Nat} (ho : am_own t = 6) (h2 : am_ci1 (σ.1 b) = some 9) (hr : rest.length ≤ 8) : am_J X rec t (some (.invokevirtual 31, nx, tg)) pc lv (.ref b :: rest) σ = am_JR X rec t pc nx lv rest (rec 22 [.ref b] σ) := J_vG (n := 0) [] (by rw [ho]; decide +kernel) rfl h2 (by rw [ho]; decide +kernel) hr
theorem cv_6_31_8 {b : Nat} (ho : am_own t = 6) (h2 : am_ci1 (σ.1 b) = some 8) (hr : rest.length ≤ 8) : am_J X rec t (some (.invokevirtual 31, nx, tg)) pc lv (.ref b :: rest) σ = am_JR X rec t pc nx lv rest (rec 22 [.ref b] σ) := J_vG (n := 0) [] (by rw [ho]; decide +kernel) rfl h2 (by rw [ho]; decide +kernel) hr
theorem cv_6_31_10 {b : Nat} (ho : am_own t = 6) (h2 : am_ci1 (σ.1 b) = some 10) (hr : rest.length ≤ 8) : am_J X rec t (some (.invokevirtual 31, nx, tg)) pc lv (.ref b :: rest) σ = am_JR X rec t pc nx lv rest (rec 22 [.ref b] σ) := J_vG (n := 0) [] (by rw [ho]; decide +kernel) rfl h2 (by rw [ho]; decide +kernel) hr
theorem cv_6_31_7 {b : Nat} (ho : am_own t = 6) (h2 : am_ci1 (σ.1 b) = some 7) (hr : rest.length ≤ 8) : am_J X rec t (some (.invokevirtual 31, nx, tg)) pc lv (.ref b :: rest) σ = am_JR X rec t pc nx lv rest (rec 22 [.ref b] σ) := J_vG (n := 0) [] (by rw [ho]; decide +kernel) rfl h2 (by rw [ho]; decide +kernel) hr
theorem cv_6_31_11 {b : Nat} (ho : am_own t = 6) (h2 : am_ci1 (σ.1 b) = some 11) (hr : rest.length ≤ 8) : am_J X rec t (some (.invokevirtual 31, nx, tg)) pc lv (.ref b :: rest) σ = am_JR X rec t pc nx lv rest (rec 22 [.ref b] σ) := J_vG (n := 0) [] (by rw [ho]; decide +kernel) rfl h2 (by rw [ho]; decide +kernel) hr
theorem cv_0_316_6 {b : Nat} (ho : am_own t = 0) (h2 : am_ci1 (σ.1 b) = some 6) (hr : rest.length ≤ 8) : am_J X rec t (some (.invokevirtual 316, nx, tg)) pc lv (.ref b :: rest) σ = am_JR X rec t pc nx lv rest (rec 184 [.ref b] σ) := J_vG (n := 0) [] (by rw [ho]; decide +kernel) rfl h2 (by rw [ho]; decide +kernel) hr
theorem cv_0_316_9 {b : Nat} (ho : am_own t = 0) (h2 : am_ci1 (σ.1 b) = some 9) (hr : rest.length ≤ 8) : am_J X rec t (some (.invokevirtual 316, nx, tg)) pc lv (.ref b :: rest) σ = am_JR X rec t pc nx lv rest (rec 184 [.ref b] σ) := J_vG (n := 0) [] (by rw [ho]; decide +kernel) rfl h2 (by rw [ho]; decide +kernel) hr
theorem cv_0_316_8 {b : Nat} (ho : am_own t = 0) (h2 : am_ci1 (σ.1 b) = some 8) (hr : rest.length ≤ 8) : am_J X rec t (some (.invokevirtual 316, nx, tg)) pc lv (.ref b :: rest) σ = am_JR X rec t pc nx lv rest (rec 184 [.ref b] σ) := J_vG (n := 0) [] (by rw [ho]; decide +kernel) rfl h2 (by rw [ho]; decide +kernel) hr
theorem cv_0_316_10 {b : Nat} (ho : am_own t = 0) (h2 : am_ci1 (σ.1 b) = some 10) (hr : rest.length ≤ 8) : am_J X rec t (some (.invokevirtual 316, nx, tg)) pc lv (.ref b :: rest) σ = am_JR X rec t pc nx lv rest (rec 182 [.ref b] σ) := J_vG (n := 0) [] (by rw [ho]; decide +kernel) rfl h2 (by rw [ho]; decide +kernel) hr
theorem cv_0_316_7 {b : Nat} (ho : am_own t = 0) (h2 : am_ci1 (σ.1 b) = some 7) (hr : rest.length ≤ 8) : am_J X rec t (some (.invokevirtual 316, nx, tg)) pc lv (.ref b :: rest) σ = am_JR X rec t pc nx lv rest (rec 184 [.ref b] σ) := J_vG (n := 0) [] (by rw [ho]; decide +kernel) rfl h2 (by rw [ho]; decide +kernel) hr
theorem cv_0_316_11 {b : Nat} (ho : am_own t = 0) (h2 : am_ci1 (σ.1 b) = some 11) (hr : rest.length ≤ 8) : am_J X rec t (some (.invokevirtual 316, nx, tg)) pc lv (.ref b :: rest) σ = am_JR X rec t pc nx lv rest (rec 183 [.ref b] σ) := J_vG (n := 0) [] (by rw [ho]; decide +kernel) rfl h2 (by rw [ho]; decide +kernel) hr
theorem cv_13_7_0 {b : Nat} {x0 x1 : Value} (ho : am_own t = 13) (h2 : am_ci1 (σ.1 b) = some 0) (hr : rest.length ≤ 8) : am_J X rec t (some (.invokevirtual 7, nx, tg)) pc lv (x1 :: x0 :: .ref b :: rest) σ = am_JR X rec t pc nx lv rest (rec 186 [.ref b, x0, x1] σ) := J_vG (n := 2) [x0, x1] (by rw [ho]; decide +kernel) rfl h2 (by rw [ho]; decide +kernel) hr
theorem cv_0_258_4 {b : Nat} {x0 x1 : Value} (ho : am_own t = 0) (h2 : am_ci1 (σ.1 b) = some 4) (hr : rest.length ≤ 8) : am_J X rec t (some (.invokevirtual 258, nx, tg)) pc lv (x1 :: x0 :: .ref b :: rest) σ = am_JR X rec t pc nx lv rest (rec 187 [.ref b, x0, x1] σ) := J_vG (n := 2) [x0, x1] (by rw [ho]; decide +kernel) rfl h2 (by rw [ho]; decide +kernel) hr
theorem cv_4_245_4 {b : Nat} {x0 x1 : Value} (ho : am_own t = 4) (h2 : am_ci1 (σ.1 b) = some 4) (hr : rest.length ≤ 8) : am_J X rec t (some (.invokevirtual 245, nx, tg)) pc lv (x1 :: x0 :: .ref b :: rest) σ = am_JR X rec t pc nx lv rest (rec 188 [.ref b, x0, x1] σ) := J_vG (n := 2) [x0, x1] (by rw [ho]; decide +kernel) rfl h2 (by rw [ho]; decide +kernel) hr
theorem cv_4_249_4 {b : Nat} {x0 x1 x2 : Value} (ho : am_own t = 4) (h2 : am_ci1 (σ.1 b) = some 4) (hr : rest.length ≤ 8) : am_J X rec t (some (.invokevirtual 249, nx, tg)) pc lv (x2 :: x1 :: x0 :: .ref b :: rest) σ = am_JR X rec t pc nx lv rest (rec 189 [.ref b, x0, x1, x2] σ) := J_vG (n := 3) [x0, x1, x2] (by rw [ho]; decide +kernel) rfl h2 (by rw [ho]; decide +kernel) hr
theorem cv_4_252_1 {b : Nat} {x0 x1 : Value} (ho : am_own t = 4) (h2 : am_ci1 (σ.1 b) = some 1) (hr : rest.length ≤ 8) : am_J X rec t (some (.invokevirtual 252, nx, tg)) pc lv (x1 :: x0 :: .ref b :: rest) σ = am_JR X rec t pc nx lv rest (rec 99 [.ref b, x0, x1] σ) := J_vG (n := 2) [x0, x1] (by rw [ho]; decide +kernel) rfl h2 (by rw [ho]; decide +kernel) hr
theorem cv_13_15_0 {b : Nat} {x0 x1 : Value} (ho : am_own t = 13) (h2 : am_ci1 (σ.1 b) = some 0) (hr : rest.length ≤ 8) : am_J X rec t (some (.invokevirtual 15, nx, tg)) pc lv (x1 :: x0 :: .ref b :: rest) σ = am_JR X rec t pc nx lv rest (rec 191 [.ref b, x0, x1] σ) := J_vG (n := 2) [x0, x1] (by rw [ho]; decide +kernel) rfl h2 (by rw [ho]; decide +kernel) hr
theorem cv_13_133_12 {b : Nat} (ho : am_own t = 13) (h2 : am_ci1 (σ.1 b) = some 12) (hr : rest.length ≤ 8) : am_J X rec t (some (.invokevirtual 133, nx, tg)) pc lv (.ref b :: rest) σ = am_JR X rec t pc nx lv rest (rec 193 [.ref b] σ) := J_vG (n := 0) [] (by rw [ho]; decide +kernel) rfl h2 (by rw [ho]; decide +kernel) hr
theorem cv_13_28_12 {b : Nat} {x0 : Value} (ho : am_own t = 13) (h2 : am_ci1 (σ.1 b) = some 12) (hr : rest.length ≤ 8) : am_J X rec t (some (.invokevirtual 28, nx, tg)) pc lv (x0 :: .ref b :: rest) σ = am_JR X rec t pc nx lv rest (rec 194 [.ref b, x0] σ) := J_vG (n := 1) [x0] (by rw [ho]; decide +kernel) rfl h2 (by rw [ho]; decide +kernel) hr
theorem cv_12_161_12 {b : Nat} {x0 x1 : Value} (ho : am_own t = 12) (h2 : am_ci1 (σ.1 b) = some 12) (hr : rest.length ≤ 8) : am_J X rec t (some (.invokevirtual 161, nx, tg)) pc lv (x1 :: x0 :: .ref b :: rest) σ = am_JR X rec t pc nx lv rest (rec 195 [.ref b, x0, x1] σ) := J_vG (n := 2) [x0, x1] (by rw [ho]; decide +kernel) rfl h2 (by rw [ho]; decide +kernel) hr
theorem cv_12_164_12 {b : Nat} (ho : am_own t = 12) (h2 : am_ci1 (σ.1 b) = some 12) (hr : rest.length ≤ 8) : am_J X rec t (some (.invokevirtual 164, nx, tg)) pc lv (.ref b :: rest) σ = am_JR X rec t pc nx lv rest (rec 198 [.ref b] σ) := J_vG (n := 0) [] (by rw [ho]; decide +kernel) rfl h2 (by rw [ho]; decide +kernel) hr
theorem cv_12_119_12 {b : Nat} {x0 : Value} (ho : am_own t = 12) (h2 : am_ci1 (σ.1 b) = some 12) (hr : rest.length ≤ 8) : am_J X rec t (some (.invokevirtual 119, nx, tg)) pc lv (x0 :: .ref b :: rest) σ = am_JR X rec t pc nx lv rest (rec 199 [.ref b, x0] σ) := J_vG (n := 1) [x0] (by rw [ho]; decide +kernel) rfl h2 (by rw [ho]; decide +kernel) hr
theorem cv_12_92_12 {b : Nat} (ho : am_own t = 12) (h2 : am_ci1 (σ.1 b) = some 12) (hr : rest.length ≤ 8) : am_J X rec t (some (.invokevirtual 92, nx, tg)) pc lv (.ref b :: rest) σ = am_JR X rec t pc nx lv rest (rec 200 [.ref b] σ) := J_vG (n := 0) [] (by rw [ho]; decide +kernel) rfl h2 (by rw [ho]; decide +kernel) hr
theorem cv_12_112_12 {b : Nat} (ho : am_own t = 12) (h2 : am_ci1 (σ.1 b) = some 12) (hr : rest.length ≤ 8) : am_J X rec t (some (.invokevirtual 112, nx, tg)) pc lv (.ref b :: rest) σ = am_JR X rec t pc nx lv rest (rec 201 [.ref b] σ) := J_vG (n := 0) [] (by rw [ho]; decide +kernel) rfl h2 (by rw [ho]; decide +kernel) hr
theorem cv_12_129_12 {b : Nat} (ho : am_own t = 12) (h2 : am_ci1 (σ.1 b) = some 12) (hr : rest.length ≤ 8) : am_J X rec t (some (.invokevirtual 129, nx, tg)) pc lv (.ref b :: rest) σ = am_JR X rec t pc nx lv rest (rec 202 [.ref b] σ) := J_vG (n := 0) [] (by rw [ho]; decide +kernel) rfl h2 (by rw [ho]; decide +kernel) hr
theorem cv_12_167_12 {b : Nat} (ho : am_own t = 12) (h2 : am_ci1 (σ.1 b) = some 12) (hr : rest.length ≤ 8) : am_J X rec t (some (.invokevirtual 167, nx, tg)) pc lv (.ref b :: rest) σ = am_JR X rec t pc nx lv rest (rec 203 [.ref b] σ) := J_vG (n := 0) [] (by rw [ho]; decide +kernel) rfl h2 (by rw [ho]; decide +kernel) hr
theorem cv_12_146_12 {b : Nat} (ho : am_own t = 12) (h2 : am_ci1 (σ.1 b) = some 12) (hr : rest.length ≤ 8) : am_J X rec t (some (.invokevirtual 146, nx, tg)) pc lv (.ref b :: rest) σ = am_JR X rec t pc nx lv rest (rec 204 [.ref b] σ) := J_vG (n := 0) [] (by rw [ho]; decide +kernel) rfl h2 (by rw [ho]; decide +kernel) hr
theorem cv_12_136_12 {b : Nat} {x0 : Value} (ho : am_own t = 12) (h2 : am_ci1 (σ.1 b) = some 12) (hr : rest.length ≤ 8) : am_J X rec t (some (.invokevirtual 136, nx, tg)) pc lv (x0 :: .ref b :: rest) σ = am_JR X rec t pc nx lv rest (rec 205 [.ref b, x0] σ) := J_vG (n := 1) [x0] (by rw [ho]; decide +kernel) rfl h2 (by rw [ho]; decide +kernel) hr
theorem cv_12_149_12 {b : Nat} (ho : am_own t = 12) (h2 : am_ci1 (σ.1 b) = some 12) (hr : rest.length ≤ 8) : am_J X rec t (some (.invokevirtual 149, nx, tg)) pc lv (.ref b :: rest) σ = am_JR X rec t pc nx lv rest (rec 206 [.ref b] σ) := J_vG (n := 0) [] (by rw [ho]; decide +kernel) rfl h2 (by rw [ho]; decide +kernel) hr
theorem cv_12_139_12 {b : Nat} {x0 : Value} (ho : am_own t = 12) (h2 : am_ci1 (σ.1 b) = some 12) (hr : rest.length ≤ 8) : am_J X rec t (some (.invokevirtual 139, nx, tg)) pc lv (x0 :: .ref b :: rest) σ = am_JR X rec t pc nx lv rest (rec 207 [.ref b, x0] σ) := J_vG (n := 1) [x0] (by rw [ho]; decide +kernel) rfl h2 (by rw [ho]; decide +kernel) hr
theorem cv_12_79_12 {b : Nat} {x0 x1 : Value} (ho : am_own t = 12) (h2 : am_ci1 (σ.1 b) = some 12) (hr : rest.length ≤ 8) : am_J X rec t (some (.invokevirtual 79, nx, tg)) pc lv (x1 :: x0 :: .ref b :: rest) σ = am_JR X rec t pc nx lv rest (rec 208 [.ref b, x0, x1] σ) := J_vG (n := 2) [x0, x1] (by rw [ho]; decide +kernel) rfl h2 (by rw [ho]; decide +kernel) hr
theorem cv_12_143_12 {b : Nat} {x0 : Value} (ho : am_own t = 12) (h2 : am_ci1 (σ.1 b) = some 12) (hr : rest.length ≤ 8) : am_J X rec t (some (.invokevirtual 143, nx, tg)) pc lv (x0 :: .ref b :: rest) σ = am_JR X rec t pc nx lv rest (rec 209 [.ref b, x0] σ) := J_vG (n := 1) [x0] (by rw [ho]; decide +kernel) rfl h2 (by rw [ho]; decide +kernel) hr
theorem cv_12_154_12 {b : Nat} {x0 x1 : Value} (ho : am_own t = 12) (h2 : am_ci1 (σ.1 b) = some 12) (hr : rest.length ≤ 8) : am_J X rec t (some (.invokevirtual 154, nx, tg)) pc lv (x1 :: x0 :: .ref b :: rest) σ = am_JR X rec t pc nx lv rest (rec 210 [.ref b, x0, x1] σ) := J_vG (n := 2) [x0, x1] (by rw [ho]; decide +kernel) rfl h2 (by rw [ho]; decide +kernel) hr
theorem cv_13_33_12 {b : Nat} {x0 x1 : Value} (ho : am_own t = 13) (h2 : am_ci1 (σ.1 b) = some 12) (hr : rest.length ≤ 8) : am_J X rec t (some (.invokevirtual 33, nx, tg)) pc lv (x1 :: x0 :: .ref b :: rest) σ = am_JR X rec t pc nx lv rest (rec 211 [.ref b, x0, x1] σ) := J_vG (n := 2) [x0, x1] (by rw [ho]; decide +kernel) rfl h2 (by rw [ho]; decide +kernel) hr
theorem cv_13_38_12 {b : Nat} {x0 x1 x2 : Value} (ho : am_own t = 13) (h2 : am_ci1 (σ.1 b) = some 12) (hr : rest.length ≤ 8) : am_J X rec t (some (.invokevirtual 38, nx, tg)) pc lv (x2 :: x1 :: x0 :: .ref b :: rest) σ = am_JR X rec t pc nx lv rest (rec 212 [.ref b, x0, x1, x2] σ) := J_vG (n := 3) [x0, x1, x2] (by rw [ho]; decide +kernel) rfl h2 (by rw [ho]; decide +kernel) hr
theorem cv_13_42_12 {b : Nat} {x0 x1 : Value} (ho : am_own t = 13) (h2 : am_ci1 (σ.1 b) = some 12) (hr : rest.length ≤ 8) : am_J X rec t (some (.invokevirtual 42, nx, tg)) pc lv (x1 :: x0 :: .ref b :: rest) σ = am_JR X rec t pc nx lv rest (rec 213 [.ref b, x0, x1] σ) := J_vG (n := 2) [x0, x1] (by rw [ho]; decide +kernel) rfl h2 (by rw [ho]; decide +kernel) hr
theorem cv_12_180_12 {b : Nat} {x0 x1 : Value} (ho : am_own t = 12) (h2 : am_ci1 (σ.1 b) = some 12) (hr : rest.length ≤ 8) : am_J X rec t (some (.invokevirtual 180, nx, tg)) pc lv (x1 :: x0 :: .ref b :: rest) σ = am_JR X rec t pc nx lv rest (rec 214 [.ref b, x0, x1] σ) := J_vG (n := 2) [x0, x1] (by rw [ho]; decide +kernel) rfl h2 (by rw [ho]; decide +kernel) hr
theorem cv_13_46_12 {b : Nat} {x0 : Value} (ho : am_own t = 13) (h2 : am_ci1 (σ.1 b) = some 12) (hr : rest.length ≤ 8) : am_J X rec t (some (.invokevirtual 46, nx, tg)) pc lv (x0 :: .ref b :: rest) σ = am_JR X rec t pc nx lv rest (rec 215 [.ref b, x0] σ) := J_vG (n := 1) [x0] (by rw [ho]; decide +kernel) rfl h2 (by rw [ho]; decide +kernel) hr
theorem cv_13_50_12 {b : Nat} {x0 : Value} (ho : am_own t = 13) (h2 : am_ci1 (σ.1 b) = some 12) (hr : rest.length ≤ 8) : am_J X rec t (some (.invokevirtual 50, nx, tg)) pc lv (x0 :: .ref b :: rest) σ = am_JR X rec t pc nx lv rest (rec 216 [.ref b, x0] σ) := J_vG (n := 1) [x0] (by rw [ho]; decide +kernel) rfl h2 (by rw [ho]; decide +kernel) hr
theorem cv_12_183_12 {b : Nat} {x0 : Value} (ho : am_own t = 12) (h2 : am_ci1 (σ.1 b) = some 12) (hr : rest.length ≤ 8) : am_J X rec t (some (.invokevirtual 183, nx, tg)) pc lv (x0 :: .ref b :: rest) σ = am_JR X rec t pc nx lv rest (rec 217 [.ref b, x0] σ) := J_vG (n := 1) [x0] (by rw [ho]; decide +kernel) rfl h2 (by rw [ho]; decide +kernel) hr
theorem cv_13_54_12 {b : Nat} {x0 : Value} (ho : am_own t = 13) (h2 : am_ci1 (σ.1 b) = some 12) (hr : rest.length ≤ 8) : am_J X rec t (some (.invokevirtual 54, nx, tg)) pc lv (x0 :: .ref b :: rest) σ = am_JR X rec t pc nx lv rest (rec 218 [.ref b, x0] σ) := J_vG (n := 1) [x0] (by rw [ho]; decide +kernel) rfl h2 (by rw [ho]; decide +kernel) hr
theorem cv_12_192_12 {b : Nat} {x0 : Value} (ho : am_own t = 12) (h2 : am_ci1 (σ.1 b) = some 12) (hr : rest.length ≤ 8) : am_J X rec t (some (.invokevirtual 192, nx, tg)) pc lv (x0 :: .ref b :: rest) σ = am_JR X rec t pc nx lv rest (rec 219 [.ref b, x0] σ) := J_vG (n := 1) [x0] (by rw [ho]; decide +kernel) rfl h2 (by rw [ho]; decide +kernel) hr
theorem cv_12_189_12 {b : Nat} (ho : am_own t = 12) (h2 : am_ci1 (σ.1 b) = some 12) (hr : rest.length ≤ 8) : am_J X rec t (some (.invokevirtual 189, nx, tg)) pc lv (.ref b :: rest) σ = am_JR X rec t pc nx lv rest (rec 220 [.ref b] σ) := J_vG (n := 0) [] (by rw [ho]; decide +kernel) rfl h2 (by rw [ho]; decide +kernel) hr
theorem cv_13_58_12 {b : Nat} {x0 x1 : Value} (ho : am_own t = 13) (h2 : am_ci1 (σ.1 b) = some 12) (hr : rest.length ≤ 8) : am_J X rec t (some (.invokevirtual 58, nx, tg)) pc lv (x1 :: x0 :: .ref b :: rest) σ = am_JR X rec t pc nx lv rest (rec 221 [.ref b, x0, x1] σ) := J_vG (n := 2) [x0, x1] (by rw [ho]; decide +kernel) rfl h2 (by rw [ho]; decide +kernel) hr
theorem cv_12_198_12 {b : Nat} {x0 x1 : Value} (ho : am_own t = 12) (h2 : am_ci1 (σ.1 b) = some 12) (hr : rest.length ≤ 8) : am_J X rec t (some (.invokevirtual 198, nx, tg)) pc lv (x1 :: x0 :: .ref b :: rest) σ = am_JR X rec t pc nx lv rest (rec 222 [.ref b, x0, x1] σ) := J_vG (n := 2) [x0, x1] (by rw [ho]; decide +kernel) rfl h2 (by rw [ho]; decide +kernel) hr
theorem cv_12_195_12 {b : Nat} {x0 x1 : Value} (ho : am_own t = 12) (h2 : am_ci1 (σ.1 b) = some 12) (hr : rest.length ≤ 8) : am_J X rec t (some (.invokevirtual 195, nx, tg)) pc lv (x1 :: x0 :: .ref b :: rest) σ = am_JR X rec t pc nx lv rest (rec 223 [.ref b, x0, x1] σ) := J_vG (n := 2) [x0, x1] (by rw [ho]; decide +kernel) rfl h2 (by rw [ho]; decide +kernel) hr
theorem cv_12_201_12 {b : Nat} {x0 x1 : Value} (ho : am_own t = 12) (h2 : am_ci1 (σ.1 b) = some 12) (hr : rest.length ≤ 8) : am_J X rec t (some (.invokevirtual 201, nx, tg)) pc lv (x1 :: x0 :: .ref b :: rest) σ = am_JR X rec t pc nx lv rest (rec 224 [.ref b, x0, x1] σ) := J_vG (n := 2) [x0, x1] (by rw [ho]; decide +kernel) rfl h2 (by rw [ho]; decide +kernel) hr
theorem cv_12_204_12 {b : Nat} (ho : am_own t = 12) (h2 : am_ci1 (σ.1 b) = some 12) (hr : rest.length ≤ 8) : am_J X rec t (some (.invokevirtual 204, nx, tg)) pc lv (.ref b :: rest) σ = am_JR X rec t pc nx lv rest (rec 225 [.ref b] σ) := J_vG (n := 0) [] (by rw [ho]; decide +kernel) rfl h2 (by rw [ho]; decide +kernel) hr
theorem cv_12_186_12 {b : Nat} {x0 x1 : Value} (ho : am_own t = 12) (h2 : am_ci1 (σ.1 b) = some 12) (hr : rest.length ≤ 8) : am_J X rec t (some (.invokevirtual 186, nx, tg)) pc lv (x1 :: x0 :: .ref b :: rest) σ = am_JR X rec t pc nx lv rest (rec 226 [.ref b, x0, x1] σ) := J_vG (n := 2) [x0, x1] (by rw [ho]; decide +kernel) rfl h2 (by rw [ho]; decide +kernel) hr
theorem cv_13_63_12 {b : Nat} {x0 x1 : Value} (ho : am_own t = 13) (h2 : am_ci1 (σ.1 b) = some 12) (hr : rest.length ≤ 8) : am_J X rec t (some (.invokevirtual 63, nx, tg)) pc lv (x1 :: x0 :: .ref b :: rest) σ = am_JR X rec t pc nx lv rest (rec 227 [.ref b, x0, x1] σ) := J_vG (n := 2) [x0, x1] (by rw [ho]; decide +kernel) rfl h2 (by rw [ho]; decide +kernel) hr
theorem cv_12_207_12 {b : Nat} {x0 : Value} (ho : am_own t = 12) (h2 : am_ci1 (σ.1 b) = some 12) (hr : rest.length ≤ 8) : am_J X rec t (some (.invokevirtual 207, nx, tg)) pc lv (x0 :: .ref b :: rest) σ = am_JR X rec t pc nx lv rest (rec 228 [.ref b, x0] σ) := J_vG (n := 1) [x0] (by rw [ho]; decide +kernel) rfl h2 (by rw [ho]; decide +kernel) hr
theorem cv_13_68_12 {b : Nat} (ho : am_own t = 13) (h2 : am_ci1 (σ.1 b) = some 12) (hr : rest.length ≤ 8) : am_J X rec t (some (.invokevirtual 68, nx, tg)) pc lv (.ref b :: rest) σ = am_JR X rec t pc nx lv rest (rec 229 [.ref b] σ) := J_vG (n := 0) [] (by rw [ho]; decide +kernel) rfl h2 (by rw [ho]; decide +kernel) hr
theorem cv_13_72_12 {b : Nat} {x0 : Value} (ho : am_own t = 13) (h2 : am_ci1 (σ.1 b) = some 12) (hr : rest.length ≤ 8) : am_J X rec t (some (.invokevirtual 72, nx, tg)) pc lv (x0 :: .ref b :: rest) σ = am_JR X rec t pc nx lv rest (rec 230 [.ref b, x0] σ) := J_vG (n := 1) [x0] (by rw [ho]; decide +kernel) rfl h2 (by rw [ho]; decide +kernel) hr
theorem cv_12_210_12 {b : Nat} {x0 : Value} (ho : am_own t = 12) (h2 : am_ci1 (σ.1 b) = some 12) (hr : rest.length ≤ 8) : am_J X rec t (some (.invokevirtual 210, nx, tg)) pc lv (x0 :: .ref b :: rest) σ = am_JR X rec t pc nx lv rest (rec 231 [.ref b, x0] σ) := J_vG (n := 1) [x0] (by rw [ho]; decide +kernel) rfl h2 (by rw [ho]; decide +kernel) hr
theorem cv_13_77_12 {b : Nat} (ho : am_own t = 13) (h2 : am_ci1 (σ.1 b) = some 12) (hr : rest.length ≤ 8) : am_J X rec t (some (.invokevirtual 77, nx, tg)) pc lv (.ref b :: rest) σ = am_JR X rec t pc nx lv rest (rec 232 [.ref b] σ) := J_vG (n := 0) [] (by rw [ho]; decide +kernel) rfl h2 (by rw [ho]; decide +kernel) hr
theorem cv_12_213_12 {b : Nat} (ho : am_own t = 12) (h2 : am_ci1 (σ.1 b) = some 12) (hr : rest.length ≤ 8) : am_J X rec t (some (.invokevirtual 213, nx, tg)) pc lv (.ref b :: rest) σ = am_JR X rec t pc nx lv rest (rec 233 [.ref b] σ) := J_vG (n := 0) [] (by rw [ho]; decide +kernel) rfl h2 (by rw [ho]; decide +kernel) hr
theorem cv_13_81_12 {b : Nat} {x0 x1 : Value} (ho : am_own t = 13) (h2 : am_ci1 (σ.1 b) = some 12) (hr : rest.length ≤ 8) : am_J X rec t (some (.invokevirtual 81, nx, tg)) pc lv (x1 :: x0 :: .ref b :: rest) σ = am_JR X rec t pc nx lv rest (rec 234 [.ref b, x0, x1] σ) := J_vG (n := 2) [x0, x1] (by rw [ho]; decide +kernel) rfl h2 (by rw [ho]; decide +kernel) hr
theorem cv_12_232_12 {b : Nat} {x0 : Value} (ho : am_own t = 12) (h2 : am_ci1 (σ.1 b) = some 12) (hr : rest.length ≤ 8) : am_J X rec t (some (.invokevirtual 232, nx, tg)) pc lv (x0 :: .ref b :: rest) σ = am_JR X rec t pc nx lv rest (rec 235 [.ref b, x0] σ) := J_vG (n := 1) [x0] (by rw [ho]; decide +kernel) rfl h2 (by rw [ho]; decide +kernel) hr
theorem cv_13_85_12 {b : Nat} (ho : am_own t = 13) (h2 : am_ci1 (σ.1 b) = some 12) (hr : rest.length ≤ 8) : am_J X rec t (some (.invokevirtual 85, nx, tg)) pc lv (.ref b :: rest) σ = am_JR X rec t pc nx lv rest (rec 237 [.ref b] σ) := J_vG (n := 0) [] (by rw [ho]; decide +kernel) rfl h2 (by rw [ho]; decide +kernel) hr
theorem cv_12_236_12 {b : Nat} (ho : am_own t = 12) (h2 : am_ci1 (σ.1 b) = some 12) (hr : rest.length ≤ 8) : am_J X rec t (some (.invokevirtual 236, nx, tg)) pc lv (.ref b :: rest) σ = am_JR X rec t pc nx lv rest (rec 238 [.ref b] σ) := J_vG (n := 0) [] (by rw [ho]; decide +kernel) rfl h2 (by rw [ho]; decide +kernel) hr
theorem cv_13_89_12 {b : Nat} (ho : am_own t = 13) (h2 : am_ci1 (σ.1 b) = some 12) (hr : rest.length ≤ 8) : am_J X rec t (some (.invokevirtual 89, nx, tg)) pc lv (.ref b :: rest) σ = am_JR X rec t pc nx lv rest (rec 239 [.ref b] σ) := J_vG (n := 0) [] (by rw [ho]; decide +kernel) rfl h2 (by rw [ho]; decide +kernel) hr
theorem cv_12_256_12 {b : Nat} (ho : am_own t = 12) (h2 : am_ci1 (σ.1 b) = some 12) (hr : rest.length ≤ 8) : am_J X rec t (some (.invokevirtual 256, nx, tg)) pc lv (.ref b :: rest) σ = am_JR X rec t pc nx lv rest (rec 240 [.ref b] σ) := J_vG (n := 0) [] (by rw [ho]; decide +kernel) rfl h2 (by rw [ho]; decide +kernel) hr
theorem cv_12_239_12 {b : Nat} (ho : am_own t = 12) (h2 : am_ci1 (σ.1 b) = some 12) (hr : rest.length ≤ 8) : am_J X rec t (some (.invokevirtual 239, nx, tg)) pc lv (.ref b :: rest) σ = am_JR X rec t pc nx lv rest (rec 241 [.ref b] σ) := J_vG (n := 0) [] (by rw [ho]; decide +kernel) rfl h2 (by rw [ho]; decide +kernel) hr
theorem cv_12_249_12 {b : Nat} {x0 x1 : Value} (ho : am_own t = 12) (h2 : am_ci1 (σ.1 b) = some 12) (hr : rest.length ≤ 8) : am_J X rec t (some (.invokevirtual 249, nx, tg)) pc lv (x1 :: x0 :: .ref b :: rest) σ = am_JR X rec t pc nx lv rest (rec 242 [.ref b, x0, x1] σ) := J_vG (n := 2) [x0, x1] (by rw [ho]; decide +kernel) rfl h2 (by rw [ho]; decide +kernel) hr
theorem cv_12_242_12 {b : Nat} (ho : am_own t = 12) (h2 : am_ci1 (σ.1 b) = some 12) (hr : rest.length ≤ 8) : am_J X rec t (some (.invokevirtual 242, nx, tg)) pc lv (.ref b :: rest) σ = am_JR X rec t pc nx lv rest (rec 243 [.ref b] σ) := J_vG (n := 0) [] (by rw [ho]; decide +kernel) rfl h2 (by rw [ho]; decide +kernel) hr
theorem cv_12_245_12 {b : Nat} {x0 : Value} (ho : am_own t = 12) (h2 : am_ci1 (σ.1 b) = some 12) (hr : rest.length ≤ 8) : am_J X rec t (some (.invokevirtual 245, nx, tg)) pc lv (x0 :: .ref b :: rest) σ = am_JR X rec t pc nx lv rest (rec 244 [.ref b, x0] σ) := J_vG (n := 1) [x0] (by rw [ho]; decide +kernel) rfl h2 (by rw [ho]; decide +kernel) hr
theorem cv_12_253_12 {b : Nat} {x0 : Value} (ho : am_own t = 12) (h2 : am_ci1 (σ.1 b) = some 12) (hr : rest.length ≤ 8) : am_J X rec t (some (.invokevirtual 253, nx, tg)) pc lv (x0 :: .ref b :: rest) σ = am_JR X rec t pc nx lv rest (rec 245 [.ref b, x0] σ) := J_vG (n := 1) [x0] (by rw [ho]; decide +kernel) rfl h2 (by rw [ho]; decide +kernel) hr
theorem cv_13_93_12 {b : Nat} (ho : am_own t = 13) (h2 : am_ci1 (σ.1 b) = some 12) (hr : rest.length ≤ 8) : am_J X rec t (some (.invokevirtual 93, nx, tg)) pc lv (.ref b :: rest) σ = am_JR X rec t pc nx lv rest (rec 246 [.ref b] σ) := J_vG (n := 0) [] (by rw [ho]; decide +kernel) rfl h2 (by rw [ho]; decide +kernel) hr
theorem cv_12_262_12 {b : Nat} (ho : am_own t = 12) (h2 : am_ci1 (σ.1 b) = some 12) (hr : rest.length ≤ 8) : am_J X rec t (some (.invokevirtual 262, nx, tg)) pc lv (.ref b :: rest) σ = am_JR X rec t pc nx lv rest (rec 247 [.ref b] σ) := J_vG (n := 0) [] (by rw [ho]; decide +kernel) rfl h2 (by rw [ho]; decide +kernel) hr
theorem cv_12_259_12 {b : Nat} (ho : am_own t = 12) (h2 : am_ci1 (σ.1 b) = some 12) (hr : rest.length ≤ 8) : am_J X rec t (some (.invokevirtual 259, nx, tg)) pc lv (.ref b :: rest) σ = am_JR X rec t pc nx lv rest (rec 248 [.ref b] σ) := J_vG (n := 0) [] (by rw [ho]; decide +kernel) rfl h2 (by rw [ho]; decide +kernel) hr
theorem cv_13_97_12 {b : Nat} (ho : am_own t = 13) (h2 : am_ci1 (σ.1 b) = some 12) (hr : rest.length ≤ 8) : am_J X rec t (some (.invokevirtual 97, nx, tg)) pc lv (.ref b :: rest) σ = am_JR X rec t pc nx lv rest (rec 249 [.ref b] σ) := J_vG (n := 0) [] (by rw [ho]; decide +kernel) rfl h2 (by rw [ho]; decide +kernel) hr
theorem cv_13_101_12 {b : Nat} (ho : am_own t = 13) (h2 : am_ci1 (σ.1 b) = some 12) (hr : rest.length ≤ 8) : am_J X rec t (some (.invokevirtual 101, nx, tg)) pc lv (.ref b :: rest) σ = am_JR X rec t pc nx lv rest (rec 250 [.ref b] σ) := J_vG (n := 0) [] (by rw [ho]; decide +kernel) rfl h2 (by rw [ho]; decide +kernel) hr
theorem cv_13_105_12 {b : Nat} (ho : am_own t = 13) (h2 : am_ci1 (σ.1 b) = some 12) (hr : rest.length ≤ 8) : am_J X rec t (some (.invokevirtual 105, nx, tg)) pc lv (.ref b :: rest) σ = am_JR X rec t pc nx lv rest (rec 251 [.ref b] σ) := J_vG (n := 0) [] (by rw [ho]; decide +kernel) rfl h2 (by rw [ho]; decide +kernel) hr
theorem cv_12_265_12 {b : Nat} (ho : am_own t = 12) (h2 : am_ci1 (σ.1 b) = some 12) (hr : rest.length ≤ 8) : am_J X rec t (some (.invokevirtual 265, nx, tg)) pc lv (.ref b :: rest) σ = am_JR X rec t pc nx lv rest (rec 252 [.ref b] σ) := J_vG (n := 0) [] (by rw [ho]; decide +kernel) rfl h2 (by rw [ho]; decide +kernel) hr
theorem cv_13_109_12 {b : Nat} {x0 x1 : Value} (ho : am_own t = 13) (h2 : am_ci1 (σ.1 b) = some 12) (hr : rest.length ≤ 8) : am_J X rec t (some (.invokevirtual 109, nx, tg)) pc lv (x1 :: x0 :: .ref b :: rest) σ = am_JR X rec t pc nx lv rest (rec 253 [.ref b, x0, x1] σ) := J_vG (n := 2) [x0, x1] (by rw [ho]; decide +kernel) rfl h2 (by rw [ho]; decide +kernel) hr
theorem cv_12_271_12 {b : Nat} {x0 x1 : Value} (ho : am_own t = 12) (h2 : am_ci1 (σ.1 b) = some 12) (hr : rest.length ≤ 8) : am_J X rec t (some (.invokevirtual 271, nx, tg)) pc lv (x1 :: x0 :: .ref b :: rest) σ = am_JR X rec t pc nx lv rest (rec 254 [.ref b, x0, x1] σ) := J_vG (n := 2) [x0, x1] (by rw [ho]; decide +kernel) rfl h2 (by rw [ho]; decide +kernel) hr
theorem cv_12_268_12 {b : Nat} {x0 : Value} (ho : am_own t = 12) (h2 : am_ci1 (σ.1 b) = some 12) (hr : rest.length ≤ 8) : am_J X rec t (some (.invokevirtual 268, nx, tg)) pc lv (x0 :: .ref b :: rest) σ = am_JR X rec t pc nx lv rest (rec 255 [.ref b, x0] σ) := J_vG (n := 1) [x0] (by rw [ho]; decide +kernel) rfl h2 (by rw [ho]; decide +kernel) hr
theorem cv_13_113_12 {b : Nat} {x0 : Value} (ho : am_own t = 13) (h2 : am_ci1 (σ.1 b) = some 12) (hr : rest.length ≤ 8) : am_J X rec t (some (.invokevirtual 113, nx, tg)) pc lv (x0 :: .ref b :: rest) σ = am_JR X rec t pc nx lv rest (rec 256 [.ref b, x0] σ) := J_vG (n := 1) [x0] (by rw [ho]; decide +kernel) rfl h2 (by rw [ho]; decide +kernel) hr
theorem cv_12_276_12 {b : Nat} {x0 x1 : Value} (ho : am_own t = 12) (h2 : am_ci1 (σ.1 b) = some 12) (hr : rest.length ≤ 8) : am_J X rec t (some (.invokevirtual 276, nx, tg)) pc lv (x1 :: x0 :: .ref b :: rest) σ = am_JR X rec t pc nx lv rest (rec 257 [.ref b, x0, x1] σ) := J_vG (n := 2) [x0, x1] (by rw [ho]; decide +kernel) rfl h2 (by rw [ho]; decide +kernel) hr
theorem cv_13_117_12 {b : Nat} {x0 : Value} (ho : am_own t = 13) (h2 : am_ci1 (σ.1 b) = some 12) (hr : rest.length ≤ 8) : am_J X rec t (some (.invokevirtual 117, nx, tg)) pc lv (x0 :: .ref b :: rest) σ = am_JR X rec t pc nx lv rest (rec 258 [.ref b, x0] σ) := J_vG (n := 1) [x0] (by rw [ho]; decide +kernel) rfl h2 (by rw [ho]; decide +kernel) hr
theorem cv_12_280_12 {b : Nat} (ho : am_own t = 12) (h2 : am_ci1 (σ.1 b) = some 12) (hr : rest.length ≤ 8) : am_J X rec t (some (.invokevirtual 280, nx, tg)) pc lv (.ref b :: rest) σ = am_JR X rec t pc nx lv rest (rec 259 [.ref b] σ) := J_vG (n := 0) [] (by rw [ho]; decide +kernel) rfl h2 (by rw [ho]; decide +kernel) hr
theorem cv_12_283_12 {b : Nat} (ho : am_own t = 12) (h2 : am_ci1 (σ.1 b) = some 12) (hr : rest.length ≤ 8) : am_J X rec t (some (.invokevirtual 283, nx, tg)) pc lv (.ref b :: rest) σ = am_JR X rec t pc nx lv rest (rec 260 [.ref b] σ) := J_vG (n := 0) [] (by rw [ho]; decide +kernel) rfl h2 (by rw [ho]; decide +kernel) hr
theorem cv_13_122_12 {b : Nat} {x0 : Value} (ho : am_own t = 13) (h2 : am_ci1 (σ.1 b) = some 12) (hr : rest.length ≤ 8) : am_J X rec t (some (.invokevirtual 122, nx, tg)) pc lv (x0 :: .ref b :: rest) σ = am_JR X rec t pc nx lv rest (rec 261 [.ref b, x0] σ) := J_vG (n := 1) [x0] (by rw [ho]; decide +kernel) rfl h2 (by rw [ho]; decide +kernel) hr
theorem cv_12_286_12 {b : Nat} {x0 x1 : Value} (ho : am_own t = 12) (h2 : am_ci1 (σ.1 b) = some 12) (hr : rest.length ≤ 8) : am_J X rec t (some (.invokevirtual 286, nx, tg)) pc lv (x1 :: x0 :: .ref b :: rest) σ = am_JR X rec t pc nx lv rest (rec 262 [.ref b, x0, x1] σ) := J_vG (n := 2) [x0, x1] (by rw [ho]; decide +kernel) rfl h2 (by rw [ho]; decide +kernel) hr
theorem cv_13_126_12 {b : Nat} (ho : am_own t = 13) (h2 : am_ci1 (σ.1 b) = some 12) (hr : rest.length ≤ 8) : am_J X rec t (some (.invokevirtual 126, nx, tg)) pc lv (.ref b :: rest) σ = am_JR X rec t pc nx lv rest (rec 263 [.ref b] σ) := J_vG (n := 0) [] (by rw [ho]; decide +kernel) rfl h2 (by rw [ho]; decide +kernel) hr
theorem cv_12_296_12 {b : Nat} {x0 x1 x2 : Value} (ho : am_own t = 12) (h2 : am_ci1 (σ.1 b) = some 12) (hr : rest.length ≤ 8) : am_J X rec t (some (.invokevirtual 296, nx, tg)) pc lv (x2 :: x1 :: x0 :: .ref b :: rest) σ = am_JR X rec t pc nx lv rest (rec 264 [.ref b, x0, x1, x2] σ) := J_vG (n := 3) [x0, x1, x2] (by rw [ho]; decide +kernel) rfl h2 (by rw [ho]; decide +kernel) hr
theorem cv_13_132_12 {b : Nat} {x0 x1 : Value} (ho : am_own t = 13) (h2 : am_ci1 (σ.1 b) = some 12) (hr : rest.length ≤ 8) : am_J X rec t (some (.invokevirtual 132, nx, tg)) pc lv (x1 :: x0 :: .ref b :: rest) σ = am_JR X rec t pc nx lv rest (rec 265 [.ref b, x0, x1] σ) := J_vG (n := 2) [x0, x1] (by rw [ho]; decide +kernel) rfl h2 (by rw [ho]; decide +kernel) hr
theorem cv_12_312_12 {b : Nat} {x0 : Value} (ho : am_own t = 12) (h2 : am_ci1 (σ.1 b) = some 12) (hr : rest.length ≤ 8) : am_J X rec t (some (.invokevirtual 312, nx, tg)) pc lv (x0 :: .ref b :: rest) σ = am_JR X rec t pc nx lv rest (rec 266 [.ref b, x0] σ) := J_vG (n := 1) [x0] (by rw [ho]; decide +kernel) rfl h2 (by rw [ho]; decide +kernel) hr
theorem cv_12_309_12 {b : Nat} {x0 : Value} (ho : am_own t = 12) (h2 : am_ci1 (σ.1 b) = some 12) (hr : rest.length ≤ 8) : am_J X rec t (some (.invokevirtual 309, nx, tg)) pc lv (x0 :: .ref b :: rest) σ = am_JR X rec t pc nx lv rest (rec 267 [.ref b, x0] σ) := J_vG (n := 1) [x0] (by rw [ho]; decide +kernel) rfl h2 (by rw [ho]; decide +kernel) hr
theorem cv_12_306_12 {b : Nat} {x0 : Value} (ho : am_own t = 12) (h2 : am_ci1 (σ.1 b) = some 12) (hr : rest.length ≤ 8) : am_J X rec t (some (.invokevirtual 306, nx, tg)) pc lv (x0 :: .ref b :: rest) σ = am_JR X rec t pc nx lv rest (rec 268 [.ref b, x0] σ) := J_vG (n := 1) [x0] (by rw [ho]; decide +kernel) rfl h2 (by rw [ho]; decide +kernel) hr
theorem cv_13_139_12 {b : Nat} (ho : am_own t = 13) (h2 : am_ci1 (σ.1 b) = some 12) (hr : rest.length ≤ 8) : am_J X rec t (some (.invokevirtual 139, nx, tg)) pc lv (.ref b :: rest) σ = am_JR X rec t pc nx lv rest (rec 269 [.ref b] σ) := J_vG (n := 0) [] (by rw [ho]; decide +kernel) rfl h2 (by rw [ho]; decide +kernel) hr
theorem cv_13_143_12 {b : Nat} (ho : am_own t = 13) (h2 : am_ci1 (σ.1 b) = some 12) (hr : rest.length ≤ 8) : am_J X rec t (some (.invokevirtual 143, nx, tg)) pc lv (.ref b :: rest) σ = am_JR X rec t pc nx lv rest (rec 270 [.ref b] σ) := J_vG (n := 0) [] (by rw [ho]; decide +kernel) rfl h2 (by rw [ho]; decide +kernel) hr
theorem cv_13_147_12 {b : Nat} {x0 : Value} (ho : am_own t = 13) (h2 : am_ci1 (σ.1 b) = some 12) (hr : rest.length ≤ 8) : am_J X rec t (some (.invokevirtual 147, nx, tg)) pc lv (x0 :: .ref b :: rest) σ = am_JR X rec t pc nx lv rest (rec 271 [.ref b, x0] σ) := J_vG (n := 1) [x0] (by rw [ho]; decide +kernel) rfl h2 (by rw [ho]; decide +kernel) hr
theorem cv_13_151_12 {b : Nat} {x0 x1 x2 : Value} (ho : am_own t = 13) (h2 : am_ci1 (σ.1 b) = some 12) (hr : rest.length ≤ 8) : am_J X rec t (some (.invokevirtual 151, nx, tg)) pc lv (x2 :: x1 :: x0 :: .ref b :: rest) σ = am_JR X rec t pc nx lv rest (rec 272 [.ref b, x0, x1, x2] σ) := J_vG (n := 3) [x0, x1, x2] (by rw [ho]; decide +kernel) rfl h2 (by rw [ho]; decide +kernel) hr
theorem cv_12_319_12 {b : Nat} {x0 : Value} (ho : am_own t = 12) (h2 : am_ci1 (σ.1 b) = some 12) (hr : rest.length ≤ 8) : am_J X rec t (some (.invokevirtual 319, nx, tg)) pc lv (x0 :: .ref b :: rest) σ = am_JR X rec t pc nx lv rest (rec 273 [.ref b, x0] σ) := J_vG (n := 1) [x0] (by rw [ho]; decide +kernel) rfl h2 (by rw [ho]; decide +kernel) hr
theorem cv_13_155_12 {b : Nat} {x0 x1 x2 : Value} (ho : am_own t = 13) (h2 : am_ci1 (σ.1 b) = some 12) (hr : rest.length ≤ 8) : am_J X rec t (some (.invokevirtual 155, nx, tg)) pc lv (x2 :: x1 :: x0 :: .ref b :: rest) σ = am_JR X rec t pc nx lv rest (rec 274 [.ref b, x0, x1, x2] σ) := J_vG (n := 3) [x0, x1, x2] (by rw [ho]; decide +kernel) rfl h2 (by rw [ho]; decide +kernel) hr
theorem cv_13_159_12 {b : Nat} {x0 x1 x2 : Value} (ho : am_own t = 13) (h2 : am_ci1 (σ.1 b) = some 12) (hr : rest.length ≤ 8) : am_J X rec t (some (.invokevirtual 159, nx, tg)) pc lv (x2 :: x1 :: x0 :: .ref b :: rest) σ = am_JR X rec t pc nx lv rest (rec 275 [.ref b, x0, x1, x2] σ) := J_vG (n := 3) [x0, x1, x2] (by rw [ho]; decide +kernel) rfl h2 (by rw [ho]; decide +kernel) hr
theorem cv_13_162_12 {b : Nat} {x0 x1 : Value} (ho : am_own t = 13) (h2 : am_ci1 (σ.1 b) = some 12) (hr : rest.length ≤ 8) : am_J X rec t (some (.invokevirtual 162, nx, tg)) pc lv (x1 :: x0 :: .ref b :: rest) σ = am_JR X rec t pc nx lv rest (rec 276 [.ref b, x0, x1] σ) := J_vG (n := 2) [x0, x1] (by rw [ho]; decide +kernel) rfl h2 (by rw [ho]; decide +kernel) hr
theorem cv_13_167_12 {b : Nat} {x0 x1 x2 x3 x4 : Value} (ho : am_own t = 13) (h2 : am_ci1 (σ.1 b) = some 12) (hr : rest.length ≤ 8) : am_J X rec t (some (.invokevirtual 167, nx, tg)) pc lv (x4 :: x3 :: x2 :: x1 :: x0 :: .ref b :: rest) σ = am_JR X rec t pc nx lv rest (rec 277 [.ref b, x0, x1, x2, x3, x4] σ) := J_vG (n := 5) [x0, x1, x2, x3, x4] (by rw [ho]; decide +kernel) rfl h2 (by rw [ho]; decide +kernel) hr
theorem cv_13_171_12 {b : Nat} {x0 : Value} (ho : am_own t = 13) (h2 : am_ci1 (σ.1 b) = some 12) (hr : rest.length ≤ 8) : am_J X rec t (some (.invokevirtual 171, nx, tg)) pc lv (x0 :: .ref b :: rest) σ = am_JR X rec t pc nx lv rest (rec 278 [.ref b, x0] σ) := J_vG (n := 1) [x0] (by rw [ho]; decide +kernel) rfl h2 (by rw [ho]; decide +kernel) hr
theorem cv_12_322_12 {b : Nat} {x0 : Value} (ho : am_own t = 12) (h2 : am_ci1 (σ.1 b) = some 12) (hr : rest.length ≤ 8) : am_J X rec t (some (.invokevirtual 322, nx, tg)) pc lv (x0 :: .ref b :: rest) σ = am_JR X rec t pc nx lv rest (rec 279 [.ref b, x0] σ) := J_vG (n := 1) [x0] (by rw [ho]; decide +kernel) rfl h2 (by rw [ho]; decide +kernel) hr
theorem cv_13_175_12 {b : Nat} {x0 : Value} (ho : am_own t = 13) (h2 : am_ci1 (σ.1 b) = some 12) (hr : rest.length ≤ 8) : am_J X rec t (some (.invokevirtual 175, nx, tg)) pc lv (x0 :: .ref b :: rest) σ = am_JR X rec t pc nx lv rest (rec 280 [.ref b, x0] σ) := J_vG (n := 1) [x0] (by rw [ho]; decide +kernel) rfl h2 (by rw [ho]; decide +kernel) hr
theorem cs_0_73 {x0 : Value} (ho : am_own t = 0) (hr : rest.length ≤ 8) : am_J X rec t (some (.invokestatic 73, nx, tg)) pc lv (x0 :: rest) σ = am_JR X rec t pc nx lv rest (rec 7 [x0] σ) := J_sG (n := 1) [x0] (by rw [ho]; decide +kernel) (by rw [ho]; decide +kernel) (by rw [ho]; decide +kernel) rfl hr
theorem cs_3_63 {x0 : Value} (ho : am_own t = 3) (hr : rest.length ≤ 8) : am_J X rec t (some (.invokestatic 63, nx, tg)) pc lv (x0 :: rest) σ = am_JR X rec t pc nx lv rest (rec 14 [x0] σ) := J_sG (n := 1) [x0] (by rw [ho]; decide +kernel) (by rw [ho]; decide +kernel) (by rw [ho]; decide +kernel) rfl hr
theorem cs_1_54 {x0 x1 : Value} (ho : am_own t = 1) (hr : rest.length ≤ 8) : am_J X rec t (some (.invokestatic 54, nx, tg)) pc lv (x1 :: x0 :: rest) σ = am_JR X rec t pc nx lv rest (rec 21 [x0, x1] σ) := J_sG (n := 2) [x0, x1] (by rw [ho]; decide +kernel) (by rw [ho]; decide +kernel) (by rw [ho]; decide +kernel) rfl hr
theorem cs_1_142 {x0 x1 : Value} (ho : am_own t = 1) (hr : rest.length ≤ 8) : am_J X rec t (some (.invokestatic 142, nx, tg)) pc lv (x1 :: x0 :: rest) σ = am_JR X rec t pc nx lv rest (rec 26 [x0, x1] σ) := J_sG (n := 2) [x0, x1] (by rw [ho]; decide +kernel) (by rw [ho]; decide +kernel) (by rw [ho]; decide +kernel) rfl hr
theorem cs_3_124 {x0 x1 : Value} (ho : am_own t = 3) (hr : rest.length ≤ 8) : am_J X rec t (some (.invokestatic 124, nx, tg)) pc lv (x1 :: x0 :: rest) σ = am_JR X rec t pc nx lv rest (rec 30 [x0, x1] σ) := J_sG (n := 2) [x0, x1] (by rw [ho]; decide +kernel) (by rw [ho]; decide +kernel) (by rw [ho]; decide +kernel) rfl hr
theorem cs_3_148 {x0 x1 : Value} (ho : am_own t = 3) (hr : rest.length ≤ 8) : am_J X rec t (some (.invokestatic 148, nx, tg)) pc lv (x1 :: x0 :: rest) σ = am_JR X rec t pc nx lv rest (rec 37 [x0, x1] σ) := J_sG (n := 2) [x0, x1] (by rw [ho]; decide +kernel) (by rw [ho]; decide +kernel) (by rw [ho]; decide +kernel) rfl hr
theorem cs_2_24 {x0 x1 : Value} (ho : am_own t = 2) (hr : rest.length ≤ 8) : am_J X rec t (some (.invokestatic 24, nx, tg)) pc lv (x1 :: x0 :: rest) σ = am_JR X rec t pc nx lv rest (rec 21 [x0, x1] σ) := J_sG (n := 2) [x0, x1] (by rw [ho]; decide +kernel) (by rw [ho]; decide +kernel) (by rw [ho]; decide +kernel) rfl hr
theorem cs_1_91 {x0 x1 : Value} (ho : am_own t = 1) (hr : rest.length ≤ 8) : am_J X rec t (some (.invokestatic 91, nx, tg)) pc lv (x1 :: x0 :: rest) σ = am_JR X rec t pc nx lv rest (rec 86 [x0, x1] σ) := J_sG (n := 2) [x0, x1] (by rw [ho]; decide +kernel) (by rw [ho]; decide +kernel) (by rw [ho]; decide +kernel) rfl hr
theorem cs_4_154 {x0 x1 : Value} (ho : am_own t = 4) (hr : rest.length ≤ 8) : am_J X rec t (some (.invokestatic 154, nx, tg)) pc lv (x1 :: x0 :: rest) σ = am_JR X rec t pc nx lv rest (rec 86 [x0, x1] σ) := J_sG (n := 2) [x0, x1] (by rw [ho]; decide +kernel) (by rw [ho]; decide +kernel) (by rw [ho]; decide +kernel) rfl hr
theorem cs_4_216 {x0 x1 : Value} (ho : am_own t = 4) (hr : rest.length ≤ 8) : am_J X rec t (some (.invokestatic 216, nx, tg)) pc lv (x1 :: x0 :: rest) σ = am_JR X rec t pc nx lv rest (rec 134 [x0, x1] σ) := J_sG (n := 2) [x0, x1] (by rw [ho]; decide +kernel) (by rw [ho]; decide +kernel) (by rw [ho]; decide +kernel) rfl hr
theorem cs_4_225 {x0 x1 x2 x3 : Value} (ho : am_own t = 4) (hr : rest.length ≤ 8) : am_J X rec t (some (.invokestatic 225, nx, tg)) pc lv (x3 :: x2 :: x1 :: x0 :: rest) σ = am_JR X rec t pc nx lv rest (rec 136 [x0, x1, x2, x3] σ) := J_sG (n := 4) [x0, x1, x2, x3] (by rw [ho]; decide +kernel) (by rw [ho]; decide +kernel) (by rw [ho]; decide +kernel) rfl hr
theorem cs_0_281 {x0 x1 : Value} (ho : am_own t = 0) (hr : rest.length ≤ 8) : am_J X rec t (some (.invokestatic 281, nx, tg)) pc lv (x1 :: x0 :: rest) σ = am_JR X rec t pc nx lv rest (rec 21 [x0, x1] σ) := J_sG (n := 2) [x0, x1] (by rw [ho]; decide +kernel) (by rw [ho]; decide +kernel) (by rw [ho]; decide +kernel) rfl hr
theorem cs_0_287 {x0 x1 : Value} (ho : am_own t = 0) (hr : rest.length ≤ 8) : am_J X rec t (some (.invokestatic 287, nx, tg)) pc lv (x1 :: x0 :: rest) σ = am_JR X rec t pc nx lv rest (rec 167 [x0, x1] σ) := J_sG (n := 2) [x0, x1] (by rw [ho]; decide +kernel) (by rw [ho]; decide +kernel) (by rw [ho]; decide +kernel) rfl hr
theorem cs_13_127 {x0 x1 x2 x3 : Value} (ho : am_own t = 13) (hr : rest.length ≤ 8) : am_J X rec t (some (.invokestatic 127, nx, tg)) pc lv (x3 :: x2 :: x1 :: x0 :: rest) σ = am_JR X rec t pc nx lv rest (rec 185 [x0, x1, x2, x3] σ) := J_sG (n := 4) [x0, x1, x2, x3] (by rw [ho]; decide +kernel) (by rw [ho]; decide +kernel) (by rw [ho]; decide +kernel) rfl hr
theorem cs_13_160 {x0 x1 x2 x3 : Value} (ho : am_own t = 13) (hr : rest.length ≤ 8) : am_J X rec t (some (.invokestatic 160, nx, tg)) pc lv (x3 :: x2 :: x1 :: x0 :: rest) σ = am_JR X rec t pc nx lv rest (rec 190 [x0, x1, x2, x3] σ) := J_sG (n := 4) [x0, x1, x2, x3] (by rw [ho]; decide +kernel) (by rw [ho]; decide +kernel) (by rw [ho]; decide +kernel) rfl hr
theorem cs_12_158 {x0 : Value} (ho : am_own t = 12) (hr : rest.length ≤ 8) : am_J X rec t (some (.invokestatic 158, nx, tg)) pc lv (x0 :: rest) σ = am_JR X rec t pc nx lv rest (rec 196 [x0] σ) := J_sG (n := 1) [x0] (by rw [ho]; decide +kernel) (by rw [ho]; decide +kernel) (by rw [ho]; decide +kernel) rfl hr
theorem cs_12_73 {x0 x1 x2 : Value} (ho : am_own t = 12) (hr : rest.length ≤ 8) : am_J X rec t (some (.invokestatic 73, nx, tg)) pc lv (x2 :: x1 :: x0 :: rest) σ = am_JR X rec t pc nx lv rest (rec 197 [x0, x1, x2] σ) := J_sG (n := 3) [x0, x1, x2] (by rw [ho]; decide +kernel) (by rw [ho]; decide +kernel) (by rw [ho]; decide +kernel) rfl hr
theorem cs_12_226 {x0 x1 : Value} (ho : am_own t = 12) (hr : rest.length ≤ 8) : am_J X rec t (some (.invokestatic 226, nx, tg)) pc lv (x1 :: x0 :: rest) σ = am_JR X rec t pc nx lv rest (rec 236 [x0, x1] σ) := J_sG (n := 2) [x0, x1] (by rw [ho]; decide +kernel) (by rw [ho]; decide +kernel) (by rw [ho]; decide +kernel) rfl hr
theorem cn_13_20 {b ci : Nat} {fs : List Value} (ho : am_own t = 13) (h2 : σ.1 b = some (.inr (ci, fs))) (hr : rest.length ≤ 8) : am_J X rec t (some (.invokespecial 20, nx, tg)) pc lv (.ref b :: rest) σ = am_JR X rec t pc nx lv rest (rec 0 [.ref b] σ) := J_iG (n := 0) (ci := ci) [] (by rw [ho]; decide +kernel) (by rw [ho]; decide +kernel) rfl (by rw [h2]; rfl) hr
theorem cn_0_11 {b ci : Nat} {fs : List Value} (ho : am_own t = 0) (h2 : σ.1 b = some (.inr (ci, fs))) (hr : rest.length ≤ 8) : am_J X rec t (some (.invokespecial 11, nx, tg)) pc lv (.ref b :: rest) σ = am_JR X rec t pc nx lv rest (rec 1 [.ref b] σ) := J_iG (n := 0) (ci := ci) [] (by rw [ho]; decide +kernel) (by rw [ho]; decide +kernel) rfl (by rw [h2]; rfl) hr
theorem cn_0_18 {b ci : Nat} {fs : List Value} (ho : am_own t = 0) (h2 : σ.1 b = some (.inr (ci, fs))) (hr : rest.length ≤ 8) : am_J X rec t (some (.invokespecial 18, nx, tg)) pc lv (.ref b :: rest) σ = am_JR X rec t pc nx lv rest (rec 2 [.ref b] σ) := J_iG (n := 0) (ci := ci) [] (by rw [ho]; decide +kernel) (by rw [ho]; decide +kernel) rfl (by rw [h2]; rfl) hr
theorem cn_0_31 {b ci : Nat} {fs : List Value} (ho : am_own t = 0) (h2 : σ.1 b = some (.inr (ci, fs))) (hr : rest.length ≤ 8) : am_J X rec t (some (.invokespecial 31, nx, tg)) pc lv (.ref b :: rest) σ = am_JR X rec t pc nx lv rest (rec 3 [.ref b] σ) := J_iG (n := 0) (ci := ci) [] (by rw [ho]; decide +kernel) (by rw [ho]; decide +kernel) rfl (by rw [h2]; rfl) hr
theorem cn_3_17 {b ci : Nat} {fs : List Value} (ho : am_own t = 3) (h2 : σ.1 b = some (.inr (ci, fs))) (hr : rest.length ≤ 8) : am_J X rec t (some (.invokespecial 17, nx, tg)) pc lv (.ref b :: rest) σ = am_JR X rec t pc nx lv rest (rec 1 [.ref b] σ) := J_iG (n := 0) (ci := ci) [] (by rw [ho]; decide +kernel) (by rw [ho]; decide +kernel) rfl (by rw [h2]; rfl) hr
theorem cn_0_38 {b ci : Nat} {fs : List Value} {x0 : Value} (ho : am_own t = 0) (h2 : σ.1 b = some (.inr (ci, fs))) (hr : rest.length ≤ 8) : am_J X rec t (some (.invokespecial 38, nx, tg)) pc lv (x0 :: .ref b :: rest) σ = am_JR X rec t pc nx lv rest (rec 4 [.ref b, x0] σ) := J_iG (n := 1) (ci := ci) [x0] (by rw [ho]; decide +kernel) (by rw [ho]; decide +kernel) rfl (by rw [h2]; rfl) hr
theorem cn_0_47 {b ci : Nat} {fs : List Value} {x0 : Value} (ho : am_own t = 0) (h2 : σ.1 b = some (.inr (ci, fs))) (hr : rest.length ≤ 8) : am_J X rec t (some (.invokespecial 47, nx, tg)) pc lv (x0 :: .ref b :: rest) σ = am_JR X rec t pc nx lv rest (rec 5 [.ref b, x0] σ) := J_iG (n := 1) (ci := ci) [x0] (by rw [ho]; decide +kernel) (by rw [ho]; decide +kernel) rfl (by rw [h2]; rfl) hr
theorem cn_3_156 {b ci : Nat} {fs : List Value} {x0 x1 x2 x3 x4 x5 : Value} (ho : am_own t = 3) (h2 : σ.1 b = some (.inr (ci, fs))) (hr : rest.length ≤ 8) : am_J X rec t (some (.invokespecial 156, nx, tg)) pc lv (x5 :: x4 :: x3 :: x2 :: x1 :: x0 :: .ref b :: rest) σ = am_JR X rec t pc nx lv rest (rec 38 [.ref b, x0, x1, x2, x3, x4, x5] σ) := J_iG (n := 6) (ci := ci) [x0, x1, x2, x3, x4, x5] (by rw [ho]; decide +kernel) (by rw [ho]; decide +kernel) rfl (by rw [h2]; rfl) hr
theorem cn_7_1 {b ci : Nat} {fs : List Value} {x0 x1 x2 x3 x4 : Value} (ho : am_own t = 7) (h2 : σ.1 b = some (.inr (ci, fs))) (hr : rest.length ≤ 8) : am_J X rec t (some (.invokespecial 1, nx, tg)) pc lv (x4 :: x3 :: x2 :: x1 :: x0 :: .ref b :: rest) σ = am_JR X rec t pc nx lv rest (rec 39 [.ref b, x0, x1, x2, x3, x4] σ) := J_iG (n := 5) (ci := ci) [x0, x1, x2, x3, x4] (by rw [ho]; decide +kernel) (by rw [ho]; decide +kernel) rfl (by rw [h2]; rfl) hr
theorem cn_3_161 {b ci : Nat} {fs : List Value} {x0 x1 x2 x3 x4 : Value} (ho : am_own t = 3) (h2 : σ.1 b = some (.inr (ci, fs))) (hr : rest.length ≤ 8) : am_J X rec t (some (.invokespecial 161, nx, tg)) pc lv (x4 :: x3 :: x2 :: x1 :: x0 :: .ref b :: rest) σ = am_JR X rec t pc nx lv rest (rec 40 [.ref b, x0, x1, x2, x3, x4] σ) := J_iG (n := 5) (ci := ci) [x0, x1, x2, x3, x4] (by rw [ho]; decide +kernel) (by rw [ho]; decide +kernel) rfl (by rw [h2]; rfl) hr
theorem cn_8_1 {b ci : Nat} {fs : List Value} {x0 x1 x2 x3 x4 : Value} (ho : am_own t = 8) (h2 : σ.1 b = some (.inr (ci, fs))) (hr : rest.length ≤ 8) : am_J X rec t (some (.invokespecial 1, nx, tg)) pc lv (x4 :: x3 :: x2 :: x1 :: x0 :: .ref b :: rest) σ = am_JR X rec t pc nx lv rest (rec 39 [.ref b, x0, x1, x2, x3, x4] σ) := J_iG (n := 5) (ci := ci) [x0, x1, x2, x3, x4] (by rw [ho]; decide +kernel) (by rw [ho]; decide +kernel) rfl (by rw [h2]; rfl) hr
theorem cn_3_166 {b ci : Nat} {fs : List Value} {x0 x1 x2 x3 x4 x5 : Value} (ho : am_own t = 3) (h2 : σ.1 b = some (.inr (ci, fs))) (hr : rest.length ≤ 8) : am_J X rec t (some (.invokespecial 166, nx, tg)) pc lv (x5 :: x4 :: x3 :: x2 :: x1 :: x0 :: .ref b :: rest) σ = am_JR X rec t pc nx lv rest (rec 41 [.ref b, x0, x1, x2, x3, x4, x5] σ) := J_iG (n := 6) (ci := ci) [x0, x1, x2, x3, x4, x5] (by rw [ho]; decide +kernel) (by rw [ho]; decide +kernel) rfl (by rw [h2]; rfl) hr
theorem cn_9_1 {b ci : Nat} {fs : List Value} {x0 x1 x2 x3 x4 : Value} (ho : am_own t = 9) (h2 : σ.1 b = some (.inr (ci, fs))) (hr : rest.length ≤ 8) : am_J X rec t (some (.invokespecial 1, nx, tg)) pc lv (x4 :: x3 :: x2 :: x1 :: x0 :: .ref b :: rest) σ = am_JR X rec t pc nx lv rest (rec 39 [.ref b, x0, x1, x2, x3, x4] σ) := J_iG (n := 5) (ci := ci) [x0, x1, x2, x3, x4] (by rw [ho]; decide +kernel) (by rw [ho]; decide +kernel) rfl (by rw [h2]; rfl) hr
theorem cn_3_169 {b ci : Nat} {fs : List Value} {x0 x1 x2 x3 x4 x5 x6 : Value} (ho : am_own t = 3) (h2 : σ.1 b = some (.inr (ci, fs))) (hr : rest.length ≤ 8) : am_J X rec t (some (.invokespecial 169, nx, tg)) pc lv (x6 :: x5 :: x4 :: x3 :: x2 :: x1 :: x0 :: .ref b :: rest) σ = am_JR X rec t pc nx lv rest (rec 42 [.ref b, x0, x1, x2, x3, x4, x5, x6] σ) := J_iG (n := 7) (ci := ci) [x0, x1, x2, x3, x4, x5, x6] (by rw [ho]; decide +kernel) (by rw [ho]; decide +kernel) rfl (by rw [h2]; rfl) hr
theorem cn_10_1 {b ci : Nat} {fs : List Value} {x0 x1 x2 x3 x4 x5 : Value} (ho : am_own t = 10) (h2 : σ.1 b = some (.inr (ci, fs))) (hr : rest.length ≤ 8) : am_J X rec t (some (.invokespecial 1, nx, tg)) pc lv (x5 :: x4 :: x3 :: x2 :: x1 :: x0 :: .ref b :: rest) σ = am_JR X rec t pc nx lv rest (rec 41 [.ref b, x0, x1, x2, x3, x4, x5] σ) := J_iG (n := 6) (ci := ci) [x0, x1, x2, x3, x4, x5] (by rw [ho]; decide +kernel) (by rw [ho]; decide +kernel) rfl (by rw [h2]; rfl) hr
theorem cn_3_174 {b ci : Nat} {fs : List Value} {x0 x1 x2 x3 x4 x5 : Value} (ho : am_own t = 3) (h2 : σ.1 b = some (.inr (ci, fs))) (hr : rest.length ≤ 8) : am_J X rec t (some (.invokespecial 174, nx, tg)) pc lv (x5 :: x4 :: x3 :: x2 :: x1 :: x0 :: .ref b :: rest) σ = am_JR X rec t pc nx lv rest (rec 43 [.ref b, x0, x1, x2, x3, x4, x5] σ) := J_iG (n := 6) (ci := ci) [x0, x1, x2, x3, x4, x5] (by rw [ho]; decide +kernel) (by rw [ho]; decide +kernel) rfl (by rw [h2]; rfl) hr
theorem cn_11_1 {b ci : Nat} {fs : List Value} {x0 x1 x2 x3 x4 : Value} (ho : am_own t = 11) (h2 : σ.1 b = some (.inr (ci, fs))) (hr : rest.length ≤ 8) : am_J X rec t (some (.invokespecial 1, nx, tg)) pc lv (x4 :: x3 :: x2 :: x1 :: x0 :: .ref b :: rest) σ = am_JR X rec t pc nx lv rest (rec 39 [.ref b, x0, x1, x2, x3, x4] σ) := J_iG (n := 5) (ci := ci) [x0, x1, x2, x3, x4] (by rw [ho]; decide +kernel) (by rw [ho]; decide +kernel) rfl (by rw [h2]; rfl) hr
theorem cn_3_175 {b ci : Nat} {fs : List Value} {x0 x1 x2 x3 x4 : Value} (ho : am_own t = 3) (h2 : σ.1 b = some (.inr (ci, fs))) (hr : rest.length ≤ 8) : am_J X rec t (some (.invokespecial 175, nx, tg)) pc lv (x4 :: x3 :: x2 :: x1 :: x0 :: .ref b :: rest) σ = am_JR X rec t pc nx lv rest (rec 39 [.ref b, x0, x1, x2, x3, x4] σ) := J_iG (n := 5) (ci := ci) [x0, x1, x2, x3, x4] (by rw [ho]; decide +kernel) (by rw [ho]; decide +kernel) rfl (by rw [h2]; rfl) hr
theorem cn_9_26 {b ci : Nat} {fs : List Value} {x0 x1 x2 x3 x4 x5 : Value} (ho : am_own t = 9) (h2 : σ.1 b = some (.inr (ci, fs))) (hr : rest.length ≤ 8) : am_J X rec t (some (.invokespecial 26, nx, tg)) pc lv (x5 :: x4 :: x3 :: x2 :: x1 :: x0 :: .ref b :: rest) σ = am_JR X rec t pc nx lv rest (rec 41 [.ref b, x0, x1, x2, x3, x4, x5] σ) := J_iG (n := 6) (ci := ci) [x0, x1, x2, x3, x4, x5] (by rw [ho]; decide +kernel) (by rw [ho]; decide +kernel) rfl (by rw [h2]; rfl) hr
theorem cn_8_23 {b ci : Nat} {fs : List Value} {x0 x1 x2 x3 x4 : Value} (ho : am_own t = 8) (h2 : σ.1 b = some (.inr (ci, fs))) (hr : rest.length ≤ 8) : am_J X rec t (some (.invokespecial 23, nx, tg)) pc lv (x4 :: x3 :: x2 :: x1 :: x0 :: .ref b :: rest) σ = am_JR X rec t pc nx lv rest (rec 40 [.ref b, x0, x1, x2, x3, x4] σ) := J_iG (n := 5) (ci := ci) [x0, x1, x2, x3, x4] (by rw [ho]; decide +kernel) (by rw [ho]; decide +kernel) rfl (by rw [h2]; rfl) hr
theorem cn_10_29 {b ci : Nat} {fs : List Value} {x0 x1 x2 x3 x4 x5 x6 : Value} (ho : am_own t = 10) (h2 : σ.1 b = some (.inr (ci, fs))) (hr : rest.length ≤ 8) : am_J X rec t (some (.invokespecial 29, nx, tg)) pc lv (x6 :: x5 :: x4 :: x3 :: x2 :: x1 :: x0 :: .ref b :: rest) σ = am_JR X rec t pc nx lv rest (rec 42 [.ref b, x0, x1, x2, x3, x4, x5, x6] σ) := J_iG (n := 7) (ci := ci) [x0, x1, x2, x3, x4, x5, x6] (by rw [ho]; decide +kernel) (by rw [ho]; decide +kernel) rfl (by rw [h2]; rfl) hr
theorem cn_7_26 {b ci : Nat} {fs : List Value} {x0 x1 x2 x3 x4 x5 : Value} (ho : am_own t = 7) (h2 : σ.1 b = some (.inr (ci, fs))) (hr : rest.length ≤ 8) : am_J X rec t (some (.invokespecial 26, nx, tg)) pc lv (x5 :: x4 :: x3 :: x2 :: x1 :: x0 :: .ref b :: rest) σ = am_JR X rec t pc nx lv rest (rec 38 [.ref b, x0, x1, x2, x3, x4, x5] σ) := J_iG (n := 6) (ci := ci) [x0, x1, x2, x3, x4, x5] (by rw [ho]; decide +kernel) (by rw [ho]; decide +kernel) rfl (by rw [h2]; rfl) hr
theorem cn_11_26 {b ci : Nat} {fs : List Value} {x0 x1 x2 x3 x4 x5 : Value} (ho : am_own t = 11) (h2 : σ.1 b = some (.inr (ci, fs))) (hr : rest.length ≤ 8) : am_J X rec t (some (.invokespecial 26, nx, tg)) pc lv (x5 :: x4 :: x3 :: x2 :: x1 :: x0 :: .ref b :: rest) σ = am_JR X rec t pc nx lv rest (rec 43 [.ref b, x0, x1, x2, x3, x4, x5] σ) := J_iG (n := 6) (ci := ci) [x0, x1, x2, x3, x4, x5] (by rw [ho]; decide +kernel) (by rw [ho]; decide +kernel) rfl (by rw [h2]; rfl) hr
theorem cn_6_28 {b ci : Nat} {fs : List Value} {x0 x1 x2 x3 x4 : Value} (ho : am_own t = 6) (h2 : σ.1 b = some (.inr (ci, fs))) (hr : rest.length ≤ 8) : am_J X rec t (some (.invokespecial 28, nx, tg)) pc lv (x4 :: x3 :: x2 :: x1 :: x0 :: .ref b :: rest) σ = am_JR X rec t pc nx lv rest (rec 39 [.ref b, x0, x1, x2, x3, x4] σ) := J_iG (n := 5) (ci := ci) [x0, x1, x2, x3, x4] (by rw [ho]; decide +kernel) (by rw [ho]; decide +kernel) rfl (by rw [h2]; rfl) hr
theorem cn_13_23 {b ci : Nat} {fs : List Value} (ho : am_own t = 13) (h2 : σ.1 b = some (.inr (ci, fs))) (hr : rest.length ≤ 8) : am_J X rec t (some (.invokespecial 23, nx, tg)) pc lv (.ref b :: rest) σ = am_JR X rec t pc nx lv rest (rec 192 [.ref b] σ) := J_iG (n := 0) (ci := ci) [] (by rw [ho]; decide +kernel) (by rw [ho]; decide +kernel) rfl (by rw [h2]; rfl) hr
theorem cu_9_29 {b ci : Nat} {fs : List Value} (ho : am_own t = 9) (h2 : σ.1 b = some (.inr (ci, fs))) (hr : rest.length ≤ 8) : am_J X rec t (some (.invokespecial 29, nx, tg)) pc lv (.ref b :: rest) σ = am_JR X rec t pc nx lv rest (rec 177 [.ref b] σ) := J_uG (n := 0) (ci := ci) [] (by rw [ho]; decide +kernel) (by rw [ho]; decide +kernel) (by rw [ho]; decide +kernel) rfl (by rw [h2]; rfl) hr
theorem cu_8_24 {b ci : Nat} {fs : List Value} (ho : am_own t = 8) (h2 : σ.1 b = some (.inr (ci, fs))) (hr : rest.length ≤ 8) : am_J X rec t (some (.invokespecial 24, nx, tg)) pc lv (.ref b :: rest) σ = am_JR X rec t pc nx lv rest (rec 177 [.ref b] σ) := J_uG (n := 0) (ci := ci) [] (by rw [ho]; decide +kernel) (by rw [ho]; decide +kernel) (by rw [ho]; decide +kernel) rfl (by rw [h2]; rfl) hr
theorem cu_10_32 {b ci : Nat} {fs : List Value} (ho : am_own t = 10) (h2 : σ.1 b = some (.inr (ci, fs))) (hr : rest.length ≤ 8) : am_J X rec t (some (.invokespecial 32, nx, tg)) pc lv (.ref b :: rest) σ = am_JR X rec t pc nx lv rest (rec 172 [.ref b] σ) := J_uG (n := 0) (ci := ci) [] (by rw [ho]; decide +kernel) (by rw [ho]; decide +kernel) (by rw [ho]; decide +kernel) rfl (by rw [h2]; rfl) hr
theorem cu_7_29 {b ci : Nat} {fs : List Value} (ho : am_own t = 7) (h2 : σ.1 b = some (.inr (ci, fs))) (hr : rest.length ≤ 8) : am_J X rec t (some (.invokespecial 29, nx, tg)) pc lv (.ref b :: rest) σ = am_JR X rec t pc nx lv rest (rec 177 [.ref b] σ) := J_uG (n := 0) (ci := ci) [] (by rw [ho]; decide +kernel) (by rw [ho]; decide +kernel) (by rw [ho]; decide +kernel) rfl (by rw [h2]; rfl) hr
theorem cu_11_29 {b ci : Nat} {fs : List Value} (ho : am_own t = 11) (h2 : σ.1 b = some (.inr (ci, fs))) (hr : rest.length ≤ 8) : am_J X rec t (some (.invokespecial 29, nx, tg)) pc lv (.ref b :: rest) σ = am_JR X rec t pc nx lv rest (rec 177 [.ref b] σ) := J_uG (n := 0) (ci := ci) [] (by rw [ho]; decide +kernel) (by rw [ho]; decide +kernel) (by rw [ho]; decide +kernel) rfl (by rw [h2]; rfl) hr
theorem cu_10_36 {b ci : Nat} {fs : List Value} (ho : am_own t = 10) (h2 : σ.1 b = some (.inr (ci, fs))) (hr : rest.length ≤ 8) : am_J X rec t (some (.invokespecial 36, nx, tg)) pc lv (.ref b :: rest) σ = am_JR X rec t pc nx lv rest (rec 184 [.ref b] σ) := J_uG (n := 0) (ci := ci) [] (by rw [ho]; decide +kernel) (by rw [ho]; decide +kernel) (by rw [ho]; decide +kernel) rfl (by rw [h2]; rfl) hr
theorem co_0_3 {b : Nat} (ho : am_own t = 0) (hr : rest.length ≤ 8) : am_J X rec t (some (.invokespecial 3, nx, tg)) pc lv (.ref b :: rest) σ = am_I X rec t nx lv rest σ := J_oG (by rw [ho]; decide +kernel) hr
theorem co_1_3 {b : Nat} (ho : am_own t = 1) (hr : rest.length ≤ 8) : am_J X rec t (some (.invokespecial 3, nx, tg)) pc lv (.ref b :: rest) σ = am_I X rec t nx lv rest σ := J_oG (by rw [ho]; decide +kernel) hr
theorem co_2_3 {b : Nat} (ho : am_own t = 2) (hr : rest.length ≤ 8) : am_J X rec t (some (.invokespecial 3, nx, tg)) pc lv (.ref b :: rest) σ = am_I X rec t nx lv rest σ := J_oG (by rw [ho]; decide +kernel) hr
theorem co_3_3 {b : Nat} (ho : am_own t = 3) (hr : rest.length ≤ 8) : am_J X rec t (some (.invokespecial 3, nx, tg)) pc lv (.ref b :: rest) σ = am_I X rec t nx lv rest σ := J_oG (by rw [ho]; decide +kernel) hr
theorem co_4_3 {b : Nat} (ho : am_own t = 4) (hr : rest.length ≤ 8) : am_J X rec t (some (.invokespecial 3, nx, tg)) pc lv (.ref b :: rest) σ = am_I X rec t nx lv rest σ := J_oG (by rw [ho]; decide +kernel) hr
theorem co_5_3 {b : Nat} (ho : am_own t = 5) (hr : rest.length ≤ 8) : am_J X rec t (some (.invokespecial 3, nx, tg)) pc lv (.ref b :: rest) σ = am_I X rec t nx lv rest σ := J_oG (by rw [ho]; decide +kernel) hr
theorem co_6_3 {b : Nat} (ho : am_own t = 6) (hr : rest.length ≤ 8) : am_J X rec t (some (.invokespecial 3, nx, tg)) pc lv (.ref b :: rest) σ = am_I X rec t nx lv rest σ := J_oG (by rw [ho]; decide +kernel) hr
theorem co_12_1 {b : Nat} (ho : am_own t = 12) (hr : rest.length ≤ 8) : am_J X rec t (some (.invokespecial 1, nx, tg)) pc lv (.ref b :: rest) σ = am_I X rec t nx lv rest σ := J_oG (by rw [ho]; decide +kernel) hr
theorem cm_1_136 {st : List Value} (ho : am_own t = 1) : am_J X rec t (some (.invokestatic 136, nx, tg)) pc lv st σ = am_K X rec t (am_math nx lv st σ 4) := J_mG (by rw [ho]; decide +kernel) (by rw [ho]; decide +kernel)
theorem cm_1_146 {st : List Value} (ho : am_own t = 1) : am_J X rec t (some (.invokestatic 146, nx, tg)) pc lv st σ = am_K X rec t (am_math nx lv st σ 2) := J_mG (by rw [ho]; decide +kernel) (by rw [ho]; decide +kernel)
theorem cm_15_304 {st : List Value} (ho : am_own t = 15) : am_J X rec t (some (.invokestatic 304, nx, tg)) pc lv st σ = am_K X rec t (am_math nx lv st σ 1) := J_mG (by rw [ho]; decide +kernel) (by rw [ho]; decide +kernel)
theorem cm_2_61 {st : List Value} (ho : am_own t = 2) : am_J X rec t (some (.invokestatic 61, nx, tg)) pc lv st σ = am_K X rec t (am_math nx lv st σ 0) := J_mG (by rw [ho]; decide +kernel) (by rw [ho]; decide +kernel)
theorem cm_4_198 {st : List Value} (ho : am_own t = 4) : am_J X rec t (some (.invokestatic 198, nx, tg)) pc lv st σ = am_K X rec t (am_math nx lv st σ 0) := J_mG (by rw [ho]; decide +kernel) (by rw [ho]; decide +kernel)
theorem cm_4_228 {st : List Value} (ho : am_own t = 4) : am_J X rec t (some (.invokestatic 228, nx, tg)) pc lv st σ = am_K X rec t (am_math nx lv st σ 1) := J_mG (by rw [ho]; decide +kernel) (by rw [ho]; decide +kernel)
theorem cm_4_238 {st : List Value} (ho : am_own t = 4) : am_J X rec t (some (.invokestatic 238, nx, tg)) pc lv st σ = am_K X rec t (am_math nx lv st σ 2) := J_mG (by rw [ho]; decide +kernel) (by rw [ho]; decide +kernel)
theorem cm_4_243 {st : List Value} (ho : am_own t = 4) : am_J X rec t (some (.invokestatic 243, nx, tg)) pc lv st σ = am_K X rec t (am_math nx lv st σ 3) := J_mG (by rw [ho]; decide +kernel) (by rw [ho]; decide +kernel)
theorem cm_5_129 {st : List Value} (ho : am_own t = 5) : am_J X rec t (some (.invokestatic 129, nx, tg)) pc lv st σ = am_K X rec t (am_math nx lv st σ 0) := J_mG (by rw [ho]; decide +kernel) (by rw [ho]; decide +kernel)
theorem cm_5_119 {st : List Value} (ho : am_own t = 5) : am_J X rec t (some (.invokestatic 119, nx, tg)) pc lv st σ = am_K X rec t (am_math nx lv st σ 2) := J_mG (by rw [ho]; decide +kernel) (by rw [ho]; decide +kernel)
theorem cm_5_39 {st : List Value} (ho : am_own t = 5) : am_J X rec t (some (.invokestatic 39, nx, tg)) pc lv st σ = am_K X rec t (am_math nx lv st σ 1) := J_mG (by rw [ho]; decide +kernel) (by rw [ho]; decide +kernel)
theorem ca_1_68 {sp dp n : Int32} {a a0 : Nat} (ho : am_own t = 1) (hr : rest.length ≤ 8) : am_J X rec t (some (.invokestatic 68, nx, tg)) pc lv (.int n :: .int dp :: .ref a :: .int sp :: .ref a0 :: rest) σ = (am_cpy (σ.1 a0) (σ.1 a) sp dp n).bind (fun e => am_I X rec t nx lv rest (am_up σ.1 a e, σ.2)) := J_cG (by rw [ho]; decide +kernel) hr
theorem ca_15_150 {sp dp n : Int32} {a a0 : Nat} (ho : am_own t = 15) (hr : rest.length ≤ 8) : am_J X rec t (some (.invokestatic 150, nx, tg)) pc lv (.int n :: .int dp :: .ref a :: .int sp :: .ref a0 :: rest) σ = (am_cpy (σ.1 a0) (σ.1 a) sp dp n).bind (fun e => am_I X rec t nx lv rest (am_up σ.1 a e, σ.2)) := J_cG (by rw [ho]; decide +kernel) hr
theorem ca_2_34 {sp dp n : Int32} {a a0 : Nat} (ho : am_own t = 2) (hr : rest.length ≤ 8) : am_J X rec t (some (.invokestatic 34, nx, tg)) pc lv (.int n :: .int dp :: .ref a :: .int sp :: .ref a0 :: rest) σ = (am_cpy (σ.1 a0) (σ.1 a) sp dp n).bind (fun e => am_I X rec t nx lv rest (am_up σ.1 a e, σ.2)) := J_cG (by rw [ho]; decide +kernel) hr
theorem ca_0_301 {sp dp n : Int32} {a a0 : Nat} (ho : am_own t = 0) (hr : rest.length ≤ 8) : am_J X rec t (some (.invokestatic 301, nx, tg)) pc lv (.int n :: .int dp :: .ref a :: .int sp :: .ref a0 :: rest) σ = (am_cpy (σ.1 a0) (σ.1 a) sp dp n).bind (fun e => am_I X rec t nx lv rest (am_up σ.1 a e, σ.2)) := J_cG (by rw [ho]; decide +kernel) hr
end MU
theorem i32_m1 : Int32.ofInt (-1) = -1 := rfl
theorem i32_0 : Int32.ofInt (0) = 0 := rfl
theorem i32_1 : Int32.ofInt (1) = 1 := rfl
theorem i32_2 : Int32.ofInt (2) = 2 := rfl
theorem i32_3 : Int32.ofInt (3) = 3 := rfl
theorem i32_4 : Int32.ofInt (4) = 4 := rfl
theorem i32_5 : Int32.ofInt (5) = 5 := rfl
theorem i32_6 : Int32.ofInt (6) = 6 := rfl
theorem i32_100 : Int32.ofInt (100) = 100 := rfl
theorem i8_m15 : (Int8.ofInt (-15)).toInt32 = -15 := rfl
theorem i8_m14 : (Int8.ofInt (-14)).toInt32 = -14 := rfl
theorem i8_m13 : (Int8.ofInt (-13)).toInt32 = -13 := rfl
theorem i8_m12 : (Int8.ofInt (-12)).toInt32 = -12 := rfl
theorem i8_m11 : (Int8.ofInt (-11)).toInt32 = -11 := rfl
theorem i8_m4 : (Int8.ofInt (-4)).toInt32 = -4 := rfl
theorem i8_m3 : (Int8.ofInt (-3)).toInt32 = -3 := rfl
theorem i8_6 : (Int8.ofInt (6)).toInt32 = 6 := rfl
theorem i8_7 : (Int8.ofInt (7)).toInt32 = 7 := rfl
theorem i8_8 : (Int8.ofInt (8)).toInt32 = 8 := rfl
theorem i8_9 : (Int8.ofInt (9)).toInt32 = 9 := rfl
theorem i8_10 : (Int8.ofInt (10)).toInt32 = 10 := rfl
theorem i8_11 : (Int8.ofInt (11)).toInt32 = 11 := rfl
theorem i8_14 : (Int8.ofInt (14)).toInt32 = 14 := rfl
theorem i8_15 : (Int8.ofInt (15)).toInt32 = 15 := rfl
theorem i8_18 : (Int8.ofInt (18)).toInt32 = 18 := rfl
theorem i8_20 : (Int8.ofInt (20)).toInt32 = 20 := rfl
theorem i8_21 : (Int8.ofInt (21)).toInt32 = 21 := rfl
theorem i8_30 : (Int8.ofInt (30)).toInt32 = 30 := rfl
theorem i8_32 : (Int8.ofInt (32)).toInt32 = 32 := rfl
theorem i8_33 : (Int8.ofInt (33)).toInt32 = 33 := rfl
theorem i8_47 : (Int8.ofInt (47)).toInt32 = 47 := rfl
theorem i8_48 : (Int8.ofInt (48)).toInt32 = 48 := rfl
theorem i8_57 : (Int8.ofInt (57)).toInt32 = 57 := rfl
theorem i8_59 : (Int8.ofInt (59)).toInt32 = 59 := rfl
theorem i8_60 : (Int8.ofInt (60)).toInt32 = 60 := rfl
theorem i8_62 : (Int8.ofInt (62)).toInt32 = 62 := rfl
theorem i8_63 : (Int8.ofInt (63)).toInt32 = 63 := rfl
theorem i8_64 : (Int8.ofInt (64)).toInt32 = 64 := rfl
theorem i8_90 : (Int8.ofInt (90)).toInt32 = 90 := rfl
theorem i8_95 : (Int8.ofInt (95)).toInt32 = 95 := rfl
theorem i8_98 : (Int8.ofInt (98)).toInt32 = 98 := rfl
theorem i8_99 : (Int8.ofInt (99)).toInt32 = 99 := rfl
theorem i8_100 : (Int8.ofInt (100)).toInt32 = 100 := rfl
theorem i8_108 : (Int8.ofInt (108)).toInt32 = 108 := rfl
theorem i8_115 : (Int8.ofInt (115)).toInt32 = 115 := rfl
theorem i8_116 : (Int8.ofInt (116)).toInt32 = 116 := rfl
theorem i8_117 : (Int8.ofInt (117)).toInt32 = 117 := rfl
theorem i8_118 : (Int8.ofInt (118)).toInt32 = 118 := rfl
theorem i8_120 : (Int8.ofInt (120)).toInt32 = 120 := rfl
theorem i16_m2000 : (Int16.ofInt (-2000)).toInt32 = -2000 := rfl
theorem i16_m1000 : (Int16.ofInt (-1000)).toInt32 = -1000 := rfl
theorem i16_128 : (Int16.ofInt (128)).toInt32 = 128 := rfl
theorem i16_162 : (Int16.ofInt (162)).toInt32 = 162 := rfl
theorem i16_900 : (Int16.ofInt (900)).toInt32 = 900 := rfl
theorem i16_960 : (Int16.ofInt (960)).toInt32 = 960 := rfl
theorem i16_999 : (Int16.ofInt (999)).toInt32 = 999 := rfl
theorem i16_1000 : (Int16.ofInt (1000)).toInt32 = 1000 := rfl
theorem i16_12345 : (Int16.ofInt (12345)).toInt32 = 12345 := rfl
theorem i16_16807 : (Int16.ofInt (16807)).toInt32 = 16807 := rfl
theorem i64_0 : Int64.ofNat (0 : Fin 2).val = 0 := rfl
theorem i64_1 : Int64.ofNat (1 : Fin 2).val = 1 := rfl
