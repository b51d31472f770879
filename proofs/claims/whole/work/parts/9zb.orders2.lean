/-! the reference's orders -/
theorem fo_range {α : Type} {f : Nat → α → α} : ∀ (k i : Nat) (s : α), fo f i k s = (List.range' i k).foldl (fun s b => f b s) s
  | 0, _, _ => rfl
  | k + 1, i, s => fo_range k (i + 1) (f i s)
theorem fold_flat {α β γ : Type} {u : γ → β → γ} {g : α → List β} : ∀ (l : List α) (s : γ), (l.flatMap g).foldl u s = l.foldl (fun s b => (g b).foldl u s) s
  | [], _ => rfl
  | a :: l, s => by
    rw [List.flatMap_cons, List.foldl_append, fold_flat l]
    rfl
theorem fold_cg {α γ : Type} {f g : γ → α → γ} : ∀ (l : List α) (s : γ), (∀ b, b ∈ l → ∀ s, f s b = g s b) → l.foldl f s = l.foldl g s
  | [], _, _ => rfl
  | a :: l, s, h => by
    show l.foldl f (f s a) = l.foldl g (g s a)
    rw [h a List.mem_cons_self s, fold_cg l (g s a) (fun b hb => h b (List.mem_cons_of_mem _ hb))]
theorem fo_flat {β γ : Type} {f : Nat → γ → γ} {u : γ → β → γ} {g : Nat → List β} {m : Nat} {s : γ} (h : ∀ b, b < m → ∀ s, f b s = (g b).foldl u s) : fo f 0 m s = ((List.range m).flatMap g).foldl u s := by
  rw [fold_flat, fo_range, ← List.range_eq_range']
  exact fold_cg _ _ (fun b hb s => h b (List.mem_range.mp hb) s)
theorem dg_key3 : ∀ k, k < 4 → ∀ x, x < 8 ^ k → ∀ b, b < 5 → zI x ||| (zI b <<< (zI (3 * k) &&& 31)) = zI (x + b * 8 ^ k) := by decide +kernel
theorem dg_key4 : ∀ a, a < 4 → ∀ y, y < 1024 → ∀ b, b < 5 → zI (1024 * a + y) ||| (zI b <<< (zI (3 * 4) &&& 31)) = zI (1024 * a + y + b * 8 ^ 4) := by decide +kernel
theorem dg_key : ∀ k, k < 5 → ∀ x, x < 8 ^ k → ∀ b, b < 5 → zI x ||| (zI b <<< (zI (3 * k) &&& 31)) = zI (x + b * 8 ^ k) := fun k hk x hx b hb => by
  by_cases c : k < 4
  · exact dg_key3 k c x hx b hb
  · have : k = 4 := by omega
    subst this
    have hx' : x < 4096 := hx
    have := dg_key4 (x / 1024) (by omega) (x % 1024) (Nat.mod_lt _ (by omega)) b hb
    rw [show 1024 * (x / 1024) + x % 1024 = x by omega] at this
    exact this
theorem oD_app {b : Nat} : ∀ p : List Nat, oD (p ++ [b]) = oD p + b * 8 ^ p.length
  | [] => by simp [oD]
  | a :: p => by
    show a + 8 * oD (p ++ [b]) = a + 8 * oD p + b * 8 ^ (p.length + 1)
    rw [oD_app p, Nat.pow_succ, Nat.mul_add, ← Nat.mul_assoc, Nat.mul_comm _ 8, Nat.mul_assoc]
    rw [Nat.mul_left_comm]
    omega
theorem oD_lt : ∀ p : List Nat, (∀ b, b ∈ p → b < 5) → oD p < 8 ^ p.length
  | [], _ => by decide
  | a :: p, h => by
    have h1 := oD_lt p (fun b hb => h b (List.mem_cons_of_mem _ hb))
    have h2 := h a List.mem_cons_self
    show a + 8 * oD p < 8 ^ (p.length + 1)
    rw [Nat.pow_succ]
    omega
theorem oN_f : ∀ (p : List Nat) (a : Nat), p.foldl (fun a b => 8 * a + b) a = a * 8 ^ p.length + oN p
  | [], a => by simp [oN]
  | b :: p, a => by
    show p.foldl (fun a b => 8 * a + b) (8 * a + b) = a * 8 ^ (p.length + 1) + p.foldl (fun a b => 8 * a + b) (8 * 0 + b)
    rw [oN_f p (8 * a + b), oN_f p (8 * 0 + b), Nat.pow_succ, Nat.add_mul, Nat.mul_zero, Nat.zero_add, Nat.mul_comm 8 a, Nat.mul_assoc, Nat.mul_comm 8, Nat.add_assoc]
theorem oN_cons {b : Nat} {p : List Nat} : oN (b :: p) = b * 8 ^ p.length + oN p := by
  show p.foldl (fun a b => 8 * a + b) (8 * 0 + b) = _
  rw [oN_f, Nat.mul_zero, Nat.zero_add]
theorem oN_lt : ∀ p : List Nat, (∀ b, b ∈ p → b < 5) → oN p < 8 ^ p.length
  | [], _ => by decide
  | a :: p, h => by
    have h1 := oN_lt p (fun b hb => h b (List.mem_cons_of_mem _ hb))
    have h2 := h a List.mem_cons_self
    rw [oN_cons]
    show a * 8 ^ p.length + oN p < 8 ^ (p.length + 1)
    rw [Nat.pow_succ]
    have : a * 8 ^ p.length ≤ 4 * 8 ^ p.length := Nat.mul_le_mul_right _ (by omega)
    omega
def oV (S : Nat → Int32) (m : Nat) (p : List Nat) : Int64 := qSt (fun j => p.getD j 0) m 0 S
theorem qGo_l {S : Nat → Int32} (h5 : wN (S 116) ≤ 5) : ∀ (r : Nat) (p : List Nat) (us : Int32) (ord : Nat → Nat) (s : Int64 × Int32), p.length + r = wN (S 116) → (∀ b, b ∈ p → b < wN (S 116)) → (∀ b, b < wN (S 116) → bt us b = p.contains b) → (∀ j, j < p.length → ord j = p.getD j 0) → qGo S r p.length us (zI (oD p)) ord s = (oR (wN (S 116)) r p).foldl (upR (oV S (wN (S 116)))) s
  | 0, p, us, ord, s, hl, hp, hu, ho => by
    show qGe S ord (zI (oD p)) s = upR (oV S (wN (S 116))) s p
    have : qSt ord (wN (S 116)) 0 S = oV S (wN (S 116)) p := qSt_cg _ _ _ (fun j _ hj => ho j (by omega))
    unfold qGe upR
    rw [this]
  | r + 1, p, us, ord, s, hl, hp, hu, ho => by
    show fo _ 0 (wN (S 116)) s = ((List.range (wN (S 116))).flatMap _).foldl _ s
    refine fo_flat (fun b hb s => ?_)
    show (if bt us b = true then s else _) = _
    rw [hu b hb]
    by_cases c : p.contains b = true
    · rw [if_pos c, if_pos c]
      rfl
    · rw [if_neg c, if_neg c]
      have hk : p.length < 5 := by omega
      have e : zI (oD p) ||| (zI b <<< (zI (3 * p.length) &&& 31)) = zI (oD (p ++ [b])) := by
        rw [dg_key _ hk _ (oD_lt p (fun b hb => by have := hp b hb; omega)) b (by omega), oD_app]
      have hlen : (p ++ [b]).length = p.length + 1 := by simp
      rw [e, ← hlen]
      refine qGo_l h5 r (p ++ [b]) _ _ s (by omega) (fun x hx => ?_) (fun x hx => ?_) (fun j hj => ?_)
      · rcases List.mem_append.mp hx with k | k
        · exact hp x k
        · rw [List.mem_singleton.mp k]
          exact hb
      · rw [bt_or (by omega) (by omega), hu x hx]
        by_cases q : x = b
        · subst q
          simp
        · have : ¬ b = x := fun e => q e.symm
          simp [this, q]
      · unfold oset
        by_cases q : j = p.length
        · rw [if_pos q, q]
          simp
        · rw [if_neg q, ho j (by omega)]
          simp [List.getD_eq_getElem?_getD, List.getElem?_append, show j < p.length by omega]
theorem qGo_e {S : Nat → Int32} {s : Int64 × Int32} (h5 : wN (S 116) ≤ 5) : qGo S (wN (S 116)) 0 (zI 0) (zI 0) (fun _ => 0) s = (oR (wN (S 116)) (wN (S 116)) []).foldl (upR (oV S (wN (S 116)))) s := by
  refine qGo_l h5 (wN (S 116)) [] (zI 0) (fun _ => 0) s (by simp) (fun b hb => by cases hb) (fun b hb => ?_) (fun j hj => by cases hj)
  rw [bt_z b (by omega)]
  rfl
