/-! orders of a street: the class's and the reference's -/
def oR (m : Nat) : Nat → List Nat → List (List Nat)
  | 0, p => [p]
  | r + 1, p => (List.range m).flatMap (fun b => if p.contains b = true then [] else oR m r (p ++ [b]))
def oC (m : Nat) : Nat → List Nat → List (List Nat)
  | 0, p => [p]
  | r + 1, p => (List.range m).flatMap (fun b => if p.contains b = true then [] else oC m r (b :: p))
/-- the first the highest digit -/
def oN (p : List Nat) : Nat := p.foldl (fun a b => 8 * a + b) 0
/-- the first the lowest digit -/
def oD : List Nat → Nat
  | [] => 0
  | b :: p => b + 8 * oD p
def oRv (m : Nat) (x : Int32) : Int32 := fo (fun i a => (a <<< (zI 3 &&& 31)) ||| ((x >>> (zI (3 * i) &&& 31)) &&& zI 7)) 0 m (zI 0)
theorem e_facts : ∀ m, m < 6 → ((∀ p, p ∈ oC m m [] → p ∈ oR m m []) ∧ (∀ p, p ∈ oR m m [] → p ∈ oC m m []) ∧ (oR m m []).Pairwise (fun p q => oN p < oN q) ∧ (∀ p, p ∈ oC m m [] → oRv m (zI (oN p)) = zI (oD p) ∧ oN p < 32768 ∧ oD p < 32768) ∧ oC m m [] ≠ []) := by decide +kernel
def upC (v : List Nat → Int64) (s : Int64 × Int32) (p : List Nat) : Int64 × Int32 := if s.1 < v p then (v p, zI (oN p)) else if v p = s.1 then (if zI (oN p) < s.2 then (v p, zI (oN p)) else s) else s
def upR (v : List Nat → Int64) (s : Int64 × Int32) (p : List Nat) : Int64 × Int32 := if s.2 < 0 then (v p, zI (oD p)) else if s.1 < v p then (v p, zI (oD p)) else s
/-- the best of those seen -/
def oB (v : List Nat → Int64) (L : List (List Nat)) (p : List Nat) : Prop := p ∈ L ∧ ∀ q, q ∈ L → v q < v p ∨ (v q = v p ∧ oN p ≤ oN q)
theorem oB_C {v : List Nat → Int64} : ∀ (L K : List (List Nat)) (p : List Nat), oB v K p → (∀ q, q ∈ K ∨ q ∈ L → oN q < 32768) → ∃ p', oB v (K ++ L) p' ∧ L.foldl (upC v) (v p, zI (oN p)) = (v p', zI (oN p'))
  | [], K, p, h, _ => ⟨p, by rw [List.append_nil]; exact h, rfl⟩
  | q :: L, K, p, h, hb => by
    have hq := hb q (Or.inr (List.mem_cons_self))
    have hp := hb p (Or.inl h.1)
    have step : ∃ p1, oB v (K ++ [q]) p1 ∧ upC v (v p, zI (oN p)) q = (v p1, zI (oN p1)) := by
      unfold upC
      by_cases c1 : v p < v q
      · refine ⟨q, ⟨by simp, fun x hx => ?_⟩, if_pos c1⟩
        rcases List.mem_append.mp hx with k | k
        · rcases h.2 x k with e | e
          · exact Or.inl (Int64.lt_trans e c1)
          · exact Or.inl (by rw [e.1]; exact c1)
        · rw [List.mem_singleton.mp k]
          exact Or.inr ⟨rfl, Nat.le_refl _⟩
      · by_cases c2 : v q = v p
        · by_cases c3 : oN q < oN p
          · refine ⟨q, ⟨by simp, fun x hx => ?_⟩, ?_⟩
            · rcases List.mem_append.mp hx with k | k
              · rcases h.2 x k with e | e
                · exact Or.inl (by rw [c2]; exact e)
                · exact Or.inr ⟨by rw [c2]; exact e.1, by omega⟩
              · rw [List.mem_singleton.mp k]
                exact Or.inr ⟨rfl, Nat.le_refl _⟩
            · show (if v p < v q then _ else if v q = v p then (if zI (oN q) < zI (oN p) then _ else _) else _) = _
              rw [if_neg c1, if_pos c2, if_pos (by rw [zI_lt (by omega) (by omega)]; exact c3)]
          · refine ⟨p, ⟨by simp [h.1], fun x hx => ?_⟩, ?_⟩
            · rcases List.mem_append.mp hx with k | k
              · exact h.2 x k
              · rw [List.mem_singleton.mp k]
                exact Or.inr ⟨c2, by omega⟩
            · show (if v p < v q then _ else if v q = v p then (if zI (oN q) < zI (oN p) then _ else _) else _) = _
              rw [if_neg c1, if_pos c2, if_neg (by rw [zI_lt (by omega) (by omega)]; exact c3)]
        · refine ⟨p, ⟨by simp [h.1], fun x hx => ?_⟩, ?_⟩
          · rcases List.mem_append.mp hx with k | k
            · exact h.2 x k
            · rw [List.mem_singleton.mp k]
              refine Or.inl (Classical.byContradiction (fun c3 => c2 ?_))
              exact Int64.le_antisymm (Int64.not_lt.mp c1) (Int64.not_lt.mp c3)
          · show (if v p < v q then _ else if v q = v p then _ else _) = _
            rw [if_neg c1, if_neg c2]
    obtain ⟨p1, e1, e2⟩ := step
    obtain ⟨p', r1, r2⟩ := oB_C L (K ++ [q]) p1 e1 (fun x hx => by
      rcases hx with k | k
      · rcases List.mem_append.mp k with k | k
        · exact hb x (Or.inl k)
        · rw [List.mem_singleton.mp k]
          exact hq
      · exact hb x (Or.inr (List.mem_cons_of_mem _ k)))
    refine ⟨p', by rw [List.append_assoc] at r1; exact r1, ?_⟩
    show L.foldl (upC v) (upC v (v p, zI (oN p)) q) = _
    rw [e2]
    exact r2
theorem oB_R {v : List Nat → Int64} : ∀ (L K : List (List Nat)) (p : List Nat), oB v K p → (∀ q, q ∈ K ∨ q ∈ L → oD q < 32768) → (∀ x q, x ∈ K → q ∈ L → oN x ≤ oN q) → L.Pairwise (fun p q => oN p < oN q) → ∃ p', oB v (K ++ L) p' ∧ L.foldl (upR v) (v p, zI (oD p)) = (v p', zI (oD p'))
  | [], K, p, h, _, _, _ => ⟨p, by rw [List.append_nil]; exact h, rfl⟩
  | q :: L, K, p, h, hb, hs, hw => by
    have hq := hb q (Or.inr (List.mem_cons_self))
    have hp := hb p (Or.inl h.1)
    rw [List.pairwise_cons] at hw
    have n0 : ¬ zI (oD p) < 0 := by rw [zI_neg (by omega)]; exact id
    have step : ∃ p1, oB v (K ++ [q]) p1 ∧ upR v (v p, zI (oD p)) q = (v p1, zI (oD p1)) := by
      unfold upR
      by_cases c1 : v p < v q
      · refine ⟨q, ⟨by simp, fun x hx => ?_⟩, ?_⟩
        · rcases List.mem_append.mp hx with k | k
          · rcases h.2 x k with e | e
            · exact Or.inl (Int64.lt_trans e c1)
            · exact Or.inl (by rw [e.1]; exact c1)
          · rw [List.mem_singleton.mp k]
            exact Or.inr ⟨rfl, Nat.le_refl _⟩
        · show (if zI (oD p) < 0 then _ else if v p < v q then _ else _) = _
          rw [if_neg n0, if_pos c1]
      · refine ⟨p, ⟨by simp [h.1], fun x hx => ?_⟩, ?_⟩
        · rcases List.mem_append.mp hx with k | k
          · exact h.2 x k
          · rw [List.mem_singleton.mp k]
            by_cases c2 : v q = v p
            · exact Or.inr ⟨c2, hs p q h.1 (List.mem_cons_self)⟩
            · refine Or.inl (Classical.byContradiction (fun c3 => c2 ?_))
              exact Int64.le_antisymm (Int64.not_lt.mp c1) (Int64.not_lt.mp c3)
        · show (if zI (oD p) < 0 then _ else if v p < v q then _ else _) = _
          rw [if_neg n0, if_neg c1]
    obtain ⟨p1, e1, e2⟩ := step
    obtain ⟨p', r1, r2⟩ := oB_R L (K ++ [q]) p1 e1 (fun x hx => by
      rcases hx with k | k
      · rcases List.mem_append.mp k with k | k
        · exact hb x (Or.inl k)
        · rw [List.mem_singleton.mp k]
          exact hq
      · exact hb x (Or.inr (List.mem_cons_of_mem _ k))) (fun x y hx hy => by
      rcases List.mem_append.mp hx with k | k
      · exact hs x y k (List.mem_cons_of_mem _ hy)
      · rw [List.mem_singleton.mp k]
        exact Nat.le_of_lt (hw.1 y hy)) hw.2
    refine ⟨p', by rw [List.append_assoc] at r1; exact r1, ?_⟩
    show L.foldl (upR v) (upR v (v p, zI (oD p)) q) = _
    rw [e2]
    exact r2
theorem oB_u {v : List Nat → Int64} {L : List (List Nat)} {p q : List Nat} (hp : oB v L p) (hq : oB v L q) (hs : ∀ x y, x ∈ L → y ∈ L → oN x = oN y → x = y) : p = q := by
  have irr : ∀ a : Int64, ¬ a < a := fun a => Int64.lt_irrefl
  rcases hp.2 q hq.1 with a | a
  · rcases hq.2 p hp.1 with b | b
    · exact absurd (Int64.lt_trans a b) (irr _)
    · rw [b.1] at a
      exact absurd a (irr _)
  · rcases hq.2 p hp.1 with b | b
    · rw [a.1] at b
      exact absurd b (irr _)
    · exact hs p q hp.1 hq.1 (Nat.le_antisymm a.2 b.2)
theorem pw_inj {L : List (List Nat)} (h : L.Pairwise (fun p q => oN p < oN q)) : ∀ x y, x ∈ L → y ∈ L → oN x = oN y → x = y := by
  induction L with
  | nil => intro x y hx; cases hx
  | cons a L ih =>
    rw [List.pairwise_cons] at h
    intro x y hx hy e
    rcases List.mem_cons.mp hx with rfl | hx'
    · rcases List.mem_cons.mp hy with rfl | hy'
      · rfl
      · have := h.1 y hy'
        omega
    · rcases List.mem_cons.mp hy with rfl | hy'
      · have := h.1 x hx'
        omega
      · exact ih h.2 x y hx' hy' e
/-- both find the same order -/
theorem e_same {v : List Nat → Int64} {m : Nat} {x y : Int64} (hm : m < 6) (hv : ∀ p, x < v p) : oRv m ((oC m m []).foldl (upC v) (x, zI 0)).2 = ((oR m m []).foldl (upR v) (y, -4)).2 := by
  obtain ⟨f1, f2, f3, f4, f5⟩ := e_facts m hm
  have inj := pw_inj f3
  obtain ⟨p, e1, e2⟩ : ∃ p, oB v (oC m m []) p ∧ (oC m m []).foldl (upC v) (x, zI 0) = (v p, zI (oN p)) := by
    cases hc : oC m m [] with
    | nil => exact absurd hc f5
    | cons q L =>
      have h0 : upC v (x, zI 0) q = (v q, zI (oN q)) := if_pos (hv q)
      obtain ⟨p, r1, r2⟩ := oB_C (v := v) L [q] q ⟨by simp, fun z hz => by rw [List.mem_singleton.mp hz]; exact Or.inr ⟨rfl, Nat.le_refl _⟩⟩ (fun z hz => by
        refine (f4 z ?_).2.1
        rw [hc]
        rcases hz with k | k
        · rw [List.mem_singleton.mp k]
          exact List.mem_cons_self
        · exact List.mem_cons_of_mem _ k)
      refine ⟨p, r1, ?_⟩
      show L.foldl (upC v) (upC v (x, zI 0) q) = _
      rw [h0]
      exact r2
  obtain ⟨q, g1, g2⟩ : ∃ p, oB v (oR m m []) p ∧ (oR m m []).foldl (upR v) (y, -4) = (v p, zI (oD p)) := by
    cases hc : oR m m [] with
    | nil =>
      have := f1 p e1.1
      rw [hc] at this
      cases this
    | cons q L =>
      rw [hc] at f3
      have h0 : upR v (y, -4) q = (v q, zI (oD q)) := if_pos (show (-4 : Int32) < 0 by decide)
      have hw := List.pairwise_cons.mp f3
      obtain ⟨p, r1, r2⟩ := oB_R (v := v) L [q] q ⟨by simp, fun z hz => by rw [List.mem_singleton.mp hz]; exact Or.inr ⟨rfl, Nat.le_refl _⟩⟩ (fun z hz => by
        refine (f4 z (f2 z ?_)).2.2
        rw [hc]
        rcases hz with k | k
        · rw [List.mem_singleton.mp k]
          exact List.mem_cons_self
        · exact List.mem_cons_of_mem _ k) (fun a b ha hb => by rw [List.mem_singleton.mp ha]; exact Nat.le_of_lt (hw.1 b hb)) hw.2
      refine ⟨p, r1, ?_⟩
      show L.foldl (upR v) (upR v (y, -4) q) = _
      rw [h0]
      exact r2
  have e1' : oB v (oR m m []) p := ⟨f1 p e1.1, fun z hz => e1.2 z (f2 z hz)⟩
  have := oB_u e1' g1 inj
  subst this
  rw [e2, g2]
  exact (f4 p e1.1).1
