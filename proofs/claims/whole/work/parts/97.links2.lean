/-! links: ranks -/
def rkN (T : mU × (Nat → Option Nat)) (S : Nat → Int32) : Nat := wN (cRk T S)
/-- the rank that box b shows -/
def rkB (T : mU × (Nat → Option Nat)) (S : Nat → Int32) (b : Nat) : Nat := if 3 ≤ hw S b then wN (T.1.1 6 (4 * b + (hw S b - 3))) else 0
def mxf (g : Nat → Nat) (b v : Nat) : Nat := if v < g b then g b else v
section LR
variable {R S : Nat → Int32} {b i Q : Nat} {T : mU × (Nat → Option Nat)}
/-- what tRk says, R ranks named Q -/
def rOk (T : mU × (Nat → Option Nat)) (R : Nat → Int32) (Q : Nat) : Prop := T.1.2.2.1 5 = zI Q ∧ 1 ≤ Q ∧ Q ≤ 21 ∧ T.1.1 4 0 = 0 ∧ (∀ i j, i < j → j < Q → T.1.1 4 i < T.1.1 4 j) ∧ ∀ b i, b < wN (R 116) → i < wN (R (18 * b + 3)) → ∃ r, r < Q ∧ T.1.1 6 (4 * b + i) = zI r ∧ T.1.1 4 r = R (18 * b + (6 + i))
theorem rOk.lt (h : rOk T R Q) {i j : Nat} (hi : i < Q) (hj : j < Q) : (T.1.1 4 i < T.1.1 4 j) = (i < j) := by
  obtain ⟨-, -, -, -, h5, -⟩ := h
  rcases Nat.lt_trichotomy i j with c | c | c
  · exact propext ⟨fun _ => c, fun _ => h5 i j c hj⟩
  · subst c
    exact propext ⟨fun q => absurd q Int32.lt_irrefl, fun q => by omega⟩
  · exact propext ⟨fun q => absurd (Int32.lt_trans q (h5 j i c hi)) Int32.lt_irrefl, fun q => by omega⟩
theorem rOk.sr (h : rOk T R Q) (hb : b < wN (R 116)) (hi : i < wN (R (18 * b + 3))) : T.1.1 6 (4 * b + i) = zI (wN (T.1.1 6 (4 * b + i))) ∧ wN (T.1.1 6 (4 * b + i)) < Q ∧ T.1.1 4 (wN (T.1.1 6 (4 * b + i))) = R (18 * b + (6 + i)) := by
  obtain ⟨-, -, h3, -, -, h6⟩ := h
  obtain ⟨r, r1, r2, r3⟩ := h6 b i hb hi
  rw [r2, wN_zI (by omega)]
  exact ⟨rfl, r1, r3⟩
theorem st_lt (hR : qRw R S) (hL : qPl S) (hb : b < wN (R 116)) (h5 : wN (R 116) ≤ 5) (ho : 3 ≤ hw S b) : hw S b - 3 < wN (R (18 * b + 3)) := by
  have := ((hL b (by omega)).2.2 (by rw [hR.m]; exact hb)).2 ho
  rw [hR.r (by omega) (by omega)] at this
  exact this
theorem rk_fo (hr : rOk T R Q) (hG : qG R) (hR : qRw R S) (hL : qPl S) : ∀ k, k ≤ wN (R 116) → fo (c_rk T S) 0 k (zI 0) = zI (fo (mxf (rkB T S)) 0 k 0) ∧ fo (mxf (rkB T S)) 0 k 0 < Q ∧ T.1.1 4 (fo (mxf (rkB T S)) 0 k 0) = fo (q_has S) 0 k (zI 0) := by
  have h5 := hG.m.2
  have hQ := hr.2.2.1
  intro k
  induction k with
  | zero => exact fun _ => ⟨rfl, by have := hr.2.1; exact this, hr.2.2.2.1⟩
  | succ k ih =>
    intro hk
    obtain ⟨i1, i2, i3⟩ := ih (by omega)
    rw [fo_succ, fo_succ, fo_succ, Nat.zero_add]
    generalize fo (c_rk T S) 0 k (zI 0) = x at *
    generalize fo (q_has S) 0 k (zI 0) = y at *
    generalize fo (mxf (rkB T S)) 0 k 0 = v at *
    have hk' : k < wN (R 116) := by omega
    unfold c_rk mxf rkB q_has
    simp only [hw_le2 hL (show k < 5 by omega)]
    rw [show wN (S (90 + k)) = hw S k from rfl]
    by_cases c : 3 ≤ hw S k
    · have hst := st_lt hR hL hk' h5 c
      obtain ⟨s1, s2, s3⟩ := hr.sr hk' hst
      have hn4 := (hG.n hk').2.2
      rw [if_pos c, if_pos c, if_neg (show ¬ hw S k ≤ 2 by omega), hR.r (by omega) (by omega)]
      rw [← s3, ← i3, i1]
      generalize wN (T.1.1 6 (4 * k + (hw S k - 3))) = q at *
      rw [s1]
      simp only [zI_lt (show v < 2147483648 by omega) (show q < 2147483648 by omega)]
      have hle : (T.1.1 4 q ≤ T.1.1 4 v) = ¬ (v < q) := by
        rw [← hr.lt i2 s2]
        exact propext Int32.not_lt.symm
      simp only [hle]
      by_cases c2 : v < q
      · rw [if_pos c2, if_pos c2, if_neg (fun z => z c2)]
        exact ⟨rfl, s2, rfl⟩
      · rw [if_neg c2, if_neg c2, if_pos c2]
        exact ⟨rfl, i2, rfl⟩
    · rw [if_neg c, if_neg c, if_pos (show hw S k ≤ 2 by omega), if_neg (by omega)]
      exact ⟨i1, i2, i3⟩
theorem lk_rk (hr : rOk T R Q) (hG : qG R) (hR : qRw R S) (hL : qPl S) : cRk T S = zI (rkN T S) ∧ rkN T S < Q ∧ T.1.1 4 (rkN T S) = qHas S ∧ rkN T S = fo (mxf (rkB T S)) 0 (wN (R 116)) 0 := by
  obtain ⟨i1, i2, i3⟩ := rk_fo hr hG hR hL (wN (R 116)) (Nat.le_refl _)
  have hQ := hr.2.2.1
  have e : rkN T S = fo (mxf (rkB T S)) 0 (wN (R 116)) 0 := by
    unfold rkN cRk
    rw [hR.m, i1, wN_zI (by omega)]
  rw [e]
  refine ⟨?_, i2, ?_, rfl⟩
  · unfold cRk
    rw [hR.m]
    exact i1
  · unfold qHas
    rw [hR.m]
    exact i3
theorem mxf_ge {g : Nat → Nat} : ∀ (k v : Nat), v ≤ fo (mxf g) 0 k v ∧ (∀ b, b < k → g b ≤ fo (mxf g) 0 k v) := by
  intro k
  induction k with
  | zero => exact fun v => ⟨Nat.le_refl _, fun b hb => by omega⟩
  | succ k ih =>
    intro v
    rw [fo_succ, Nat.zero_add]
    obtain ⟨h1, h2⟩ := ih v
    generalize fo (mxf g) 0 k v = x at *
    unfold mxf
    refine ⟨by split <;> omega, fun b hb => ?_⟩
    by_cases e : b = k
    · subst e
      split <;> omega
    · have := h2 b (by omega)
      split <;> omega
theorem mxf_at {g : Nat → Nat} : ∀ (k v : Nat), fo (mxf g) 0 k v = v ∨ ∃ b, b < k ∧ fo (mxf g) 0 k v = g b ∧ v < g b := by
  intro k
  induction k with
  | zero => exact fun v => Or.inl rfl
  | succ k ih =>
    intro v
    rw [fo_succ, Nat.zero_add]
    have ge := (mxf_ge (g := g) k v).1
    have i := ih v
    generalize fo (mxf g) 0 k v = x at *
    unfold mxf
    by_cases c : x < g k
    · rw [if_pos c]
      exact Or.inr ⟨k, by omega, rfl, by omega⟩
    · rw [if_neg c]
      rcases i with i | ⟨b, b1, b2, b3⟩
      · exact Or.inl i
      · exact Or.inr ⟨b, by omega, b2, b3⟩
/-- a box opened: the rank that one has then -/
theorem lk_mx (hr : rOk T R Q) (hG : qG R) (hR : qRw R S) (hL : qPl S) (hL' : qPl (upd S (90 + b) (zI (3 + i)))) (hb : b < wN (R 116)) (hi : i < wN (R (18 * b + 3))) (ho : hw S b ≤ 2) : rkN T (upd S (90 + b) (zI (3 + i))) = rMx T (rkN T S) (4 * b + i) := by
  have h5 := hG.m.2
  have hi4 := (hG.n hb).2.2
  obtain ⟨-, -, -, e1⟩ := lk_rk hr hG hR hL
  obtain ⟨-, -, -, e2⟩ := lk_rk hr hG (hR.up (show b < 5 by omega)) hL'
  rw [e1, e2]
  have gb : rkB T (upd S (90 + b) (zI (3 + i))) b = wN (T.1.1 6 (4 * b + i)) := by
    unfold rkB
    rw [hw_up (by omega), if_pos (by omega), Nat.add_sub_cancel_left]
  have go : ∀ c, c ≠ b → rkB T (upd S (90 + b) (zI (3 + i))) c = rkB T S c := fun c hc => by
    unfold rkB
    rw [hw_uo hc]
  have g0 : rkB T S b = 0 := if_neg (by omega)
  obtain ⟨a1, a2⟩ := mxf_ge (g := rkB T S) (wN (R 116)) 0
  obtain ⟨b1, b2⟩ := mxf_ge (g := rkB T (upd S (90 + b) (zI (3 + i)))) (wN (R 116)) 0
  have a3 := mxf_at (g := rkB T S) (wN (R 116)) 0
  have b3 := mxf_at (g := rkB T (upd S (90 + b) (zI (3 + i)))) (wN (R 116)) 0
  have b4 := b2 b hb
  rw [gb] at b4
  unfold rMx
  generalize fo (mxf (rkB T S)) 0 (wN (R 116)) 0 = x at *
  generalize fo (mxf (rkB T (upd S (90 + b) (zI (3 + i))))) 0 (wN (R 116)) 0 = y at *
  generalize wN (T.1.1 6 (4 * b + i)) = q at *
  have hxy : x ≤ y := by
    rcases a3 with a3 | ⟨c, c1, c2, c3⟩
    · omega
    · by_cases e : c = b
      · subst e
        omega
      · have := b2 c c1
        rw [go c e] at this
        omega
  have hyx : y ≤ x ∨ y = q := by
    rcases b3 with b3 | ⟨c, c1, c2, c3⟩
    · omega
    · by_cases e : c = b
      · subst e
        exact Or.inr (c2.trans gb)
      · have := a2 c c1
        rw [go c e] at c2
        omega
  by_cases c : x < q
  · rw [if_pos c]
    omega
  · rw [if_neg c]
    omega
/-- a box peeped at: the rank stays -/
theorem lk_pk {x : Nat} (hr : rOk T R Q) (hG : qG R) (hR : qRw R S) (hL : qPl S) (hL' : qPl (upd S (90 + b) (zI x))) (hb : b < wN (R 116)) (hx : x ≤ 2) (ho : hw S b ≤ 2) : rkN T (upd S (90 + b) (zI x)) = rkN T S := by
  have h5 := hG.m.2
  obtain ⟨-, -, -, e1⟩ := lk_rk hr hG hR hL
  obtain ⟨-, -, -, e2⟩ := lk_rk hr hG (hR.up (show b < 5 by omega)) hL'
  rw [e1, e2]
  refine fo_congr _ _ _ (fun c _ hc v => ?_)
  unfold mxf
  have : rkB T (upd S (90 + b) (zI x)) c = rkB T S c := by
    unfold rkB
    by_cases e : c = b
    · subst e
      rw [hw_up (by omega), if_neg (by omega), if_neg (by omega)]
    · rw [hw_uo e]
  rw [this]
/-! what is seen -/
theorem bt_keep {x : Int32} {q : Nat} (hq : q < 32) : ∀ (k i : Nat) (v : Int32), (∀ j, i ≤ j → j < i + k → ∃ r, T.1.1 6 (4 * b + j) = zI r ∧ r < 32) → bt v q = true → bt (fo (c_sr T b) i k v) q = true := by
  intro k
  induction k with
  | zero => exact fun _ _ _ h => h
  | succ k ih =>
    intro i v h hv
    obtain ⟨r, r1, r2⟩ := h i (by omega) (by omega)
    refine ih (i + 1) _ (fun j h1 h2 => h j (by omega) (by omega)) ?_
    unfold c_sr
    rw [r1, bt_or r2 hq, hv, Bool.true_or]
theorem bt_set {q : Nat} (hq : q < 32) : ∀ (k i s : Nat) (v : Int32), (∀ j, i ≤ j → j < i + k → ∃ r, T.1.1 6 (4 * b + j) = zI r ∧ r < 32) → i ≤ s → s < i + k → T.1.1 6 (4 * b + s) = zI q → bt (fo (c_sr T b) i k v) q = true := by
  intro k
  induction k with
  | zero => intro i s v _ h1 h2; omega
  | succ k ih =>
    intro i s v h h1 h2 h3
    by_cases e : s = i
    · subst e
      refine bt_keep (x := v) hq k (s + 1) _ (fun j j1 j2 => h j (by omega) (by omega)) ?_
      unfold c_sr
      rw [h3, bt_or hq hq, decide_eq_true rfl, Bool.or_true]
    · exact ih (i + 1) s _ (fun j j1 j2 => h j (by omega) (by omega)) (by omega) (by omega) h3
theorem lk_seen (hr : rOk T R Q) (hG : qG R) (hR : qRw R S) (hL : qPl S) : bt (cSeen T R (qDg S)) (rkN T S) = true := by
  have h5 := hG.m.2
  have hQ := hr.2.2.1
  obtain ⟨e0, e1, e2, e3⟩ := lk_rk hr hG hR hL
  have hs : ∀ b j, b < wN (R 116) → j < wN (R (18 * b + 3)) → ∃ r, T.1.1 6 (4 * b + j) = zI r ∧ r < 32 := fun b j hb hj => by
    obtain ⟨s1, s2, s3⟩ := hr.sr hb hj
    exact ⟨_, s1, by omega⟩
  have keep : ∀ (k i : Nat) (v : Int32) (q : Nat), q < 32 → i + k ≤ wN (R 116) → bt v q = true → bt (fo (c_sb T R (qDg S)) i k v) q = true := by
    intro k
    induction k with
    | zero => exact fun _ _ _ _ _ h => h
    | succ k ih =>
      intro i v q hq hk hv
      refine ih (i + 1) _ q hq (by omega) ?_
      unfold c_sb
      by_cases c : cOp R (qDg S) i = true
      · rw [if_pos c]
        exact bt_keep (x := v) hq _ 0 v (fun j _ hj => hs i j (by omega) (by omega)) hv
      · rw [if_neg c]
        exact hv
  have put : ∀ (k i c s : Nat) (v : Int32) (q : Nat), q < 32 → i + k ≤ wN (R 116) → i ≤ c → c < i + k → cOp R (qDg S) c = true → s < wN (R (18 * c + 3)) → T.1.1 6 (4 * c + s) = zI q → bt (fo (c_sb T R (qDg S)) i k v) q = true := by
    intro k
    induction k with
    | zero => intro i c s v q _ _ h1 h2; omega
    | succ k ih =>
      intro i c s v q hq hk h1 h2 h3 h4 h6
      by_cases e : c = i
      · subst e
        refine keep k (c + 1) _ q hq (by omega) ?_
        unfold c_sb
        rw [if_pos h3]
        exact bt_set hq _ 0 s v (fun j _ hj => hs c j (by omega) (by omega)) (by omega) (by omega) h6
      · exact ih (i + 1) c s _ q hq (by omega) (by omega) (by omega) h3 h4 h6
  have nz : ∀ (x : Int32) (q : Nat), q < 32 → bt x q = true → ¬ x = 0 := fun x q hq hx e => by
    rw [e] at hx
    have := bt_z q hq
    rw [show (0 : Int32) = zI 0 from rfl, this] at hx
    cases hx
  have any : ∀ c, c < wN (R 116) → 3 ≤ hw S c → bt (cSeen T R (qDg S)) (wN (T.1.1 6 (4 * c + (hw S c - 3)))) = true := fun c hc ho => by
    have hst := st_lt hR hL hc h5 ho
    obtain ⟨s1, s2, s3⟩ := hr.sr hc hst
    have hb := put (wN (R 116)) 0 c (hw S c - 3) (zI 0) _ (by omega) (by omega) (by omega) (by omega) (by rw [lk_op hR hL hc h5, decide_eq_true ho]) hst s1
    unfold cSeen
    rw [if_neg (nz _ _ (by omega) hb)]
    exact hb
  rcases mxf_at (g := rkB T S) (wN (R 116)) 0 with c | ⟨b, b1, b2, b3⟩
  · rw [e3, c]
    by_cases o : ∃ c, c < wN (R 116) ∧ 3 ≤ hw S c
    · obtain ⟨k, k1, k2⟩ := o
      have := any k k1 k2
      have z := (mxf_ge (g := rkB T S) (wN (R 116)) 0).2 k k1
      rw [c] at z
      unfold rkB at z
      rw [if_pos k2] at z
      rw [show wN (T.1.1 6 (4 * k + (hw S k - 3))) = 0 by omega] at this
      exact this
    · have : fo (c_sb T R (qDg S)) 0 (wN (R 116)) (zI 0) = zI 0 := by
        have := fo_congr (f := c_sb T R (qDg S)) (g := fun _ v => v) (wN (R 116)) 0 (zI 0) (fun j _ hj v => by
          unfold c_sb
          rw [lk_op hR hL (by omega) h5, if_neg]
          simp only [decide_eq_true_eq]
          exact fun q => o ⟨j, by omega, q⟩)
        rw [this]
        clear this
        generalize wN (R 116) = k
        have : ∀ k i (v : Int32), fo (fun _ v => v) i k v = v := by
          intro k
          induction k with
          | zero => intros; rfl
          | succ k ih => intro i v; exact ih (i + 1) v
        exact this k 0 (zI 0)
      unfold cSeen
      rw [if_pos (show fo (c_sb T R (qDg S)) 0 (wN (R 116)) (zI 0) = 0 from this), bt_one 0 (by omega)]
      rfl
  · have hbo : 3 ≤ hw S b := by
      rcases Nat.lt_or_ge (hw S b) 3 with q | q
      · unfold rkB at b3
        rw [if_neg (by omega)] at b3
        omega
      · exact q
    have := any b b1 hbo
    rw [e3, b2]
    unfold rkB
    rw [if_pos hbo]
    exact this
end LR
