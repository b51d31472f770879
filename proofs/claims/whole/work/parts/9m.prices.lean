/-! rows that differ in prices alone, all as it was -/
def qE (S S' : Nat → Int32) : Prop := ∀ j, (j < 95 ∧ ¬ (j < 90 ∧ j % 18 = 1)) ∨ j = 116 ∨ j = 117 → S' j = S j
section EP
variable {S S' : Nat → Int32} {b i : Nat}
theorem qE.up {x : Int32} (h : qE S S') : qE (upd S (90 + b) x) (upd S' (90 + b) x) := by
  intro j hj
  by_cases e : j = 90 + b
  · subst e
    rw [upd_s, upd_s]
  · rw [upd_o e, upd_o e]
    exact h j hj
theorem qE.m (h : qE S S') : S' 116 = S 116 := h 116 (by omega)
theorem qE.r (h : qE S S') {j : Nat} (hj : j < 95 ∧ ¬ (j < 90 ∧ j % 18 = 1)) : S' j = S j := h j (Or.inl hj)
theorem qE.pr {n : Nat} (hb : b < 5) : qE S (qPr S b n) := fun j hj => upd_o (by omega)
theorem qE.sy (h : qE S S') : qE S' S := fun j hj => (h j hj).symm
theorem qE.tr {S'' : Nat → Int32} (h : qE S S') (h2 : qE S' S'') : qE S S'' := fun j hj => (h2 j hj).trans (h j hj)
theorem qSpent_e (h : qE S S') (hq : qW S) : qSpent S' = qSpent S := by
  have hm := hq.m.2
  unfold qSpent
  rw [h.m]
  apply fo_congr
  intro j h1 h2 a
  unfold q_spent
  rw [h.r (j := 90 + j) (by omega), h.r (j := 18 * j + 2) (by omega)]
theorem qChance_e (h : qE S S') (hq : qW S) (hb : b < wN (S 116)) (hi : i < 4) : qChance S' b i = qChance S b i := by
  have hm := hq.m.2
  have hk := hq.kin hb
  unfold qChance
  rw [h.r (j := 18 * b + 5) (by omega), h.r (j := 18 * b + (10 + i)) (by omega), h.r (j := 18 * b + (14 + i)) (by omega), h.r (j := 90 + wN (S (18 * b + 5))) (by omega)]
theorem qShows_e (h : qE S S') (hq : qW S) (hb : b < wN (S 116)) (hi : i < 4) : qShows S' b i = qShows S b i := by
  have hm := hq.m.2
  unfold qShows
  rw [h.r (j := 90 + b) (by omega), qChance_e h hq hb hi]
theorem qMay_e (h : qE S S') (hq : qW S) (hb : b < wN (S 116)) : qMay S' b = qMay S b := by
  have hm := hq.m.2
  unfold qMay
  rw [h.r (j := 90 + b) (by omega), h.r (j := 18 * b) (by omega), h.r (j := 18 * b + 2) (by omega), h.r (j := 18 * b + 4) (by omega), h 117 (by omega), qSpent_e h hq]
  by_cases e : S (18 * b) = zI 3
  · have h4 := (((hq.2.1 b hb).2 e).z (by omega)).2
    rw [h.r (j := 90 + wN (S (18 * b + 4))) (by omega)]
  · simp only [if_neg e]
theorem qPeep_e (h : qE S S') (hq : qW S) (hb : b < wN (S 116)) : qPeep S' b = qPeep S b := by
  have hm := hq.m.2
  unfold qPeep
  rw [h.r (j := 90 + b) (by omega), h.r (j := 18 * b) (by omega), qMay_e h hq hb]
theorem qHas_e (h : qE S S') (hq : qW S) : qHas S' = qHas S := by
  have hm := hq.m.2
  unfold qHas
  rw [h.m]
  apply fo_congr
  intro j h1 h2 a
  have hw := ((hq.1 j (by omega)).z (by omega)).2
  unfold q_has
  rw [h.r (j := 90 + j) (by omega), h.r (j := 18 * j + (6 + (wN (S (90 + j)) - 3))) (by omega)]
theorem qMass_e (h : qE S S') (hq : qW S) : qMass S' = qMass S := by
  have hm := hq.m.2
  unfold qMass
  rw [h.m]
  apply fo_congr
  intro j h1 h2 a
  unfold q_mass
  rw [h.r (j := 90 + j) (by omega), qChance_e h hq (by omega) (by omega)]
theorem qBd_e (h : qE S S') (hq : qW S) (hb : b < wN (S 116)) (h4 : wN (S (18 * b + 3)) ≤ 4) : qBd S' b = qBd S b := by
  have hm := hq.m.2
  unfold qBd
  rw [h.r (j := 18 * b + 3) (by omega), qMass_e h hq]
  congr 1
  apply fo_congr
  intro j h1 h2 a
  unfold q_bd
  rw [qChance_e h hq hb (by omega), h.r (j := 18 * b + (6 + j)) (by omega)]
theorem qOpn_e {V V' : (Nat → Int32) → Int64} (h : qE S S') (hq : qW S) (hb : b < wN (S 116)) (h4 : wN (S (18 * b + 3)) ≤ 4) (hp : S' (18 * b + 1) = S (18 * b + 1)) (hv : ∀ i, i < 4 → V' (upd S' (90 + b) (zI (3 + i))) = V (upd S (90 + b) (zI (3 + i)))) : qOpn S' V' b = qOpn S V b := by
  have hm := hq.m.2
  unfold qOpn
  rw [hp, h.r (j := 18 * b + 3) (by omega), qMass_e h hq]
  apply fo_congr
  intro i h1 h2 a
  unfold q_opn
  rw [qShows_e h hq hb (by omega), hv i (by omega)]
theorem qPee_e {V V' : (Nat → Int32) → Int64} (h : qE S S') (hq : qW S) (hb : b < wN (S 116)) (hv : ∀ k, 1 ≤ k → k < 3 → V' (upd S' (90 + b) (zI k)) = V (upd S (90 + b) (zI k))) : qPee S' V' b = qPee S V b := by
  have hm := hq.m.2
  unfold qPee
  rw [h.r (j := 18 * b + 4) (by omega), qMass_e h hq]
  apply fo_congr
  intro i h1 h2 a
  unfold q_pee
  rw [hv i (by omega) (by omega), qMass_e (h.up (b := b)) (hq.up (by omega) (by omega))]
theorem may_sh (h : qMay S b = true) : ¬ zI 2 < S (90 + b) := fun c => by
  unfold qMay at h
  rw [if_pos c] at h
  cases h
theorem pee_may (h : qPeep S b = true) : qMay S b = true := by
  unfold qPeep at h
  simp only [Bool.and_eq_true] at h
  exact h.2.2
end EP
/-- what is open has no price -/
theorem qV_e : ∀ (n : Nat) (S S' : Nat → Int32), qE S S' → qW S → qNn S → (∀ c, c < wN (S 116) → S' (18 * c + 1) = S (18 * c + 1) ∨ zI 2 < S (90 + c)) → qV n S' = qV n S
  | 0, _, _, _, _, _, _ => rfl
  | n + 1, S, S', h, hq, hn, hp => by
    have hm := hq.m.2
    have pp : ∀ b, b < wN (S 116) → qMay S b = true → S' (18 * b + 1) = S (18 * b + 1) := fun b hb c => (hp b hb).resolve_right (may_sh c)
    have hv : ∀ b x, b < wN (S 116) → qMay S b = true → x ≤ 6 → (qV n (upd S' (90 + b) (zI x))).1 = (qV n (upd S (90 + b) (zI x))).1 := fun b x hb c hx => by
      rw [qV_e n _ _ (h.up (b := b)) (hq.up hx (by omega)) (hn.up (by omega)) (fun y hy => ?_)]
      rw [upd_o (by omega)] at hy
      rw [upd_o (by omega), upd_o (by omega)]
      by_cases e : y = b
      · subst e
        exact Or.inl (pp y hb c)
      · rw [upd_o (by omega)]
        exact hp y hy
    show qStep S' _ = qStep S _
    unfold qStep
    rw [h.m, qHas_e h hq, qMass_e h hq]
    have e0 : ∀ s, fo (q_bl S') 0 (wN (S 116)) s = fo (q_bl S) 0 (wN (S 116)) s := by
      intro s
      apply fo_congr
      intro b hb1 hb2 a
      unfold q_bl
      rw [h.r (j := 18 * b) (by omega), h.r (j := 90 + b) (by omega), qBd_e h hq (by omega) (hn.2 b (by omega))]
    have e1 : ∀ s, fo (q_ob S' (fun S' => (qV n S').1)) 0 (wN (S 116)) s = fo (q_ob S (fun S' => (qV n S').1)) 0 (wN (S 116)) s := by
      intro s
      apply fo_congr
      intro b hb1 hb2 a
      unfold q_ob
      rw [qMay_e h hq (by omega)]
      by_cases c : qMay S b = true
      · rw [if_pos c, if_pos c, qOpn_e (V := fun S' => (qV n S').1) h hq (by omega) (hn.2 b (by omega)) (pp b (by omega) c) (fun i hi => hv b (3 + i) (by omega) c (by omega))]
      · rw [if_neg c, if_neg c]
    have e2 : ∀ s, fo (q_pb S' (fun S' => (qV n S').1)) 0 (wN (S 116)) s = fo (q_pb S (fun S' => (qV n S').1)) 0 (wN (S 116)) s := by
      intro s
      apply fo_congr
      intro b hb1 hb2 a
      unfold q_pb
      rw [qPeep_e h hq (by omega)]
      by_cases c : qPeep S b = true
      · rw [if_pos c, if_pos c, qPee_e (V := fun S' => (qV n S').1) h hq (by omega) (fun k h1 h2 => hv b k (by omega) (pee_may c) (by omega))]
      · rw [if_neg c, if_neg c]
    rw [e0, e1, e2]
theorem fo_rel {α β : Type} {f : Nat → α → α} {g : Nat → β → β} (P : α → β → Prop) : ∀ (k i : Nat) (s : α) (t : β), P s t → (∀ j s t, i ≤ j → j < i + k → P s t → P (f j s) (g j t)) → P (fo f i k s) (fo g i k t)
  | 0, _, _, _, h, _ => h
  | k + 1, i, s, t, h, hs => fo_rel P k (i + 1) (f i s) (g i t) (hs i s t (by omega) (by omega) h) (fun j s t h1 h2 => hs j s t (by omega) (by omega))
/-- at a lower price, and at a higher one: s, t -/
def pRl (b : Nat) (D : Int) (s t : Int64 × Int32) : Prop := t.1.toInt ≤ s.1.toInt ∧ s.1.toInt ≤ t.1.toInt + D ∧ (t.2 = zI (10 + b) → s.2 = zI (10 + b) ∧ s.1.toInt = t.1.toInt + D)
theorem pRl.mx {b : Nat} {D : Int} {s t : Int64 × Int32} {x y : Int64} {a : Int32} (h : pRl b D s t) (h1 : y.toInt ≤ x.toInt) (h2 : x.toInt ≤ y.toInt + D) (h3 : a = zI (10 + b) → x.toInt = y.toInt + D) : pRl b D (if s.1 < x then (x, a) else s) (if t.1 < y then (y, a) else t) := by
  obtain ⟨r1, r2, r3⟩ := h
  have k1 : (s.1 < x) = (s.1.toInt < x.toInt) := propext Int64.lt_iff_toInt_lt
  have k2 : (t.1 < y) = (t.1.toInt < y.toInt) := propext Int64.lt_iff_toInt_lt
  simp only [k1, k2]
  by_cases c1 : s.1.toInt < x.toInt
  · rw [if_pos c1]
    by_cases c2 : t.1.toInt < y.toInt
    · rw [if_pos c2]
      exact ⟨h1, h2, fun e => ⟨e, h3 e⟩⟩
    · rw [if_neg c2]
      refine ⟨?_, ?_, fun e => ?_⟩
      · show t.1.toInt ≤ x.toInt
        omega
      · show x.toInt ≤ t.1.toInt + D
        omega
      · have := (r3 e).2
        omega
  · rw [if_neg c1]
    by_cases c2 : t.1.toInt < y.toInt
    · rw [if_pos c2]
      refine ⟨?_, ?_, fun e => ?_⟩
      · show y.toInt ≤ s.1.toInt
        omega
      · show s.1.toInt ≤ y.toInt + D
        omega
      · have := h3 e
        omega
    · rw [if_neg c2]
      exact ⟨r1, r2, r3⟩
/-- s at a price, t at a higher one, a the act at the first -/
def pR2 (a : Int32) (s t : Int64 × Int32) : Prop := t.1.toInt ≤ s.1.toInt ∧ (s.2 = a → t = s)
theorem pR2.mx {b : Nat} {s t : Int64 × Int32} {x y : Int64} {a a' : Int32} (h : pR2 a s t) (h1 : y.toInt ≤ x.toInt) (h3 : a' = a → y = x) : pR2 a (if s.1 < x then (x, a') else s) (if t.1 < y then (y, a') else t) := by
  obtain ⟨r1, r3⟩ := h
  have k1 : (s.1 < x) = (s.1.toInt < x.toInt) := propext Int64.lt_iff_toInt_lt
  have k2 : (t.1 < y) = (t.1.toInt < y.toInt) := propext Int64.lt_iff_toInt_lt
  simp only [k1, k2]
  by_cases c1 : s.1.toInt < x.toInt
  · rw [if_pos c1]
    by_cases c2 : t.1.toInt < y.toInt
    · rw [if_pos c2]
      exact ⟨h1, fun e => by rw [h3 e]⟩
    · rw [if_neg c2]
      refine ⟨?_, fun e => ?_⟩
      · show t.1.toInt ≤ x.toInt
        omega
      · have := h3 e
        rw [this] at c2
        omega
  · rw [if_neg c1]
    by_cases c2 : t.1.toInt < y.toInt
    · rw [if_pos c2]
      refine ⟨?_, fun e => ?_⟩
      · show y.toInt ≤ s.1.toInt
        omega
      · have := r3 e
        rw [this] at c2
        omega
    · rw [if_neg c2]
      exact ⟨r1, r3⟩
section PR
variable {R S : Nat → Int32} {b c i Q p q x : Nat} {T : mU × (Nat → Option Nat)}
theorem pr_up {y : Int32} (hb : b < 5) : upd (qPr S b x) (90 + c) y = qPr (upd S (90 + c) y) b x := upd_c (by omega)
theorem qRw.pr (h : qRw R S) : qRw (qPr R b x) (qPr S b x) := fun j hj => by
  unfold qPr
  by_cases e : j = 18 * b + 1
  · subst e
    rw [upd_s, upd_s]
  · rw [upd_o e, upd_o e]
    exact h j hj
theorem qPl.pr (hb : b < 5) (hL : qPl S) : qPl (qPr S b x) := fun c hc => by
  obtain ⟨h1, h2, h3⟩ := hL c hc
  unfold qPr
  rw [upd_o (j := 116) (by omega), upd_o (j := 90 + c) (by omega), upd_o (j := 18 * c) (by omega), upd_o (j := 18 * c + 3) (by omega)]
  exact ⟨qN_x (upd_o (by omega)) h1, h2, h3⟩
theorem hw_pr (hb : b < 5) : hw (qPr S b x) c = hw S c := by
  unfold hw qPr
  rw [upd_o (by omega)]
theorem pr_m (hb : b < 5) : qPr S b x 116 = S 116 := upd_o (by omega)
theorem MM_pr (hb : b < 5) (h5 : wN (R 116) ≤ 5) : MM (qPr R b x) (qPr S b x) = MM R S := by
  unfold MM mP
  rw [pr_m hb]
  congr 1
  refine fo_congr _ _ _ (fun c _ hc v => ?_)
  unfold mf
  rw [hw_pr hb, show qPr R b x (18 * c + 10) = R (18 * c + 10) from upd_o (by omega)]
theorem oI_pr (hG : qG R) (hR : qRw R S) (hL : qPl S) (hb : b < 5) (hc : c < wN (R 116)) (hx : x ≤ 999) : oI (qPr R b x) (qPr S b x) c = fo (fun i (w : Int) => w + (qSn S c i : Int) * vI (qPr (upd S (90 + c) (zI (3 + i))) b x)) 0 (wN (R (18 * c + 3))) (-(if c = b then (x : Int) else (wN (R (18 * c + 1)) : Int)) * MM R S) := by
  have h5 := hG.m.2
  have hn4 := (hG.n hc).2.2
  have hq : qW S := qW_of2 (qG_R hG hR) (fun c hc => (hL c hc).1)
  have e1 : (wN (qPr R b x (18 * c + 1)) : Int) = if c = b then (x : Int) else (wN (R (18 * c + 1)) : Int) := by
    unfold qPr
    by_cases e : c = b
    · rw [if_pos e, e, upd_s, wN_zI (by omega)]
    · rw [if_neg e, upd_o (by omega)]
  unfold oI
  rw [e1, MM_pr hb h5, show qPr R b x (18 * c + 3) = R (18 * c + 3) from upd_o (by omega)]
  refine fo_congr _ _ _ (fun j _ hj v => ?_)
  show v + _ = v + _
  rw [pr_up hb]
  unfold qSn
  rw [qShows_e (qE.pr hb) hq (by rw [hR.m]; exact hc) (by omega)]
theorem pI_pr (hG : qG R) (hb : b < 5) (hc : c < wN (R 116)) : pI (qPr R b x) (qPr S b x) c = -(wN (R (18 * c + 4)) : Int) * MM R S + vI (qPr (upd S (90 + c) (zI 1)) b x) + vI (qPr (upd S (90 + c) (zI 2)) b x) := by
  have h5 := hG.m.2
  unfold pI
  rw [MM_pr hb h5, pr_up hb, pr_up hb, show qPr R b x (18 * c + 4) = R (18 * c + 4) from upd_o (by omega)]
theorem op_pr (hG : qG R) (hR : qRw R S) (hL : qPl S) (hb : b < wN (R 116)) (ho : 3 ≤ hw S b) : qB (qPr S b q) = qB (qPr S b p) := by
  have h5 := hG.m.2
  have hw : qHw S := fun c hc => (hL c hc).1
  have hGS := qG_R hG hR
  have k : ∀ x, qB (qPr S b x) = qB S := fun x => qV_e 11 S _ (qE.pr (by omega)) (qW_of2 hGS hw) hGS.nn (fun c hc => by
    by_cases e : c = b
    · subst e
      right
      rw [hw_gt2 hL (by omega)]
      omega
    · exact Or.inl (upd_o (by omega)))
  rw [k, k]
theorem oI_rel (hG : qG R) (hR : qRw R S) (hL : qPl S) (hb : b < wN (R 116)) (hc : c < wN (R 116)) (ho : hw S c ≤ 2) (hpq : p ≤ q) (hq : q ≤ 999) (hv : ∀ i, i < wN (R (18 * c + 3)) → vI (qPr (upd S (90 + c) (zI (3 + i))) b q) ≤ vI (qPr (upd S (90 + c) (zI (3 + i))) b p) ∧ vI (qPr (upd S (90 + c) (zI (3 + i))) b p) ≤ vI (qPr (upd S (90 + c) (zI (3 + i))) b q) + ((q - p : Nat) : Int) * MM R (upd S (90 + c) (zI (3 + i)))) : oI (qPr R b q) (qPr S b q) c ≤ oI (qPr R b p) (qPr S b p) c ∧ oI (qPr R b p) (qPr S b p) c ≤ oI (qPr R b q) (qPr S b q) c + ((q - p : Nat) : Int) * MM R S ∧ (c = b → oI (qPr R b p) (qPr S b p) c = oI (qPr R b q) (qPr S b q) c + ((q - p : Nat) : Int) * MM R S) := by
  have h5 := hG.m.2
  obtain ⟨hn0, hn1, hn4⟩ := hG.n hc
  have hM := MM_op (i := 0) hG hR hL hc ho (by omega)
  have hnn := MM_nn (R := R) (S := S)
  rw [oI_pr hG hR hL (by omega) hc (by omega), oI_pr hG hR hL (by omega) hc (by omega)]
  by_cases e : c = b
  · simp only [if_pos e]
    obtain ⟨a1, a2⟩ := fo_lin (s := qSn S c) (x := fun i => vI (qPr (upd S (90 + c) (zI (3 + i))) b p)) (y := fun i => vI (qPr (upd S (90 + c) (zI (3 + i))) b q)) (k1 := 0) (wN (R (18 * c + 3))) 0 (-(p : Int) * MM R S) (-(q : Int) * MM R S) (fun j _ hj => by
      have : vI (qPr (upd S (90 + c) (zI (3 + j))) b q) = vI (qPr (upd S (90 + c) (zI (3 + j))) b p) := by
        unfold vI
        rw [op_pr (p := p) (q := q) hG (hR.up (by omega)) (hL.op hR hG hc (by omega)) hb (by rw [e, hw_up (by omega)]; omega)]
      show vI _ ≤ vI _ ∧ vI _ - 0 ≤ vI _
      omega)
    rw [Int.mul_zero] at a2
    have e3 : -(p : Int) * MM R S = -(q : Int) * MM R S + ((q - p : Nat) : Int) * MM R S := by
      rw [← Int.add_mul]
      congr 1
      omega
    have hd : 0 ≤ ((q - p : Nat) : Int) * MM R S := Int.mul_nonneg (by omega) hnn
    omega
  · simp only [if_neg e]
    obtain ⟨a1, a2⟩ := fo_lin (s := qSn S c) (x := fun i => vI (qPr (upd S (90 + c) (zI (3 + i))) b p)) (y := fun i => vI (qPr (upd S (90 + c) (zI (3 + i))) b q)) (k1 := ((q - p : Nat) : Int) * MM R (upd S (90 + c) (zI (3 + 0)))) (wN (R (18 * c + 3))) 0 (-(wN (R (18 * c + 1)) : Int) * MM R S) (-(wN (R (18 * c + 1)) : Int) * MM R S) (fun j _ hj => by
      obtain ⟨v1, v2⟩ := hv j (by omega)
      rw [MM_op0 (i := j) (j := 0) hG hc (by omega) (by omega)] at v2
      show vI _ ≤ vI _ ∧ vI _ - _ ≤ vI _
      omega)
    have e2 : ((fsum (qSn S c) 0 (wN (R (18 * c + 3))) : Nat) : Int) * (((q - p : Nat) : Int) * MM R (upd S (90 + c) (zI (3 + 0)))) = ((q - p : Nat) : Int) * MM R S := by
      rw [← hM, ← Int.mul_assoc, Int.mul_comm _ ((q - p : Nat) : Int), Int.mul_assoc]
    rw [e2] at a2
    exact ⟨by omega, by omega, fun e' => absurd e' e⟩
theorem ne_10 (hb : b < 5) (hc : c < 5) : zI (10 + c) = zI (10 + b) → c = b := fun e => by
  rw [zI_eq (by omega) (by omega)] at e
  omega
/-- a higher price: the mean falls, by no more than the price; and where the box is opened first there, it is so at the lower -/
theorem vI_pr (hr : rOk T R Q) (hG : qG R) (hb : b < wN (R 116)) (hpq : p ≤ q) (hq : q ≤ 999) : ∀ (n : Nat) (S : Nat → Int32), qRw R S → qPl S → meas S < n → pRl b (((q - p : Nat) : Int) * MM R S) (qB (qPr S b p)) (qB (qPr S b q)) := by
  have h5 := hG.m.2
  have hb5 : b < 5 := by omega
  intro n
  induction n with
  | zero => intro S _ _ h; omega
  | succ n ih =>
    intro S hR hL hm
    have hhw : qHw S := fun c hc => (hL c hc).1
    have hGS := qG_R hG hR
    have hqW : qW S := qW_of2 hGS hhw
    have hnn := MM_nn (R := R) (S := S)
    have hd : 0 ≤ ((q - p : Nat) : Int) * MM R S := Int.mul_nonneg (by omega) hnn
    have G : ∀ x, x ≤ 999 → qG (qPr R b x) := fun x hx => hG.pr hb hx
    have GS : ∀ x, x ≤ 999 → qG (qPr S b x) := fun x hx => hGS.pr (by rw [hR.m]; exact hb) hx
    have W : ∀ x, qHw (qPr S b x) := fun x => hhw.pr hb5
    have rx : ∀ x, rOk T (qPr R b x) Q := fun x => cg_rOk (qC.pr hb5) hG hr
    rw [qB_step (W p) (GS p (by omega)).nn, qB_step (W q) (GS q hq).nn]
    unfold qStep
    rw [pr_m hb5, pr_m hb5, hR.m, qHas_e (qE.pr hb5) hqW, qMass_e (qE.pr hb5) hqW, qHas_e (qE.pr hb5) hqW, qMass_e (qE.pr hb5) hqW]
    refine fo_rel (pRl b _) _ _ _ _ (fo_rel (pRl b _) _ _ _ _ (fo_rel (pRl b _) _ _ _ _ ⟨by omega, by omega, fun e => ?_⟩ ?_) ?_) ?_
    · have e' : zI 0 = zI (10 + b) := e
      rw [zI_eq (by omega) (by omega)] at e'
      omega
    · intro c s t _ hc hst
      unfold q_bl
      rw [show qPr S b p (18 * c) = S (18 * c) from upd_o (by omega), show qPr S b q (18 * c) = S (18 * c) from upd_o (by omega), show qPr S b p (90 + c) = S (90 + c) from upd_o (by omega), show qPr S b q (90 + c) = S (90 + c) from upd_o (by omega), qBd_e (qE.pr hb5) hqW (by rw [hR.m]; omega) (hGS.nn.2 c (by rw [hR.m]; omega)), qBd_e (qE.pr hb5) hqW (by rw [hR.m]; omega) (hGS.nn.2 c (by rw [hR.m]; omega))]
      split
      · split
        · refine hst.mx (by omega) (by omega) (fun e => ?_)
          rw [zI_eq (by omega) (by omega)] at e
          omega
        · exact hst
      · exact hst
    · intro c s t _ hc hst
      unfold q_ob
      rw [qMay_e (qE.pr hb5) hqW (by rw [hR.m]; omega), qMay_e (qE.pr hb5) hqW (by rw [hR.m]; omega)]
      by_cases k : qMay S c = true
      · rw [if_pos k, if_pos k]
        have hc' : c < wN (R 116) := by omega
        have ho := qMay_le hL (by omega) k
        have hn4 := (hG.n hc').2.2
        obtain ⟨x1, x2, x3⟩ := oI_rel (p := p) (q := q) hG hR hL hb hc' ho hpq hq (fun i hi => by
          have := meas_up (S := S) (b := c) (x := 3 + i) (by omega) (by omega) (qMay_lev hhw (by omega) k)
          obtain ⟨y1, y2, y3⟩ := ih (upd S (90 + c) (zI (3 + i))) (hR.up (by omega)) (hL.op hR hG hc' hi) (by omega)
          exact ⟨y1, y2⟩)
        have tq := o_t (c := c) (rx q) (G q hq) (hR.pr (b := b) (x := q)) (hL.pr hb5) (by rw [pr_m hb5]; exact hc') (by rw [hw_pr hb5]; exact ho)
        have tp := o_t (c := c) (rx p) (G p (by omega)) (hR.pr (b := b) (x := p)) (hL.pr hb5) (by rw [pr_m hb5]; exact hc') (by rw [hw_pr hb5]; exact ho)
        exact hst.mx (by rw [tp, tq]; exact x1) (by rw [tp, tq]; exact x2) (fun e => by rw [tp, tq]; exact x3 (ne_10 hb5 (by omega) e))
      · rw [if_neg k, if_neg k]
        exact hst
    · intro c s t _ hc hst
      unfold q_pb
      rw [qPeep_e (qE.pr hb5) hqW (by rw [hR.m]; omega), qPeep_e (qE.pr hb5) hqW (by rw [hR.m]; omega)]
      by_cases k : qPeep S c = true
      · rw [if_pos k, if_pos k]
        have hc' : c < wN (R 116) := by omega
        obtain ⟨h0, h1⟩ := peep_v hR hL (by omega) k
        have ch : ∀ k, k = 1 ∨ k = 2 → vI (qPr (upd S (90 + c) (zI k)) b q) ≤ vI (qPr (upd S (90 + c) (zI k)) b p) ∧ vI (qPr (upd S (90 + c) (zI k)) b p) ≤ vI (qPr (upd S (90 + c) (zI k)) b q) + ((q - p : Nat) : Int) * MM R (upd S (90 + c) (zI k)) := fun k' hk => by
          have := meas_up (S := S) (b := c) (x := k') (by omega) (by omega) (qPeep_lev (by omega) k)
          obtain ⟨y1, y2, y3⟩ := ih (upd S (90 + c) (zI k')) (hR.up (by omega)) (hL.pe hR hG hc' hk h1) (by omega)
          exact ⟨y1, y2⟩
        obtain ⟨a1, a2⟩ := ch 1 (Or.inl rfl)
        obtain ⟨a3, a4⟩ := ch 2 (Or.inr rfl)
        have hM := MM_pe hG hc' h0
        have hMM : ((q - p : Nat) : Int) * MM R S = ((q - p : Nat) : Int) * MM R (upd S (90 + c) (zI 1)) + ((q - p : Nat) : Int) * MM R (upd S (90 + c) (zI 2)) := by
          rw [← Int.mul_add, hM]
        have k1 : ∀ x, qPr R b x (18 * c) = zI 1 := fun x => by
          rw [← h1]
          exact upd_o (by omega)
        have tq := p_t (c := c) (rx q) (G q hq) (hR.pr (b := b) (x := q)) (hL.pr hb5) (by rw [pr_m hb5]; exact hc') (by rw [hw_pr hb5]; exact h0) (k1 q)
        have tp := p_t (c := c) (rx p) (G p (by omega)) (hR.pr (b := b) (x := p)) (hL.pr hb5) (by rw [pr_m hb5]; exact hc') (by rw [hw_pr hb5]; exact h0) (k1 p)
        rw [pI_pr hG hb5 hc'] at tq tp
        refine hst.mx (by rw [tp, tq]; omega) (by rw [tp, tq]; omega) (fun e => ?_)
        rw [zI_eq (by omega) (by omega)] at e
        omega
      · rw [if_neg k, if_neg k]
        exact hst
theorem vI_p (hr : rOk T R Q) (hG : qG R) (hb : b < wN (R 116)) (hpq : p ≤ q) (hq : q ≤ 999) (hR : qRw R S) (hL : qPl S) : pRl b (((q - p : Nat) : Int) * MM R S) (qB (qPr S b p)) (qB (qPr S b q)) := vI_pr hr hG hb hpq hq 11 S hR hL (by have := meas_le S; omega)
theorem qBg_mono (hr : rOk T R Q) (hG : qG R) (hb : b < wN (R 116)) (hpq : p ≤ q) (hq : q ≤ 999) (hR : qRw R S) (hL : qPl S) (h : qBg S b q = true) : qBg S b p = true := by
  unfold qBg at h ⊢
  rw [decide_eq_true_eq] at h ⊢
  exact ((vI_p hr hG hb hpq hq hR hL).2.2 h).1
end PR
