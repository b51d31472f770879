/-! links: holders, masses of places that follow -/
def lsN (P : Nat → Bool) : Nat → Nat → Nat
  | i, 0 => i
  | i, k + 1 => if P i = true then i else lsN P (i + 1) k
theorem lsN_v {P : Nat → Bool} : ∀ (k i : Nat), i ≤ lsN P i k ∧ lsN P i k ≤ i + k ∧ (∀ c, i ≤ c → c < lsN P i k → P c = false) ∧ (lsN P i k < i + k → P (lsN P i k) = true)
  | 0, i => ⟨Nat.le_refl _, Nat.le_refl _, fun c h1 h2 => absurd h2 (by unfold lsN; omega), fun h => absurd h (by unfold lsN; omega)⟩
  | k + 1, i => by
    unfold lsN
    by_cases c : P i = true
    · rw [if_pos c]
      exact ⟨by omega, by omega, fun c h1 h2 => by omega, fun _ => c⟩
    · rw [if_neg c]
      obtain ⟨h1, h2, h3, h4⟩ := lsN_v (P := P) k (i + 1)
      refine ⟨by omega, by omega, fun c' g1 g2 => ?_, fun g => h4 (by omega)⟩
      by_cases e : c' = i
      · rw [e]
        simpa using c
      · exact h3 c' (by omega) g2
theorem lsN_u {P : Nat → Bool} {k n : Nat} (h1 : n ≤ k) (h2 : ∀ c, c < n → P c = false) (h3 : n < k → P n = true) : lsN P 0 k = n := by
  obtain ⟨g1, g2, g3, g4⟩ := lsN_v (P := P) k 0
  rcases Nat.lt_trichotomy (lsN P 0 k) n with q | q | q
  · have := g4 (by omega)
    rw [h2 _ q] at this
    cases this
  · exact q
  · have := h3 (by omega)
    rw [g3 n (by omega) q] at this
    cases this
section LH
variable {R S : Nat → Int32} {b i Q : Nat} {T : mU × (Nat → Option Nat)}
/-- box c shows what one has -/
def shB (T : mU × (Nat → Option Nat)) (S : Nat → Int32) (c : Nat) : Bool := decide (3 ≤ hw S c) && decide (rkB T S c = rkN T S)
def hdV (T : mU × (Nat → Option Nat)) (S : Nat → Int32) (m : Nat) : Int32 := if lsN (shB T S) 0 m < m then zI (lsN (shB T S) 0 m) else -4
theorem hd_l (hr : rOk T R Q) (hG : qG R) (hR : qRw R S) (hL : qPl S) : ∀ (k i : Nat), i + k = wN (R 116) → c_hd T S (cRk T S) i k = if lsN (shB T S) i k < wN (R 116) then zI (lsN (shB T S) i k) else -4 := by
  have h5 := hG.m.2
  have hQ := hr.2.2.1
  obtain ⟨e0, e1, -, -⟩ := lk_rk hr hG hR hL
  intro k
  induction k with
  | zero =>
    intro i hi
    unfold lsN c_hd
    rw [if_neg (by omega)]
  | succ k ih =>
    intro i hi
    have hi' : i < wN (R 116) := by omega
    unfold lsN c_hd
    rw [show wN (S (90 + i)) = hw S i from rfl, e0]
    have key : (3 ≤ hw S i ∧ T.1.1 6 (4 * i + (hw S i - 3)) = zI (rkN T S)) = (shB T S i = true) := by
      unfold shB rkB
      by_cases c : 3 ≤ hw S i
      · obtain ⟨s1, s2, -⟩ := hr.sr hi' (st_lt hR hL hi' h5 c)
        rw [if_pos c, s1, zI_eq (by omega) (by omega)]
        rw [wN_zI (by omega)]
        simp [c]
      · simp [c]
    simp only [key]
    by_cases c : shB T S i = true
    · rw [if_pos c, if_pos c, if_pos hi']
    · rw [if_neg c, if_neg c, ← e0]
      exact ih (i + 1) (by omega)
theorem lk_hd (hr : rOk T R Q) (hG : qG R) (hR : qRw R S) (hL : qPl S) : c_hd T S (cRk T S) 0 (wN (R 116)) = hdV T S (wN (R 116)) := hd_l hr hG hR hL _ 0 (Nat.zero_add _)
theorem rkB_le (hr : rOk T R Q) (hG : qG R) (hR : qRw R S) (hL : qPl S) (hb : b < wN (R 116)) : rkB T S b ≤ rkN T S := by
  obtain ⟨-, -, -, e3⟩ := lk_rk hr hG hR hL
  rw [e3]
  exact (mxf_ge (g := rkB T S) (wN (R 116)) 0).2 b hb
/-- the holder after a box was opened -/
theorem lk_ha (hr : rOk T R Q) (hG : qG R) (hR : qRw R S) (hL : qPl S) (hL' : qPl (upd S (90 + b) (zI (3 + i)))) (hb : b < wN (R 116)) (hi : i < wN (R (18 * b + 3))) (ho : hw S b ≤ 2) : hdV T (upd S (90 + b) (zI (3 + i))) (wN (R 116)) = if wN (T.1.1 6 (4 * b + i)) < rkN T S then hdV T S (wN (R 116)) else if rkN T S < wN (T.1.1 6 (4 * b + i)) then zI b else if hdV T S (wN (R 116)) < 0 then zI b else if hdV T S (wN (R 116)) < zI b then hdV T S (wN (R 116)) else zI b := by
  have h5 := hG.m.2
  have hn4 := (hG.n hb).2.2
  have hmx := lk_mx hr hG hR hL hL' hb hi ho
  have gb : rkB T (upd S (90 + b) (zI (3 + i))) b = wN (T.1.1 6 (4 * b + i)) := by
    unfold rkB
    rw [hw_up (by omega), if_pos (by omega), Nat.add_sub_cancel_left]
  have go : ∀ c, c ≠ b → rkB T (upd S (90 + b) (zI (3 + i))) c = rkB T S c := fun c hc => by
    unfold rkB
    rw [hw_uo hc]
  have le : ∀ c, c < wN (R 116) → rkB T S c ≤ rkN T S := fun c hc => rkB_le hr hG hR hL hc
  have sb : shB T S b = false := by
    unfold shB
    rw [decide_eq_false (by omega), Bool.false_and]
  have so : ∀ c, c ≠ b → shB T (upd S (90 + b) (zI (3 + i))) c = (decide (3 ≤ hw S c) && decide (rkB T S c = rMx T (rkN T S) (4 * b + i))) := fun c hc => by
    unfold shB
    rw [go c hc, hw_uo hc, hmx]
  have sb' : shB T (upd S (90 + b) (zI (3 + i))) b = decide (wN (T.1.1 6 (4 * b + i)) = rMx T (rkN T S) (4 * b + i)) := by
    unfold shB
    rw [gb, hw_up (by omega), hmx, decide_eq_true (show 3 ≤ 3 + i by omega), Bool.true_and]
  obtain ⟨v1, v2, v3, v4⟩ := lsN_v (P := shB T S) (wN (R 116)) 0
  rw [Nat.zero_add] at v2 v4
  have hneg : ∀ n, n < 5 → ¬ zI n < 0 := fun n hn => by rw [zI_neg (by omega)]; exact id
  unfold rMx at so sb'
  unfold hdV
  generalize wN (T.1.1 6 (4 * b + i)) = q at *
  by_cases c1 : q < rkN T S
  · rw [if_pos c1]
    have e : lsN (shB T (upd S (90 + b) (zI (3 + i)))) 0 (wN (R 116)) = lsN (shB T S) 0 (wN (R 116)) := by
      have pe : shB T (upd S (90 + b) (zI (3 + i))) = shB T S := by
        funext c
        by_cases e : c = b
        · rw [e, sb', sb, if_neg (by omega)]
          exact decide_eq_false (by omega)
        · rw [so c e, if_neg (by omega)]
          rfl
      rw [pe]
    rw [e]
  · rw [if_neg c1]
    by_cases c2 : rkN T S < q
    · rw [if_pos c2]
      have e : lsN (shB T (upd S (90 + b) (zI (3 + i)))) 0 (wN (R 116)) = b := by
        refine lsN_u (by omega) (fun c hc => ?_) (fun _ => ?_)
        · rw [so c (by omega), if_pos c2, decide_eq_false (show ¬ rkB T S c = q by have := le c (by omega); omega), Bool.and_false]
        · rw [sb', if_pos c2]
          exact decide_eq_true rfl
      rw [e, if_pos hb]
    · rw [if_neg c2]
      have eq : q = rkN T S := by omega
      have so' : ∀ c, c ≠ b → shB T (upd S (90 + b) (zI (3 + i))) c = shB T S c := fun c hc => by
        rw [so c hc, if_neg c2]
        rfl
      have st : shB T (upd S (90 + b) (zI (3 + i))) b = true := by
        rw [sb', if_neg c2]
        exact decide_eq_true eq
      by_cases c3 : lsN (shB T S) 0 (wN (R 116)) < wN (R 116)
      · have hb' : lsN (shB T S) 0 (wN (R 116)) ≠ b := fun e => by
          have := v4 c3
          rw [e, sb] at this
          cases this
        rw [if_pos c3, if_neg (hneg _ (by omega))]
        simp only [zI_lt (show lsN (shB T S) 0 (wN (R 116)) < 2147483648 by omega) (show b < 2147483648 by omega)]
        by_cases c4 : lsN (shB T S) 0 (wN (R 116)) < b
        · rw [if_pos c4]
          have e : lsN (shB T (upd S (90 + b) (zI (3 + i)))) 0 (wN (R 116)) = lsN (shB T S) 0 (wN (R 116)) := lsN_u (by omega) (fun c hc => by rw [so' c (by omega)]; exact v3 c (by omega) hc) (fun _ => by rw [so' _ hb']; exact v4 c3)
          rw [e, if_pos c3]
        · rw [if_neg c4]
          have e : lsN (shB T (upd S (90 + b) (zI (3 + i)))) 0 (wN (R 116)) = b := lsN_u (by omega) (fun c hc => by rw [so' c (by omega)]; exact v3 c (by omega) (by omega)) (fun _ => st)
          rw [e, if_pos hb]
      · rw [if_neg c3, if_pos m4_neg]
        have e : lsN (shB T (upd S (90 + b) (zI (3 + i)))) 0 (wN (R 116)) = b := lsN_u (by omega) (fun c hc => by rw [so' c (by omega)]; exact v3 c (by omega) (by omega)) (fun _ => st)
        rw [e, if_pos hb]
/-- the holder stays when one peeps -/
theorem lk_hp {x : Nat} (hr : rOk T R Q) (hG : qG R) (hR : qRw R S) (hL : qPl S) (hL' : qPl (upd S (90 + b) (zI x))) (hb : b < wN (R 116)) (hx : x ≤ 2) (ho : hw S b ≤ 2) : hdV T (upd S (90 + b) (zI x)) (wN (R 116)) = hdV T S (wN (R 116)) := by
  have hp := lk_pk hr hG hR hL hL' hb hx ho
  have pe : shB T (upd S (90 + b) (zI x)) = shB T S := by
    funext c
    unfold shB rkB
    rw [hp]
    by_cases e : c = b
    · subst e
      rw [hw_up (by omega), decide_eq_false (by omega), decide_eq_false (show ¬ 3 ≤ hw S c by omega), Bool.false_and, Bool.false_and]
    · rw [hw_uo e]
  unfold hdV
  rw [pe]
/-- whether a box is taken -/
theorem lk_tk (hr : rOk T R Q) (hG : qG R) (hR : qRw R S) (hL : qPl S) (hb : b < wN (R 116)) : qTk S b = decide (hdV T S (wN (R 116)) = zI b) := by
  have h5 := hG.m.2
  have hQ := hr.2.2.1
  obtain ⟨-, e1, e2, -⟩ := lk_rk hr hG hR hL
  -- one box: open, and its worth is what one has
  have one : ∀ c, c < wN (R 116) → (!decide (S (90 + c) ≤ zI 2) && decide (S (18 * c + (6 + (wN (S (90 + c)) - 3))) = qHas S)) = shB T S c := fun c hc => by
    unfold shB
    have hn4 := (hG.n hc).2.2
    simp only [hw_le2 hL (show c < 5 by omega)]
    by_cases q : 3 ≤ hw S c
    · have hst := st_lt hR hL hc h5 q
      obtain ⟨s1, s2, s3⟩ := hr.sr hc hst
      rw [decide_eq_false (show ¬ hw S c ≤ 2 by omega), decide_eq_true q, Bool.not_false, Bool.true_and, Bool.true_and]
      unfold rkB
      rw [if_pos q, show wN (S (90 + c)) = hw S c from rfl, hR.r (by omega) (by omega), ← s3, ← e2]
      generalize wN (T.1.1 6 (4 * c + (hw S c - 3))) = x at *
      congr 1
      refine propext ⟨fun w => ?_, fun w => by rw [w]⟩
      rcases Nat.lt_trichotomy x (rkN T S) with k | k | k
      · have := (hr.lt s2 e1).symm ▸ k
        rw [w] at this
        exact absurd this Int32.lt_irrefl
      · exact k
      · have := (hr.lt e1 s2).symm ▸ k
        rw [w] at this
        exact absurd this Int32.lt_irrefl
    · rw [decide_eq_true (show hw S c ≤ 2 by omega), decide_eq_false q, Bool.not_true, Bool.false_and, Bool.false_and]
  obtain ⟨v1, v2, v3, v4⟩ := lsN_v (P := shB T S) (wN (R 116)) 0
  rw [Nat.zero_add] at v2 v4
  have key : (qTk S b = true) ↔ (hdV T S (wN (R 116)) = zI b) := by
    have q1 : qTk S b = (shB T S b && fall (q_tk S) 0 b) := by
      unfold qTk
      rw [← one b hb, Bool.and_assoc]
    rw [q1, Bool.and_eq_true, fall_iff]
    have q2 : ∀ c, c < b → q_tk S c = !shB T S c := fun c hc => by
      rw [← one c (by omega)]
      unfold q_tk
      cases decide (S (90 + c) ≤ zI 2) <;> cases decide (S (18 * c + (6 + (wN (S (90 + c)) - 3))) = qHas S) <;> rfl
    unfold hdV
    constructor
    · rintro ⟨p1, p2⟩
      have e : lsN (shB T S) 0 (wN (R 116)) = b := lsN_u (by omega) (fun c hc => by
        have := p2 c (by omega) (by omega)
        rw [q2 c hc] at this
        simpa using this) (fun _ => p1)
      rw [e, if_pos hb]
    · intro e
      by_cases c3 : lsN (shB T S) 0 (wN (R 116)) < wN (R 116)
      · rw [if_pos c3, zI_eq (by omega) (by omega)] at e
        refine ⟨by rw [← e]; exact v4 c3, fun c _ hc => ?_⟩
        rw [q2 c (by omega), v3 c (by omega) (by omega)]
        rfl
      · rw [if_neg c3] at e
        have := m4_neg
        rw [e, zI_neg (by omega)] at this
        exact this.elim
  by_cases c : hdV T S (wN (R 116)) = zI b
  · rw [decide_eq_true c]
    exact key.mpr c
  · rw [decide_eq_false c]
    cases k : qTk S b with
    | false => rfl
    | true => exact absurd (key.mp k) c
/-- all that can't be stops -/
theorem Z0_B (hG : qG R) (hR : qRw R S) (hL : qPl S) (hZ : Z0 R S) : qB S = (0, zI 0) := by
  have h5 := hG.m.2
  have hhw : qHw S := fun c hc => (hL c hc).1
  have hn : qNn S := (qG_R hG hR).nn
  have hm0 : qMass S = 0 := (Z0_ms hG hR hL).mpr hZ
  have zz : ∀ x : Int64, x * 0 = 0 := fun x => Int64.mul_zero
  have n0 : ¬ (0 : Int64) < 0 := by decide
  have v1 : (qB S).1 = 0 := Z0_V hG 11 S hR hL hZ
  have inv : ∀ (f : Nat → Int64 × Int32 → Int64 × Int32), (∀ b, b < wN (R 116) → f b (0, zI 0) = (0, zI 0)) → fo f 0 (wN (R 116)) (0, zI 0) = (0, zI 0) := fun f hf =>
    fo_inv (f := f) (fun _ s => s = (0, zI 0)) (wN (R 116)) 0 _ rfl (fun j s h1 h2 h3 => by rw [h3]; exact hf j (by omega))
  rw [qB_step hhw hn]
  unfold qStep
  rw [hR.m, hm0, zz, inv (q_bl S), inv (q_ob S _), inv (q_pb S _)]
  · intro b hb
    unfold q_pb
    by_cases c : qPeep S b = true
    · rw [if_pos c]
      have hp : hw S b = 0 ∧ R (18 * b) = zI 1 := by
        unfold qPeep at c
        simp only [Bool.and_eq_true, decide_eq_true_eq] at c
        have e0 : (S (90 + b) = 0) = (hw S b = 0) := hw_eq hL (show b < 5 by omega) (k := 0) (by omega)
        rw [e0, hR.r0 (by omega)] at c
        exact ⟨c.2.1, c.1⟩
      have v0 : ∀ k, k = 1 ∨ k = 2 → (qB (upd S (90 + b) (zI k))).1 = 0 := fun k hk => Z0_V hG 11 _ (hR.up (by omega)) (hL.pe hR hG hb hk hp.2) (hZ.up (fun c _ c2 _ e => by
        subst e
        have := hp.1
        omega))
      have : qPee S (fun S' => (qB S').1) b = 0 := by
        unfold qPee
        rw [fo_2]
        unfold q_pee
        rw [hm0, zz]
        simp only [v0 1 (Or.inl rfl), v0 2 (Or.inr rfl), ite_self]
        rfl
      rw [this, if_neg n0]
    · rw [if_neg c]
  · intro b hb
    unfold q_ob
    by_cases c : qMay S b = true
    · rw [if_pos c]
      have : qOpn S (fun S' => (qB S').1) b = 0 := by
        unfold qOpn
        rw [hm0, zz, hR.r (by omega) (by omega)]
        refine fo_inv (f := q_opn S (fun S' => (qB S').1) b) (fun _ v => v = 0) (wN (R (18 * b + 3))) 0 0 rfl (fun j v h1 h2 h3 => ?_)
        have hn4 := (hG.n hb).2.2
        unfold q_opn
        by_cases q : qShows S b j = 0
        · rw [if_pos q]
          exact h3
        · rw [if_neg q, h3]
          have : (qB (upd S (90 + b) (zI (3 + j)))).1 = 0 := by
            refine Z0_V hG 11 _ (hR.up (by omega)) (hL.op hR hG hb (by omega)) (hZ.up (fun c c1 c2 c3 e => q ?_))
            subst e
            have := one_step hG hb c3
            unfold qShows
            rw [if_pos (Or.inr ⟨by rw [hw_eq hL (by omega) (by omega)]; exact c2, by omega⟩)]
            rfl
          simp only [this, zz]
          rfl
      rw [this, if_neg n0]
    · rw [if_neg c]
  · intro b hb
    unfold q_bl
    split
    · split
      · have : qBd S b = 0 := by
          unfold qBd
          rw [hm0, show (0 : Int64) / 100 = 0 by decide]
          exact zz _
        rw [this, if_neg n0]
      · rfl
    · rfl
theorem Z0_L {tk : Bool} {x : Nat} (hG : qG R) (hR : qRw R S) (hL : qPl S) (hZ : Z0 R S) : qLf x tk S = 0 := by
  have hw : qHw S := fun c hc => (hL c hc).1
  have hn : qNn S := (qG_R hG hR).nn
  rw [qLf_step hw hn, Z0_B hG hR hL hZ]
  show qLa S _ x tk 0 = 0
  unfold qLa
  rw [if_pos rfl, (Z0_ms hG hR hL).mpr hZ]
  split <;> rfl
/-- what is open isn't opened again -/
theorem op_L {x : Nat} (hG : qG R) : ∀ (n : Nat) (S : Nat → Int32), qRw R S → qPl S → 3 ≤ hw S x → x < 5 → qLk x false n S = 0 := by
  have h5 := hG.m.2
  intro n
  induction n with
  | zero => intros; rfl
  | succ n ih =>
    intro S hR hL ho hx
    have hhw : qHw S := fun c hc => (hL c hc).1
    have hn : qNn S := (qG_R hG hR).nn
    show qLa S (qLk x false n) x false (wN (qB S).2) = 0
    have zz : ∀ y : Int64, y * 0 = 0 := fun y => Int64.mul_zero
    rcases qB_act hhw hn with e | ⟨y, hy, ⟨e, -⟩ | ⟨e, e2⟩ | ⟨e, e2⟩⟩
    · rw [e]
      rfl
    · rw [hR.m] at hy
      rw [e, wN_zI (by omega)]
      unfold qLa
      simp [show ¬ 30 + y = 0 by omega]
    · rw [hR.m] at hy
      have hyo := qMay_le hL (by omega) e2
      have hxy : x ≠ y := fun q => by
        subst q
        omega
      rw [e, wN_zI (by omega)]
      unfold qLa
      rw [if_neg (by omega), if_neg (by omega), if_pos (by omega), show (10 + y) % 10 = y by omega, if_neg (fun q => hxy q.2.symm), hR.r (by omega) (by omega)]
      refine fo_inv (f := q_lo S (qLk x false n) y) (fun _ v => v = 0) (wN (R (18 * y + 3))) 0 0 rfl (fun j v h1 h2 h3 => ?_)
      have hn4 := (hG.n hy).2.2
      unfold q_lo
      rw [h3, ih _ (hR.up (by omega)) (hL.op hR hG hy (by omega)) (by rw [hw_uo hxy]; exact ho) hx, zz]
      simp
    · rw [hR.m] at hy
      have hpy : hw S y = 0 ∧ R (18 * y) = zI 1 := by
        unfold qPeep at e2
        simp only [Bool.and_eq_true, decide_eq_true_eq] at e2
        have e0 : (S (90 + y) = 0) = (hw S y = 0) := hw_eq hL (show y < 5 by omega) (k := 0) (by omega)
        rw [e0, hR.r0 (by omega)] at e2
        exact ⟨e2.2.1, e2.1⟩
      have hxy : x ≠ y := fun q => by
        subst q
        omega
      rw [e, wN_zI (by omega)]
      unfold qLa
      rw [if_neg (by omega), if_neg (by omega), if_neg (by omega), show (20 + y) % 10 = y by omega]
      refine fo_inv (f := q_lp S (qLk x false n) y) (fun _ v => v = 0) 2 0 0 rfl (fun j v h1 h2 h3 => ?_)
      unfold q_lp
      rw [h3, ih _ (hR.up (by omega)) (hL.pe hR hG hy (by omega) hpy.2) (by rw [hw_uo hxy]; exact ho) hx, zz]
      simp
end LH
