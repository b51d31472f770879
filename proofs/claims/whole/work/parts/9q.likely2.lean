/-! likely, and prices -/
def lI (b : Nat) (S : Nat → Int32) : Int := (qLf b false S).toInt
section LJ
variable {R S : Nat → Int32} {b c i Q p q x : Nat} {T : mU × (Nat → Option Nat)}
theorem lI_j : qLf b false S = jI (lI b S) := jI_of _
theorem lI_z (hG : qG R) (hR : qRw R S) (hL : qPl S) (hm : qMass S = 0) : lI b S = 0 := by
  unfold lI
  rw [Z0_L hG hR hL ((Z0_ms hG hR hL).mp hm)]
  rfl
theorem lo_j (hG : qG R) (hR : qRw R S) (hL : qPl S) (hc : c < wN (R 116)) : fo (q_lo S (qLf b false) c) 0 (wN (R (18 * c + 3))) 0 = jI (fo (fun i (w : Int) => w + (qSn S c i : Int) * lI b (upd S (90 + c) (zI (3 + i)))) 0 (wN (R (18 * c + 3))) 0) := by
  have h5 := hG.m.2
  have hn4 := (hG.n hc).2.2
  have key : ∀ (k i : Nat) (w : Int), i + k ≤ wN (R (18 * c + 3)) → fo (q_lo S (qLf b false) c) i k (jI w) = jI (fo (fun i (w : Int) => w + (qSn S c i : Int) * lI b (upd S (90 + c) (zI (3 + i)))) i k w) := by
    intro k
    induction k with
    | zero => intros; rfl
    | succ k ih =>
      intro i w hk
      show fo (q_lo S (qLf b false) c) (i + 1) k (q_lo S (qLf b false) c i (jI w)) = jI (fo _ (i + 1) k (w + (qSn S c i : Int) * lI b (upd S (90 + c) (zI (3 + i)))))
      rw [← ih (i + 1) _ (by omega)]
      congr 1
      obtain ⟨s1, s2⟩ := sn_v hG hR hc (show i < wN (R (18 * c + 3)) by omega)
      unfold q_lo
      rw [s1]
      have ez : (zI (qSn S c i) = 0) = (qSn S c i = 0) := zI_ne0 (by omega)
      simp only [ez]
      by_cases q : qSn S c i = 0
      · rw [if_pos q, q]
        congr 1
        omega
      · rw [if_neg q]
        by_cases q2 : qMass (upd S (90 + c) (zI (3 + i))) = 0
        · rw [if_pos q2, lI_z hG (hR.up (by omega)) (hL.op hR hG hc (by omega)) q2, Int.mul_zero, Int.add_zero, jI_0, jI_add, Int.add_zero]
        · rw [if_neg q2, lI_j, jI_z (by omega), jI_mul, jI_add]
  exact key _ 0 0 (by omega)
theorem lp_j (hG : qG R) (hR : qRw R S) (hL : qPl S) (hc : c < wN (R 116)) (h1 : R (18 * c) = zI 1) : fo (q_lp S (qLf b false) c) 0 2 0 = jI (lI b (upd S (90 + c) (zI 1)) + lI b (upd S (90 + c) (zI 2))) := by
  have h5 := hG.m.2
  have x : ∀ k, k = 1 ∨ k = 2 → (if qMass (upd S (90 + c) (zI k)) = 0 then 0 else (zI 1).toInt64 * qLf b false (upd S (90 + c) (zI k))) = jI (lI b (upd S (90 + c) (zI k))) := fun k hk => by
    by_cases q : qMass (upd S (90 + c) (zI k)) = 0
    · rw [if_pos q, lI_z hG (hR.up (by omega)) (hL.pe hR hG hc hk h1) q]
      rfl
    · rw [if_neg q, lI_j, jI_z (by omega), jI_mul]
      congr 1
      omega
  show q_lp S (qLf b false) c 1 (q_lp S (qLf b false) c 0 0) = _
  unfold q_lp
  rw [show 1 + 0 = 1 from rfl, show 1 + 1 = 2 from rfl, x 1 (Or.inl rfl), x 2 (Or.inr rfl), jI_0, jI_add, jI_add]
  congr 1
  omega
/-- by the act of the best -/
theorem lf_op (hhw : qHw S) (hn : qNn S) (hc : c < 5) (ha : (qB S).2 = zI (10 + c)) : qLf b false S = if c = b then qMass S else fo (q_lo S (qLf b false) c) 0 (wN (S (18 * c + 3))) 0 := by
  rw [qLf_step hhw hn, ha, wN_zI (by omega)]
  unfold qLa
  rw [if_neg (by omega), if_neg (by omega), if_pos (by omega), show (10 + c) % 10 = c by omega]
  by_cases e : c = b
  · rw [if_pos ⟨rfl, e⟩, if_pos e]
  · rw [if_neg (fun q => e q.2), if_neg e]
theorem lf_pe (hhw : qHw S) (hn : qNn S) (hc : c < 5) (ha : (qB S).2 = zI (20 + c)) : qLf b false S = fo (q_lp S (qLf b false) c) 0 2 0 := by
  rw [qLf_step hhw hn, ha, wN_zI (by omega)]
  unfold qLa
  rw [if_neg (by omega), if_neg (by omega), if_neg (by omega), show (20 + c) % 10 = c by omega]
theorem lf_st (hhw : qHw S) (hn : qNn S) (ha : (qB S).2 = zI 0) : qLf b false S = 0 := by
  rw [qLf_step hhw hn, ha]
  rfl
theorem lf_tk (hhw : qHw S) (hn : qNn S) (hc : c < 5) (ha : (qB S).2 = zI (30 + c)) : qLf b false S = 0 := by
  rw [qLf_step hhw hn, ha, wN_zI (by omega)]
  unfold qLa
  rw [if_neg (by omega), if_pos (by omega)]
  simp
theorem lI_bd (hG : qG R) : ∀ (n : Nat) (S : Nat → Int32), qRw R S → qPl S → meas S < n → 0 ≤ lI b S ∧ lI b S ≤ MM R S := by
  have h5 := hG.m.2
  intro n
  induction n with
  | zero => intro S _ _ h; omega
  | succ n ih =>
    intro S hR hL hm
    have hhw : qHw S := fun c hc => (hL c hc).1
    have hn : qNn S := (qG_R hG hR).nn
    have hle := MM_le hG hR hL
    have hnn := MM_nn (R := R) (S := S)
    have z0 : (0 : Int64).toInt = 0 := rfl
    unfold lI
    rcases qB_act hhw hn with e | ⟨c, hc, ⟨e, -⟩ | ⟨e, e2⟩ | ⟨e, e2⟩⟩
    · rw [lf_st hhw hn e, z0]
      omega
    · rw [hR.m] at hc
      rw [lf_tk hhw hn (by omega) e, z0]
      omega
    · rw [hR.m] at hc
      have ho := qMay_le hL (by omega) e2
      obtain ⟨hn0, hn1, hn4⟩ := hG.n hc
      rw [lf_op hhw hn (by omega) e]
      by_cases q : c = b
      · rw [if_pos q, MM_j hG hR hL, jI_t (by omega) (by omega)]
        omega
      · rw [if_neg q, hR.r (by omega) (by omega), lo_j hG hR hL hc]
        have hM := MM_op (i := 0) hG hR hL hc ho (by omega)
        obtain ⟨a1, a2⟩ := fo_lin (s := qSn S c) (x := fun _ => MM R (upd S (90 + c) (zI (3 + 0)))) (y := fun i => lI b (upd S (90 + c) (zI (3 + i)))) (k1 := MM R (upd S (90 + c) (zI (3 + 0)))) (wN (R (18 * c + 3))) 0 0 0 (fun j _ hj => by
          have := meas_up (S := S) (b := c) (x := 3 + j) (by omega) (by omega) (qMay_lev hhw (by omega) e2)
          obtain ⟨v1, v2⟩ := ih (upd S (90 + c) (zI (3 + j))) (hR.up (by omega)) (hL.op hR hG hc (by omega)) (by omega)
          rw [MM_op0 (i := j) (j := 0) hG hc (by omega) (by omega)] at v2
          show lI b _ ≤ MM R _ ∧ MM R _ - MM R _ ≤ lI b _
          omega)
        rw [fo_cst, hM] at a1 a2
        rw [jI_t (by omega) (by omega)]
        omega
    · rw [hR.m] at hc
      obtain ⟨h0, h1⟩ := peep_v hR hL (by omega) e2
      have hM := MM_pe hG hc h0
      rw [lf_pe hhw hn (by omega) e, lp_j hG hR hL hc h1]
      have ch : ∀ k, k = 1 ∨ k = 2 → 0 ≤ lI b (upd S (90 + c) (zI k)) ∧ lI b (upd S (90 + c) (zI k)) ≤ MM R (upd S (90 + c) (zI k)) := fun k hk => by
        have := meas_up (S := S) (b := c) (x := k) (by omega) (by omega) (qPeep_lev (by omega) e2)
        exact ih (upd S (90 + c) (zI k)) (hR.up (by omega)) (hL.pe hR hG hc hk h1) (by omega)
      have c1 := ch 1 (Or.inl rfl)
      have c2 := ch 2 (Or.inr rfl)
      rw [jI_t (by omega) (by omega)]
      omega
theorem lI_b (hG : qG R) (hR : qRw R S) (hL : qPl S) : 0 ≤ lI b S ∧ lI b S ≤ MM R S := lI_bd hG 11 S hR hL (by have := meas_le S; omega)
theorem fo_zero {s : Nat → Nat} {y : Nat → Int} : ∀ (k i : Nat) (w : Int), 0 ≤ w → (∀ j, i ≤ j → j < i + k → 0 ≤ y j) → (w ≤ fo (fun j (w : Int) => w + (s j : Int) * y j) i k w) ∧ (fo (fun j (w : Int) => w + (s j : Int) * y j) i k w = 0 → w = 0 ∧ ∀ j, i ≤ j → j < i + k → (s j : Int) * y j = 0)
  | 0, i, w, _, _ => ⟨Int.le_refl _, fun h => ⟨h, fun j h1 h2 => by omega⟩⟩
  | k + 1, i, w, hw, h => by
    have hi : 0 ≤ (s i : Int) * y i := Int.mul_nonneg (Int.natCast_nonneg _) (h i (by omega) (by omega))
    obtain ⟨a1, a2⟩ := fo_zero (s := s) (y := y) k (i + 1) (w + (s i : Int) * y i) (by omega) (fun j h1 h2 => h j (by omega) (by omega))
    refine ⟨?_, fun e => ?_⟩
    · show w ≤ fo _ (i + 1) k (w + (s i : Int) * y i)
      omega
    · obtain ⟨b1, b2⟩ := a2 e
      refine ⟨by omega, fun j h1 h2 => ?_⟩
      by_cases q : j = i
      · subst q
        omega
      · exact b2 j (by omega) (by omega)
theorem L_ex1 (hG : qG R) (hR : qRw R S) (hL : qPl S) (hM : MM R S ≠ 0) (hz : qLf b false S = 0) (hc : c < wN (R 116)) (ha : (qB S).2 = zI (10 + c)) (hm : qMay S c = true) : c ≠ b ∧ ∀ i, i < wN (R (18 * c + 3)) → qSn S c i ≠ 0 → qLf b false (upd S (90 + c) (zI (3 + i))) = 0 := by
  have h5 := hG.m.2
  have hhw : qHw S := fun c hc => (hL c hc).1
  have hn : qNn S := (qG_R hG hR).nn
  have hle := MM_le hG hR hL
  have hnn := MM_nn (R := R) (S := S)
  have ho := qMay_le hL (by omega) hm
  obtain ⟨hn0, hn1, hn4⟩ := hG.n hc
  have hM1 := MM_op (i := 0) hG hR hL hc ho (by omega)
  rw [lf_op hhw hn (by omega) ha] at hz
  have ne : c ≠ b := fun e => by
    rw [if_pos e, MM_j hG hR hL, jI_0, jI_eq (by omega) (by omega) (by omega) (by omega)] at hz
    exact hM hz
  refine ⟨ne, ?_⟩
  rw [if_neg ne, hR.r (by omega) (by omega), lo_j hG hR hL hc] at hz
  have bd : ∀ j, j < wN (R (18 * c + 3)) → 0 ≤ lI b (upd S (90 + c) (zI (3 + j))) ∧ lI b (upd S (90 + c) (zI (3 + j))) ≤ MM R (upd S (90 + c) (zI (3 + 0))) := fun j hj => by
    have := lI_b (b := b) hG (hR.up (x := zI (3 + j)) (show c < 5 by omega)) (hL.op hR hG hc hj)
    rw [MM_op0 (i := j) (j := 0) hG hc (by omega) (by omega)] at this
    exact this
  obtain ⟨a1, a2⟩ := fo_lin (s := qSn S c) (x := fun _ => MM R (upd S (90 + c) (zI (3 + 0)))) (y := fun i => lI b (upd S (90 + c) (zI (3 + i)))) (k1 := MM R (upd S (90 + c) (zI (3 + 0)))) (wN (R (18 * c + 3))) 0 0 0 (fun j _ hj => by
    have := bd j (by omega)
    show lI b _ ≤ MM R _ ∧ MM R _ - MM R _ ≤ lI b _
    omega)
  rw [fo_cst, hM1] at a1 a2
  obtain ⟨z1, z2⟩ := fo_zero (s := qSn S c) (y := fun i => lI b (upd S (90 + c) (zI (3 + i)))) (wN (R (18 * c + 3))) 0 0 (by omega) (fun j _ hj => (bd j (by omega)).1)
  rw [jI_0, jI_eq (by omega) (by omega) (by omega) (by omega)] at hz
  intro i hi hs
  have := (z2 hz).2 i (by omega) (by omega)
  rw [lI_j]
  rcases Int.mul_eq_zero.mp this with q | q
  · exact absurd (by omega) hs
  · have q' : lI b (upd S (90 + c) (zI (3 + i))) = 0 := q
    rw [q']
    rfl
theorem L_ex2 (hG : qG R) (hR : qRw R S) (hL : qPl S) (hz : qLf b false S = 0) (hc : c < wN (R 116)) (ha : (qB S).2 = zI (20 + c)) (hm : qPeep S c = true) : ∀ k, k = 1 ∨ k = 2 → qLf b false (upd S (90 + c) (zI k)) = 0 := by
  have h5 := hG.m.2
  have hhw : qHw S := fun c hc => (hL c hc).1
  have hn : qNn S := (qG_R hG hR).nn
  have hle := MM_le hG hR hL
  obtain ⟨h0, h1⟩ := peep_v hR hL (by omega) hm
  have hM := MM_pe hG hc h0
  rw [lf_pe hhw hn (by omega) ha, lp_j hG hR hL hc h1] at hz
  have c1 := lI_b (b := b) hG (hR.up (x := zI 1) (show c < 5 by omega)) (hL.pe hR hG hc (Or.inl rfl) h1)
  have c2 := lI_b (b := b) hG (hR.up (x := zI 2) (show c < 5 by omega)) (hL.pe hR hG hc (Or.inr rfl) h1)
  rw [jI_0, jI_eq (by omega) (by omega) (by omega) (by omega)] at hz
  intro k hk
  rw [lI_j]
  rcases hk with rfl | rfl
  · rw [show lI b (upd S (90 + c) (zI 1)) = 0 by omega]
    rfl
  · rw [show lI b (upd S (90 + c) (zI 2)) = 0 by omega]
    rfl
theorem L_re1 (hG : qG R) (hR : qRw R S) (hL : qPl S) (hc : c < wN (R 116)) (ha : (qB S).2 = zI (10 + c)) (ne : c ≠ b) (h : ∀ i, i < wN (R (18 * c + 3)) → qSn S c i ≠ 0 → qLf b false (upd S (90 + c) (zI (3 + i))) = 0) : qLf b false S = 0 := by
  have h5 := hG.m.2
  have hhw : qHw S := fun c hc => (hL c hc).1
  have hn : qNn S := (qG_R hG hR).nn
  have hn4 := (hG.n hc).2.2
  rw [lf_op hhw hn (by omega) ha, if_neg ne, hR.r (by omega) (by omega)]
  refine fo_inv (f := q_lo S (qLf b false) c) (fun _ v => v = 0) (wN (R (18 * c + 3))) 0 0 rfl (fun j v h1 h2 h3 => ?_)
  obtain ⟨s1, s2⟩ := sn_v hG hR hc (show j < wN (R (18 * c + 3)) by omega)
  unfold q_lo
  by_cases q : qSn S c j = 0
  · rw [if_pos (by rw [s1, q]; rfl)]
    exact h3
  · rw [h j (by omega) q, h3, show (qShows S c j).toInt64 * 0 = 0 from Int64.mul_zero]
    simp
theorem L_re2 (hG : qG R) (hR : qRw R S) (hL : qPl S) (hc : c < wN (R 116)) (ha : (qB S).2 = zI (20 + c)) (h : ∀ k, k = 1 ∨ k = 2 → qLf b false (upd S (90 + c) (zI k)) = 0) : qLf b false S = 0 := by
  have h5 := hG.m.2
  have hhw : qHw S := fun c hc => (hL c hc).1
  have hn : qNn S := (qG_R hG hR).nn
  rw [lf_pe hhw hn (by omega) ha]
  show q_lp S (qLf b false) c 1 (q_lp S (qLf b false) c 0 0) = _
  unfold q_lp
  rw [show 1 + 0 = 1 from rfl, show 1 + 1 = 2 from rfl, h 1 (Or.inl rfl), h 2 (Or.inr rfl), show (zI 1).toInt64 * 0 = 0 from Int64.mul_zero]
  simp
theorem L0_pr (hr : rOk T R Q) (hG : qG R) (hb : b < wN (R 116)) (hpq : p ≤ q) (hq : q ≤ 999) : ∀ (n : Nat) (S : Nat → Int32), qRw R S → qPl S → meas S < n → qLf b false (qPr S b p) = 0 → qB (qPr S b q) = qB (qPr S b p) ∧ qLf b false (qPr S b q) = 0 := by
  have h5 := hG.m.2
  have hb5 : b < 5 := by omega
  intro n
  induction n with
  | zero => intro S _ _ h; omega
  | succ n ih =>
    intro S hR hL hm hz
    have hhw : qHw S := fun c hc => (hL c hc).1
    have hGS := qG_R hG hR
    have hqW : qW S := qW_of2 hGS hhw
    have hnn := MM_nn (R := R) (S := S)
    have G : ∀ x, x ≤ 999 → qG (qPr R b x) := fun x hx => hG.pr hb hx
    have GS : ∀ x, x ≤ 999 → qG (qPr S b x) := fun x hx => hGS.pr (by rw [hR.m]; exact hb) hx
    have W : ∀ x, qHw (qPr S b x) := fun x => hhw.pr hb5
    have rx : ∀ x, rOk T (qPr R b x) Q := fun x => cg_rOk (qC.pr hb5) hG hr
    have hRp : ∀ x, qRw (qPr R b x) (qPr S b x) := fun x => hR.pr
    have hLp : ∀ x, qPl (qPr S b x) := fun x => hL.pr hb5
    by_cases hM : MM R S = 0
    · have hmz : qMass S = 0 := by
        rw [MM_j hG hR hL, hM]
        rfl
      have Z : ∀ x, x ≤ 999 → Z0 (qPr R b x) (qPr S b x) := fun x hx => (Z0_ms (G x hx) (hRp x) (hLp x)).mp (by rw [qMass_e (qE.pr hb5) hqW]; exact hmz)
      rw [Z0_B (G q hq) (hRp q) (hLp q) (Z q hq), Z0_B (G p (by omega)) (hRp p) (hLp p) (Z p (by omega)), Z0_L (G q hq) (hRp q) (hLp q) (Z q hq)]
      exact ⟨rfl, rfl⟩
    · have hMp : MM (qPr R b p) (qPr S b p) ≠ 0 := by
        rw [MM_pr hb5 h5]
        exact hM
      have may : ∀ x c, c < wN (R 116) → qMay (qPr S b x) c = qMay S c := fun x c hc => qMay_e (qE.pr hb5) hqW (by rw [hR.m]; exact hc)
      have pee : ∀ x c, c < wN (R 116) → qPeep (qPr S b x) c = qPeep S c := fun x c hc => qPeep_e (qE.pr hb5) hqW (by rw [hR.m]; exact hc)
      have sn : ∀ x c i, c < wN (R 116) → i < 4 → qSn (qPr S b x) c i = qSn S c i := fun x c i hc hi => by
        unfold qSn
        rw [qShows_e (qE.pr hb5) hqW (by rw [hR.m]; exact hc) hi]
      -- what the act at the lower price says
      have E1 : ∀ c, c < wN (R 116) → (qB (qPr S b p)).2 = zI (10 + c) → qMay S c = true → c ≠ b ∧ ∀ i, i < wN (R (18 * c + 3)) → qSn S c i ≠ 0 → qB (qPr (upd S (90 + c) (zI (3 + i))) b q) = qB (qPr (upd S (90 + c) (zI (3 + i))) b p) ∧ qLf b false (qPr (upd S (90 + c) (zI (3 + i))) b q) = 0 := fun c hc ha hmy => by
        have hn4 := (hG.n hc).2.2
        obtain ⟨e1, e2⟩ := L_ex1 (b := b) (c := c) (G p (by omega)) (hRp p) (hLp p) hMp hz (by rw [pr_m hb5]; exact hc) ha (by rw [may p c hc]; exact hmy)
        refine ⟨e1, fun i hi hs => ?_⟩
        have := e2 i (by rw [show qPr R b p (18 * c + 3) = R (18 * c + 3) from upd_o (by omega)]; exact hi) (by rw [sn p c i hc (by omega)]; exact hs)
        rw [pr_up hb5] at this
        have hlt := meas_up (S := S) (b := c) (x := 3 + i) (by omega) (by omega) (qMay_lev hhw (by omega) hmy)
        exact ih _ (hR.up (by omega)) (hL.op hR hG hc hi) (by omega) this
      have E2 : ∀ c, c < wN (R 116) → (qB (qPr S b p)).2 = zI (20 + c) → qPeep S c = true → ∀ k, k = 1 ∨ k = 2 → qB (qPr (upd S (90 + c) (zI k)) b q) = qB (qPr (upd S (90 + c) (zI k)) b p) ∧ qLf b false (qPr (upd S (90 + c) (zI k)) b q) = 0 := fun c hc ha hmy k hk => by
        obtain ⟨h0, h1⟩ := peep_v hR hL (by omega) hmy
        have := L_ex2 (b := b) (c := c) (G p (by omega)) (hRp p) (hLp p) hz (by rw [pr_m hb5]; exact hc) ha (by rw [pee p c hc]; exact hmy) k hk
        rw [pr_up hb5] at this
        have hlt := meas_up (S := S) (b := c) (x := k) (by omega) (by omega) (qPeep_lev (by omega) hmy)
        exact ih _ (hR.up (by omega)) (hL.pe hR hG hc hk h1) (by omega) this
      have key : pR2 (qB (qPr S b p)).2 (qB (qPr S b p)) (qB (qPr S b q)) := by
        generalize ha : (qB (qPr S b p)).2 = a at *
        rw [qB_step (W p) (GS p (by omega)).nn, qB_step (W q) (GS q hq).nn]
        unfold qStep
        rw [pr_m hb5, pr_m hb5, hR.m, qHas_e (qE.pr hb5) hqW, qMass_e (qE.pr hb5) hqW, qHas_e (qE.pr hb5) hqW, qMass_e (qE.pr hb5) hqW, bl_e hb5 hG hR hL, bl_e hb5 hG hR hL]
        refine fo_rel (pR2 a) _ _ _ _ (fo_rel (pR2 a) _ _ _ _ ⟨Int.le_refl _, fun _ => rfl⟩ ?_) ?_
        · intro c s t _ hc hst
          have hc' : c < wN (R 116) := by omega
          unfold q_ob
          rw [may p c hc', may q c hc']
          by_cases k : qMay S c = true
          · rw [if_pos k, if_pos k]
            have ho := qMay_le hL (by omega) k
            have hn4 := (hG.n hc').2.2
            obtain ⟨x1, x2, x3⟩ := oI_rel (p := p) (q := q) hG hR hL hb hc' ho hpq hq (fun i hi => by
              obtain ⟨y1, y2, y3⟩ := vI_p hr hG hb hpq hq (hR.up (x := zI (3 + i)) (show c < 5 by omega)) (hL.op hR hG hc' hi)
              exact ⟨y1, y2⟩)
            have tq := o_t (c := c) (rx q) (G q hq) (hRp q) (hLp q) (by rw [pr_m hb5]; exact hc') (by rw [hw_pr hb5]; exact ho)
            have tp := o_t (c := c) (rx p) (G p (by omega)) (hRp p) (hLp p) (by rw [pr_m hb5]; exact hc') (by rw [hw_pr hb5]; exact ho)
            refine hst.mx (b := 0) (by rw [tp, tq]; exact x1) (fun e => ?_)
            obtain ⟨ne, E⟩ := E1 c hc' e.symm k
            unfold qOpn
            rw [show qPr S b q (18 * c + 1) = S (18 * c + 1) from upd_o (by omega), show qPr S b p (18 * c + 1) = S (18 * c + 1) from upd_o (by omega), show qPr S b q (18 * c + 3) = S (18 * c + 3) from upd_o (by omega), show qPr S b p (18 * c + 3) = S (18 * c + 3) from upd_o (by omega), qMass_e (qE.pr hb5) hqW, qMass_e (qE.pr hb5) hqW, hR.r (b := c) (k := 3) (by omega) (by omega)]
            refine fo_congr _ _ _ (fun j _ hj v => ?_)
            unfold q_opn
            rw [qShows_e (qE.pr hb5) hqW (by rw [hR.m]; exact hc') (by omega), qShows_e (qE.pr hb5) hqW (by rw [hR.m]; exact hc') (by omega), pr_up hb5, pr_up hb5]
            obtain ⟨s1, s2⟩ := sn_v hG hR hc' (show j < wN (R (18 * c + 3)) by omega)
            by_cases qq : qSn S c j = 0
            · have : qShows S c j = 0 := by
                rw [s1, qq]
                rfl
              rw [if_pos this, if_pos this]
            · simp only [(E j (by omega) qq).1]
          · rw [if_neg k, if_neg k]
            exact hst
        · intro c s t _ hc hst
          have hc' : c < wN (R 116) := by omega
          unfold q_pb
          rw [pee p c hc', pee q c hc']
          by_cases k : qPeep S c = true
          · rw [if_pos k, if_pos k]
            obtain ⟨h0, h1⟩ := peep_v hR hL (by omega) k
            have ch : ∀ k, k = 1 ∨ k = 2 → vI (qPr (upd S (90 + c) (zI k)) b q) ≤ vI (qPr (upd S (90 + c) (zI k)) b p) := fun k' hk => (vI_p hr hG hb hpq hq (hR.up (x := zI k') (show c < 5 by omega)) (hL.pe hR hG hc' hk h1)).1
            have a1 := ch 1 (Or.inl rfl)
            have a2 := ch 2 (Or.inr rfl)
            have k1 : ∀ x, qPr R b x (18 * c) = zI 1 := fun x => by
              rw [← h1]
              exact upd_o (by omega)
            have tq := p_t (c := c) (rx q) (G q hq) (hRp q) (hLp q) (by rw [pr_m hb5]; exact hc') (by rw [hw_pr hb5]; exact h0) (k1 q)
            have tp := p_t (c := c) (rx p) (G p (by omega)) (hRp p) (hLp p) (by rw [pr_m hb5]; exact hc') (by rw [hw_pr hb5]; exact h0) (k1 p)
            rw [pI_pr hG hb5 hc'] at tq tp
            refine hst.mx (b := 0) (by rw [tp, tq]; omega) (fun e => ?_)
            have E := E2 c hc' e.symm k
            apply Int64.toInt_inj.mp
            rw [tp, tq]
            unfold vI
            rw [(E 1 (Or.inl rfl)).1, (E 2 (Or.inr rfl)).1]
          · rw [if_neg k, if_neg k]
            exact hst
      have eB := key.2 rfl
      refine ⟨eB, ?_⟩
      rcases qB_act (W p) (GS p (by omega)).nn with e | ⟨c, hc, ⟨e, -⟩ | ⟨e, e2⟩ | ⟨e, e2⟩⟩
      · exact lf_st (W q) (GS q hq).nn (by rw [eB]; exact e)
      · rw [pr_m hb5, hR.m] at hc
        exact lf_tk (W q) (GS q hq).nn (c := c) (by omega) (by rw [eB]; exact e)
      · rw [pr_m hb5, hR.m] at hc
        rw [may p c hc] at e2
        have hn4 := (hG.n hc).2.2
        obtain ⟨ne, E⟩ := E1 c hc e e2
        refine L_re1 (c := c) (G q hq) (hRp q) (hLp q) (by rw [pr_m hb5]; exact hc) (by rw [eB]; exact e) ne (fun i hi hs => ?_)
        rw [show qPr R b q (18 * c + 3) = R (18 * c + 3) from upd_o (by omega)] at hi
        rw [sn q c i hc (by omega)] at hs
        rw [pr_up hb5]
        exact (E i hi hs).2
      · rw [pr_m hb5, hR.m] at hc
        rw [pee p c hc] at e2
        have E := E2 c hc e e2
        refine L_re2 (c := c) (G q hq) (hRp q) (hLp q) (by rw [pr_m hb5]; exact hc) (by rw [eB]; exact e) (fun k hk => ?_)
        rw [pr_up hb5]
        exact (E k hk).2
theorem L0_p (hr : rOk T R Q) (hG : qG R) (hb : b < wN (R 116)) (hpq : p ≤ q) (hq : q ≤ 999) (hR : qRw R S) (hL : qPl S) (h : qLf b false (qPr S b p) = 0) : qLf b false (qPr S b q) = 0 := (L0_pr hr hG hb hpq hq 11 S hR hL (by have := meas_le S; omega) h).2
end LJ
