/-! the edge -/
section EG
variable {R S : Nat → Int32} {b c i Q p q x : Nat} {T : mU × (Nat → Option Nat)}
theorem bl_e (hb : b < 5) (hG : qG R) (hR : qRw R S) (hL : qPl S) (s : Int64 × Int32) : fo (q_bl (qPr S b x)) 0 (wN (R 116)) s = fo (q_bl S) 0 (wN (R 116)) s := by
  have h5 := hG.m.2
  have hhw : qHw S := fun c hc => (hL c hc).1
  have hGS := qG_R hG hR
  have hqW : qW S := qW_of2 hGS hhw
  refine fo_congr _ _ _ (fun c _ hc s => ?_)
  unfold q_bl
  rw [show qPr S b x (18 * c) = S (18 * c) from upd_o (by omega), show qPr S b x (90 + c) = S (90 + c) from upd_o (by omega), qBd_e (qE.pr hb) hqW (by rw [hR.m]; omega) (hGS.nn.2 c (by rw [hR.m]; omega))]
theorem bg_no (hr : rOk T R Q) (hG : qG R) (hb : b < wN (R 116)) (hp : p ≤ 999) (hR : qRw R S) (hL : qPl S) (h : qMay S b = true → oI (qPr R b p) (qPr S b p) b ≤ (fo (q_bl S) 0 (wN (R 116)) ((qHas S).toInt64 * qMass S, zI 0)).1.toInt) : qBg S b p = false := by
  have h5 := hG.m.2
  have hb5 : b < 5 := by omega
  have hhw : qHw S := fun c hc => (hL c hc).1
  have hGS := qG_R hG hR
  have hqW : qW S := qW_of2 hGS hhw
  have rx : rOk T (qPr R b p) Q := cg_rOk (qC.pr hb5) hG hr
  unfold qBg
  rw [decide_eq_false_iff_not, qB_step (hhw.pr hb5) (hGS.pr (by rw [hR.m]; exact hb) hp).nn]
  unfold qStep
  rw [pr_m hb5, hR.m, qHas_e (qE.pr hb5) hqW, qMass_e (qE.pr hb5) hqW, bl_e hb5 hG hR hL]
  have h0 : (fo (q_bl S) 0 (wN (R 116)) ((qHas S).toInt64 * qMass S, zI 0)).2 ≠ zI (10 + b) := fo_inv (f := q_bl S) (fun _ s => s.2 ≠ zI (10 + b)) (wN (R 116)) 0 _ (by
    show zI 0 ≠ zI (10 + b)
    rw [Ne, zI_eq (by omega) (by omega)]
    omega) (fun j s h1 h2 h3 => by
    unfold q_bl
    split
    · split
      · split
        · show zI (30 + j) ≠ zI (10 + b)
          rw [Ne, zI_eq (by omega) (by omega)]
          omega
        · exact h3
      · exact h3
    · exact h3)
  generalize fo (q_bl S) 0 (wN (R 116)) ((qHas S).toInt64 * qMass S, zI 0) = s0 at *
  have h1 := fo_inv (f := q_ob (qPr S b p) (fun S => (qB S).1)) (fun _ s => s.2 ≠ zI (10 + b) ∧ s0.1.toInt ≤ s.1.toInt) (wN (R 116)) 0 s0 ⟨h0, Int.le_refl _⟩ (fun j s h1 h2 h3 => by
    obtain ⟨h3, h4⟩ := h3
    unfold q_ob
    rw [qMay_e (qE.pr hb5) hqW (by rw [hR.m]; omega)]
    by_cases k : qMay S j = true
    · rw [if_pos k]
      by_cases e : j = b
      · subst e
        have tp := o_t (c := j) rx (hG.pr hb hp) (hR.pr (b := j) (x := p)) (hL.pr hb5) (by rw [pr_m hb5]; exact hb) (by rw [hw_pr hb5]; exact qMay_le hL hb5 k)
        have := h k
        rw [if_neg (fun q => by rw [Int64.lt_iff_toInt_lt, tp] at q; omega)]
        exact ⟨h3, h4⟩
      · by_cases q : s.1 < qOpn (qPr S b p) (fun S => (qB S).1) j
        · rw [if_pos q]
          rw [Int64.lt_iff_toInt_lt] at q
          refine ⟨?_, ?_⟩
          · show zI (10 + j) ≠ zI (10 + b)
            rw [Ne, zI_eq (by omega) (by omega)]
            omega
          · show s0.1.toInt ≤ (qOpn (qPr S b p) (fun S => (qB S).1) j).toInt
            omega
        · rw [if_neg q]
          exact ⟨h3, h4⟩
    · rw [if_neg k]
      exact ⟨h3, h4⟩)
  refine fo_inv (f := q_pb (qPr S b p) (fun S => (qB S).1)) (fun _ s => s.2 ≠ zI (10 + b)) (wN (R 116)) 0 _ h1.1 (fun j s h1 h2 h3 => ?_)
  unfold q_pb
  split
  · split
    · show zI (20 + j) ≠ zI (10 + b)
      rw [Ne, zI_eq (by omega) (by omega)]
      omega
    · exact h3
  · exact h3
theorem bsr_sp {P : Nat → Bool} : ∀ (k lo hi : Nat), hi - lo ≤ k → lo < hi → P lo = true → P hi = false → lo < bsr P k lo hi ∧ bsr P k lo hi ≤ hi ∧ P (bsr P k lo hi - 1) = true ∧ P (bsr P k lo hi) = false
  | 0, lo, hi, h1, h2, _, _ => by omega
  | k + 1, lo, hi, h1, h2, h3, h4 => by
    unfold bsr
    by_cases c : hi - lo ≤ 1
    · rw [if_pos c]
      have : hi - 1 = lo := by omega
      rw [this]
      exact ⟨h2, Nat.le_refl _, h3, h4⟩
    · rw [if_neg c]
      by_cases c2 : P ((lo + hi) / 2) = true
      · rw [if_pos c2]
        obtain ⟨a1, a2, a3, a4⟩ := bsr_sp k ((lo + hi) / 2) hi (by omega) (by omega) c2 h4
        exact ⟨by omega, a2, a3, a4⟩
      · rw [if_neg c2]
        obtain ⟨a1, a2, a3, a4⟩ := bsr_sp k lo ((lo + hi) / 2) (by omega) (by omega) h3 (by simpa using c2)
        exact ⟨a1, by omega, a3, a4⟩
/-- the class's search -/
def esr (P : Nat → Bool) : Nat → Nat → Nat → Nat
  | 0, lo, _ => lo
  | k + 1, lo, hi => if hi ≤ lo then lo else if P ((lo + hi) / 2) = true then esr P k ((lo + hi) / 2 + 1) hi else esr P k lo ((lo + hi) / 2)
theorem esr_sp {P : Nat → Bool} (hm : ∀ p q, p ≤ q → q ≤ 999 → P q = true → P p = true) : ∀ (k lo hi : Nat), hi - lo < 2 ^ k → lo ≤ hi → hi ≤ 1000 → (∀ p, p < lo → P p = true) → (∀ p, hi ≤ p → p ≤ 999 → P p = false) → esr P k lo hi ≤ hi ∧ (∀ p, p < esr P k lo hi → P p = true) ∧ (∀ p, esr P k lo hi ≤ p → p ≤ 999 → P p = false)
  | 0, lo, hi, h1, h2, h3, h4, h5 => by
    have h1 : hi - lo < 1 := h1
    have : lo = hi := by omega
    subst this
    exact ⟨Nat.le_refl _, h4, h5⟩
  | k + 1, lo, hi, h1, h2, h3, h4, h5 => by
    rw [Nat.pow_succ] at h1
    unfold esr
    by_cases c : hi ≤ lo
    · rw [if_pos c]
      have : lo = hi := by omega
      subst this
      exact ⟨Nat.le_refl _, h4, h5⟩
    · rw [if_neg c]
      by_cases c2 : P ((lo + hi) / 2) = true
      · rw [if_pos c2]
        exact esr_sp hm k ((lo + hi) / 2 + 1) hi (by omega) (by omega) h3 (fun p hp => hm p ((lo + hi) / 2) (by omega) (by omega) c2) h5
      · rw [if_neg c2]
        obtain ⟨a1, a2, a3⟩ := esr_sp hm k lo ((lo + hi) / 2) (by omega) (by omega) (by omega) h4 (fun p hp h9 => by
          cases e : P p with
          | false => rfl
          | true => exact absurd (hm _ p hp h9 e) c2)
        exact ⟨by omega, a2, a3⟩
theorem edge_eq {L : Nat} (hL0 : L ≤ 1000) (h1 : ∀ p, p < L → qBg S b p = true) (h2 : ∀ p, L ≤ p → p ≤ 999 → qBg S b p = false) : qEg S b = if 999 < L then -4 else zI L := by
  unfold qEg
  by_cases c0 : L = 0
  · subst c0
    rw [h2 0 (by omega) (by omega)]
    rfl
  · rw [if_pos (h1 0 (by omega))]
    by_cases c1 : 999 < L
    · rw [if_pos (h1 999 c1), if_pos c1]
    · rw [if_neg c1, if_neg (by rw [h2 999 (by omega) (by omega)]; decide)]
      obtain ⟨a1, a2, a3, a4⟩ := bsr_sp (P := qBg S b) 999 0 999 (by omega) (by omega) (h1 0 (by omega)) (h2 999 (by omega) (by omega))
      congr 1
      have q1 : ¬ bsr (qBg S b) 999 0 999 < L := fun e => by
        rw [h1 _ e] at a4
        cases a4
      have q2 : ¬ L ≤ bsr (qBg S b) 999 0 999 - 1 := fun e => by
        rw [h2 _ e (by omega)] at a3
        cases a3
      omega
/-- the least price at which opening is no better than stopping -/
def eHi (ab M : Int) : Nat := if ab ≤ 0 ∨ M ≤ 0 then 0 else if (1000 : Int) ≤ (ab + M - 1) / M then 1000 else ((ab + M - 1) / M).toNat
theorem eHi_le {ab M : Int} : eHi ab M ≤ 1000 := by
  unfold eHi
  split
  · omega
  · split <;> omega
theorem eHi_sp {ab M : Int} (hM : 0 ≤ M) {p : Nat} (h1 : eHi ab M ≤ p) (h2 : p ≤ 999) : ab ≤ (p : Int) * M ∨ M = 0 := by
  unfold eHi at h1
  by_cases c : ab ≤ 0 ∨ M ≤ 0
  · rcases c with c | c
    · left
      have : 0 ≤ (p : Int) * M := Int.mul_nonneg (by omega) hM
      omega
    · right
      omega
  · rw [if_neg c] at h1
    left
    by_cases c2 : (1000 : Int) ≤ (ab + M - 1) / M
    · rw [if_pos c2] at h1
      omega
    · rw [if_neg c2] at h1
      have hM0 : 0 < M := by omega
      have e1 := Int.emod_add_mul_ediv (ab + M - 1) M
      have e2 := Int.emod_lt_of_pos (ab + M - 1) hM0
      have e3 : (ab + M - 1) / M ≤ p := by omega
      have e4 : M * ((ab + M - 1) / M) ≤ M * p := Int.mul_le_mul_of_nonneg_left e3 hM
      rw [Int.mul_comm (p : Int)]
      omega
theorem edge_hi (hr : rOk T S Q) (hG : qG S) (hb : b < wN (S 116)) (hL : qPl S) {K : Int} (hK : K = (fo (q_bl S) 0 (wN (S 116)) ((qHas S).toInt64 * qMass S, zI 0)).1.toInt) (h1 : qMay S b = true → eHi (oI S S b + (wN (S (18 * b + 1)) : Int) * MM S S - K) (MM S S) ≤ p) (h2 : p ≤ 999) : qBg S b p = false := by
  have h5 := hG.m.2
  have hb5 : b < 5 := by omega
  have hRr : qRw S S := qRw.rf
  obtain ⟨c1, c2⟩ := hG.p1 hb
  have hnn := MM_nn (R := S) (S := S)
  by_cases hM : MM S S = 0
  · have hz : qMass S = 0 := by
      rw [MM_j hG hRr hL, hM]
      rfl
    have hhw : qHw S := fun c hc => (hL c hc).1
    have hZ : Z0 (qPr S b p) (qPr S b p) := (Z0_ms (hG.pr hb h2) qRw.rf (hL.pr hb5)).mp (by rw [qMass_e (qE.pr hb5) (qW_of2 hG hhw)]; exact hz)
    unfold qBg
    rw [Z0_B (hG.pr hb h2) qRw.rf (hL.pr hb5) hZ, decide_eq_false_iff_not]
    show ¬ zI 0 = zI (10 + b)
    rw [zI_eq (by omega) (by omega)]
    omega
  · refine bg_no hr hG hb h2 hRr hL (fun k => ?_)
    rw [← hK]
    rcases eHi_sp hnn (h1 k) h2 with q | q
    · have e0 := oI_pr (b := b) (c := b) (x := p) hG hRr hL hb5 hb h2
      have e1 := oI_pr (b := b) (c := b) (x := wN (S (18 * b + 1))) hG hRr hL hb5 hb c2
      have idp : qPr S b (wN (S (18 * b + 1))) = S := by
        unfold qPr
        rw [← c1, upd_id]
      rw [idp] at e1
      simp only [if_pos] at e0 e1
      obtain ⟨hn0, hn1, hn4⟩ := hG.n hb
      have key : oI (qPr S b p) (qPr S b p) b + (p : Int) * MM S S = oI S S b + (wN (S (18 * b + 1)) : Int) * MM S S := by
        rw [e0, e1]
        have ho := qMay_le hL hb5 k
        obtain ⟨a1, a2⟩ := fo_lin (s := qSn S b) (x := fun i => vI (qPr (upd S (90 + b) (zI (3 + i))) b p)) (y := fun i => vI (qPr (upd S (90 + b) (zI (3 + i))) b (wN (S (18 * b + 1))))) (k1 := 0) (wN (S (18 * b + 3))) 0 (-(p : Int) * MM S S) (-(wN (S (18 * b + 1)) : Int) * MM S S) (fun j _ hj => by
          have : vI (qPr (upd S (90 + b) (zI (3 + j))) b p) = vI (qPr (upd S (90 + b) (zI (3 + j))) b (wN (S (18 * b + 1)))) := by
            unfold vI
            rw [op_pr (p := p) (q := wN (S (18 * b + 1))) hG (hRr.up (by omega)) (hL.op hRr hG hb (by omega)) hb (by rw [hw_up (by omega)]; omega)]
          show vI _ ≤ vI _ ∧ vI _ - 0 ≤ vI _
          omega)
        rw [Int.mul_zero] at a2
        rw [Int.neg_mul] at a1 a2 ⊢
        rw [Int.neg_mul] at a1 a2 ⊢
        omega
      omega
    · exact absurd q hM
end EG
