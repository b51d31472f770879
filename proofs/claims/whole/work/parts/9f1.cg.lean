/-! rows that differ in prices alone -/
def qC (S S' : Nat → Int32) : Prop := ∀ j, (j < 90 ∧ j % 18 ≠ 1) ∨ j = 116 ∨ j = 117 → S' j = S j
theorem qC.rf {S : Nat → Int32} : qC S S := fun _ _ => rfl
section CG
variable {S S' : Nat → Int32} {dg : Nat → Nat} {b i r : Nat} {T : mU × (Nat → Option Nat)}
theorem qC.m (h : qC S S') : S' 116 = S 116 := h _ (by omega)
theorem qC.rr (h : qC S S') {k : Nat} (hb : b < 5) (hk : k < 18) (h1 : k ≠ 1) : S' (18 * b + k) = S (18 * b + k) := h _ (by omega)
theorem qC.r0 (h : qC S S') (hb : b < 5) : S' (18 * b) = S (18 * b) := h _ (by omega)
theorem qC.bl (h : qC S S') : S' 117 = S 117 := h _ (by omega)
theorem qC.pr {n : Nat} (hb : b < 5) : qC S (qPr S b n) := fun j hj => upd_o (by omega)
theorem cg_op (h : qC S S') (hb : b < 5) : cOp S' dg b = cOp S dg b := by
  unfold cOp
  rw [h.r0 hb]
theorem cg_oo (h : qC S S') (h5 : wN (S 116) ≤ 5) : cOO S' dg = cOO S dg := by
  unfold cOO
  rw [h.m]
  refine fo_congr _ _ _ (fun b _ hb v => ?_)
  unfold c_oo
  rw [cg_op h (by omega)]
theorem cg_sp {x : Int32} (h : qC S S') (h5 : wN (S 116) ≤ 5) : cSp S' x = cSp S x := by
  unfold cSp
  rw [h.m]
  refine fo_congr _ _ _ (fun b _ hb v => ?_)
  unfold c_sp
  rw [h.rr (by omega) (by omega) (by omega)]
theorem cg_may (h : qC S S') (h5 : wN (S 116) ≤ 5) (hb : b < 5) : cMay S' dg b = cMay S dg b := by
  unfold cMay cAm bAmid
  rw [cg_oo h h5, cg_sp h h5, h.rr hb (by omega) (by omega), h.bl, show qRow S' b 0 = qRow S b 0 from h.r0 hb, show qRow S' b 4 = qRow S b 4 from h.rr hb (by omega) (by omega)]
theorem cg_to (h : qC S S') (hb : b < 5) : cTo S' dg b = cTo S dg b := by
  unfold cTo
  rw [h.rr hb (by omega) (by omega)]
theorem cg_ch (h : qC S S') (hb : b < 5) (hi : i < 4) : cCh S' dg b i = cCh S dg b i := by
  unfold cCh
  rw [cg_to h hb, h.rr hb (by omega) (by omega), h.rr hb (by omega) (by omega)]
theorem cg_ms (h : qC S S') (h5 : wN (S 116) ≤ 5) : cMs S' dg = cMs S dg := by
  unfold cMs
  rw [h.m]
  refine fo_congr _ _ _ (fun b _ hb v => ?_)
  unfold c_ms cTg
  rw [cg_op h (by omega), h.rr (by omega) (by omega) (by omega)]
theorem cg_ao (h : qC S S') (hb : b < 5) : cAo S' dg b i = cAo S dg b i := by
  unfold cAo
  rw [h.r0 hb]
theorem cg_in (h : qC S S') : dIn S' dg = dIn S dg := by
  unfold dIn
  rw [h.m]
theorem fall_cg {p p' : Nat → Bool} : ∀ (k i : Nat), (∀ j, i ≤ j → j < i + k → p j = p' j) → fall p i k = fall p' i k
  | 0, _, _ => rfl
  | k + 1, i, h => by
    unfold fall
    rw [h i (by omega) (by omega), fall_cg k (i + 1) (fun j h1 h2 => h j (by omega) (by omega))]
theorem cg_can (h : qC S S') (h5 : wN (S 116) ≤ 5) : cCan S' dg = cCan S dg := by
  unfold cCan
  rw [h.m]
  refine fall_cg _ _ (fun b _ hb => ?_)
  unfold c_can
  rw [cg_op h (by omega), h.r0 (by omega)]
theorem cg_seen (h : qC S S') (h5 : wN (S 116) ≤ 5) : cSeen T S' dg = cSeen T S dg := by
  have : fo (c_sb T S' dg) 0 (wN (S' 116)) (zI 0) = fo (c_sb T S dg) 0 (wN (S 116)) (zI 0) := by
    rw [h.m]
    refine fo_congr _ _ _ (fun b _ hb v => ?_)
    unfold c_sb
    rw [cg_op h (by omega), h.rr (by omega) (by omega) (by omega)]
  unfold cSeen
  rw [this]
theorem cg_ix (h : qC S S') : ix S' dg r = ix S dg r := by
  unfold ix
  rw [h.m]
theorem cg_tV {M : Nat → Int64} (h : qC S S') : tV S' M = tV S M := by
  funext dg r
  unfold tV
  rw [h.m]
theorem cg_bd (h : qC S S') (h5 : wN (S 116) ≤ 5) (hb : b < wN (S 116)) (hn : ∀ b, b < wN (S 116) → wN (S (18 * b + 3)) ≤ 4) : cBd S' dg b = cBd S dg b := by
  unfold cBd
  rw [cg_ms h h5, h.rr (by omega) (by omega) (by omega)]
  congr 1
  refine fo_congr _ _ _ (fun j _ hj v => ?_)
  have := hn b hb
  unfold cBdS
  rw [cg_ch h (by omega) (by omega), h.rr (by omega) (by omega) (by omega)]
theorem cg_bl (h : qC S S') (h5 : wN (S 116) ≤ 5) (hn : ∀ b, b < wN (S 116) → wN (S (18 * b + 3)) ≤ 4) : cBl S' dg = cBl S dg := by
  unfold cBl
  rw [h.m]
  refine fo_congr _ _ _ (fun b _ hb v => ?_)
  unfold c_bl
  rw [h.r0 (by omega), cg_bd h h5 (by omega) hn]
theorem cg_step {cs : Nat → Int32} {V : (Nat → Nat) → Nat → Int64} (h : qC S S') (h5 : wN (S 116) ≤ 5) (hn : ∀ b, b < wN (S 116) → wN (S (18 * b + 3)) ≤ 4) : cStep S' T cs V dg r = cStep S T cs V dg r := by
  unfold cStep
  have e0 : cS0 S' T dg r = cS0 S T dg r := by
    unfold cS0
    rw [cg_ms h h5, cg_bl h h5 hn]
  rw [e0, h.m]
  have e1 : ∀ s, fo (c_ob S' T cs V dg r) 0 (wN (S 116)) s = fo (c_ob S T cs V dg r) 0 (wN (S 116)) s := fun s => by
    refine fo_congr _ _ _ (fun b _ hb v => ?_)
    have hb' : b < wN (S 116) := by omega
    have h4 := hn b hb'
    have : cOpn S' T cs V dg r b = cOpn S T cs V dg r b := by
      unfold cOpn
      rw [cg_ms h h5, h.rr (by omega) (by omega) (by omega)]
      refine fo_congr _ _ _ (fun j _ hj w => ?_)
      unfold oSt
      simp only
      rw [cg_ch h (by omega) (by omega), cg_ao h (by omega)]
    unfold c_ob
    rw [cg_may h h5 (by omega), this]
  rw [e1]
  refine fo_congr _ _ _ (fun b _ hb v => ?_)
  have : cPee S' V dg r b = cPee S V dg r b := by
    unfold cPee
    rw [cg_ms h h5, h.rr (by omega) (by omega) (by omega)]
  unfold c_pb
  rw [cg_may h h5 (by omega), h.r0 (by omega), this]
theorem cg_tab {u : mU} {Q : Nat} (h : qC S S') (hG : qG S) (ht : tabOk S T Q u) : tabOk S' T Q u := by
  have h5 := hG.m.2
  have hn : ∀ b, b < wN (S 116) → wN (S (18 * b + 3)) ≤ 4 := fun b hb => (hG.n hb).2.2
  intro dg hd hc r hr hb
  rw [cg_in h] at hd
  rw [cg_can h h5] at hc
  rw [cg_seen h h5] at hb
  rw [cg_ix h, cg_step h h5 hn, cg_tV h]
  exact ht dg hd hc r hr hb
theorem cg_rOk {Q : Nat} (h : qC S S') (hG : qG S) (hr : rOk T S Q) : rOk T S' Q := by
  have h5 := hG.m.2
  obtain ⟨h1, h2, h3, h4, h6, h7⟩ := hr
  refine ⟨h1, h2, h3, h4, h6, fun b i hb hi => ?_⟩
  rw [h.m] at hb
  have := (hG.n hb).2.2
  rw [h.rr (by omega) (by omega) (by omega)] at hi
  rw [h.rr (by omega) (by omega) (by omega)]
  exact h7 b i hb hi
end CG
