/-! places moved -/
theorem pH_x {h : am_H} {p q : Nat} {P : mU} (hq : q < p ∨ p + 5 ≤ q) : pH h p P q = h q := ov_x (fun k hk => by
  by_cases e : k < 5
  · omega
  · match k, e with
    | k + 5, _ => rfl)
theorem pH_fr {h : am_H} {p q : Nat} {P P' : mU} (hq : q < p ∨ p + 5 ≤ q) : pH h p P' q = pH h p P q := by
  rw [pH_x hq, pH_x hq]
theorem qC.a {S S' : Nat → Int32} (h : qA0 S S') : qC S S' := fun j hj => h j (by omega)
theorem plKn.a {S S' : Nat → Int32} {T : mU × (Nat → Option Nat)} {Q N : Nat} {u : mU} (h : qA0 S S') (hG : qG S) (hk : plKn S T Q u N) : plKn S' T Q u N := by
  have hm5 := hG.m.2
  refine ⟨hk.1, cg_tab (qC.a h) hG hk.2.1, fun j hj => ?_, ?_⟩
  · rw [h 116 (by omega)] at hj
    rw [h (18 * j + 1) (by omega)]
    exact hk.2.2.1 j hj
  · rw [h 116 (by omega)]
    exact hk.2.2.2
theorem tSN_cg {C : Nat → Prop} {H : am_H} {t : Nat} {T : mU × (Nat → Option Nat)} {S S' : Nat → Int32} (hA : qA0 S S') (hS : tSN C H t T S) : tSN C H t T S' := by
  obtain ⟨⟨h1, h2, ⟨h3, h4, h5⟩, h6, h7⟩, h8, h9⟩ := hS
  have o6 : S' 116 = S 116 := hA _ (by omega)
  have hm := h2.m
  have ob : ∀ b k, b < wN (S 116) → k < 18 → S' (18 * b + k) = S (18 * b + k) := fun b k hb hk => hA _ (by omega)
  have ob0 : ∀ b, b < wN (S 116) → S' (18 * b) = S (18 * b) := fun b hb => hA _ (by omega)
  refine ⟨⟨h1, qG_x hA h2, ⟨?_, ?_, fun b hb => ?_⟩, ⟨fun b hb => ?_, fun b i hb hi => ?_⟩, ?_⟩, fun b hb => ?_, fun b hb => ?_⟩
  · rw [o6]; exact h3
  · rw [hA 117 (by omega)]; exact h4
  · rw [o6] at hb
    obtain ⟨a', bb, g1, g2, g3⟩ := h5 b hb
    refine ⟨a', bb, g1, g2, ?_⟩
    have g4 := g3.cg (f' := qRow S' b) (g' := qOG S b) (fun j hj _ => ob b j hb (by omega)) (fun _ _ _ => rfl)
    refine g4.co (fun q => ?_)
    have k4 : S (18 * b) = zI 4 := by
      have := g3.1.2
      rw [q] at this
      exact this
    obtain ⟨t1, t2, t3⟩ := (h2.2.2 b hb).2.2.2.2.1 k4
    have hL : wN (S (18 * b + 4)) < wN (S 116) := by omega
    have hon := (h2.n hL).2.2
    refine ⟨?_, fun i hi => ?_⟩
    · unfold qON
      rw [ob b 4 hb (by omega), ob _ 3 hL (by omega)]
    · have hi' : i < wN (S (18 * wN (S (18 * b + 4)) + 3)) := hi
      unfold qOG
      rw [ob b 4 hb (by omega), ob _ (14 + i) hL (by omega)]
  · rw [o6] at hb
    rw [ob b 5 hb (by omega)]
    exact h6.1 b hb
  · rw [o6] at hb
    rw [ob b 3 hb (by omega)] at hi
    have := (h2.n hb).2.2
    rw [ob b 5 hb (by omega), ob b (14 + i) hb (by omega)]
    exact h6.2 b i hb hi
  · obtain ⟨R, r1, r2, r3, r4, r5, r6⟩ := h7
    refine ⟨R, r1, r2, r3, r4, r5, fun b i hb hi => ?_⟩
    rw [o6] at hb
    rw [ob b 3 hb (by omega)] at hi
    have := (h2.n hb).2.2
    rw [ob b (6 + i) hb (by omega)]
    exact r6 b i hb hi
  · rw [o6] at hb
    have hn := (h2.n hb).2.2
    have := h8 b hb
    unfold tNb at this ⊢
    have w : ∀ i, i < wN (S (18 * b + 3)) → qWt S' b i = qWt S b i := fun i hi => ob b (6 + i) hb (by omega)
    have e1 := nb_x (p := S (18 * b + 1)) (n := wN (S (18 * b + 3))) (ch := fun i => S' (18 * b + (10 + i))) (ch' := fun i => S (18 * b + (10 + i))) (fun i hi => ob b (10 + i) hb (by omega)) w
    have e2 := nb_x (p := S (18 * b + 1)) (n := wN (S (18 * b + 3))) (ch := fun i => S' (18 * b + (14 + i))) (ch' := fun i => S (18 * b + (14 + i))) (fun i hi => ob b (14 + i) hb (by omega)) w
    rw [ob b 1 hb (by omega), ob b 3 hb (by omega), ob b 5 hb (by omega), e1.1, e1.2, e2.1, e2.2]
    exact this
  · rw [o6] at hb
    exact h9 b hb
theorem pS.ac {P : mU} {S : Nat → Int32} (h : pS P S) : wN (S 115) ≤ 10 := (h.2.2.1.z (by omega)).2
theorem pS_cg {P : mU} {S S' : Nat → Int32} (h : ∀ j, 90 ≤ j → j < 116 → S' j = S j) (hP : pS P S) : pS P S' := by
  have h10 := hP.ac
  obtain ⟨h1, h2, h3, h4⟩ := hP
  refine ⟨fun b hb => ?_, ?_, qN_x (h 115 (by omega) (by omega)) h3, fun j hj => ?_⟩
  · rw [h (90 + b) (by omega) (by omega)]
    exact h1 b hb
  · rw [h 115 (by omega) (by omega)]
    exact h2
  · rw [h 115 (by omega) (by omega)] at hj
    rw [h _ (by omega) (by omega), h _ (by omega) (by omega)]
    exact h4 j hj
theorem qActs_v {S : Nat → Int32} {a b : Nat} {x : Int32} (ha : S 115 = zI a) (h10 : a < 10) {j : Nat} : qActs S b x j = if j = 90 + b then x else if j = 115 then zI (a + 1) else if j = 95 + 2 * a + 1 then S (90 + b) else if j = 95 + 2 * a then zI b else S j := by
  unfold qActs
  rw [ha, wN_zI (by omega)]
  unfold upd
  rfl
theorem pS_mv {P P0 : mU} {S : Nat → Int32} {a b x : Nat} (hP : pS P S) (ha : S 115 = zI a) (h10 : a < 10) (hb : b < 5) (h0 : P0.1 0 = P.1 0) (h2 : P0.1 2 = P.1 2) (h3 : P0.1 3 = P.1 3) (h1 : ∀ c, c ≠ b → P0.1 1 c = P.1 1 c) (hx : x ≤ 6) (hsh : 3 ≤ x → P0.1 1 b = zI (x - 3)) (hw : ∃ w, w ≤ 2 ∧ S (90 + b) = zI w) : pS (pMv P0 b a (qD5 (zI x))) (qActs S b (zI x)) := by
  obtain ⟨p1, p2, p3, p4⟩ := hP
  have e3 : (pMv P0 b a (qD5 (zI x))).1 3 = upd (P.1 3) a (P.1 0 b) := by
    show upd (P0.1 3) a (P0.1 0 b) = _
    rw [h3, h0]
  have e2 : (pMv P0 b a (qD5 (zI x))).1 2 = upd (P.1 2) a (zI b) := by
    show upd (P0.1 2) a (zI b) = _
    rw [h2]
  have e1 : (pMv P0 b a (qD5 (zI x))).1 1 = P0.1 1 := rfl
  have e0 : (pMv P0 b a (qD5 (zI x))).1 0 = upd (P.1 0) b (qD5 (zI x)) := by
    show upd (P0.1 0) b _ = _
    rw [h0]
  have e115 : qActs S b (zI x) 115 = zI (a + 1) := by
    rw [qActs_v ha h10, if_neg (by omega), if_pos rfl]
  refine ⟨fun c hc => ?_, ?_, ⟨a + 1, e115, by omega⟩, fun j hj => ?_⟩
  · rw [e0, e1, qActs_v ha h10]
    by_cases e : c = b
    · subst e
      rw [upd_s, if_pos rfl, wN_zI (by omega)]
      exact ⟨rfl, hsh⟩
    · rw [upd_o e, if_neg (by omega), if_neg (by omega), if_neg (by omega), if_neg (by omega), h1 c e]
      exact p1 c hc
  · rw [e115]
    rfl
  · rw [e115, wN_zI (by omega)] at hj
    rw [e2, e3, qActs_v ha h10, qActs_v ha h10]
    by_cases e : j = a
    · subst e
      rw [upd_s, upd_s, if_neg (by omega), if_neg (by omega), if_neg (by omega), if_pos rfl, if_neg (by omega), if_neg (by omega), if_pos rfl]
      refine ⟨rfl, ?_⟩
      obtain ⟨w, w1, w2⟩ := hw
      rw [(p1 b hb).1, w2, qD5_lo (by omega)]
    · rw [upd_o e, upd_o e, if_neg (by omega), if_neg (by omega), if_neg (by omega), if_neg (by omega), if_neg (by omega), if_neg (by omega), if_neg (by omega), if_neg (by omega)]
      refine p4 j ?_
      rw [ha, wN_zI (by omega)]
      omega
theorem qA0_mv {S : Nat → Int32} {a b : Nat} {x : Int32} (ha : S 115 = zI a) (h10 : a < 10) (hb : b < 5) : qA0 S (qActs S b x) := fun j hj => by
  rw [qActs_v ha h10, if_neg (by omega), if_neg (by omega), if_neg (by omega), if_neg (by omega)]
theorem rI_mv {S : Nat → Int32} {b x : Nat} (hI : rI S) (hb : b < wN (S 116)) (hx : x ≤ 6) (hl : lev x < lev (wN (S (90 + b)))) (hn : qPl (upd S (90 + b) (zI x))) : ∃ a, a < 10 ∧ S 115 = zI a ∧ (∃ w, w ≤ 2 ∧ S (90 + b) = zI w) ∧ rI (qActs S b (zI x)) := by
  have hw := hI.hw
  obtain ⟨hG, a, h10, ha, hk⟩ := hI
  have hm5 := hG.m.2
  have hb5 : b < 5 := by omega
  have hm := hk.me
  have hup := meas_up hb5 hx hl
  have ha10 : a < 10 := by omega
  obtain ⟨w1, w2⟩ := (hw b hb5).z (by omega)
  have hw2 : wN (S (90 + b)) ≤ 2 := by
    unfold lev at hl
    by_cases q : wN (S (90 + b)) ≤ 2
    · exact q
    · rw [if_neg (show ¬ wN (S (90 + b)) = 0 by omega), if_neg q] at hl
      omega
  refine ⟨a, ha10, ha, ⟨_, hw2, w1⟩, qG_x (qA0_mv ha ha10 hb5) hG, a + 1, by omega, by rw [qActs_v ha ha10, if_neg (by omega), if_pos rfl], ?_, ?_, b, wN (S (90 + b)), ?_, hw2, ?_, ?_, ?_⟩
  · refine qPl_cg (fun j hj => ?_) hn
    rw [qActs_v ha ha10]
    unfold upd
    by_cases e : j = 90 + b
    · rw [if_pos e, if_pos e]
    · rw [if_neg e, if_neg e, if_neg (by omega), if_neg (by omega), if_neg (by omega)]
  · have : meas (qActs S b (zI x)) = meas (upd S (90 + b) (zI x)) := meas_cg (fun j hj => by
      rw [qActs_v ha ha10]
      unfold upd
      by_cases e : j = 90 + b
      · rw [if_pos e, if_pos e]
      · rw [if_neg e, if_neg e, if_neg (by omega), if_neg (by omega), if_neg (by omega)])
    omega
  · rw [qA0_mv ha ha10 hb5 116 (by omega)]
    exact hb
  · rw [qActs_v ha ha10, if_neg (by omega), if_neg (by omega), if_neg (by omega), if_pos rfl]
  · rw [qActs_v ha ha10, if_neg (by omega), if_neg (by omega), if_pos rfl]
    exact w1
  · refine hOk_cg a S _ (fun j hj => ?_) hk
    by_cases e : j = 90 + b
    · rw [e, upd_s]
      exact w1.symm
    · rw [upd_o e, qActs_v ha ha10, if_neg e, if_neg (by omega), if_neg (by omega), if_neg (by omega)]
/-- the last act undone -/
def qBk (S : Nat → Int32) (a b : Nat) : Nat → Int32 := upd (upd S 115 (zI a)) (90 + b) (S (95 + 2 * a + 1))
theorem qA0_bk {S : Nat → Int32} {a b : Nat} (hb : b < 5) : qA0 S (qBk S a b) := fun j hj => by
  unfold qBk
  rw [upd_o (by omega), upd_o (by omega)]
theorem rI_bk {S : Nat → Int32} (hI : rI S) (hz : ¬ S 115 = zI 0) : ∃ a b w, a < 10 ∧ S 115 = zI (a + 1) ∧ b < 5 ∧ w ≤ 2 ∧ S (95 + 2 * a) = zI b ∧ S (95 + 2 * a + 1) = zI w ∧ rI (qBk S a b) := by
  obtain ⟨hG, a, h10, ha, hk⟩ := hI
  have hm5 := hG.m.2
  cases a with
  | zero => exact absurd ha hz
  | succ a =>
    obtain ⟨h1, h2, b, w, h3, h4, h5, h6, h7⟩ := hk
    refine ⟨a, b, w, by omega, ha, by omega, h4, h5, h6, qG_x (qA0_bk (by omega)) hG, a, by omega, ?_, ?_⟩
    · unfold qBk
      rw [upd_o (by omega), upd_s]
    · refine hOk_cg a _ _ (fun j hj => ?_) h7
      unfold qBk
      rw [h6]
      by_cases e : j = 90 + b
      · rw [e, upd_s, upd_s]
      · rw [upd_o e, upd_o e, upd_o (by omega)]
theorem pS_bk {P : mU} {S : Nat → Int32} {a b w : Nat} (hP : pS P S) (ha : S 115 = zI (a + 1)) (h10 : a < 10) (hb : b < 5) (hw : w ≤ 2) (h6 : S (95 + 2 * a + 1) = zI w) : pS (pBk P b a) (qBk S a b) := by
  obtain ⟨p1, p2, p3, p4⟩ := hP
  have e115 : qBk S a b 115 = zI a := by
    unfold qBk
    rw [upd_o (by omega), upd_s]
  have e0 : (pBk P b a).1 0 = upd (P.1 0) b (P.1 3 a) := rfl
  have pa := (p4 a (by rw [ha, wN_zI (by omega)]; omega)).2
  refine ⟨fun c hc => ?_, ?_, ⟨a, e115, by omega⟩, fun j hj => ?_⟩
  · rw [e0]
    show _ ∧ (_ → P.1 1 c = _)
    unfold qBk
    by_cases e : c = b
    · subst e
      rw [upd_s, upd_s, pa, h6, qD5_lo (by omega), wN_zI (by omega)]
      exact ⟨rfl, fun q => by omega⟩
    · rw [upd_o e, upd_o (by omega), upd_o (by omega)]
      exact p1 c hc
  · rw [e115]
    rfl
  · rw [e115, wN_zI (by omega)] at hj
    show P.1 2 j = _ ∧ P.1 3 j = _
    unfold qBk
    rw [upd_o (by omega), upd_o (by omega), upd_o (by omega), upd_o (by omega)]
    refine p4 j ?_
    rw [ha, wN_zI (by omega)]
    omega
section GP
variable {C C' : Nat → Prop} {H H' : am_H} {o k k' m a N sA sN mA mN : Nat} {D T TI : mU × (Nat → Option Nat)} {P PI lu wu v v' : mU} {z z' : Nat × Nat}
theorem gL.ac {S' : Nat → Int32} (h : gL H o T lu m a N v) (hG : qG (v.1 1)) (hA : qA0 (v.1 1) S') : gL H o T lu m a N (mS v 1 S') := by
  refine ⟨h.1, h.2.1, ?_⟩
  rcases h.2.2 with q | q
  · exact Or.inl q
  · refine Or.inr (fun Q hr => ?_)
    have hr0 : rOk T (v.1 1) Q := cg_rOk (qC.a hA.sy) (qG_x hA hG) hr
    exact plKn.a hA hG (q Q hr0)
theorem g_place (h : gK o k H z v) : ∃ C D T P Q, isX H o D ∧ tSN C H (o + 1) T (v.1 1) ∧ isP H (o + 9) P ∧ pS P (v.1 1) ∧ rI (v.1 1) ∧ rOk T (v.1 1) Q ∧
    (∀ h' P', pH h' (o + 9) P = H → isX (pH h' (o + 9) P') o D ∧ tSN C (pH h' (o + 9) P') (o + 1) T (v.1 1)) ∧
    ∀ h' P' S', pH h' (o + 9) P = H → qA0 (v.1 1) S' → pS P' S' → rI S' → gK o (k + 1) (pH h' (o + 9) P') z (mS v 1 S') ∧ (∀ x, o + 66 ≤ x → x < o + 86 → pH h' (o + 9) P' x = H x) := by
  obtain ⟨C, D, T, P, TI, PI, lu, m, a, N, wu, sA, sN, mA, mN, h1, h2, h3, h4, h5, h6, h7, h8, h9, h10, h11, h12⟩ := h
  obtain ⟨Q, hr⟩ := h2.1.1.rk
  have hA := h9
  obtain ⟨a0, ⟨a1, a1'⟩, ⟨a2, a2'⟩, ⟨a3, a3'⟩, ⟨a4, a4'⟩, a5, a6⟩ := h9
  have fr : ∀ h' P', pH h' (o + 9) P = H → ∀ x, (x < o + 9 ∨ o + 14 ≤ x) → pH h' (o + 9) P' x = H x := fun h' P' e x hx => by
    rw [← e]
    exact pH_fr (by omega)
  refine ⟨C, D, T, P, Q, h1, h2.1, h2.2.1, h2.2.2.1, h2.2.2.2, hr, fun h' P' e => ?_, fun h' P' S' e q1 q2 q3 => ?_⟩
  · have f := fr h' P' e
    exact ⟨h1.fr (fun x hx => f x (by unfold xK at hx; omega)), h2.1.fr (fun x q1 q2 => f x (by omega)) (fun x hx => f x (by have := a6 x hx; omega)) (fun _ h => h)⟩
  · have f := fr h' P' e
    have hC : ∀ x, C x → pH h' (o + 9) P' x = H x := fun x hx => f x (by have := a6 x hx; omega)
    refine ⟨⟨C, D, T, P', TI, PI, lu, m, a, N, wu, sA, sN, mA, mN, h1.fr (fun x hx => f x (by unfold xK at hx; omega)), ⟨tSN_cg q1 (h2.1.fr (fun x q1 q2 => f x (by omega)) hC (fun _ h => h)), pH_is, q2, q3⟩, (show gIm C (pH h' (o + 9) P') o D TI PI (mS v 1 S') from h3.fr (fun x q1 q2 => f x (by omega)) hC (fun _ h => h)), h4.fr (fun x q1 q2 => f x (by omega)), (gL.ac h5 h2.2.2.2.1 q1).fr (fun x hx => f x (by omega)), h6.fr (fun x hx => f x (by omega)), (show gS C (pH h' (o + 9) P') D (mS v 1 S') from h7.fr hC (fun _ h => h)), h8.fr (f _ (by omega)), hA, h10.le (Nat.le_succ k), fun x hx => ?_, fun x hx => ?_⟩, fun x q1 q2 => f x (by omega)⟩
    · rw [f x (by omega)]
      exact h11 x hx
    · rw [f x (by omega)]
      exact h12 x hx
theorem mFr.mv {S' : Nat → Int32} (hF : mFr v) (hA : qA0 (v.1 1) S') : mFr (mS v 1 S') := mFr_cg hF (fun j h1 h2 => if_neg (by omega)) rfl rfl hA
end GP
