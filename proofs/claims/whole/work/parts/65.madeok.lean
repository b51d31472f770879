/-! a box made as told keeps all as told -/
theorem zI_le_w {x : Int32} {a n : Nat} (hx : x = zI a) (ha : a < 2147483648) (hn : n < 2147483648) : (x ≤ zI n) = (a ≤ n) := by rw [hx, zI_le ha hn]
theorem sStL_ok {W C : Nat → Int32} : ∀ (k i a : Nat), (∀ j, i ≤ j → j < i + k → ∃ c, C j = zI c ∧ c ≤ 999) → a ≤ 1000 * i → i + k ≤ 1000 → sStL W C k i (zI a) = true → (∀ j, i ≤ j → j < i + k → qN C j 100 ∧ 1 ≤ wN (C j)) ∧ a + fsum (fun j => wN (C j)) i k = 100
  | 0, i, a, _, ha, hi, h => by
    unfold sStL at h
    simp only [decide_eq_true_eq] at h
    rw [zI_eq (by omega) (by omega)] at h
    exact ⟨fun j h1 h2 => by omega, by rw [h]; rfl⟩
  | k + 1, i, a, hc, ha, hi, h => by
    unfold sStL at h
    obtain ⟨c, e, hc9⟩ := hc i (by omega) (by omega)
    have hw : wN (C i) = c := by rw [e]; exact wN_zI (by omega)
    split at h
    · rename_i h1
      simp only [Bool.and_eq_true, decide_eq_true_eq] at h1
      have h2 : 1 ≤ c ∧ c ≤ 100 := by
        rw [e, show (1 : Int32) = zI 1 from rfl, zI_le (by omega) (by omega), zI_le (by omega) (by omega)] at h1
        exact h1
      split at h
      · cases h
      · rw [e, zI_add] at h
        obtain ⟨f1, f2⟩ := sStL_ok k (i + 1) (a + c) (fun j j1 j2 => hc j (by omega) (by omega)) (by omega) (by omega) h
        refine ⟨fun j j1 j2 => ?_, ?_⟩
        · by_cases ej : j = i
          · subst ej
            exact ⟨⟨c, e, h2.2⟩, by rw [hw]; exact h2.1⟩
          · exact f1 j (by omega) (by omega)
        · rw [fsum_s]
          show a + (wN (C i) + fsum (fun j => wN (C j)) (i + 1) k) = 100
          rw [hw]
          omega
    · cases h
theorem sOtL_ok {O : Nat → Int32} : ∀ (k i a : Nat), (∀ j, i ≤ j → j < i + k → ∃ c, O j = zI c ∧ c ≤ 999) → a ≤ 1000 * i → i + k ≤ 1000 → sOtL O k i (zI a) = true → (∀ j, i ≤ j → j < i + k → qN O j 100) ∧ a + fsum (fun j => wN (O j)) i k = 100
  | 0, i, a, _, ha, hi, h => by
    unfold sOtL at h
    simp only [decide_eq_true_eq] at h
    rw [zI_eq (by omega) (by omega)] at h
    exact ⟨fun j h1 h2 => by omega, by rw [h]; rfl⟩
  | k + 1, i, a, hc, ha, hi, h => by
    unfold sOtL at h
    obtain ⟨c, e, hc9⟩ := hc i (by omega) (by omega)
    have hw : wN (O i) = c := by rw [e]; exact wN_zI (by omega)
    split at h
    · rename_i h1
      rw [e, zI_le (by omega) (by omega)] at h1
      rw [e, zI_add] at h
      obtain ⟨f1, f2⟩ := sOtL_ok k (i + 1) (a + c) (fun j j1 j2 => hc j (by omega) (by omega)) (by omega) (by omega) h
      refine ⟨fun j j1 j2 => ?_, ?_⟩
      · by_cases ej : j = i
        · subst ej
          exact ⟨c, e, h1⟩
        · exact f1 j (by omega) (by omega)
      · rw [fsum_s]
        show a + (wN (O i) + fsum (fun j => wN (O j)) (i + 1) k) = 100
        rw [hw]
        omega
    · cases h
theorem qG_mk {S : Nat → Int32} {D : pD} (hG : qG S) (hD : pDok D) (ok : sOk S D = true) : qG (sMk S D) := by
  have hw := sOk_wf hG hD ok
  obtain ⟨hm, hm5⟩ := hG.m
  have hb5 := hw.1
  have hk1 := hw.2.1
  have hk4 := hw.2.2.1
  have h116 : sMk S D 116 = zI (wN (S 116) + 1) := by rw [mk_hi hw (by omega), if_pos rfl]
  have h117 : sMk S D 117 = S 117 := by rw [mk_hi hw (by omega), if_neg (by omega), if_neg (by omega)]
  have hwm : wN (sMk S D 116) = wN (S 116) + 1 := by rw [h116]; exact wN_zI (by omega)
  unfold sOk at ok
  simp only [Bool.and_eq_true, Bool.not_eq_true', decide_eq_false_iff_not, decide_eq_true_eq, Bool.or_eq_true] at ok
  obtain ⟨-, o2, o3, o4, o5, o6⟩ := ok
  obtain ⟨⟨p, hp, hp9⟩, ⟨y, hy, hy9⟩, -, hWC, hmo, hon, hO⟩ := hD
  have hkd := sKd_le D.2.2.2.2.2.1
  obtain ⟨r0, r1, r2, r3, r4, r5, r6⟩ := mk_row hw
  refine ⟨⟨_, h116, by omega⟩, qN_x h117 hG.2.1, fun c hc => ?_⟩
  rw [hwm] at hc ⊢
  by_cases e : c = wN (S 116)
  · subst e
    have hst : sStL D.2.2.2.1 D.2.2.2.2.1 D.2.2.1 0 (zI 0) = true := by
      unfold sStp at o3
      simp only [Bool.and_eq_true, decide_eq_true_eq] at o3
      exact o3.2.2
    obtain ⟨s1, s2⟩ := sStL_ok D.2.2.1 0 0 (fun j j1 j2 => (hWC j (by omega)).2) (by omega) (by omega) hst
    have hwk : wN (sMk S D (18 * wN (S 116) + 3)) = D.2.2.1 := by rw [r3]; exact wN_zI (by omega)
    unfold qR
    rw [hwk, r0, r4, r5]
    refine ⟨⟨⟨_, r0, hkd⟩, ⟨p, r1.trans hp, hp9⟩, ⟨y, r2.trans hy, ?_⟩, ⟨_, r3, hk4⟩, hk1⟩, fun q => ?_, fun q => ?_, fun q => ?_, fun q => ?_, fun q => ?_, Or.inl rfl, fun i hi => ?_, ?_, fun q => absurd rfl q⟩
    · rw [hy, zI_le (by omega) (by omega)] at o2
      exact o2
    · rw [zI_eq (by omega) (by omega), zI_eq (by omega) (by omega)] at q
      rw [if_pos q]
    · rw [zI_eq (by omega) (by omega)] at q
      have r4' := r4
      rw [if_neg (by omega)] at r4'
      obtain ⟨a, ha, ha9⟩ := hmo (by omega) (by omega)
      exact ⟨a, r4'.trans ha, ha9⟩
    · rw [zI_eq (by omega) (by omega)] at q
      have r4' := r4
      rw [if_neg (by omega)] at r4' ⊢
      rcases o4 with o4 | o4
      · exact absurd q o4
      · obtain ⟨p1, p2⟩ := qIs_get o4
        exact ⟨⟨_, r4'.trans p1, by omega⟩, p2⟩
    · rw [zI_eq (by omega) (by omega)] at q
      have r4' := r4
      rw [if_neg (by omega)] at r4' ⊢
      obtain ⟨p1, p2, p3, p4, p5, p6⟩ := hw.2.2.2 q
      refine ⟨⟨_, r4'.trans p1, by omega⟩, p2, ?_⟩
      rw [mk_old hw p2 (by omega), if_pos ⟨q, rfl⟩, if_pos rfl]
    · rw [zI_eq (by omega) (by omega)] at q
      have r4' := r4
      rw [if_neg (by omega)] at r4'
      obtain ⟨a, ha, ha9⟩ := hmo (by omega) (by omega)
      rcases o6 with o6 | o6
      · exact absurd q o6
      · rw [ha, zI_le (by omega) (by omega)] at o6
        exact ⟨a, r4'.trans ha, o6.2⟩
    · obtain ⟨t1, t2⟩ := r6 i hi
      obtain ⟨⟨a, ha, ha9⟩, -⟩ := hWC i hi
      obtain ⟨⟨c, hc, hc9⟩, c1⟩ := s1 i (by omega) (by omega)
      exact ⟨⟨a, t1.trans ha, ha9⟩, ⟨c, t2.trans hc, hc9⟩, by rw [t2]; exact c1, fun q => absurd rfl q⟩
    · rw [Nat.zero_add] at s2
      have : fsum (fun i => wN (sMk S D (18 * wN (S 116) + (10 + i)))) 0 D.2.2.1 = fsum (fun j => wN (D.2.2.2.2.1 j)) 0 D.2.2.1 := fsum_cg (fun j j1 j2 => by
        show wN (sMk S D (18 * wN (S 116) + (10 + j))) = wN (D.2.2.2.2.1 j)
        rw [(r6 j (by omega)).2])
      rw [s2] at this
      exact this
  · have hcb : c < wN (S 116) := by omega
    obtain ⟨⟨a1, a2, a3, a4, a5⟩, b1, b2, b3, b4, b5, b6, b7, b8, b9⟩ := hG.2.2 c hcb
    have n4 := (a4.z (by omega)).2
    have old : ∀ c t, c < wN (S 116) → t < 14 → t ≠ 5 → sMk S D (18 * c + t) = S (18 * c + t) := by
      intro c t hc ht ht5
      rw [mk_old hw hc (by omega)]
      split
      · rw [if_neg (by omega)]
      · rfl
    have q0 := old c 0 hcb (by omega) (by omega)
    have q1 := old c 1 hcb (by omega) (by omega)
    have q2 := old c 2 hcb (by omega) (by omega)
    have q3 := old c 3 hcb (by omega) (by omega)
    have q4 := old c 4 hcb (by omega) (by omega)
    simp only [Nat.add_zero] at q0
    unfold qR
    rw [q0, q3, q4]
    have hsum1 : fo (fun i v => v + wN (sMk S D (18 * c + (10 + i)))) 0 (wN (S (18 * c + 3))) 0 = 100 := by
      rw [← b8]
      apply fo_congr
      intro j j1 j2 a
      rw [old c (10 + j) hcb (by omega) (by omega)]
    have h4c : S (18 * c) = zI 4 → sMk S D (18 * wN (S (18 * c + 4)) + 5) = zI c := fun q => by
      obtain ⟨t1, t2, t3⟩ := b4 q
      rw [mk_old hw (by omega) (by omega)]
      split
      · rename_i hh
        exfalso
        obtain ⟨p1, p2, p3, p4, p5, p6⟩ := hw.2.2.2 hh.1
        rw [← hh.2, t3, zI_neg (by omega)] at p6
        exact p6
      · exact t3
    by_cases kk : sKd D.2.2.2.2.2.1 = 4 ∧ c = wN D.2.2.2.2.2.2.1
    · obtain ⟨p1, p2, p3, p4, p5, p6⟩ := hw.2.2.2 kk.1
      have hp3 : D.2.2.2.2.2.2.2.1 = wN (S (18 * c + 3)) := by rw [p3, kk.2]
      have q5 : sMk S D (18 * c + 5) = zI (wN (S 116)) := by rw [mk_old hw hcb (by omega), if_pos kk, if_pos rfl]
      have qo : ∀ i, i < wN (S (18 * c + 3)) → sMk S D (18 * c + (14 + i)) = D.2.2.2.2.2.2.2.2 i := fun i hi => by
        rw [mk_old hw hcb (by omega), if_pos kk, if_neg (by omega), if_pos (by omega), Nat.add_sub_cancel_left]
      rcases o5 with o5 | o5
      · exact absurd kk.1 o5
      · unfold sOth at o5
        simp only [Bool.and_eq_true, Bool.not_eq_true', decide_eq_false_iff_not, decide_eq_true_eq] at o5
        obtain ⟨s1, s2⟩ := sOtL_ok D.2.2.2.2.2.2.2.1 0 0 (fun j j1 j2 => hO j (by omega)) (by omega) (by omega) o5.2.2.2.2
        rw [q5]
        refine ⟨⟨qN_x q0 a1, qN_x q1 a2, qN_x q2 a3, qN_x q3 a4, a5⟩, b1, fun q => qN_x q4 (b2 q), fun q => ⟨qN_x q4 (b3 q).1, (b3 q).2⟩, fun q => ⟨qN_x q4 (b4 q).1, (b4 q).2.1, h4c q⟩, fun q => qN_x q4 (b5 q), Or.inr ⟨⟨_, q5, by omega⟩, ?_, ?_, ?_, ?_, ?_⟩, fun i hi => ?_, hsum1, fun _ => ?_⟩
        · rw [wN_zI (by omega)]
          omega
        · rw [wN_zI (by omega)]
          omega
        · rw [wN_zI (by omega), r0, kk.1]
        · rw [wN_zI (by omega), r4, if_neg (by omega), p1, ← kk.2]
        · rw [← kk.2] at p5
          exact p5
        · obtain ⟨c1, c2, c3, c4⟩ := b7 i hi
          rw [old c (10 + i) hcb (by omega) (by omega)]
          refine ⟨qN_x (old c (6 + i) hcb (by omega) (by omega)) c1, qN_x (old c (10 + i) hcb (by omega) (by omega)) c2, c3, fun _ => ?_⟩
          obtain ⟨w, hw1, hw2⟩ := s1 i (by omega) (by omega)
          exact ⟨w, (qo i hi).trans hw1, hw2⟩
        · rw [Nat.zero_add] at s2
          have : fsum (fun i => wN (sMk S D (18 * c + (14 + i)))) 0 (wN (S (18 * c + 3))) = fsum (fun j => wN (D.2.2.2.2.2.2.2.2 j)) 0 (wN (S (18 * c + 3))) := fsum_cg (fun j j1 j2 => by
            show wN (sMk S D (18 * c + (14 + j))) = wN (D.2.2.2.2.2.2.2.2 j)
            rw [qo j (by omega)])
          rw [← hp3, s2, hp3] at this
          exact this
    · have oldA : ∀ t, t < 18 → sMk S D (18 * c + t) = S (18 * c + t) := fun t ht => by rw [mk_old hw hcb ht, if_neg kk]
      have q5 := oldA 5 (by omega)
      rw [q5]
      refine ⟨⟨qN_x q0 a1, qN_x q1 a2, qN_x q2 a3, qN_x q3 a4, a5⟩, b1, fun q => qN_x q4 (b2 q), fun q => ⟨qN_x q4 (b3 q).1, (b3 q).2⟩, fun q => ⟨qN_x q4 (b4 q).1, (b4 q).2.1, h4c q⟩, fun q => qN_x q4 (b5 q), ?_, fun i hi => ?_, hsum1, fun q => ?_⟩
      · rcases b6 with t | ⟨t1, t2, t3, t4, t5, t6⟩
        · exact Or.inl t
        · refine Or.inr ⟨qN_x q5 t1, by omega, t3, ?_, ?_, t6⟩
          · have := old (wN (S (18 * c + 5))) 0 t2 (by omega) (by omega)
            simp only [Nat.add_zero] at this
            rw [this]
            exact t4
          · rw [old _ 4 t2 (by omega) (by omega)]
            exact t5
      · obtain ⟨c1, c2, c3, c4⟩ := b7 i hi
        rw [oldA (10 + i) (by omega)]
        exact ⟨qN_x (oldA (6 + i) (by omega)) c1, qN_x (oldA (10 + i) (by omega)) c2, c3, fun q => qN_x (oldA (14 + i) (by omega)) (c4 q)⟩
      · rw [← b9 q]
        apply fo_congr
        intro j j1 j2 a
        rw [oldA (14 + j) (by omega)]
theorem qPl_mk {S : Nat → Int32} {D : pD} (hw : sWf S D) : qPl (sMk S D) ∧ qHw (sMk S D) ∧ (∀ b, b < 5 → sMk S D (90 + b) = zI 0) := by
  have h0 : ∀ b, b < 5 → sMk S D (90 + b) = zI 0 := fun b hb => by rw [mk_hi hw (by omega), if_neg (by omega), if_pos (by omega)]
  refine ⟨fun b hb => ⟨⟨0, h0 b hb, by omega⟩, fun _ => h0 b hb, fun _ => ⟨fun q => ?_, fun q => ?_⟩⟩, fun b hb => ⟨0, h0 b hb, by omega⟩, h0⟩
  · rw [h0 b hb] at q
    rcases q with q | q
    · exact absurd q (by decide)
    · exact absurd q (by decide)
  · rw [h0 b hb, wN_zI (by omega)] at q
    omega
