/-! Reader: the way of a box's statement -/
def y1 (s : Nat → Int32) (p : Nat) : Bool × Nat := xE s (zI 98) true p
def y2 (s : Nat → Int32) (p : Nat) : Bool × Nat := xN s (y1 s p).1 (y1 s p).2
def y3 (s : Nat → Int32) (p : Nat) : Bool × Nat := xE s (zI 32) (y2 s p).1 (y2 s p).2
def y4 (s : Nat → Int32) (p : Nat) : Bool × Nat := xN s (y3 s p).1 (y3 s p).2
def y5 (F : Nat) (s : Nat → Int32) (p : Nat) : Bool × Nat := ((y4 s p).1 && (pStp s F (y4 s p).2 0 pZ pZ).1, if (y4 s p).1 = true then (pStp s F (y4 s p).2 0 pZ pZ).2.1 else (y4 s p).2)
def y6 (F : Nat) (s : Nat → Int32) (p : Nat) : Bool × Nat := xG s (y5 F s p).1 (y5 F s p).2
def yg (F : Nat) (s : Nat → Int32) (p : Nat) : Int32 := if (y5 F s p).1 = true then s (y5 F s p).2 else zI 59
def y7 (F : Nat) (s : Nat → Int32) (p : Nat) : Bool × Nat := xO F s (y6 F s p).1 (yg F s p) (y6 F s p).2
def y8 (F : Nat) (s : Nat → Int32) (p : Nat) : Bool × Nat := xE s (zI 59) (y7 F s p).1 (y7 F s p).2
def yD (F : Nat) (s : Nat → Int32) (p : Nat) (D : pD) : Prop := (y1 s p).1 = true ∧ (y3 s p).1 = true ∧ (y4 s p).1 = true ∧ (y6 F s p).1 = true ∧ (y5 F s p).1 = true ∧ (pStp s F (y4 s p).2 0 pZ pZ).1 = true ∧ D.1 = (pNum s (y1 s p).2).2.2 ∧ D.2.1 = (pNum s (y3 s p).2).2.2 ∧ D.2.2.1 = (pStp s F (y4 s p).2 0 pZ pZ).2.2.1 ∧ D.2.2.2.1 = (pStp s F (y4 s p).2 0 pZ pZ).2.2.2.1 ∧ D.2.2.2.2.1 = (pStp s F (y4 s p).2 0 pZ pZ).2.2.2.2 ∧ (if D.2.2.2.2.2.1 = zI 0 then zI 59 else D.2.2.2.2.2.1) = yg F s p ∧ (D.2.2.2.2.2.1 ≠ zI 0 → D.2.2.2.2.2.1 ≠ zI 33 → xQ (s (y5 F s p).2) ∧ D.2.2.2.2.2.2.1 = (pNum s ((y5 F s p).2 + 1)).2.2) ∧ (yg F s p = zI 62 → (pOth s F (y6 F s p).2 0 pZ).1 = true ∧ D.2.2.2.2.2.2.2.1 = (pOth s F (y6 F s p).2 0 pZ).2.2.1 ∧ D.2.2.2.2.2.2.2.2 = (pOth s F (y6 F s p).2 0 pZ).2.2.2) ∧ (¬ yg F s p = zI 62 → D.2.2.2.2.2.2.2.1 = 0)
section YW
variable {F p q : Nat} {s : Nat → Int32}
theorem xE_f {c : Int32} : xE s c false q = (false, q) := if_neg (fun h => by cases h.1)
theorem xN_f : xN s false q = (false, q) := if_neg (by simp)
theorem xN_t : xN s true q = ((pNum s q).1, (pNum s q).2.1) := if_pos rfl
theorem y3_f (h : y2 s p = (false, q)) : y3 s p = (false, q) := by unfold y3; rw [h]; exact xE_f
theorem y4_f (h : y3 s p = (false, q)) : y4 s p = (false, q) := by unfold y4; rw [h]; exact xN_f
theorem y5_f (h : y4 s p = (false, q)) : y5 F s p = (false, q) := by unfold y5; rw [h]; rfl
theorem y6_f (h : y5 F s p = (false, q)) : y6 F s p = (false, q) := by unfold y6; rw [h]; exact if_neg (by simp)
theorem y7_f (h : y6 F s p = (false, q)) : y7 F s p = (false, q) := by unfold y7; rw [h]; exact if_neg (by simp)
theorem y8_f (h : y7 F s p = (false, q)) : y8 F s p = (false, q) := by unfold y8; rw [h]; exact xE_f
theorem pSem_f {D : pD} : pSem s (false, q, D) = (false, q, D) := rfl
theorem pSem_y {D : pD} (h : s q = zI 59) : pSem s (true, q, D) = (true, q + 1, D) := by unfold pSem; rw [if_pos rfl, if_pos h]
theorem pSem_n {D : pD} (h : ¬ s q = zI 59) : pSem s (true, q, D) = (false, q, D) := by unfold pSem; rw [if_pos rfl, if_neg h]
theorem xE_y {c : Int32} (h : s q = c) : xE s c true q = (true, q + 1) := if_pos ⟨rfl, h⟩
theorem xE_n {c : Int32} (h : ¬ s q = c) : xE s c true q = (false, q) := if_neg (fun k => h k.2)
theorem bF_ {b : Bool} (h : ¬ b = true) : b = false := by simpa using h
theorem y_fail {D : pD} {P : Prop} (h : y7 F s p = (false, q)) : y8 F s p = ((pSem s (false, q, D)).1, (pSem s (false, q, D)).2.1) ∧ ((pSem s (false, q, D)).1 = true → P) := ⟨by rw [y8_f h]; rfl, fun k => absurd (show false = true from k) (by simp)⟩
theorem y_ok (hc : ¬ s p = zI 108) : y8 F s p = ((pSt F s p).1, (pSt F s p).2.1) ∧ ((pSt F s p).1 = true → yD F s p (pSt F s p).2.2) := by
  unfold pSt
  rw [if_neg hc]
  by_cases c0 : s p = zI 98
  · rw [if_pos c0]
    have e1 : y1 s p = (true, p + 1) := xE_y c0
    have e2 : y2 s p = ((pNum s (p + 1)).1, (pNum s (p + 1)).2.1) := by unfold y2; rw [e1]; exact xN_t
    unfold pBox
    by_cases k1 : (pNum s (p + 1)).1 = true
    · rw [if_pos k1]
      rw [k1] at e2
      by_cases k2 : s (pNum s (p + 1)).2.1 = zI 32
      · rw [if_pos k2]
        have e3 : y3 s p = (true, (pNum s (p + 1)).2.1 + 1) := by unfold y3; rw [e2]; exact xE_y k2
        have e4 : y4 s p = ((pNum s ((pNum s (p + 1)).2.1 + 1)).1, (pNum s ((pNum s (p + 1)).2.1 + 1)).2.1) := by unfold y4; rw [e3]; exact xN_t
        by_cases k3 : (pNum s ((pNum s (p + 1)).2.1 + 1)).1 = true
        · rw [if_pos k3]
          rw [k3] at e4
          have e5 : y5 F s p = ((pStp s F (y4 s p).2 0 pZ pZ).1, (pStp s F (y4 s p).2 0 pZ pZ).2.1) := by unfold y5; rw [e4]; rfl
          have h42 : (y4 s p).2 = (pNum s ((pNum s (p + 1)).2.1 + 1)).2.1 := by rw [e4]
          have h32 : (y3 s p).2 = (pNum s (p + 1)).2.1 + 1 := by rw [e3]
          have h12 : (y1 s p).2 = p + 1 := by rw [e1]
          rw [← h42, ← h32, ← h12]
          generalize hP : pStp s F (y4 s p).2 0 pZ pZ = P at e5
          obtain ⟨pb, pq, pk, pW, pC⟩ := P
          by_cases k4 : pb = true
          · subst k4
            rw [if_pos rfl]
            have hyg : yg F s p = s pq := by unfold yg; rw [e5]; rfl
            unfold pEnd
            simp only
            have base : ∀ D : pD, (y6 F s p).1 = true → D.1 = (pNum s (y1 s p).2).2.2 → D.2.1 = (pNum s (y3 s p).2).2.2 → D.2.2.1 = pk → D.2.2.2.1 = pW → D.2.2.2.2.1 = pC → (if D.2.2.2.2.2.1 = zI 0 then zI 59 else D.2.2.2.2.2.1) = s pq → (D.2.2.2.2.2.1 ≠ zI 0 → D.2.2.2.2.2.1 ≠ zI 33 → xQ (s pq) ∧ D.2.2.2.2.2.2.1 = (pNum s (pq + 1)).2.2) → (s pq = zI 62 → (pOth s F (y6 F s p).2 0 pZ).1 = true ∧ D.2.2.2.2.2.2.2.1 = (pOth s F (y6 F s p).2 0 pZ).2.2.1 ∧ D.2.2.2.2.2.2.2.2 = (pOth s F (y6 F s p).2 0 pZ).2.2.2) → (¬ s pq = zI 62 → D.2.2.2.2.2.2.2.1 = 0) → yD F s p D := by
              intro D d1 d2 d3 d4 d5 d6 d7 d8 d9 d10
              unfold yD
              rw [hP, hyg, e5]
              exact ⟨by rw [e1], by rw [e3], by rw [e4], d1, rfl, rfl, d2, d3, d4, d5, d6, d7, d8, d9, d10⟩
            by_cases g1 : s pq = zI 59
            · have z6 : y6 F s p = (true, pq) := by
                unfold y6 xG
                rw [e5]
                simp only [if_true, g1]
                rw [if_neg (by decide), if_neg (by unfold xQ; decide)]
              have z7 : y7 F s p = (true, pq) := by
                unfold y7 xO
                rw [z6, hyg, g1]
                simp only [if_true]
                rw [if_neg (by decide)]
              have z8 : y8 F s p = (true, pq + 1) := by unfold y8; rw [z7]; exact xE_y g1
              rw [if_pos g1, pSem_y g1]
              refine ⟨z8, fun _ => base _ (by rw [z6]) rfl rfl rfl rfl rfl ?_ ?_ ?_ ?_⟩
              · rw [g1]; rfl
              · exact fun h => absurd rfl h
              · intro h; rw [g1] at h; exact absurd h (by decide)
              · exact fun _ => rfl
            · rw [if_neg g1]
              by_cases g2 : s pq = zI 33
              · have z6 : y6 F s p = (true, pq + 1) := by
                  unfold y6 xG
                  rw [e5]
                  simp only [if_true, g2]
                have z7 : y7 F s p = (true, pq + 1) := by
                  unfold y7 xO
                  rw [z6, hyg, g2]
                  simp only [if_true]
                  rw [if_neg (by decide)]
                rw [if_pos g2]
                by_cases g3 : s (pq + 1) = zI 59
                · have z8 : y8 F s p = (true, pq + 1 + 1) := by unfold y8; rw [z7]; exact xE_y g3
                  rw [pSem_y g3]
                  refine ⟨z8, fun _ => base _ (by rw [z6]) rfl rfl rfl rfl rfl ?_ ?_ ?_ ?_⟩
                  · rw [g2]; rfl
                  · exact fun _ h => absurd rfl h
                  · intro h; rw [g2] at h; exact absurd h (by decide)
                  · exact fun _ => rfl
                · have z8 : y8 F s p = (false, pq + 1) := by unfold y8; rw [z7]; exact xE_n g3
                  rw [pSem_n g3]
                  exact ⟨z8, fun k => absurd (show false = true from k) (by simp)⟩
              · rw [if_neg g2]
                by_cases g3 : s pq = zI 63 ∨ s pq = zI 60 ∨ s pq = zI 62 ∨ s pq = zI 64
                · rw [if_pos g3]
                  have z6 : y6 F s p = ((pNum s (pq + 1)).1, (pNum s (pq + 1)).2.1) := by
                    unfold y6 xG
                    rw [e5]
                    simp only [if_true]
                    rw [if_neg g2, if_pos (show xQ (s pq) from g3)]
                  have g0 : ¬ s pq = zI 0 := by
                    rcases g3 with k | k | k | k <;> (rw [k]; decide)
                  by_cases k5 : (pNum s (pq + 1)).1 = true
                  · rw [if_pos k5]
                    rw [k5] at z6
                    by_cases g4 : s pq = zI 62
                    · rw [if_pos g4]
                      have z62 : (y6 F s p).2 = (pNum s (pq + 1)).2.1 := by rw [z6]
                      have z7 : y7 F s p = ((pOth s F (y6 F s p).2 0 pZ).1, (pOth s F (y6 F s p).2 0 pZ).2.1) := by
                        unfold y7 xO
                        rw [hyg, g4, show (y6 F s p).1 = true by rw [z6]]
                        simp only [if_true]
                      rw [← z62]
                      generalize hO : pOth s F (y6 F s p).2 0 pZ = O at z7
                      obtain ⟨ob, oq, ok, oO⟩ := O
                      cases ob with
                      | false => exact y_fail z7
                      | true =>
                        by_cases g5 : s oq = zI 59
                        · have z8 : y8 F s p = (true, oq + 1) := by unfold y8; rw [z7]; exact xE_y g5
                          simp only
                          rw [pSem_y g5]
                          refine ⟨z8, fun _ => base _ (by rw [z6]) rfl rfl rfl rfl rfl ?_ ?_ ?_ ?_⟩
                          · exact if_neg g0
                          · exact fun _ _ => ⟨g3, rfl⟩
                          · exact fun _ => by rw [hO]; exact ⟨rfl, rfl, rfl⟩
                          · exact fun h => absurd g4 h
                        · have z8 : y8 F s p = (false, oq) := by unfold y8; rw [z7]; exact xE_n g5
                          simp only
                          rw [pSem_n g5]
                          exact ⟨z8, fun k => absurd (show false = true from k) (by simp)⟩
                    · rw [if_neg g4]
                      have z7 : y7 F s p = (true, (pNum s (pq + 1)).2.1) := by
                        unfold y7 xO
                        rw [z6, hyg]
                        simp only [if_true]
                        rw [if_neg g4]
                      by_cases g5 : s (pNum s (pq + 1)).2.1 = zI 59
                      · have z8 : y8 F s p = (true, (pNum s (pq + 1)).2.1 + 1) := by unfold y8; rw [z7]; exact xE_y g5
                        rw [pSem_y g5]
                        refine ⟨z8, fun _ => base _ (by rw [z6]) rfl rfl rfl rfl rfl ?_ ?_ ?_ ?_⟩
                        · exact if_neg g0
                        · exact fun _ _ => ⟨g3, rfl⟩
                        · exact fun h => absurd h g4
                        · exact fun _ => rfl
                      · have z8 : y8 F s p = (false, (pNum s (pq + 1)).2.1) := by unfold y8; rw [z7]; exact xE_n g5
                        rw [pSem_n g5]
                        exact ⟨z8, fun k => absurd (show false = true from k) (by simp)⟩
                  · rw [if_neg k5]
                    rw [bF_ k5] at z6
                    exact y_fail (y7_f z6)
                · rw [if_neg g3]
                  have z6 : y6 F s p = (true, pq) := by
                    unfold y6 xG
                    rw [e5]
                    simp only [if_true]
                    rw [if_neg g2, if_neg (show ¬ xQ (s pq) from g3)]
                  have z7 : y7 F s p = (true, pq) := by
                    unfold y7 xO
                    rw [z6, hyg]
                    simp only [if_true]
                    rw [if_neg (fun k => g3 (Or.inr (Or.inr (Or.inl k))))]
                  refine ⟨?_, fun k => absurd (show false = true from k) (by simp)⟩
                  unfold y8
                  rw [z7]
                  exact xE_n g1
          · rw [if_neg k4]
            rw [bF_ k4] at e5
            exact y_fail (y7_f (y6_f e5))
        · rw [if_neg k3]
          rw [bF_ k3] at e4
          exact y_fail (y7_f (y6_f (y5_f e4)))
      · rw [if_neg k2]
        have e3 : y3 s p = (false, (pNum s (p + 1)).2.1) := by unfold y3; rw [e2]; exact xE_n k2
        exact y_fail (y7_f (y6_f (y5_f (y4_f e3))))
    · rw [if_neg k1]
      rw [bF_ k1] at e2
      exact y_fail (y7_f (y6_f (y5_f (y4_f (y3_f e2)))))
  · rw [if_neg c0]
    have e1 : y1 s p = (false, p) := xE_n c0
    have e2 : y2 s p = (false, p) := by unfold y2; rw [e1]; exact xN_f
    exact y_fail (D := pBad) (y7_f (y6_f (y5_f (y4_f (y3_f e2)))))
end YW
section RS
variable {X : am_X} {h : am_H} {e r d n p : Nat} {u : mU} {z : Nat × Nat} {s : Nat → Int32}
theorem xG_le {b : Bool} (hp : p ≤ n) : (xG (sg s n) b p).2 ≤ n := by
  unfold xG
  by_cases c : b = true
  · rw [if_pos c]
    by_cases c1 : sg s n p = zI 33
    · rw [if_pos c1]
      have := sg_c (by omega) c1
      show p + 1 ≤ n
      omega
    · rw [if_neg c1]
      by_cases c2 : xQ (sg s n p)
      · rw [if_pos c2]
        have hpn : p < n := by
          rcases c2 with c | c | c | c <;> exact sg_c (by omega) c
        have := sg_le (by' := s) (n := n) (p := p + 1) (b := true) (by omega)
        rw [xN_t] at this
        exact this
      · rw [if_neg c2]
        exact hp
  · rw [if_neg c]
    exact hp
theorem e_stmt {F : Nat} (hF : n < F) (hS : eSt u n true p) (hB : eBy h e r s) (hn : n ≤ 120) (hp : p ≤ n) : ∃ u', am_f X (d + 4) 11 [.ref e] (eH h e (u, r), z) = some (.inl none, (eH h e (u', r), z)) ∧ eSt u' n (pSt F (sg s n) p).1 (pSt F (sg s n) p).2.1 ∧ u'.2.2.1 5 = sg s n p ∧ ((pSt F (sg s n) p).1 = true → (sg s n p = zI 108 → u'.2.2.1 12 = (pSt F (sg s n) p).2.2.2.2.2.2.2.2.1) ∧ (¬ sg s n p = zI 108 → eDat u' (pSt F (sg s n) p).2.2)) := by
  obtain ⟨hA, hA2, hb⟩ := hS
  have nx : am_f X (d + 3) 12 [.ref e] (eH h e (u, r), z) = some (.inl (some (.int (sg s n p))), (eH h e (u, r), z)) := e_next hA hA2 hB hn hp
  by_cases c : sg s n p = zI 108
  · have hpn := sg_c (by omega) c
    obtain ⟨u3, v, n1, s1, f1, w1⟩ := e_num (X := X) (d := d + 1) (z := z) (u := mI (mI u 5 (sg s n p)) 2 (zI (p + 1))) (b := true) (p := p + 1) ⟨hA, rfl, hb⟩ hB hn (by omega)
    have hv := w1 rfl
    have l1 := sg_le (by' := s) (n := n) (p := p + 1) (b := true) (by omega)
    obtain ⟨u5, n2, s2, f2⟩ := e_exp (X := X) (d := d + 1) (z := z) (u := mI u3 12 v) (c := zI 59) s1 hB hn l1
    have hst : ((pSt F (sg s n) p).1, (pSt F (sg s n) p).2.1) = xE (sg s n) (zI 59) (xN (sg s n) true (p + 1)).1 (xN (sg s n) true (p + 1)).2 ∧ ((pSt F (sg s n) p).1 = true → (pSt F (sg s n) p).2.2.2.2.2.2.2.2.1 = (pNum (sg s n) (p + 1)).2.2) := by
      unfold pSt
      rw [if_pos c, xN_t]
      cases hk : (pNum (sg s n) (p + 1)).1 with
      | true =>
        by_cases k : sg s n (pNum (sg s n) (p + 1)).2.1 = zI 59
        · rw [pSem_y k, xE_y k]
          exact ⟨rfl, fun _ => rfl⟩
        · rw [pSem_n k, xE_n k]
          exact ⟨rfl, fun _ => rfl⟩
      | false =>
        rw [pSem_f, xE_f]
        exact ⟨rfl, fun _ => rfl⟩
    rw [← hst.1] at s2
    refine ⟨u5, ?_, s2, ?_, fun ok => ⟨fun _ => ?_, fun k => absurd c k⟩⟩
    · rw [c] at nx n1
      rw [fU_11]
      simp (disch := first | omega | exact Nat.le_of_ble_eq_true rfl | exact eH_ci | (refine eF_lt ?_; omega)) only [own_11, am_go dc_11_0, J_aload_0, K_al, ld_0, am_go dc_11_1, am_go dc_11_2, cv_3_60_3 own_11, JR_v, JR_0, JR_ite, ci1_r, am_go dc_11_5, J_putfield_i, J_putfield_l, J_putfield_r, ini_11, pk_3_67_3, am_go dc_11_8, am_go dc_11_9, J_getfield, gf_r, fk_3_67_3, am_go dc_11_12, J_bipush, c8_108, am_go dc_11_14, J_icmp_ne, am_go dc_11_17, am_go dc_11_18, J_dup_i, J_dup_r, am_go dc_11_19, fk_3_46_3, am_go dc_11_22, J_iconst, c32_1, am_go dc_11_23, J_iadd, am_go dc_11_24, pk_3_46_3, am_go dc_11_27, am_go dc_11_28, am_go dc_11_29, cv_3_70_3 own_11, am_go dc_11_32, pk_3_73_3, am_go dc_11_35, J_goto, am_go dc_11_38, am_go dc_11_39, c8_98, am_go dc_11_41, cv_3_76_3 own_11, am_go dc_11_44, am_go dc_11_45, am_go dc_11_46, am_go dc_11_49, pk_3_80_3, am_go dc_11_52, am_go dc_11_53, c8_32, am_go dc_11_55, am_go dc_11_58, am_go dc_11_59, am_go dc_11_60, am_go dc_11_63, pk_3_83_3, am_go dc_11_66, am_go dc_11_67, cv_3_86_3 own_11, am_go dc_11_70, am_go dc_11_71, cv_3_89_3 own_11, am_go dc_11_74, am_go dc_11_75, cv_3_92_3 own_11, am_go dc_11_78, am_go dc_11_79, c8_59, am_go dc_11_81, am_go dc_11_84, J_ret_v ret_11, ep_5, pf_i pk_3_67_3 rfl, eg_5, eg_2, ep_2, pf_i pk_3_46_3 rfl, ep_12, pf_i pk_3_73_3 rfl, ep_6, pf_i pk_3_80_3 rfl, ep_7, pf_i pk_3_83_3 rfl, eH_0, eH_10, eH_11, eH_12, ew_10, ew_11, ew_12, zI_add, zI_mul, zI_lt, zI_le, zI_eq, zI_neg, zI_pos, zI_ne0, zI_gt0, zB_0, lg_cmp_ge, lg_cmp_le, lg_cmp_gt, lg_cmp_lt, lg_cmp_eq, ail_r, abl_r, all_r, ais_r, abs_r, als_r, aal_r, aal_q, aln_r, vrf_s, vrf_n, z32, hA, hA2, hb, nx, c, n1, n2, mS_s, mS_o, mS_2, mI_1, mI_2, mI_s, mI_o, mI_I, mS_S, List.length_cons, List.length_nil, Nat.reduceAdd, Nat.reduceLT, Nat.reduceLeDiff, Nat.reduceEqDiff, ↓reduceIte, bind_s, if_true, if_false, not_true_eq_false, not_false_eq_true, Nat.zero_add]
    · rw [f2.2 5 (by omega) (by omega), mI_o (by omega), f1.2 5 (by omega) (by omega), mI_o (by omega), mI_s]
    · rw [f2.2 12 (by omega) (by omega), mI_s, hv, hst.2 ok]
  · obtain ⟨hy1, hy2⟩ := y_ok (F := F) (s := sg s n) c
    obtain ⟨u1, n1, s1, f1⟩ := e_exp (X := X) (d := d + 1) (z := z) (u := mI u 5 (sg s n p)) (b := true) (c := zI 98) ⟨hA, hA2, hb⟩ hB hn hp
    have l1 := sg_le2 (by' := s) (b := true) (show 98 < 1000 by omega) hp
    obtain ⟨u2, v2, n2, s2, f2, w2⟩ := e_num (X := X) (d := d + 1) (z := z) s1 hB hn l1
    have l2 := sg_le (by' := s) (b := (xE (sg s n) (zI 98) true p).1) l1
    obtain ⟨u3, n3, s3, f3⟩ := e_exp (X := X) (d := d + 1) (z := z) (u := mI u2 6 v2) (c := zI 32) s2 hB hn l2
    have l3 : (y3 (sg s n) p).2 ≤ n := sg_le2 (show 32 < 1000 by omega) l2
    obtain ⟨u4, v4, n4, s4, f4, w4⟩ := e_num (X := X) (d := d + 1) (z := z) s3 hB hn l3
    have l4 : (y4 (sg s n) p).2 ≤ n := sg_le l3
    obtain ⟨u5, n5, s5, f5, w5⟩ := e_steps (X := X) (d := d) (z := z) (u := mI u4 7 v4) hF s4 hB hn l4
    have l5 : (y5 F (sg s n) p).2 ≤ n := by
      show (if (y4 (sg s n) p).1 = true then (pStp (sg s n) F (y4 (sg s n) p).2 0 pZ pZ).2.1 else (y4 (sg s n) p).2) ≤ n
      by_cases k : (y4 (sg s n) p).1 = true
      · rw [if_pos k]
        exact (pStp_k (s := sg s n) (n := n) (fun q hq => sg_D hq) (fun q c hc hq => sg_c hc hq) F (y4 (sg s n) p).2 0 pZ pZ l4 (by omega)).2.1
      · rw [if_neg k]
        exact l4
    obtain ⟨u6, n6, s6, f6, g6, w6⟩ := e_ending (X := X) (d := d) (z := z) s5 hB hn l5
    have l6 : (y6 F (sg s n) p).2 ≤ n := xG_le l5
    obtain ⟨u7, n7, s7, f7, w7, w7'⟩ := e_others (X := X) (d := d) (z := z) hF s6 g6 hB hn l6
    have l7 : (y7 F (sg s n) p).2 ≤ n := by
      show (xO F (sg s n) (y6 F (sg s n) p).1 (yg F (sg s n) p) (y6 F (sg s n) p).2).2 ≤ n
      unfold xO
      by_cases k : (y6 F (sg s n) p).1 = true
      · rw [if_pos k]
        by_cases k2 : yg F (sg s n) p = zI 62
        · rw [if_pos k2]
          exact (pOth_k (s := sg s n) (n := n) (fun q hq => sg_D hq) (fun q c hc hq => sg_c hc hq) F (y6 F (sg s n) p).2 0 pZ l6 (by omega)).2.1
        · rw [if_neg k2]
          exact l6
      · rw [if_neg k]
        exact l6
    obtain ⟨u8, n8, s8, f8⟩ := e_exp (X := X) (d := d + 1) (z := z) (c := zI 59) s7 hB hn l7
    have s8' : eSt u8 n (y8 F (sg s n) p).1 (y8 F (sg s n) p).2 := s8
    rw [hy1] at s8'
    have e5 : u8.2.2.1 5 = sg s n p := by
      rw [f8.2 5 (by omega) (by omega), f7.2 5 (by omega) (by omega) (by omega), f6.2 5 (by omega) (by omega) (by omega) (by omega), f5.2 5 (by omega) (by omega) (by omega), mI_o (by omega), f4.2 5 (by omega) (by omega), f3.2 5 (by omega) (by omega), mI_o (by omega), f2.2 5 (by omega) (by omega), f1.2 5 (by omega) (by omega), mI_s]
    refine ⟨u8, ?_, s8', e5, fun ok => ⟨fun k => absurd k c, fun _ => ?_⟩⟩
    · rw [fU_11]
      simp (disch := first | omega | exact Nat.le_of_ble_eq_true rfl | exact eH_ci | (refine eF_lt ?_; omega)) only [own_11, am_go dc_11_0, J_aload_0, K_al, ld_0, am_go dc_11_1, am_go dc_11_2, cv_3_60_3 own_11, JR_v, JR_0, JR_ite, ci1_r, am_go dc_11_5, J_putfield_i, J_putfield_l, J_putfield_r, ini_11, pk_3_67_3, am_go dc_11_8, am_go dc_11_9, J_getfield, gf_r, fk_3_67_3, am_go dc_11_12, J_bipush, c8_108, am_go dc_11_14, J_icmp_ne, am_go dc_11_17, am_go dc_11_18, J_dup_i, J_dup_r, am_go dc_11_19, fk_3_46_3, am_go dc_11_22, J_iconst, c32_1, am_go dc_11_23, J_iadd, am_go dc_11_24, pk_3_46_3, am_go dc_11_27, am_go dc_11_28, am_go dc_11_29, cv_3_70_3 own_11, am_go dc_11_32, pk_3_73_3, am_go dc_11_35, J_goto, am_go dc_11_38, am_go dc_11_39, c8_98, am_go dc_11_41, cv_3_76_3 own_11, am_go dc_11_44, am_go dc_11_45, am_go dc_11_46, am_go dc_11_49, pk_3_80_3, am_go dc_11_52, am_go dc_11_53, c8_32, am_go dc_11_55, am_go dc_11_58, am_go dc_11_59, am_go dc_11_60, am_go dc_11_63, pk_3_83_3, am_go dc_11_66, am_go dc_11_67, cv_3_86_3 own_11, am_go dc_11_70, am_go dc_11_71, cv_3_89_3 own_11, am_go dc_11_74, am_go dc_11_75, cv_3_92_3 own_11, am_go dc_11_78, am_go dc_11_79, c8_59, am_go dc_11_81, am_go dc_11_84, J_ret_v ret_11, ep_5, pf_i pk_3_67_3 rfl, eg_5, eg_2, ep_2, pf_i pk_3_46_3 rfl, ep_12, pf_i pk_3_73_3 rfl, ep_6, pf_i pk_3_80_3 rfl, ep_7, pf_i pk_3_83_3 rfl, eH_0, eH_10, eH_11, eH_12, ew_10, ew_11, ew_12, zI_add, zI_mul, zI_lt, zI_le, zI_eq, zI_neg, zI_pos, zI_ne0, zI_gt0, zB_0, lg_cmp_ge, lg_cmp_le, lg_cmp_gt, lg_cmp_lt, lg_cmp_eq, ail_r, abl_r, all_r, ais_r, abs_r, als_r, aal_r, aal_q, aln_r, vrf_s, vrf_n, z32, hA, hA2, hb, nx, c, n1, n2, n3, n4, n5, n6, n7, n8, mS_s, mS_o, mS_2, mI_1, mI_2, mI_s, mI_o, mI_I, mS_S, List.length_cons, List.length_nil, Nat.reduceAdd, Nat.reduceLT, Nat.reduceLeDiff, Nat.reduceEqDiff, ↓reduceIte, bind_s, if_true, if_false, not_true_eq_false, not_false_eq_true, Nat.zero_add]
    · obtain ⟨d1, d2, d3, d4, d5, d6, d7, d8, d9, d10, d11, d12, d13, d14, d15⟩ := hy2 ok
      obtain ⟨t1, t2⟩ := w5 d3 d6
      refine ⟨?_, ?_, ?_, ?_, ?_, ?_, ?_, ?_⟩
      · rw [f8.2 6 (by omega) (by omega), f7.2 6 (by omega) (by omega) (by omega), f6.2 6 (by omega) (by omega) (by omega) (by omega), f5.2 6 (by omega) (by omega) (by omega), mI_o (by omega), f4.2 6 (by omega) (by omega), f3.2 6 (by omega) (by omega), mI_s, w2 d1, d7]
        rfl
      · rw [f8.2 7 (by omega) (by omega), f7.2 7 (by omega) (by omega) (by omega), f6.2 7 (by omega) (by omega) (by omega) (by omega), f5.2 7 (by omega) (by omega) (by omega), mI_s, w4 d2, d8]
        rfl
      · rw [f8.2 8 (by omega) (by omega), f7.2 8 (by omega) (by omega) (by omega), f6.2 8 (by omega) (by omega) (by omega) (by omega), t1, d9]
        rfl
      · intro j j1 j2
        rw [d9] at j1
        obtain ⟨q1, q2⟩ := t2 j j1 j2
        rw [f8.1, f7.1 9 (by omega), f7.1 10 (by omega), f6.1, d10, d11]
        exact ⟨q1, q2⟩
      · rw [f8.2 11 (by omega) (by omega), f7.2 11 (by omega) (by omega) (by omega), d12]
        exact g6
      · intro j1 j2
        obtain ⟨q1, q2⟩ := d13 j1 j2
        rw [f8.2 12 (by omega) (by omega), f7.2 12 (by omega) (by omega) (by omega), q2]
        exact w6 d5 q1
      · rw [f8.2 13 (by omega) (by omega)]
        by_cases k : yg F (sg s n) p = zI 62
        · obtain ⟨q1, q2, q3⟩ := d14 k
          rw [(w7' d4 k q1).1, q2]
          rfl
        · rw [w7 d4 k, d15 k]
      · intro j j1 j2
        rw [f8.1]
        by_cases k : yg F (sg s n) p = zI 62
        · obtain ⟨q1, q2, q3⟩ := d14 k
          rw [q2] at j1
          rw [(w7' d4 k q1).2 j j1 j2, q3]
          rfl
        · rw [d15 k] at j1
          omega
end RS
