/-! the reference reads statements; what is as told -/
section M22
variable {X : am_X} {h : am_H} {o d : Nat} {u : mU} {z : Nat × Nat}
theorem pEnd_k {F : Nat} {s : Nat → Int32} {n p k : Nat} {x y : Int32} {W C : Nat → Int32} (hs : ∀ q, n ≤ q → isD (s q) = false) (hs2 : ∀ q c, c < 1000 → s q = zI c → q < n) (hp : p ≤ n) : p ≤ (pEnd F s p x y k W C).2.1 ∧ (pEnd F s p x y k W C).2.1 ≤ n := by
  unfold pEnd
  split
  · exact ⟨Nat.le_refl _, hp⟩
  · split
    · rename_i c
      have := hs2 p 33 (by omega) c
      exact ⟨Nat.le_succ _, this⟩
    · split
      · rename_i cc
        have hpn : p < n := by
          rcases cc with e | e | e | e
          · exact hs2 p 63 (by omega) e
          · exact hs2 p 60 (by omega) e
          · exact hs2 p 62 (by omega) e
          · exact hs2 p 64 (by omega) e
        obtain ⟨a1, a2⟩ := pNum_ok (p := p + 1) hs (by omega)
        split
        · rename_i c2
          obtain ⟨b1, b2, -⟩ := a1 c2
          split
          · obtain ⟨f1, f2, -⟩ := pOth_k hs hs2 F (pNum s (p + 1)).2.1 0 pZ b2 (by omega)
            show p ≤ (pOth s F (pNum s (p + 1)).2.1 0 pZ).2.1 ∧ (pOth s F (pNum s (p + 1)).2.1 0 pZ).2.1 ≤ n
            omega
          · show p ≤ (pNum s (p + 1)).2.1 ∧ (pNum s (p + 1)).2.1 ≤ n
            omega
        · rename_i c2
          have := a2 (by simpa using c2)
          show p ≤ (pNum s (p + 1)).2.1 ∧ (pNum s (p + 1)).2.1 ≤ n
          omega
      · exact ⟨Nat.le_refl _, hp⟩
theorem pBox_k {F : Nat} {s : Nat → Int32} {n p : Nat} (hs : ∀ q, n ≤ q → isD (s q) = false) (hs2 : ∀ q c, c < 1000 → s q = zI c → q < n) (hp : p ≤ n) : p ≤ (pBox F s p).2.1 ∧ (pBox F s p).2.1 ≤ n := by
  unfold pBox
  obtain ⟨a1, a2⟩ := pNum_ok (p := p) hs hp
  split
  · rename_i c1
    obtain ⟨b1, b2, -⟩ := a1 c1
    split
    · rename_i c2
      have := hs2 _ 32 (by omega) c2
      obtain ⟨d1, d2⟩ := pNum_ok (p := (pNum s p).2.1 + 1) hs (by omega)
      split
      · rename_i c3
        obtain ⟨e1, e2, -⟩ := d1 c3
        obtain ⟨f1, f2, -⟩ := pStp_k hs hs2 F (pNum s ((pNum s p).2.1 + 1)).2.1 0 pZ pZ e2 (by omega)
        split
        · have := pEnd_k (F := F) (x := (pNum s p).2.2) (y := (pNum s ((pNum s p).2.1 + 1)).2.2) (k := (pStp s F (pNum s ((pNum s p).2.1 + 1)).2.1 0 pZ pZ).2.2.1) (W := (pStp s F (pNum s ((pNum s p).2.1 + 1)).2.1 0 pZ pZ).2.2.2.1) (C := (pStp s F (pNum s ((pNum s p).2.1 + 1)).2.1 0 pZ pZ).2.2.2.2) hs hs2 f2
          omega
        · show p ≤ (pStp s F (pNum s ((pNum s p).2.1 + 1)).2.1 0 pZ pZ).2.1 ∧ (pStp s F (pNum s ((pNum s p).2.1 + 1)).2.1 0 pZ pZ).2.1 ≤ n
          omega
      · rename_i c3
        have := d2 (by simpa using c3)
        show p ≤ (pNum s ((pNum s p).2.1 + 1)).2.1 ∧ (pNum s ((pNum s p).2.1 + 1)).2.1 ≤ n
        omega
    · show p ≤ (pNum s p).2.1 ∧ (pNum s p).2.1 ≤ n
      omega
  · rename_i c1
    have := a2 (by simpa using c1)
    show p ≤ (pNum s p).2.1 ∧ (pNum s p).2.1 ≤ n
    omega
theorem pSt_k {F : Nat} {s : Nat → Int32} {n p : Nat} (hs : ∀ q, n ≤ q → isD (s q) = false) (hs2 : ∀ q c, c < 1000 → s q = zI c → q < n) (hp : p ≤ n) : p ≤ (pSt F s p).2.1 ∧ (pSt F s p).2.1 ≤ n ∧ ((pSt F s p).1 = true → p < (pSt F s p).2.1 ∧ (s p = zI 108 ∨ s p = zI 98)) := by
  have sem : ∀ r : Bool × Nat × pD, p < r.2.1 → r.2.1 ≤ n → p ≤ (pSem s r).2.1 ∧ (pSem s r).2.1 ≤ n ∧ p < (pSem s r).2.1 := by
    intro r h1 h2
    unfold pSem
    split
    · split
      · rename_i c
        have := hs2 _ 59 (by omega) c
        show p ≤ r.2.1 + 1 ∧ r.2.1 + 1 ≤ n ∧ p < r.2.1 + 1
        omega
      · show p ≤ r.2.1 ∧ r.2.1 ≤ n ∧ p < r.2.1
        omega
    · omega
  unfold pSt
  split
  · rename_i c
    have hpn := hs2 p 108 (by omega) c
    obtain ⟨a1, a2⟩ := pNum_ok (p := p + 1) hs (by omega)
    have hh : p < (pNum s (p + 1)).2.1 ∧ (pNum s (p + 1)).2.1 ≤ n := by
      by_cases c2 : (pNum s (p + 1)).1 = true
      · obtain ⟨b1, b2, -⟩ := a1 c2
        omega
      · have := a2 (by simpa using c2)
        omega
    obtain ⟨s1, s2, s3⟩ := sem ((pNum s (p + 1)).1, (pNum s (p + 1)).2.1, (0, 0, 0, pZ, pZ, 0, (pNum s (p + 1)).2.2, 0, pZ)) hh.1 hh.2
    exact ⟨s1, s2, fun _ => ⟨s3, Or.inl c⟩⟩
  · split
    · rename_i c
      have hpn := hs2 p 98 (by omega) c
      have hb := pBox_k (F := F) (p := p + 1) hs hs2 (by omega)
      obtain ⟨s1, s2, s3⟩ := sem (pBox F s (p + 1)) (by omega) hb.2
      exact ⟨s1, s2, fun _ => ⟨s3, Or.inr c⟩⟩
    · exact ⟨Nat.le_refl _, hp, fun hh => by cases hh⟩
theorem r_readsStatement {F e n p : Nat} {s : Nat → Int32} (hF : n < F) (hs : mBy u e n = s) (hA : mAt u e n p) (he : e < 8) (hn : n ≤ 120) (hp : p ≤ n) : ∃ u', am_f X (d + 5) 198 [.ref o] (mH h o u, z) = some (.inl (some (.int (zB (pSt F s p).1))), (mH h o u', z)) ∧ mPs u u' ∧ u'.2.2.1 12 = zI (pSt F s p).2.1 ∧ ((pSt F s p).1 = true → (s p = zI 108 → u'.2.2.1 15 = (pSt F s p).2.2.2.2.2.2.2.2.1) ∧ (¬ s p = zI 108 → mDat u' (pSt F s p).2.2)) := by
  unfold pSt
  by_cases c1 : s p = zI 108
  · have c1' : mBy u e n p = zI 108 := by rw [hs]; exact c1
    have h1 := mBy_c p 108 (by omega) c1'
    have t1 := fun d => r_takes_y (X := X) (h := h) (o := o) (d := d) (u := u) (z := z) hA he hn hp c1'
    have hA2 : mAt (mI u 12 (zI (p + 1))) e n (p + 1) := hA.I
    have hs2 : mBy (mI u 12 (zI (p + 1))) e n = s := hs
    obtain ⟨a1, a2⟩ := pNum_ok (s := s) (p := p + 1) (n := n) (by rw [← hs]; exact mBy_D) (by omega)
    rw [if_pos c1]
    unfold pSem
    by_cases c2 : (pNum s (p + 1)).1 = true
    · obtain ⟨b1, b2, -⟩ := a1 c2
      have t2 := fun d => r_num_y (X := X) (h := h) (o := o) (d := d) (u := mI u 12 (zI (p + 1))) (z := z) hA2 he hn (by omega) (by rw [hs2]; exact c2)
      rw [hs2] at t2
      generalize pNum s (p + 1) = r1 at b1 b2 t2 c2 ⊢
      dsimp only
      rw [if_pos c2]
      have hA3 : mAt (mI (mI (mI u 12 (zI (p + 1))) 15 r1.2.2) 12 (zI r1.2.1)) e n r1.2.1 := hA2.N
      have hs3 : mBy (mI (mI (mI u 12 (zI (p + 1))) 15 r1.2.2) 12 (zI r1.2.1)) e n = s := hs
      by_cases c3 : s r1.2.1 = zI 59
      · have t3 := fun d => r_takes_y (X := X) (h := h) (o := o) (d := d) (z := z) (c := zI 59) hA3 he hn b2 (by rw [hs3]; exact c3)
        rw [if_pos c3]
        refine ⟨mI (mI (mI (mI u 12 (zI (p + 1))) 15 r1.2.2) 12 (zI r1.2.1)) 12 (zI (r1.2.1 + 1)), ?_, mPs.T.tr (mPs.N.tr mPs.T), rfl, fun _ => ⟨fun _ => rfl, fun q => absurd c1 q⟩⟩
        rw [fU_198]
        simp (disch := first | omega | exact ci_m | exact Nat.le_of_ble_eq_true rfl | (refine mF_lt ?_; omega)) only [own_198, am_go dc_198_0, J_aload_0, K_al, ld_0, am_go dc_198_1, J_bipush, c8_108, am_go dc_198_3, cv_12_119_12 own_198, JR_v, JR_0, JR_ite, ci1_r, am_go dc_198_6, J_if_eq, am_go dc_198_9, am_go dc_198_10, cv_12_112_12 own_198, am_go dc_198_13, am_go dc_198_16, am_go dc_198_17, c8_59, am_go dc_198_19, am_go dc_198_22, am_go dc_198_25, J_iconst, c32_1, am_go dc_198_26, J_goto, am_go dc_198_29, c32_0, am_go dc_198_30, J_ret_z0 ret_198, J_ret_z1 ret_198, J_ret_zB ret_198, am_go dc_198_31, am_go dc_198_32, c8_98, am_go dc_198_34, am_go dc_198_37, am_go dc_198_40, am_go dc_198_41, cv_12_129_12 own_198, am_go dc_198_44, am_go dc_198_47, am_go dc_198_48, am_go dc_198_50, am_go dc_198_53, am_go dc_198_56, am_go dc_198_57, am_go dc_198_60, am_go dc_198_61, mH_o, zI_add, zI_mul, zI_lt, zI_le, zI_eq, zI_neg, zI_pos, zI_ne0, zI_gt0, zB_0, lg_cmp_ge, lg_cmp_le, lg_cmp_gt, lg_cmp_lt, lg_cmp_eq, ail_r, abl_r, all_r, ais_r, abs_r, als_r, mF_len, t1, t2, t3, List.length_cons, List.length_nil, Nat.reduceAdd, Nat.reduceLT, Nat.reduceLeDiff, Nat.reduceEqDiff, ↓reduceIte, bind_s, if_true, if_false, not_true_eq_false, not_false_eq_true, Nat.zero_add]
        rfl
      · have t3 := fun d => r_takes_n (X := X) (h := h) (o := o) (d := d) (z := z) (c := zI 59) hA3 he hn b2 (by rw [hs3]; exact c3)
        rw [if_neg c3]
        refine ⟨mI (mI (mI u 12 (zI (p + 1))) 15 r1.2.2) 12 (zI r1.2.1), ?_, mPs.T.tr mPs.N, rfl, fun hh => by cases hh⟩
        rw [fU_198]
        simp (disch := first | omega | exact ci_m | exact Nat.le_of_ble_eq_true rfl | (refine mF_lt ?_; omega)) only [own_198, am_go dc_198_0, J_aload_0, K_al, ld_0, am_go dc_198_1, J_bipush, c8_108, am_go dc_198_3, cv_12_119_12 own_198, JR_v, JR_0, JR_ite, ci1_r, am_go dc_198_6, J_if_eq, am_go dc_198_9, am_go dc_198_10, cv_12_112_12 own_198, am_go dc_198_13, am_go dc_198_16, am_go dc_198_17, c8_59, am_go dc_198_19, am_go dc_198_22, am_go dc_198_25, J_iconst, c32_1, am_go dc_198_26, J_goto, am_go dc_198_29, c32_0, am_go dc_198_30, J_ret_z0 ret_198, J_ret_z1 ret_198, J_ret_zB ret_198, am_go dc_198_31, am_go dc_198_32, c8_98, am_go dc_198_34, am_go dc_198_37, am_go dc_198_40, am_go dc_198_41, cv_12_129_12 own_198, am_go dc_198_44, am_go dc_198_47, am_go dc_198_48, am_go dc_198_50, am_go dc_198_53, am_go dc_198_56, am_go dc_198_57, am_go dc_198_60, am_go dc_198_61, mH_o, zI_add, zI_mul, zI_lt, zI_le, zI_eq, zI_neg, zI_pos, zI_ne0, zI_gt0, zB_0, lg_cmp_ge, lg_cmp_le, lg_cmp_gt, lg_cmp_lt, lg_cmp_eq, ail_r, abl_r, all_r, ais_r, abs_r, als_r, mF_len, t1, t2, t3, List.length_cons, List.length_nil, Nat.reduceAdd, Nat.reduceLT, Nat.reduceLeDiff, Nat.reduceEqDiff, ↓reduceIte, bind_s, if_true, if_false, not_true_eq_false, not_false_eq_true, Nat.zero_add]
        rfl
    · have e2 := a2 (by simpa using c2)
      have t2 := fun d => r_num_n (X := X) (h := h) (o := o) (d := d) (u := mI u 12 (zI (p + 1))) (z := z) hA2 he hn (by omega) (by rw [hs2]; exact c2)
      have c2' : (pNum s (p + 1)).1 = false := by simpa using c2
      dsimp only
      rw [if_neg c2]
      refine ⟨mI u 12 (zI (p + 1)), ?_, mPs.T, ?_, fun hh => absurd hh c2⟩
      · rw [fU_198, c2']
        simp (disch := first | omega | exact ci_m | exact Nat.le_of_ble_eq_true rfl | (refine mF_lt ?_; omega)) only [own_198, am_go dc_198_0, J_aload_0, K_al, ld_0, am_go dc_198_1, J_bipush, c8_108, am_go dc_198_3, cv_12_119_12 own_198, JR_v, JR_0, JR_ite, ci1_r, am_go dc_198_6, J_if_eq, am_go dc_198_9, am_go dc_198_10, cv_12_112_12 own_198, am_go dc_198_13, am_go dc_198_16, am_go dc_198_17, c8_59, am_go dc_198_19, am_go dc_198_22, am_go dc_198_25, J_iconst, c32_1, am_go dc_198_26, J_goto, am_go dc_198_29, c32_0, am_go dc_198_30, J_ret_z0 ret_198, J_ret_z1 ret_198, J_ret_zB ret_198, am_go dc_198_31, am_go dc_198_32, c8_98, am_go dc_198_34, am_go dc_198_37, am_go dc_198_40, am_go dc_198_41, cv_12_129_12 own_198, am_go dc_198_44, am_go dc_198_47, am_go dc_198_48, am_go dc_198_50, am_go dc_198_53, am_go dc_198_56, am_go dc_198_57, am_go dc_198_60, am_go dc_198_61, mH_o, zI_add, zI_mul, zI_lt, zI_le, zI_eq, zI_neg, zI_pos, zI_ne0, zI_gt0, zB_0, lg_cmp_ge, lg_cmp_le, lg_cmp_gt, lg_cmp_lt, lg_cmp_eq, ail_r, abl_r, all_r, ais_r, abs_r, als_r, mF_len, t1, t2, List.length_cons, List.length_nil, Nat.reduceAdd, Nat.reduceLT, Nat.reduceLeDiff, Nat.reduceEqDiff, ↓reduceIte, bind_s, if_true, if_false, not_true_eq_false, not_false_eq_true, Nat.zero_add]
        rfl
      · show zI (p + 1) = zI (pNum s (p + 1)).2.1
        rw [e2]
  · have c1' : ¬ mBy u e n p = zI 108 := by rw [hs]; exact c1
    have t1 := fun d => r_takes_n (X := X) (h := h) (o := o) (d := d) (u := u) (z := z) hA he hn hp c1'
    rw [if_neg c1]
    by_cases c2 : s p = zI 98
    · have c2' : mBy u e n p = zI 98 := by rw [hs]; exact c2
      have h2 := mBy_c p 98 (by omega) c2'
      have t2 := fun d => r_takes_y (X := X) (h := h) (o := o) (d := d) (u := u) (z := z) hA he hn hp c2'
      have hA2 : mAt (mI u 12 (zI (p + 1))) e n (p + 1) := hA.I
      have hs2 : mBy (mI u 12 (zI (p + 1))) e n = s := hs
      obtain ⟨u', g1, g2, g3, g4⟩ := r_readsBox (X := X) (h := h) (o := o) (d := d) (u := mI u 12 (zI (p + 1))) (z := z) (p := p + 1) hF hs2 hA2 he hn (by omega)
      have hbk := pBox_k (F := F) (s := s) (n := n) (p := p + 1) (by rw [← hs]; exact mBy_D) (by rw [← hs]; exact mBy_c) (by omega)
      rw [if_pos c2]
      unfold pSem
      generalize pBox F s (p + 1) = r at g1 g3 g4 hbk ⊢
      have hA3 : mAt u' e n r.2.1 := g2.at' hA2 g3
      have hs3 : mBy u' e n = s := by rw [g2.by', hs2]
      by_cases c3 : r.1 = true
      · rw [c3] at g1
        rw [if_pos c3]
        by_cases c4 : s r.2.1 = zI 59
        · have t3 := fun d => r_takes_y (X := X) (h := h) (o := o) (d := d) (z := z) (c := zI 59) hA3 he hn hbk.2 (by rw [hs3]; exact c4)
          rw [if_pos c4]
          refine ⟨mI u' 12 (zI (r.2.1 + 1)), ?_, mPs.T.tr (g2.tr mPs.T), rfl, fun _ => ⟨fun q => absurd q c1, fun _ => g4 c3⟩⟩
          rw [fU_198]
          simp (disch := first | omega | exact ci_m | exact Nat.le_of_ble_eq_true rfl | (refine mF_lt ?_; omega)) only [own_198, am_go dc_198_0, J_aload_0, K_al, ld_0, am_go dc_198_1, J_bipush, c8_108, am_go dc_198_3, cv_12_119_12 own_198, JR_v, JR_0, JR_ite, ci1_r, am_go dc_198_6, J_if_eq, am_go dc_198_9, am_go dc_198_10, cv_12_112_12 own_198, am_go dc_198_13, am_go dc_198_16, am_go dc_198_17, c8_59, am_go dc_198_19, am_go dc_198_22, am_go dc_198_25, J_iconst, c32_1, am_go dc_198_26, J_goto, am_go dc_198_29, c32_0, am_go dc_198_30, J_ret_z0 ret_198, J_ret_z1 ret_198, J_ret_zB ret_198, am_go dc_198_31, am_go dc_198_32, c8_98, am_go dc_198_34, am_go dc_198_37, am_go dc_198_40, am_go dc_198_41, cv_12_129_12 own_198, am_go dc_198_44, am_go dc_198_47, am_go dc_198_48, am_go dc_198_50, am_go dc_198_53, am_go dc_198_56, am_go dc_198_57, am_go dc_198_60, am_go dc_198_61, mH_o, zI_add, zI_mul, zI_lt, zI_le, zI_eq, zI_neg, zI_pos, zI_ne0, zI_gt0, zB_0, lg_cmp_ge, lg_cmp_le, lg_cmp_gt, lg_cmp_lt, lg_cmp_eq, ail_r, abl_r, all_r, ais_r, abs_r, als_r, mF_len, t1, t2, g1, t3, Bool.true_eq_false, List.length_cons, List.length_nil, Nat.reduceAdd, Nat.reduceLT, Nat.reduceLeDiff, Nat.reduceEqDiff, ↓reduceIte, bind_s, if_true, if_false, not_true_eq_false, not_false_eq_true, Nat.zero_add]
          rfl
        · have t3 := fun d => r_takes_n (X := X) (h := h) (o := o) (d := d) (z := z) (c := zI 59) hA3 he hn hbk.2 (by rw [hs3]; exact c4)
          rw [if_neg c4]
          refine ⟨u', ?_, mPs.T.tr g2, g3, fun hh => by cases hh⟩
          rw [fU_198]
          simp (disch := first | omega | exact ci_m | exact Nat.le_of_ble_eq_true rfl | (refine mF_lt ?_; omega)) only [own_198, am_go dc_198_0, J_aload_0, K_al, ld_0, am_go dc_198_1, J_bipush, c8_108, am_go dc_198_3, cv_12_119_12 own_198, JR_v, JR_0, JR_ite, ci1_r, am_go dc_198_6, J_if_eq, am_go dc_198_9, am_go dc_198_10, cv_12_112_12 own_198, am_go dc_198_13, am_go dc_198_16, am_go dc_198_17, c8_59, am_go dc_198_19, am_go dc_198_22, am_go dc_198_25, J_iconst, c32_1, am_go dc_198_26, J_goto, am_go dc_198_29, c32_0, am_go dc_198_30, J_ret_z0 ret_198, J_ret_z1 ret_198, J_ret_zB ret_198, am_go dc_198_31, am_go dc_198_32, c8_98, am_go dc_198_34, am_go dc_198_37, am_go dc_198_40, am_go dc_198_41, cv_12_129_12 own_198, am_go dc_198_44, am_go dc_198_47, am_go dc_198_48, am_go dc_198_50, am_go dc_198_53, am_go dc_198_56, am_go dc_198_57, am_go dc_198_60, am_go dc_198_61, mH_o, zI_add, zI_mul, zI_lt, zI_le, zI_eq, zI_neg, zI_pos, zI_ne0, zI_gt0, zB_0, lg_cmp_ge, lg_cmp_le, lg_cmp_gt, lg_cmp_lt, lg_cmp_eq, ail_r, abl_r, all_r, ais_r, abs_r, als_r, mF_len, t1, t2, g1, t3, Bool.true_eq_false, List.length_cons, List.length_nil, Nat.reduceAdd, Nat.reduceLT, Nat.reduceLeDiff, Nat.reduceEqDiff, ↓reduceIte, bind_s, if_true, if_false, not_true_eq_false, not_false_eq_true, Nat.zero_add]
          rfl
      · have c3' : r.1 = false := by simpa using c3
        rw [c3'] at g1
        rw [if_neg c3]
        refine ⟨u', ?_, mPs.T.tr g2, g3, fun hh => absurd hh c3⟩
        rw [fU_198, c3']
        simp (disch := first | omega | exact ci_m | exact Nat.le_of_ble_eq_true rfl | (refine mF_lt ?_; omega)) only [own_198, am_go dc_198_0, J_aload_0, K_al, ld_0, am_go dc_198_1, J_bipush, c8_108, am_go dc_198_3, cv_12_119_12 own_198, JR_v, JR_0, JR_ite, ci1_r, am_go dc_198_6, J_if_eq, am_go dc_198_9, am_go dc_198_10, cv_12_112_12 own_198, am_go dc_198_13, am_go dc_198_16, am_go dc_198_17, c8_59, am_go dc_198_19, am_go dc_198_22, am_go dc_198_25, J_iconst, c32_1, am_go dc_198_26, J_goto, am_go dc_198_29, c32_0, am_go dc_198_30, J_ret_z0 ret_198, J_ret_z1 ret_198, J_ret_zB ret_198, am_go dc_198_31, am_go dc_198_32, c8_98, am_go dc_198_34, am_go dc_198_37, am_go dc_198_40, am_go dc_198_41, cv_12_129_12 own_198, am_go dc_198_44, am_go dc_198_47, am_go dc_198_48, am_go dc_198_50, am_go dc_198_53, am_go dc_198_56, am_go dc_198_57, am_go dc_198_60, am_go dc_198_61, mH_o, zI_add, zI_mul, zI_lt, zI_le, zI_eq, zI_neg, zI_pos, zI_ne0, zI_gt0, zB_0, lg_cmp_ge, lg_cmp_le, lg_cmp_gt, lg_cmp_lt, lg_cmp_eq, ail_r, abl_r, all_r, ais_r, abs_r, als_r, mF_len, t1, t2, g1, List.length_cons, List.length_nil, Nat.reduceAdd, Nat.reduceLT, Nat.reduceLeDiff, Nat.reduceEqDiff, ↓reduceIte, bind_s, if_true, if_false, not_true_eq_false, not_false_eq_true, Nat.zero_add]
        rfl
    · have c2' : ¬ mBy u e n p = zI 98 := by rw [hs]; exact c2
      have t2 := fun d => r_takes_n (X := X) (h := h) (o := o) (d := d) (u := u) (z := z) hA he hn hp c2'
      rw [if_neg c2]
      refine ⟨u, ?_, mPs.rf, hA.2.2, fun hh => by cases hh⟩
      rw [fU_198]
      simp (disch := first | omega | exact ci_m | exact Nat.le_of_ble_eq_true rfl | (refine mF_lt ?_; omega)) only [own_198, am_go dc_198_0, J_aload_0, K_al, ld_0, am_go dc_198_1, J_bipush, c8_108, am_go dc_198_3, cv_12_119_12 own_198, JR_v, JR_0, JR_ite, ci1_r, am_go dc_198_6, J_if_eq, am_go dc_198_9, am_go dc_198_10, cv_12_112_12 own_198, am_go dc_198_13, am_go dc_198_16, am_go dc_198_17, c8_59, am_go dc_198_19, am_go dc_198_22, am_go dc_198_25, J_iconst, c32_1, am_go dc_198_26, J_goto, am_go dc_198_29, c32_0, am_go dc_198_30, J_ret_z0 ret_198, J_ret_z1 ret_198, J_ret_zB ret_198, am_go dc_198_31, am_go dc_198_32, c8_98, am_go dc_198_34, am_go dc_198_37, am_go dc_198_40, am_go dc_198_41, cv_12_129_12 own_198, am_go dc_198_44, am_go dc_198_47, am_go dc_198_48, am_go dc_198_50, am_go dc_198_53, am_go dc_198_56, am_go dc_198_57, am_go dc_198_60, am_go dc_198_61, mH_o, zI_add, zI_mul, zI_lt, zI_le, zI_eq, zI_neg, zI_pos, zI_ne0, zI_gt0, zB_0, lg_cmp_ge, lg_cmp_le, lg_cmp_gt, lg_cmp_lt, lg_cmp_eq, ail_r, abl_r, all_r, ais_r, abs_r, als_r, mF_len, t1, t2, List.length_cons, List.length_nil, Nat.reduceAdd, Nat.reduceLT, Nat.reduceLeDiff, Nat.reduceEqDiff, ↓reduceIte, bind_s, if_true, if_false, not_true_eq_false, not_false_eq_true, Nat.zero_add]
      rfl
/-! steps as told -/
def sStL (W C : Nat → Int32) : Nat → Nat → Int32 → Bool
  | 0, _, s => decide (s = zI 100)
  | k + 1, i, s => if (decide (1 ≤ C i) && decide (C i ≤ zI 100)) = true then (if 0 < i ∧ W (i - 1) ≤ W i then false else sStL W C k (i + 1) (s + C i)) else false
def sStp (k : Nat) (W C : Nat → Int32) : Bool := decide (1 ≤ k) && (decide (k ≤ 4) && sStL W C k 0 (zI 0))
theorem isl_1_100 {x : Int32} : (decide (1 ≤ x.toInt64) && decide (x.toInt64 ≤ 100)) = (decide (1 ≤ x) && decide (x ≤ zI 100)) := by
  congr 1
  · rw [decide_eq_decide, Int64.le_iff_toInt_le, Int32.le_iff_toInt_le, Int32.toInt_toInt64]
    rfl
  · rw [decide_eq_decide, Int64.le_iff_toInt_le, Int32.le_iff_toInt_le, Int32.toInt_toInt64]
    rfl
theorem isl_1_4 {k : Nat} (hk : k < 1000) : (decide (1 ≤ (zI k).toInt64) && decide ((zI k).toInt64 ≤ 4)) = (decide (1 ≤ k) && decide (k ≤ 4)) := by
  rw [jI_z (by omega)]
  have q1 : (1 ≤ jI (k : Int)) = (1 ≤ k) := by
    rw [show (1 : Int64) = jI 1 from rfl, jI_le (by omega) (by omega) (by omega) (by omega)]
    exact propext (by omega)
  have q2 : (jI (k : Int) ≤ 4) = (k ≤ 4) := by
    rw [show (4 : Int64) = jI 4 from rfl, jI_le (by omega) (by omega) (by omega) (by omega)]
    exact propext (by omega)
  simp only [q1, q2]
theorem zI_le0 {a : Nat} (h : a < 2147483648) : (zI a ≤ 0) = (a ≤ 0) := zI_le (b := 0) h (by omega)
theorem r_areSteps {k : Nat} {W C : Nat → Int32} (h21 : u.2.2.1 21 = zI k) (hk : k < 120) (hWC : ∀ j, j < k → u.1 11 j = W j ∧ u.1 12 j = C j) : am_f X (d + 2) 204 [.ref o] (mH h o u, z) = some (.inl (some (.int (zB (sStp k W C)))), (mH h o u, z)) := by
  have hl : ∀ (j i : Nat) (s : Int32), i + j = k → am_I X (am_f X (d + 1)) 204 21 [some (.ref o), some (.int s), some (.int (zI i))] [] (mH h o u, z) = some (.inl (some (.int (zB (sStL W C j i s)))), (mH h o u, z)) := by
    intro j
    induction j with
    | zero =>
      intro i s hi
      rw [am_go dc_204_21]
      simp (disch := first | omega | exact ci_m | exact Nat.le_of_ble_eq_true rfl | (refine mF_lt ?_; omega)) only [own_204, am_go dc_204_0, J_iconst, c32_0, am_go dc_204_1, J_istore_1, st1_0, st1_1, st1_s, kl_i, kl_l, kl_r, kl_n, am_go dc_204_2, J_aload_0, K_al, ld_0, am_go dc_204_3, J_getfield, gf_r, fk_12_103_12, am_go dc_204_6, J_i2l, am_go dc_204_7, J_lconst, i64_1, am_go dc_204_8, J_ldc2, cj_12_132, am_go dc_204_11, cs_12_73 own_204, JR_v, JR_0, JR_ite, am_go dc_204_14, J_if_ne, am_go dc_204_17, am_go dc_204_18, J_ret_z0 ret_204, J_ret_z1 ret_204, J_ret_zB ret_204, am_go dc_204_19, am_go dc_204_20, J_istore_2, J_iload_2, K_il, ld_2, am_go dc_204_22, am_go dc_204_23, am_go dc_204_26, J_icmp_ge, am_go dc_204_29, am_go dc_204_30, fk_12_43_12, am_go dc_204_33, am_go dc_204_34, J_iaload, am_go dc_204_35, am_go dc_204_36, am_go dc_204_37, cj_12_134, am_go dc_204_40, am_go dc_204_43, J_if_eq, am_go dc_204_46, am_go dc_204_47, J_if_le, am_go dc_204_50, am_go dc_204_51, fk_12_40_12, am_go dc_204_54, am_go dc_204_55, am_go dc_204_56, am_go dc_204_57, am_go dc_204_60, am_go dc_204_61, c32_1, am_go dc_204_62, J_isub, am_go dc_204_63, am_go dc_204_64, J_icmp_lt, am_go dc_204_67, am_go dc_204_68, am_go dc_204_69, J_iload_1, ld_1, am_go dc_204_70, am_go dc_204_71, am_go dc_204_74, am_go dc_204_75, am_go dc_204_76, J_iadd, am_go dc_204_77, am_go dc_204_78, J_iinc, pinc_go, am_go dc_204_81, J_goto, am_go dc_204_84, am_go dc_204_85, J_bipush, c8_100, am_go dc_204_87, J_icmp_ne, am_go dc_204_90, am_go dc_204_91, am_go dc_204_94, am_go dc_204_95, mH_o, mg_21, mg_17, mH_12, mw_12, mg_16, mH_11, mw_11, zI_add, zI_mul, zI_lt, zI_le, zI_eq, zI_neg, zI_pos, zI_ne0, zI_gt0, zB_0, lg_cmp_ge, lg_cmp_le, lg_cmp_gt, lg_cmp_lt, lg_cmp_eq, ail_r, abl_r, all_r, ais_r, abs_r, als_r, mF_len, h21, List.length_cons, List.length_nil, Nat.reduceAdd, Nat.reduceLT, Nat.reduceLeDiff, Nat.reduceEqDiff, ↓reduceIte, bind_s, if_true, if_false, not_true_eq_false, not_false_eq_true, Nat.zero_add]
      rw [if_pos (by omega)]
      unfold sStL
      by_cases e : s = zI 100 <;> simp [e, zB]
    | succ j ih =>
      intro i s hi
      obtain ⟨w1, w2⟩ := hWC i (by omega)
      have w3 : 0 < i → u.1 11 (i - 1) = W (i - 1) := fun h => (hWC (i - 1) (by omega)).1
      have ih' := fun s => ih (i + 1) s (by omega)
      unfold sStL
      rw [am_go dc_204_21]
      by_cases c1 : (decide (1 ≤ C i) && decide (C i ≤ zI 100)) = true
      · rw [if_pos c1]
        by_cases c2 : i = 0
        · subst c2
          simp (disch := first | omega | exact ci_m | exact Nat.le_of_ble_eq_true rfl | (refine mF_lt ?_; omega)) only [own_204, am_go dc_204_0, J_iconst, c32_0, am_go dc_204_1, J_istore_1, st1_0, st1_1, st1_s, kl_i, kl_l, kl_r, kl_n, am_go dc_204_2, J_aload_0, K_al, ld_0, am_go dc_204_3, J_getfield, gf_r, fk_12_103_12, am_go dc_204_6, J_i2l, am_go dc_204_7, J_lconst, i64_1, am_go dc_204_8, J_ldc2, cj_12_132, am_go dc_204_11, cs_12_73 own_204, JR_v, JR_0, JR_ite, am_go dc_204_14, J_if_ne, am_go dc_204_17, am_go dc_204_18, J_ret_z0 ret_204, J_ret_z1 ret_204, J_ret_zB ret_204, am_go dc_204_19, am_go dc_204_20, J_istore_2, J_iload_2, K_il, ld_2, am_go dc_204_22, am_go dc_204_23, am_go dc_204_26, J_icmp_ge, am_go dc_204_29, am_go dc_204_30, fk_12_43_12, am_go dc_204_33, am_go dc_204_34, J_iaload, am_go dc_204_35, am_go dc_204_36, am_go dc_204_37, cj_12_134, am_go dc_204_40, am_go dc_204_43, J_if_eq, am_go dc_204_46, am_go dc_204_47, J_if_le, am_go dc_204_50, am_go dc_204_51, fk_12_40_12, am_go dc_204_54, am_go dc_204_55, am_go dc_204_56, am_go dc_204_57, am_go dc_204_60, am_go dc_204_61, c32_1, am_go dc_204_62, J_isub, am_go dc_204_63, am_go dc_204_64, J_icmp_lt, am_go dc_204_67, am_go dc_204_68, am_go dc_204_69, J_iload_1, ld_1, am_go dc_204_70, am_go dc_204_71, am_go dc_204_74, am_go dc_204_75, am_go dc_204_76, J_iadd, am_go dc_204_77, am_go dc_204_78, J_iinc, pinc_go, am_go dc_204_81, J_goto, am_go dc_204_84, am_go dc_204_85, J_bipush, c8_100, am_go dc_204_87, J_icmp_ne, am_go dc_204_90, am_go dc_204_91, am_go dc_204_94, am_go dc_204_95, mH_o, mg_21, mg_17, mH_12, mw_12, mg_16, mH_11, mw_11, zI_add, zI_mul, zI_lt, zI_le, zI_eq, zI_neg, zI_pos, zI_ne0, zI_gt0, zB_0, lg_cmp_ge, lg_cmp_le, lg_cmp_gt, lg_cmp_lt, lg_cmp_eq, ail_r, abl_r, all_r, ais_r, abs_r, als_r, mF_len, h21, w1, w2, r_isIn, isl_1_100, c1, ih', Bool.true_eq_false, Nat.le_refl, zI_le0, List.length_cons, List.length_nil, Nat.reduceAdd, Nat.reduceLT, Nat.reduceLeDiff, Nat.reduceEqDiff, ↓reduceIte, bind_s, if_true, if_false, not_true_eq_false, not_false_eq_true, Nat.zero_add]
          rw [if_neg (by omega)]
          simp
        · have c2' : ¬ i ≤ 0 := by omega
          have c3 : 1 ≤ i := by omega
          have w3' := w3 (by omega)
          simp (disch := first | omega | exact ci_m | exact Nat.le_of_ble_eq_true rfl | (refine mF_lt ?_; omega)) only [own_204, am_go dc_204_0, J_iconst, c32_0, am_go dc_204_1, J_istore_1, st1_0, st1_1, st1_s, kl_i, kl_l, kl_r, kl_n, am_go dc_204_2, J_aload_0, K_al, ld_0, am_go dc_204_3, J_getfield, gf_r, fk_12_103_12, am_go dc_204_6, J_i2l, am_go dc_204_7, J_lconst, i64_1, am_go dc_204_8, J_ldc2, cj_12_132, am_go dc_204_11, cs_12_73 own_204, JR_v, JR_0, JR_ite, am_go dc_204_14, J_if_ne, am_go dc_204_17, am_go dc_204_18, J_ret_z0 ret_204, J_ret_z1 ret_204, J_ret_zB ret_204, am_go dc_204_19, am_go dc_204_20, J_istore_2, J_iload_2, K_il, ld_2, am_go dc_204_22, am_go dc_204_23, am_go dc_204_26, J_icmp_ge, am_go dc_204_29, am_go dc_204_30, fk_12_43_12, am_go dc_204_33, am_go dc_204_34, J_iaload, am_go dc_204_35, am_go dc_204_36, am_go dc_204_37, cj_12_134, am_go dc_204_40, am_go dc_204_43, J_if_eq, am_go dc_204_46, am_go dc_204_47, J_if_le, am_go dc_204_50, am_go dc_204_51, fk_12_40_12, am_go dc_204_54, am_go dc_204_55, am_go dc_204_56, am_go dc_204_57, am_go dc_204_60, am_go dc_204_61, c32_1, am_go dc_204_62, J_isub, am_go dc_204_63, am_go dc_204_64, J_icmp_lt, am_go dc_204_67, am_go dc_204_68, am_go dc_204_69, J_iload_1, ld_1, am_go dc_204_70, am_go dc_204_71, am_go dc_204_74, am_go dc_204_75, am_go dc_204_76, J_iadd, am_go dc_204_77, am_go dc_204_78, J_iinc, pinc_go, am_go dc_204_81, J_goto, am_go dc_204_84, am_go dc_204_85, J_bipush, c8_100, am_go dc_204_87, J_icmp_ne, am_go dc_204_90, am_go dc_204_91, am_go dc_204_94, am_go dc_204_95, mH_o, mg_21, mg_17, mH_12, mw_12, mg_16, mH_11, mw_11, zI_add, zI_mul, zI_lt, zI_le, zI_eq, zI_neg, zI_pos, zI_ne0, zI_gt0, zB_0, lg_cmp_ge, lg_cmp_le, lg_cmp_gt, lg_cmp_lt, lg_cmp_eq, ail_r, abl_r, all_r, ais_r, abs_r, als_r, mF_len, h21, w1, w2, w3', c2', zI_le0, zI_sub, r_isIn, isl_1_100, c1, ih', Bool.true_eq_false, List.length_cons, List.length_nil, Nat.reduceAdd, Nat.reduceLT, Nat.reduceLeDiff, Nat.reduceEqDiff, ↓reduceIte, bind_s, if_true, if_false, not_true_eq_false, not_false_eq_true, Nat.zero_add]
          rw [if_neg (by omega)]
          by_cases c4 : W (i - 1) ≤ W i
          · have c4' : ¬ W i < W (i - 1) := Int32.not_lt.mpr c4
            simp only [c4', if_false]
            rw [if_pos ⟨by omega, c4⟩]
            rfl
          · have c4' : W i < W (i - 1) := Int32.not_le.mp c4
            simp only [c4', if_true]
            rw [if_neg (fun q => c4 q.2)]
      · have c1' : (decide (1 ≤ C i) && decide (C i ≤ zI 100)) = false := by simpa using c1
        rw [if_neg c1]
        simp (disch := first | omega | exact ci_m | exact Nat.le_of_ble_eq_true rfl | (refine mF_lt ?_; omega)) only [own_204, am_go dc_204_0, J_iconst, c32_0, am_go dc_204_1, J_istore_1, st1_0, st1_1, st1_s, kl_i, kl_l, kl_r, kl_n, am_go dc_204_2, J_aload_0, K_al, ld_0, am_go dc_204_3, J_getfield, gf_r, fk_12_103_12, am_go dc_204_6, J_i2l, am_go dc_204_7, J_lconst, i64_1, am_go dc_204_8, J_ldc2, cj_12_132, am_go dc_204_11, cs_12_73 own_204, JR_v, JR_0, JR_ite, am_go dc_204_14, J_if_ne, am_go dc_204_17, am_go dc_204_18, J_ret_z0 ret_204, J_ret_z1 ret_204, J_ret_zB ret_204, am_go dc_204_19, am_go dc_204_20, J_istore_2, J_iload_2, K_il, ld_2, am_go dc_204_22, am_go dc_204_23, am_go dc_204_26, J_icmp_ge, am_go dc_204_29, am_go dc_204_30, fk_12_43_12, am_go dc_204_33, am_go dc_204_34, J_iaload, am_go dc_204_35, am_go dc_204_36, am_go dc_204_37, cj_12_134, am_go dc_204_40, am_go dc_204_43, J_if_eq, am_go dc_204_46, am_go dc_204_47, J_if_le, am_go dc_204_50, am_go dc_204_51, fk_12_40_12, am_go dc_204_54, am_go dc_204_55, am_go dc_204_56, am_go dc_204_57, am_go dc_204_60, am_go dc_204_61, c32_1, am_go dc_204_62, J_isub, am_go dc_204_63, am_go dc_204_64, J_icmp_lt, am_go dc_204_67, am_go dc_204_68, am_go dc_204_69, J_iload_1, ld_1, am_go dc_204_70, am_go dc_204_71, am_go dc_204_74, am_go dc_204_75, am_go dc_204_76, J_iadd, am_go dc_204_77, am_go dc_204_78, J_iinc, pinc_go, am_go dc_204_81, J_goto, am_go dc_204_84, am_go dc_204_85, J_bipush, c8_100, am_go dc_204_87, J_icmp_ne, am_go dc_204_90, am_go dc_204_91, am_go dc_204_94, am_go dc_204_95, mH_o, mg_21, mg_17, mH_12, mw_12, mg_16, mH_11, mw_11, zI_add, zI_mul, zI_lt, zI_le, zI_eq, zI_neg, zI_pos, zI_ne0, zI_gt0, zB_0, lg_cmp_ge, lg_cmp_le, lg_cmp_gt, lg_cmp_lt, lg_cmp_eq, ail_r, abl_r, all_r, ais_r, abs_r, als_r, mF_len, h21, w2, r_isIn, isl_1_100, c1', List.length_cons, List.length_nil, Nat.reduceAdd, Nat.reduceLT, Nat.reduceLeDiff, Nat.reduceEqDiff, ↓reduceIte, bind_s, if_true, if_false, not_true_eq_false, not_false_eq_true, Nat.zero_add]
        rw [if_neg (by omega)]
        rfl
  have hli := isl_1_4 (k := k) (by omega)
  unfold sStp
  rw [fU_204]
  by_cases c : (decide (1 ≤ k) && decide (k ≤ 4)) = true
  · simp (disch := first | omega | exact ci_m | exact Nat.le_of_ble_eq_true rfl | (refine mF_lt ?_; omega)) only [own_204, am_go dc_204_0, J_iconst, c32_0, am_go dc_204_1, J_istore_1, st1_0, st1_1, st1_s, kl_i, kl_l, kl_r, kl_n, am_go dc_204_2, J_aload_0, K_al, ld_0, am_go dc_204_3, J_getfield, gf_r, fk_12_103_12, am_go dc_204_6, J_i2l, am_go dc_204_7, J_lconst, i64_1, am_go dc_204_8, J_ldc2, cj_12_132, am_go dc_204_11, cs_12_73 own_204, JR_v, JR_0, JR_ite, am_go dc_204_14, J_if_ne, am_go dc_204_17, am_go dc_204_18, J_ret_z0 ret_204, J_ret_z1 ret_204, J_ret_zB ret_204, am_go dc_204_19, am_go dc_204_20, J_istore_2, J_iload_2, K_il, ld_2, am_go dc_204_22, am_go dc_204_23, am_go dc_204_26, J_icmp_ge, am_go dc_204_29, am_go dc_204_30, fk_12_43_12, am_go dc_204_33, am_go dc_204_34, J_iaload, am_go dc_204_35, am_go dc_204_36, am_go dc_204_37, cj_12_134, am_go dc_204_40, am_go dc_204_43, J_if_eq, am_go dc_204_46, am_go dc_204_47, J_if_le, am_go dc_204_50, am_go dc_204_51, fk_12_40_12, am_go dc_204_54, am_go dc_204_55, am_go dc_204_56, am_go dc_204_57, am_go dc_204_60, am_go dc_204_61, c32_1, am_go dc_204_62, J_isub, am_go dc_204_63, am_go dc_204_64, J_icmp_lt, am_go dc_204_67, am_go dc_204_68, am_go dc_204_69, J_iload_1, ld_1, am_go dc_204_70, am_go dc_204_71, am_go dc_204_74, am_go dc_204_75, am_go dc_204_76, J_iadd, am_go dc_204_77, am_go dc_204_78, J_iinc, pinc_go, am_go dc_204_81, J_goto, am_go dc_204_84, am_go dc_204_85, J_bipush, c8_100, am_go dc_204_87, J_icmp_ne, am_go dc_204_90, am_go dc_204_91, am_go dc_204_94, am_go dc_204_95, mH_o, mg_21, mg_17, mH_12, mw_12, mg_16, mH_11, mw_11, zI_add, zI_mul, zI_lt, zI_le, zI_eq, zI_neg, zI_pos, zI_ne0, zI_gt0, zB_0, lg_cmp_ge, lg_cmp_le, lg_cmp_gt, lg_cmp_lt, lg_cmp_eq, ail_r, abl_r, all_r, ais_r, abs_r, als_r, mF_len, h21, r_isIn, hli, c, Bool.true_eq_false, List.length_cons, List.length_nil, Nat.reduceAdd, Nat.reduceLT, Nat.reduceLeDiff, Nat.reduceEqDiff, ↓reduceIte, bind_s, if_true, if_false, not_true_eq_false, not_false_eq_true, Nat.zero_add]
    rw [hl k 0 _ (by omega)]
    simp only [Bool.and_eq_true, decide_eq_true_eq] at c
    simp [c.1, c.2]
  · have c' : (decide (1 ≤ k) && decide (k ≤ 4)) = false := by simpa using c
    simp (disch := first | omega | exact ci_m | exact Nat.le_of_ble_eq_true rfl | (refine mF_lt ?_; omega)) only [own_204, am_go dc_204_0, J_iconst, c32_0, am_go dc_204_1, J_istore_1, st1_0, st1_1, st1_s, kl_i, kl_l, kl_r, kl_n, am_go dc_204_2, J_aload_0, K_al, ld_0, am_go dc_204_3, J_getfield, gf_r, fk_12_103_12, am_go dc_204_6, J_i2l, am_go dc_204_7, J_lconst, i64_1, am_go dc_204_8, J_ldc2, cj_12_132, am_go dc_204_11, cs_12_73 own_204, JR_v, JR_0, JR_ite, am_go dc_204_14, J_if_ne, am_go dc_204_17, am_go dc_204_18, J_ret_z0 ret_204, J_ret_z1 ret_204, J_ret_zB ret_204, am_go dc_204_19, am_go dc_204_20, J_istore_2, J_iload_2, K_il, ld_2, am_go dc_204_22, am_go dc_204_23, am_go dc_204_26, J_icmp_ge, am_go dc_204_29, am_go dc_204_30, fk_12_43_12, am_go dc_204_33, am_go dc_204_34, J_iaload, am_go dc_204_35, am_go dc_204_36, am_go dc_204_37, cj_12_134, am_go dc_204_40, am_go dc_204_43, J_if_eq, am_go dc_204_46, am_go dc_204_47, J_if_le, am_go dc_204_50, am_go dc_204_51, fk_12_40_12, am_go dc_204_54, am_go dc_204_55, am_go dc_204_56, am_go dc_204_57, am_go dc_204_60, am_go dc_204_61, c32_1, am_go dc_204_62, J_isub, am_go dc_204_63, am_go dc_204_64, J_icmp_lt, am_go dc_204_67, am_go dc_204_68, am_go dc_204_69, J_iload_1, ld_1, am_go dc_204_70, am_go dc_204_71, am_go dc_204_74, am_go dc_204_75, am_go dc_204_76, J_iadd, am_go dc_204_77, am_go dc_204_78, J_iinc, pinc_go, am_go dc_204_81, J_goto, am_go dc_204_84, am_go dc_204_85, J_bipush, c8_100, am_go dc_204_87, J_icmp_ne, am_go dc_204_90, am_go dc_204_91, am_go dc_204_94, am_go dc_204_95, mH_o, mg_21, mg_17, mH_12, mw_12, mg_16, mH_11, mw_11, zI_add, zI_mul, zI_lt, zI_le, zI_eq, zI_neg, zI_pos, zI_ne0, zI_gt0, zB_0, lg_cmp_ge, lg_cmp_le, lg_cmp_gt, lg_cmp_lt, lg_cmp_eq, ail_r, abl_r, all_r, ais_r, abs_r, als_r, mF_len, h21, r_isIn, hli, c', List.length_cons, List.length_nil, Nat.reduceAdd, Nat.reduceLT, Nat.reduceLeDiff, Nat.reduceEqDiff, ↓reduceIte, bind_s, if_true, if_false, not_true_eq_false, not_false_eq_true, Nat.zero_add]
    have : (decide (1 ≤ k) && (decide (k ≤ 4) && sStL W C k 0 (zI 0))) = false := by
      rw [← Bool.and_assoc, c', Bool.false_and]
    rw [this]
    rfl
/-! other chances as told -/
def sOtL (O : Nat → Int32) : Nat → Nat → Int32 → Bool
  | 0, _, s => decide (s = zI 100)
  | k + 1, i, s => if O i ≤ zI 100 then sOtL O k (i + 1) (s + O i) else false
def sOth (S : Nat → Int32) (m : Int32) (k : Nat) (O : Nat → Int32) : Bool := qIs m (wN (S 116)) && (!decide (S (18 * wN m) = zI 1) && (decide (S (18 * wN m + 5) < 0) && (decide (zI k = S (18 * wN m + 3)) && sOtL O k 0 (zI 0))))
theorem r_areOthers {k : Nat} {m : Int32} {O : Nat → Int32} (hq : qW (u.1 1)) (h23 : u.2.2.1 23 = m) (h24 : u.2.2.1 24 = zI k) (hk : k < 120) (hO : ∀ j, j < k → u.1 13 j = O j) : am_f X (d + 3) 206 [.ref o] (mH h o u, z) = some (.inl (some (.int (zB (sOth (u.1 1) m k O)))), (mH h o u, z)) := by
  have hl : ∀ (j i : Nat) (s : Int32), i + j = k → am_I X (am_f X (d + 2)) 206 56 [some (.ref o), some (.int s), some (.int (zI i))] [] (mH h o u, z) = some (.inl (some (.int (zB (sOtL O j i s)))), (mH h o u, z)) := by
    intro j
    induction j with
    | zero =>
      intro i s hi
      rw [am_go dc_206_56]
      simp (disch := first | omega | exact ci_m | exact Nat.le_of_ble_eq_true rfl | (refine mF_lt ?_; omega)) only [own_206, am_go dc_206_0, J_aload_0, K_al, ld_0, am_go dc_206_1, am_go dc_206_2, J_getfield, gf_r, fk_12_126_12, am_go dc_206_5, cv_12_136_12 own_206, JR_v, JR_0, JR_ite, ci1_r, am_go dc_206_8, J_if_eq, am_go dc_206_11, am_go dc_206_12, am_go dc_206_13, am_go dc_206_16, cv_12_139_12 own_206, am_go dc_206_19, J_iconst, c32_1, am_go dc_206_20, J_icmp_eq, am_go dc_206_23, am_go dc_206_24, am_go dc_206_25, am_go dc_206_28, c32_5, am_go dc_206_29, cv_12_79_12 own_206, am_go dc_206_32, J_if_ge, am_go dc_206_35, am_go dc_206_36, fk_12_106_12, am_go dc_206_39, am_go dc_206_40, am_go dc_206_41, am_go dc_206_44, cv_12_143_12 own_206, am_go dc_206_47, am_go dc_206_50, c32_0, am_go dc_206_51, J_ret_z0 ret_206, J_ret_z1 ret_206, J_ret_zB ret_206, am_go dc_206_52, am_go dc_206_53, J_istore_1, st1_0, st1_1, st1_s, kl_i, kl_l, kl_r, kl_n, am_go dc_206_54, am_go dc_206_55, J_istore_2, J_iload_2, K_il, ld_2, am_go dc_206_57, am_go dc_206_58, am_go dc_206_61, J_icmp_ge, am_go dc_206_64, am_go dc_206_65, fk_12_46_12, am_go dc_206_68, am_go dc_206_69, J_iaload, am_go dc_206_70, J_bipush, c8_100, am_go dc_206_72, J_icmp_le, am_go dc_206_75, am_go dc_206_76, am_go dc_206_77, J_iload_1, ld_1, am_go dc_206_78, am_go dc_206_79, am_go dc_206_82, am_go dc_206_83, am_go dc_206_84, J_iadd, am_go dc_206_85, am_go dc_206_86, J_iinc, pinc_go, am_go dc_206_89, J_goto, am_go dc_206_92, am_go dc_206_93, am_go dc_206_95, J_icmp_ne, am_go dc_206_98, am_go dc_206_99, am_go dc_206_102, am_go dc_206_103, mH_o, mg_23, mg_24, mg_18, mH_13, mw_13, zI_add, zI_mul, zI_lt, zI_le, zI_eq, zI_neg, zI_pos, zI_ne0, zI_gt0, zB_0, lg_cmp_ge, lg_cmp_le, lg_cmp_gt, lg_cmp_lt, lg_cmp_eq, ail_r, abl_r, all_r, ais_r, abs_r, als_r, mF_len, h24, List.length_cons, List.length_nil, Nat.reduceAdd, Nat.reduceLT, Nat.reduceLeDiff, Nat.reduceEqDiff, ↓reduceIte, bind_s, if_true, if_false, not_true_eq_false, not_false_eq_true, Nat.zero_add]
      rw [if_pos (by omega)]
      unfold sOtL
      by_cases e : s = zI 100 <;> simp [e, zB]
    | succ j ih =>
      intro i s hi
      have w1 := hO i (by omega)
      have ih' := fun s => ih (i + 1) s (by omega)
      unfold sOtL
      rw [am_go dc_206_56]
      simp (disch := first | omega | exact ci_m | exact Nat.le_of_ble_eq_true rfl | (refine mF_lt ?_; omega)) only [own_206, am_go dc_206_0, J_aload_0, K_al, ld_0, am_go dc_206_1, am_go dc_206_2, J_getfield, gf_r, fk_12_126_12, am_go dc_206_5, cv_12_136_12 own_206, JR_v, JR_0, JR_ite, ci1_r, am_go dc_206_8, J_if_eq, am_go dc_206_11, am_go dc_206_12, am_go dc_206_13, am_go dc_206_16, cv_12_139_12 own_206, am_go dc_206_19, J_iconst, c32_1, am_go dc_206_20, J_icmp_eq, am_go dc_206_23, am_go dc_206_24, am_go dc_206_25, am_go dc_206_28, c32_5, am_go dc_206_29, cv_12_79_12 own_206, am_go dc_206_32, J_if_ge, am_go dc_206_35, am_go dc_206_36, fk_12_106_12, am_go dc_206_39, am_go dc_206_40, am_go dc_206_41, am_go dc_206_44, cv_12_143_12 own_206, am_go dc_206_47, am_go dc_206_50, c32_0, am_go dc_206_51, J_ret_z0 ret_206, J_ret_z1 ret_206, J_ret_zB ret_206, am_go dc_206_52, am_go dc_206_53, J_istore_1, st1_0, st1_1, st1_s, kl_i, kl_l, kl_r, kl_n, am_go dc_206_54, am_go dc_206_55, J_istore_2, J_iload_2, K_il, ld_2, am_go dc_206_57, am_go dc_206_58, am_go dc_206_61, J_icmp_ge, am_go dc_206_64, am_go dc_206_65, fk_12_46_12, am_go dc_206_68, am_go dc_206_69, J_iaload, am_go dc_206_70, J_bipush, c8_100, am_go dc_206_72, J_icmp_le, am_go dc_206_75, am_go dc_206_76, am_go dc_206_77, J_iload_1, ld_1, am_go dc_206_78, am_go dc_206_79, am_go dc_206_82, am_go dc_206_83, am_go dc_206_84, J_iadd, am_go dc_206_85, am_go dc_206_86, J_iinc, pinc_go, am_go dc_206_89, J_goto, am_go dc_206_92, am_go dc_206_93, am_go dc_206_95, J_icmp_ne, am_go dc_206_98, am_go dc_206_99, am_go dc_206_102, am_go dc_206_103, mH_o, mg_23, mg_24, mg_18, mH_13, mw_13, zI_add, zI_mul, zI_lt, zI_le, zI_eq, zI_neg, zI_pos, zI_ne0, zI_gt0, zB_0, lg_cmp_ge, lg_cmp_le, lg_cmp_gt, lg_cmp_lt, lg_cmp_eq, ail_r, abl_r, all_r, ais_r, abs_r, als_r, mF_len, h24, w1, ih', List.length_cons, List.length_nil, Nat.reduceAdd, Nat.reduceLT, Nat.reduceLeDiff, Nat.reduceEqDiff, ↓reduceIte, bind_s, if_true, if_false, not_true_eq_false, not_false_eq_true, Nat.zero_add]
      rw [if_neg (by omega)]
      by_cases c1 : O i ≤ zI 100
      · simp only [c1, if_true]
      · simp only [c1, if_false]
        rfl
  have h5 := hq.m.2
  have hib := fun d => r_isBox (X := X) (h := h) (o := o) (d := d) (u := u) (z := z) (x := m) hq
  unfold sOth
  rw [fU_206]
  by_cases c1 : qIs m (wN (u.1 1 116)) = true
  · obtain ⟨hx1, hx2⟩ := qIs_get c1
    have hb5 : wN m < 5 := by omega
    rw [c1] at hib ⊢
    generalize wN m = b at hx1 hb5 hx2
    subst hx1
    by_cases c2 : u.1 1 (18 * b) = zI 1
    · simp (disch := first | omega | exact ci_m | exact Nat.le_of_ble_eq_true rfl | (refine mF_lt ?_; omega)) only [own_206, am_go dc_206_0, J_aload_0, K_al, ld_0, am_go dc_206_1, am_go dc_206_2, J_getfield, gf_r, fk_12_126_12, am_go dc_206_5, cv_12_136_12 own_206, JR_v, JR_0, JR_ite, ci1_r, am_go dc_206_8, J_if_eq, am_go dc_206_11, am_go dc_206_12, am_go dc_206_13, am_go dc_206_16, cv_12_139_12 own_206, am_go dc_206_19, J_iconst, c32_1, am_go dc_206_20, J_icmp_eq, am_go dc_206_23, am_go dc_206_24, am_go dc_206_25, am_go dc_206_28, c32_5, am_go dc_206_29, cv_12_79_12 own_206, am_go dc_206_32, J_if_ge, am_go dc_206_35, am_go dc_206_36, fk_12_106_12, am_go dc_206_39, am_go dc_206_40, am_go dc_206_41, am_go dc_206_44, cv_12_143_12 own_206, am_go dc_206_47, am_go dc_206_50, c32_0, am_go dc_206_51, J_ret_z0 ret_206, J_ret_z1 ret_206, J_ret_zB ret_206, am_go dc_206_52, am_go dc_206_53, J_istore_1, st1_0, st1_1, st1_s, kl_i, kl_l, kl_r, kl_n, am_go dc_206_54, am_go dc_206_55, J_istore_2, J_iload_2, K_il, ld_2, am_go dc_206_57, am_go dc_206_58, am_go dc_206_61, J_icmp_ge, am_go dc_206_64, am_go dc_206_65, fk_12_46_12, am_go dc_206_68, am_go dc_206_69, J_iaload, am_go dc_206_70, J_bipush, c8_100, am_go dc_206_72, J_icmp_le, am_go dc_206_75, am_go dc_206_76, am_go dc_206_77, J_iload_1, ld_1, am_go dc_206_78, am_go dc_206_79, am_go dc_206_82, am_go dc_206_83, am_go dc_206_84, J_iadd, am_go dc_206_85, am_go dc_206_86, J_iinc, pinc_go, am_go dc_206_89, J_goto, am_go dc_206_92, am_go dc_206_93, am_go dc_206_95, J_icmp_ne, am_go dc_206_98, am_go dc_206_99, am_go dc_206_102, am_go dc_206_103, mH_o, mg_23, mg_24, mg_18, mH_13, mw_13, zI_add, zI_mul, zI_lt, zI_le, zI_eq, zI_neg, zI_pos, zI_ne0, zI_gt0, zB_0, lg_cmp_ge, lg_cmp_le, lg_cmp_gt, lg_cmp_lt, lg_cmp_eq, ail_r, abl_r, all_r, ais_r, abs_r, als_r, mF_len, h23, h24, hib, r_kind, r_of, r_steps, Bool.true_eq_false, c2, List.length_cons, List.length_nil, Nat.reduceAdd, Nat.reduceLT, Nat.reduceLeDiff, Nat.reduceEqDiff, ↓reduceIte, bind_s, if_true, if_false, not_true_eq_false, not_false_eq_true, Nat.zero_add]
      simp [c2, zB]
    · by_cases c3 : u.1 1 (18 * b + 5) < 0
      · have c3' : ¬ 0 ≤ u.1 1 (18 * b + 5) := Int32.not_le.mpr c3
        by_cases c4 : zI k = u.1 1 (18 * b + 3)
        · simp (disch := first | omega | exact ci_m | exact Nat.le_of_ble_eq_true rfl | (refine mF_lt ?_; omega)) only [own_206, am_go dc_206_0, J_aload_0, K_al, ld_0, am_go dc_206_1, am_go dc_206_2, J_getfield, gf_r, fk_12_126_12, am_go dc_206_5, cv_12_136_12 own_206, JR_v, JR_0, JR_ite, ci1_r, am_go dc_206_8, J_if_eq, am_go dc_206_11, am_go dc_206_12, am_go dc_206_13, am_go dc_206_16, cv_12_139_12 own_206, am_go dc_206_19, J_iconst, c32_1, am_go dc_206_20, J_icmp_eq, am_go dc_206_23, am_go dc_206_24, am_go dc_206_25, am_go dc_206_28, c32_5, am_go dc_206_29, cv_12_79_12 own_206, am_go dc_206_32, J_if_ge, am_go dc_206_35, am_go dc_206_36, fk_12_106_12, am_go dc_206_39, am_go dc_206_40, am_go dc_206_41, am_go dc_206_44, cv_12_143_12 own_206, am_go dc_206_47, am_go dc_206_50, c32_0, am_go dc_206_51, J_ret_z0 ret_206, J_ret_z1 ret_206, J_ret_zB ret_206, am_go dc_206_52, am_go dc_206_53, J_istore_1, st1_0, st1_1, st1_s, kl_i, kl_l, kl_r, kl_n, am_go dc_206_54, am_go dc_206_55, J_istore_2, J_iload_2, K_il, ld_2, am_go dc_206_57, am_go dc_206_58, am_go dc_206_61, J_icmp_ge, am_go dc_206_64, am_go dc_206_65, fk_12_46_12, am_go dc_206_68, am_go dc_206_69, J_iaload, am_go dc_206_70, J_bipush, c8_100, am_go dc_206_72, J_icmp_le, am_go dc_206_75, am_go dc_206_76, am_go dc_206_77, J_iload_1, ld_1, am_go dc_206_78, am_go dc_206_79, am_go dc_206_82, am_go dc_206_83, am_go dc_206_84, J_iadd, am_go dc_206_85, am_go dc_206_86, J_iinc, pinc_go, am_go dc_206_89, J_goto, am_go dc_206_92, am_go dc_206_93, am_go dc_206_95, J_icmp_ne, am_go dc_206_98, am_go dc_206_99, am_go dc_206_102, am_go dc_206_103, mH_o, mg_23, mg_24, mg_18, mH_13, mw_13, zI_add, zI_mul, zI_lt, zI_le, zI_eq, zI_neg, zI_pos, zI_ne0, zI_gt0, zB_0, lg_cmp_ge, lg_cmp_le, lg_cmp_gt, lg_cmp_lt, lg_cmp_eq, ail_r, abl_r, all_r, ais_r, abs_r, als_r, mF_len, h23, h24, hib, r_kind, r_of, r_steps, Bool.true_eq_false, c2, c3', c4, List.length_cons, List.length_nil, Nat.reduceAdd, Nat.reduceLT, Nat.reduceLeDiff, Nat.reduceEqDiff, ↓reduceIte, bind_s, if_true, if_false, not_true_eq_false, not_false_eq_true, Nat.zero_add]
          rw [hl k 0 _ (by omega)]
          simp [c2, c3, c4]
        · simp (disch := first | omega | exact ci_m | exact Nat.le_of_ble_eq_true rfl | (refine mF_lt ?_; omega)) only [own_206, am_go dc_206_0, J_aload_0, K_al, ld_0, am_go dc_206_1, am_go dc_206_2, J_getfield, gf_r, fk_12_126_12, am_go dc_206_5, cv_12_136_12 own_206, JR_v, JR_0, JR_ite, ci1_r, am_go dc_206_8, J_if_eq, am_go dc_206_11, am_go dc_206_12, am_go dc_206_13, am_go dc_206_16, cv_12_139_12 own_206, am_go dc_206_19, J_iconst, c32_1, am_go dc_206_20, J_icmp_eq, am_go dc_206_23, am_go dc_206_24, am_go dc_206_25, am_go dc_206_28, c32_5, am_go dc_206_29, cv_12_79_12 own_206, am_go dc_206_32, J_if_ge, am_go dc_206_35, am_go dc_206_36, fk_12_106_12, am_go dc_206_39, am_go dc_206_40, am_go dc_206_41, am_go dc_206_44, cv_12_143_12 own_206, am_go dc_206_47, am_go dc_206_50, c32_0, am_go dc_206_51, J_ret_z0 ret_206, J_ret_z1 ret_206, J_ret_zB ret_206, am_go dc_206_52, am_go dc_206_53, J_istore_1, st1_0, st1_1, st1_s, kl_i, kl_l, kl_r, kl_n, am_go dc_206_54, am_go dc_206_55, J_istore_2, J_iload_2, K_il, ld_2, am_go dc_206_57, am_go dc_206_58, am_go dc_206_61, J_icmp_ge, am_go dc_206_64, am_go dc_206_65, fk_12_46_12, am_go dc_206_68, am_go dc_206_69, J_iaload, am_go dc_206_70, J_bipush, c8_100, am_go dc_206_72, J_icmp_le, am_go dc_206_75, am_go dc_206_76, am_go dc_206_77, J_iload_1, ld_1, am_go dc_206_78, am_go dc_206_79, am_go dc_206_82, am_go dc_206_83, am_go dc_206_84, J_iadd, am_go dc_206_85, am_go dc_206_86, J_iinc, pinc_go, am_go dc_206_89, J_goto, am_go dc_206_92, am_go dc_206_93, am_go dc_206_95, J_icmp_ne, am_go dc_206_98, am_go dc_206_99, am_go dc_206_102, am_go dc_206_103, mH_o, mg_23, mg_24, mg_18, mH_13, mw_13, zI_add, zI_mul, zI_lt, zI_le, zI_eq, zI_neg, zI_pos, zI_ne0, zI_gt0, zB_0, lg_cmp_ge, lg_cmp_le, lg_cmp_gt, lg_cmp_lt, lg_cmp_eq, ail_r, abl_r, all_r, ais_r, abs_r, als_r, mF_len, h23, h24, hib, r_kind, r_of, r_steps, Bool.true_eq_false, c2, c3', c4, List.length_cons, List.length_nil, Nat.reduceAdd, Nat.reduceLT, Nat.reduceLeDiff, Nat.reduceEqDiff, ↓reduceIte, bind_s, if_true, if_false, not_true_eq_false, not_false_eq_true, Nat.zero_add]
          simp [c2, c3, c4, zB]
      · have c3' : 0 ≤ u.1 1 (18 * b + 5) := Int32.not_lt.mp c3
        simp (disch := first | omega | exact ci_m | exact Nat.le_of_ble_eq_true rfl | (refine mF_lt ?_; omega)) only [own_206, am_go dc_206_0, J_aload_0, K_al, ld_0, am_go dc_206_1, am_go dc_206_2, J_getfield, gf_r, fk_12_126_12, am_go dc_206_5, cv_12_136_12 own_206, JR_v, JR_0, JR_ite, ci1_r, am_go dc_206_8, J_if_eq, am_go dc_206_11, am_go dc_206_12, am_go dc_206_13, am_go dc_206_16, cv_12_139_12 own_206, am_go dc_206_19, J_iconst, c32_1, am_go dc_206_20, J_icmp_eq, am_go dc_206_23, am_go dc_206_24, am_go dc_206_25, am_go dc_206_28, c32_5, am_go dc_206_29, cv_12_79_12 own_206, am_go dc_206_32, J_if_ge, am_go dc_206_35, am_go dc_206_36, fk_12_106_12, am_go dc_206_39, am_go dc_206_40, am_go dc_206_41, am_go dc_206_44, cv_12_143_12 own_206, am_go dc_206_47, am_go dc_206_50, c32_0, am_go dc_206_51, J_ret_z0 ret_206, J_ret_z1 ret_206, J_ret_zB ret_206, am_go dc_206_52, am_go dc_206_53, J_istore_1, st1_0, st1_1, st1_s, kl_i, kl_l, kl_r, kl_n, am_go dc_206_54, am_go dc_206_55, J_istore_2, J_iload_2, K_il, ld_2, am_go dc_206_57, am_go dc_206_58, am_go dc_206_61, J_icmp_ge, am_go dc_206_64, am_go dc_206_65, fk_12_46_12, am_go dc_206_68, am_go dc_206_69, J_iaload, am_go dc_206_70, J_bipush, c8_100, am_go dc_206_72, J_icmp_le, am_go dc_206_75, am_go dc_206_76, am_go dc_206_77, J_iload_1, ld_1, am_go dc_206_78, am_go dc_206_79, am_go dc_206_82, am_go dc_206_83, am_go dc_206_84, J_iadd, am_go dc_206_85, am_go dc_206_86, J_iinc, pinc_go, am_go dc_206_89, J_goto, am_go dc_206_92, am_go dc_206_93, am_go dc_206_95, J_icmp_ne, am_go dc_206_98, am_go dc_206_99, am_go dc_206_102, am_go dc_206_103, mH_o, mg_23, mg_24, mg_18, mH_13, mw_13, zI_add, zI_mul, zI_lt, zI_le, zI_eq, zI_neg, zI_pos, zI_ne0, zI_gt0, zB_0, lg_cmp_ge, lg_cmp_le, lg_cmp_gt, lg_cmp_lt, lg_cmp_eq, ail_r, abl_r, all_r, ais_r, abs_r, als_r, mF_len, h23, h24, hib, r_kind, r_of, r_steps, Bool.true_eq_false, c2, c3', List.length_cons, List.length_nil, Nat.reduceAdd, Nat.reduceLT, Nat.reduceLeDiff, Nat.reduceEqDiff, ↓reduceIte, bind_s, if_true, if_false, not_true_eq_false, not_false_eq_true, Nat.zero_add]
        simp [c2, c3, zB]
  · have c1' : qIs m (wN (u.1 1 116)) = false := by simpa using c1
    rw [c1'] at hib ⊢
    simp (disch := first | omega | exact ci_m | exact Nat.le_of_ble_eq_true rfl | (refine mF_lt ?_; omega)) only [own_206, am_go dc_206_0, J_aload_0, K_al, ld_0, am_go dc_206_1, am_go dc_206_2, J_getfield, gf_r, fk_12_126_12, am_go dc_206_5, cv_12_136_12 own_206, JR_v, JR_0, JR_ite, ci1_r, am_go dc_206_8, J_if_eq, am_go dc_206_11, am_go dc_206_12, am_go dc_206_13, am_go dc_206_16, cv_12_139_12 own_206, am_go dc_206_19, J_iconst, c32_1, am_go dc_206_20, J_icmp_eq, am_go dc_206_23, am_go dc_206_24, am_go dc_206_25, am_go dc_206_28, c32_5, am_go dc_206_29, cv_12_79_12 own_206, am_go dc_206_32, J_if_ge, am_go dc_206_35, am_go dc_206_36, fk_12_106_12, am_go dc_206_39, am_go dc_206_40, am_go dc_206_41, am_go dc_206_44, cv_12_143_12 own_206, am_go dc_206_47, am_go dc_206_50, c32_0, am_go dc_206_51, J_ret_z0 ret_206, J_ret_z1 ret_206, J_ret_zB ret_206, am_go dc_206_52, am_go dc_206_53, J_istore_1, st1_0, st1_1, st1_s, kl_i, kl_l, kl_r, kl_n, am_go dc_206_54, am_go dc_206_55, J_istore_2, J_iload_2, K_il, ld_2, am_go dc_206_57, am_go dc_206_58, am_go dc_206_61, J_icmp_ge, am_go dc_206_64, am_go dc_206_65, fk_12_46_12, am_go dc_206_68, am_go dc_206_69, J_iaload, am_go dc_206_70, J_bipush, c8_100, am_go dc_206_72, J_icmp_le, am_go dc_206_75, am_go dc_206_76, am_go dc_206_77, J_iload_1, ld_1, am_go dc_206_78, am_go dc_206_79, am_go dc_206_82, am_go dc_206_83, am_go dc_206_84, J_iadd, am_go dc_206_85, am_go dc_206_86, J_iinc, pinc_go, am_go dc_206_89, J_goto, am_go dc_206_92, am_go dc_206_93, am_go dc_206_95, J_icmp_ne, am_go dc_206_98, am_go dc_206_99, am_go dc_206_102, am_go dc_206_103, mH_o, mg_23, mg_24, mg_18, mH_13, mw_13, zI_add, zI_mul, zI_lt, zI_le, zI_eq, zI_neg, zI_pos, zI_ne0, zI_gt0, zB_0, lg_cmp_ge, lg_cmp_le, lg_cmp_gt, lg_cmp_lt, lg_cmp_eq, ail_r, abl_r, all_r, ais_r, abs_r, als_r, mF_len, h23, h24, hib, r_kind, r_of, r_steps, Bool.true_eq_false, List.length_cons, List.length_nil, Nat.reduceAdd, Nat.reduceLT, Nat.reduceLeDiff, Nat.reduceEqDiff, ↓reduceIte, bind_s, if_true, if_false, not_true_eq_false, not_false_eq_true, Nat.zero_add]
    rfl
end M22
