/-! Plan: what is likely -/
section LS
variable {R S S' : Nat → Int32} {b i : Nat}
theorem mP_s {k : Nat} : mP R S (k + 1) = mP R S k * mf R S k := by
  unfold mP
  rw [fo_succ, Nat.zero_add]
theorem mP_lt (ho : ∀ c, c ≠ b → mf R S' c = mf R S c) : ∀ k, k ≤ b → mP R S' k = mP R S k := by
  intro k
  induction k with
  | zero => exact fun _ => (show mP R S' 0 = 1 from rfl).trans (show (1 : Nat) = mP R S 0 from rfl)
  | succ k ih => exact fun hk => by rw [mP_s, mP_s, ih (by omega), ho k (by omega)]
theorem mP_ch (ho : ∀ c, c ≠ b → mf R S' c = mf R S c) : ∀ j, mf R S b * mP R S' (b + 1 + j) = mf R S' b * mP R S (b + 1 + j) := by
  intro j
  induction j with
  | zero => rw [Nat.add_zero, mP_s, mP_s, mP_lt ho b (Nat.le_refl _), Nat.mul_comm, Nat.mul_assoc, Nat.mul_comm (mf R S' b), ← Nat.mul_assoc, Nat.mul_comm (mf R S' b)]
  | succ j ih => rw [← Nat.add_assoc, mP_s, mP_s, ← Nat.mul_assoc, ih, ho (b + 1 + j) (by omega), Nat.mul_assoc]
theorem mf_uo {x : Int32} {c : Nat} (hc : c ≠ b) : mf R (upd S (90 + b) x) c = mf R S c := by
  unfold mf
  rw [hw_uo hc]
theorem fs_ge {s : Nat → Nat} : ∀ (k a i : Nat), i < k → s (a + i) ≤ fsum s a k := by
  intro k
  induction k with
  | zero => intro a i h; omega
  | succ k ih =>
    intro a i h
    rw [fsum_s]
    cases i with
    | zero => rw [Nat.add_zero]; omega
    | succ i =>
      have := ih (a + 1) i (by omega)
      rw [show a + 1 + i = a + (i + 1) by omega] at this
      omega
/-- the chance of a step is no more than the box's share in the mass -/
theorem sh_mf (hG : qG R) (hR : qRw R S) (hL : qPl S) (hb : b < wN (R 116)) (hi : i < wN (R (18 * b + 3))) (ho : hw S b ≤ 2) : ∃ c, qShows S b i = zI c ∧ c ≤ 100 ∧ c ≤ mf R S b := by
  have h5 := hG.m.2
  have hn4 := (hG.n hb).2.2
  obtain ⟨c, c1, c2⟩ := sh_v hG hR hb hi
  refine ⟨c, c1, c2, ?_⟩
  have e1 := hw_eq hL (show b < 5 by omega) (show 1 < 100 by omega)
  have e2 := hw_eq hL (show b < 5 by omega) (show 2 < 100 by omega)
  unfold mf
  by_cases w0 : hw S b = 0
  · rw [if_pos w0]
    exact c2
  · rw [if_neg w0]
    unfold qShows at c1
    simp only [e1, e2] at c1
    by_cases w1 : hw S b = 1
    · rw [if_pos w1]
      by_cases i0 : i = 0
      · rw [if_neg (by omega), pee_n hG hR hL hb (by omega) (Or.inl w1), i0] at c1
        have : wN (R (18 * b + 10)) = c := by rw [show R (18 * b + 10) = zI c from c1, wN_zI (by omega)]
        omega
      · rw [if_pos (by omega), zI_eq (by omega) (by omega)] at c1
        omega
    · rw [if_neg w1, if_pos (by omega)]
      by_cases i0 : i = 0
      · rw [if_pos (by omega), zI_eq (by omega) (by omega)] at c1
        omega
      · rw [if_neg (by omega), pee_n hG hR hL hb (by omega) (Or.inr (by omega))] at c1
        have hc : wN (R (18 * b + (10 + i))) = c := by rw [c1, wN_zI (by omega)]
        have hs := (hG.2.2 b hb).2.2.2.2.2.2.2.2.1
        have e : fsum (fun i => wN (R (18 * b + (10 + i)))) 0 (wN (R (18 * b + 3))) = 100 := hs
        obtain ⟨k, hk⟩ : ∃ k, wN (R (18 * b + 3)) = k + 1 := ⟨wN (R (18 * b + 3)) - 1, by omega⟩
        rw [hk, fsum_s] at e
        have g := fs_ge (s := fun i => wN (R (18 * b + (10 + i)))) k (0 + 1) (i - 1) (by omega)
        rw [show 0 + 1 + (i - 1) = i by omega] at g
        simp only [Nat.add_zero] at e g
        omega
theorem ms_op (hG : qG R) (hb : b < wN (R 116)) (hi : i < 4) : mf R S b * mP R (upd S (90 + b) (zI (3 + i))) (wN (R 116)) = mP R S (wN (R 116)) := by
  have h5 := hG.m.2
  have e := mP_ch (R := R) (S := S) (S' := upd S (90 + b) (zI (3 + i))) (b := b) (fun c hc => mf_uo hc) (wN (R 116) - (b + 1))
  rw [show b + 1 + (wN (R 116) - (b + 1)) = wN (R 116) by omega] at e
  have f1 : mf R (upd S (90 + b) (zI (3 + i))) b = 1 := by
    unfold mf
    rw [hw_up (by omega), if_neg (by omega), if_neg (by omega), if_neg (by omega)]
  rw [f1, Nat.one_mul] at e
  exact e
theorem ms_pe {x : Nat} (hG : qG R) (hb : b < wN (R 116)) (hx : x = 1 ∨ x = 2) (h0 : hw S b = 0) : mP R (upd S (90 + b) (zI x)) (wN (R 116)) ≤ mP R S (wN (R 116)) := by
  have h5 := hG.m.2
  have e := mP_ch (R := R) (S := S) (S' := upd S (90 + b) (zI x)) (b := b) (fun c hc => mf_uo hc) (wN (R 116) - (b + 1))
  rw [show b + 1 + (wN (R 116) - (b + 1)) = wN (R 116) by omega] at e
  have f1 : mf R S b = 100 := if_pos h0
  obtain ⟨c1, c2, c3⟩ := hG.c0 hb
  have f2 : mf R (upd S (90 + b) (zI x)) b ≤ 100 := by
    unfold mf
    rw [hw_up (by omega), if_neg (by omega)]
    split
    · omega
    · split <;> omega
  rw [f1] at e
  have := Nat.mul_le_mul_right (mP R S (wN (R 116))) f2
  omega
end LS
def lFo (u u' : mU) : Prop := u'.1 = u.1 ∧ (∀ j, j ≠ 12 → j ≠ 13 → u'.2.1 j = u.2.1 j) ∧ u'.2.2 = u.2.2
theorem lFo.tr {u u' u'' : mU} (h1 : lFo u u') (h2 : lFo u' u'') : lFo u u'' := ⟨h2.1.trans h1.1, fun j a b => (h2.2.1 j a b).trans (h1.2.1 j a b), h2.2.2.trans h1.2.2⟩
theorem lFo.rf {u : mU} : lFo u u := ⟨rfl, fun _ _ _ => rfl, rfl⟩
theorem lFo.kn {R : Nat → Int32} {T : mU × (Nat → Option Nat)} {Q N : Nat} {u u' : mU} (h : lFo u u') (hk : plKn R T Q u N) : plKn R T Q u' N := by
  obtain ⟨h1, h2, h3⟩ := h
  obtain ⟨k1, k2, k3, k4⟩ := hk
  refine ⟨by rw [h3]; exact k1, ?_, by rw [h1]; exact k3, k4⟩
  unfold tabOk
  rw [h1, h2 3 (by omega) (by omega)]
  exact k2
/-- both sums grown by w -/
def lGr (u u' : mU) (n : Nat) (w : Bool → Nat → Int64) : Prop := ∀ b, b < n → u'.2.1 12 b = u.2.1 12 b + w false b ∧ u'.2.1 13 b = u.2.1 13 b + w true b
section PLk
variable {X : am_X} {C : Nat → Prop} {h : am_H} {l t m a N d r Q : Nat} {T : mU × (Nat → Option Nat)} {S R : Nat → Int32} {z : Nat × Nat} {u : mU}
def hAf (ho : Int32) (rk b sh : Nat) : Int32 := if sh < rk then ho else if rk < sh then zI b else if ho < 0 then zI b else if zI b < ho then zI b else ho
theorem mn_c {x y : Int32} : (if x < y then x else y) = if y < x then y else x := by
  by_cases c : x < y
  · rw [if_pos c, if_neg (fun q => Int32.lt_irrefl (Int32.lt_trans c q))]
  · rw [if_neg c]
    by_cases c2 : y < x
    · rw [if_pos c2]
    · rw [if_neg c2]
      exact Int32.le_antisymm (Int32.not_lt.mp c) (Int32.not_lt.mp c2)
theorem l_holder {ho : Int32} {rk b sh : Nat} {σ : am_S} (h1 : rk < 1000) (h2 : sh < 1000) : am_f X (d + 1) 136 [.int ho, .int (zI rk), .int (zI b), .int (zI sh)] σ = some (.inl (some (.int (hAf ho rk b sh))), σ) := by
  unfold hAf
  rw [fU_136]
  by_cases c1 : sh < rk
  · rw [if_pos c1]
    have c1' : ¬ rk ≤ sh := by omega
    simp (disch := first | omega | exact Nat.le_of_ble_eq_true rfl) only [own_136, am_go dc_136_0, J_iload_3, K_il, ld_3, am_go dc_136_1, J_iload_1, ld_1, am_go dc_136_2, J_icmp_ge, am_go dc_136_5, J_iload_0, ld_0, am_go dc_136_6, J_ret_i ret_136, am_go dc_136_7, am_go dc_136_8, am_go dc_136_9, J_icmp_gt, am_go dc_136_12, am_go dc_136_13, J_if_ge, am_go dc_136_16, J_iload_2, ld_2, am_go dc_136_17, J_goto, am_go dc_136_20, am_go dc_136_21, am_go dc_136_22, cm_4_228 own_136, mth_1, am_go dc_136_25, zI_add, zI_mul, zI_lt, zI_le, zI_eq, zI_neg, zI_pos, zI_ne0, zI_gt0, zB_0, lg_cmp_ge, lg_cmp_le, lg_cmp_gt, lg_cmp_lt, lg_cmp_eq, ail_r, abl_r, all_r, ais_r, abs_r, als_r, aal_r, aal_q, aln_r, vrf_s, vrf_n, z32, c1', List.length_cons, List.length_nil, Nat.reduceAdd, Nat.reduceLT, Nat.reduceLeDiff, Nat.reduceEqDiff, ↓reduceIte, bind_s, if_true, if_false, not_true_eq_false, not_false_eq_true, Nat.zero_add]
  · rw [if_neg c1]
    have c1' : rk ≤ sh := by omega
    by_cases c2 : rk < sh
    · rw [if_pos c2]
      simp (disch := first | omega | exact Nat.le_of_ble_eq_true rfl) only [own_136, am_go dc_136_0, J_iload_3, K_il, ld_3, am_go dc_136_1, J_iload_1, ld_1, am_go dc_136_2, J_icmp_ge, am_go dc_136_5, J_iload_0, ld_0, am_go dc_136_6, J_ret_i ret_136, am_go dc_136_7, am_go dc_136_8, am_go dc_136_9, J_icmp_gt, am_go dc_136_12, am_go dc_136_13, J_if_ge, am_go dc_136_16, J_iload_2, ld_2, am_go dc_136_17, J_goto, am_go dc_136_20, am_go dc_136_21, am_go dc_136_22, cm_4_228 own_136, mth_1, am_go dc_136_25, zI_add, zI_mul, zI_lt, zI_le, zI_eq, zI_neg, zI_pos, zI_ne0, zI_gt0, zB_0, lg_cmp_ge, lg_cmp_le, lg_cmp_gt, lg_cmp_lt, lg_cmp_eq, ail_r, abl_r, all_r, ais_r, abs_r, als_r, aal_r, aal_q, aln_r, vrf_s, vrf_n, z32, c1', c2, List.length_cons, List.length_nil, Nat.reduceAdd, Nat.reduceLT, Nat.reduceLeDiff, Nat.reduceEqDiff, ↓reduceIte, bind_s, if_true, if_false, not_true_eq_false, not_false_eq_true, Nat.zero_add]
    · rw [if_neg c2]
      by_cases c3 : ho < 0
      · rw [if_pos c3]
        have c3' : ¬ 0 ≤ ho := Int32.not_le.mpr c3
        simp (disch := first | omega | exact Nat.le_of_ble_eq_true rfl) only [own_136, am_go dc_136_0, J_iload_3, K_il, ld_3, am_go dc_136_1, J_iload_1, ld_1, am_go dc_136_2, J_icmp_ge, am_go dc_136_5, J_iload_0, ld_0, am_go dc_136_6, J_ret_i ret_136, am_go dc_136_7, am_go dc_136_8, am_go dc_136_9, J_icmp_gt, am_go dc_136_12, am_go dc_136_13, J_if_ge, am_go dc_136_16, J_iload_2, ld_2, am_go dc_136_17, J_goto, am_go dc_136_20, am_go dc_136_21, am_go dc_136_22, cm_4_228 own_136, mth_1, am_go dc_136_25, zI_add, zI_mul, zI_lt, zI_le, zI_eq, zI_neg, zI_pos, zI_ne0, zI_gt0, zB_0, lg_cmp_ge, lg_cmp_le, lg_cmp_gt, lg_cmp_lt, lg_cmp_eq, ail_r, abl_r, all_r, ais_r, abs_r, als_r, aal_r, aal_q, aln_r, vrf_s, vrf_n, z32, c1', c2, c3', List.length_cons, List.length_nil, Nat.reduceAdd, Nat.reduceLT, Nat.reduceLeDiff, Nat.reduceEqDiff, ↓reduceIte, bind_s, if_true, if_false, not_true_eq_false, not_false_eq_true, Nat.zero_add]
      · rw [if_neg c3]
        have c3' : 0 ≤ ho := Int32.not_lt.mp c3
        simp (disch := first | omega | exact Nat.le_of_ble_eq_true rfl) only [own_136, am_go dc_136_0, J_iload_3, K_il, ld_3, am_go dc_136_1, J_iload_1, ld_1, am_go dc_136_2, J_icmp_ge, am_go dc_136_5, J_iload_0, ld_0, am_go dc_136_6, J_ret_i ret_136, am_go dc_136_7, am_go dc_136_8, am_go dc_136_9, J_icmp_gt, am_go dc_136_12, am_go dc_136_13, J_if_ge, am_go dc_136_16, J_iload_2, ld_2, am_go dc_136_17, J_goto, am_go dc_136_20, am_go dc_136_21, am_go dc_136_22, cm_4_228 own_136, mth_1, am_go dc_136_25, zI_add, zI_mul, zI_lt, zI_le, zI_eq, zI_neg, zI_pos, zI_ne0, zI_gt0, zB_0, lg_cmp_ge, lg_cmp_le, lg_cmp_gt, lg_cmp_lt, lg_cmp_eq, ail_r, abl_r, all_r, ais_r, abs_r, als_r, aal_r, aal_q, aln_r, vrf_s, vrf_n, z32, c1', c2, c3', List.length_cons, List.length_nil, Nat.reduceAdd, Nat.reduceLT, Nat.reduceLeDiff, Nat.reduceEqDiff, ↓reduceIte, bind_s, if_true, if_false, not_true_eq_false, not_false_eq_true, Nat.zero_add]
end PLk
