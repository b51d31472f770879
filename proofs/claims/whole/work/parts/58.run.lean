/-! the reference: runs -/
theorem zI_rem {a n : Nat} (ha : a < 2147483648) (hn : n < 2147483648) (h0 : 0 < n) : zI a - zI a / zI n * zI n = zI (a % n) := by
  rw [zI_div ha hn h0, zI_mul, zI_sub (Nat.div_mul_le_self a n)]
  congr 1
  have := Nat.div_add_mod a n
  rw [Nat.mul_comm] at this
  omega
theorem and_pos (x : Int32) : 0 ≤ x &&& 2147483647 := by
  rw [Int32.le_iff_toInt_le]
  show (0 : Int) ≤ (x &&& 2147483647).toBitVec.toInt
  rw [Int32.toBitVec_and]
  have h : (x.toBitVec &&& (2147483647 : Int32).toBitVec).msb = false := by
    rw [BitVec.msb_and]
    have : (2147483647 : Int32).toBitVec.msb = false := by decide
    rw [this, Bool.and_false]
  have := BitVec.toInt_eq_toNat_of_msb h
  rw [this]
  omega
/-- a lot below n -/
def qLot (x : Int32) (n : Nat) : Nat := wN (x &&& 2147483647) / 65536 % n
theorem lot_eq {x : Int32} {n : Nat} (hn : n < 2147483648) (h0 : 0 < n) : (x &&& 2147483647) / 65536 - (x &&& 2147483647) / 65536 / zI n * zI n = zI (qLot x n) := by
  have h1 := zI_ofNN (and_pos x)
  have hlt : wN (x &&& 2147483647) < 2147483648 := by
    have := (x &&& 2147483647).toInt_lt
    show (x &&& 2147483647).toInt.toNat < 2147483648
    omega
  unfold qLot
  rw [h1, show (65536 : Int32) = zI 65536 from rfl, zI_div hlt (by omega) (by omega), zI_rem (Nat.lt_of_le_of_lt (Nat.div_le_self _ _) hlt) hn h0, wN_zI hlt]
def qSeed (x : Int32) : Int32 := x * 1103515245 + 12345
def qDw (s : Nat → Nat) : Nat → Nat → Nat → Nat
  | 0, i, _ => i
  | k + 1, i, w => if w < s i then i else qDw s k (i + 1) (w - s i)
def fsum (s : Nat → Nat) (i k : Nat) : Nat := fo (fun j v => v + s j) i k 0
theorem fsum_add (s : Nat → Nat) : ∀ (k i a : Nat), fo (fun j v => v + s j) i k a = a + fsum s i k
  | 0, _, a => rfl
  | k + 1, i, a => by
    unfold fsum
    show fo _ (i + 1) k (a + s i) = a + fo _ (i + 1) k (0 + s i)
    rw [fsum_add s k, fsum_add s k]
    omega
theorem fsum_s (s : Nat → Nat) (i k : Nat) : fsum s i (k + 1) = s i + fsum s (i + 1) k := by
  show fo _ (i + 1) k (0 + s i) = _
  rw [fsum_add]
  omega
theorem fsum_cg {s s' : Nat → Nat} {i k : Nat} (h : ∀ j, i ≤ j → j < i + k → s j = s' j) : fsum s i k = fsum s' i k := fo_congr k i 0 (fun j h1 h2 a => by rw [h j h1 h2])
theorem fsum_z {s : Nat → Nat} : ∀ (k i : Nat), (∀ j, i ≤ j → j < i + k → s j = 0) → fsum s i k = 0
  | 0, _, _ => rfl
  | k + 1, i, h => by
    rw [fsum_s, h i (by omega) (by omega), fsum_z k (i + 1) (fun j h1 h2 => h j (by omega) (by omega))]
theorem qDw_lt {s : Nat → Nat} : ∀ (k i w : Nat), w < fsum s i k → i ≤ qDw s k i w ∧ qDw s k i w < i + k ∧ 0 < s (qDw s k i w)
  | 0, i, w, h => by
    have : fsum s i 0 = 0 := rfl
    omega
  | k + 1, i, w, h => by
    rw [fsum_s] at h
    unfold qDw
    by_cases c : w < s i
    · rw [if_pos c]
      omega
    · rw [if_neg c]
      have := qDw_lt (s := s) k (i + 1) (w - s i) (by omega)
      omega
section M18
variable {X : am_X} {h : am_H} {o d : Nat} {u : mU} {z : Nat × Nat}

theorem r_draws {n : Nat} (hn : n < 2147483648) (h0 : 0 < n) : am_f X (d + 1) 268 [.ref o, .int (zI n)] (mH h o u, z) = some (.inl (some (.int (zI (qLot (qSeed (u.2.2.1 36)) n)))), (mH h o (mI u 36 (qSeed (u.2.2.1 36))), z)) := by
  have hl := lot_eq (x := qSeed (u.2.2.1 36)) hn h0
  have hne : ¬ n = 0 := by omega
  have h65 : ((65536 : Int32) = 0) = False := by decide
  unfold qSeed at hl ⊢
  rw [fU_268]
  simp (disch := first | omega | exact ci_m | exact Nat.le_of_ble_eq_true rfl | (refine mF_lt ?_; omega)) only [own_268, am_go dc_268_0, J_aload_0, K_al, ld_0, am_go dc_268_1, am_go dc_268_2, J_getfield, gf_r, fk_12_300_12, am_go dc_268_5, am_go dc_268_8, J_imul, am_go dc_268_9, J_sipush, i16_12345, am_go dc_268_12, J_iadd, am_go dc_268_13, J_putfield_i, J_putfield_l, J_putfield_r, ini_268, pk_12_300_12, am_go dc_268_16, am_go dc_268_17, am_go dc_268_20, am_go dc_268_23, J_iand, am_go dc_268_24, am_go dc_268_27, J_idiv, am_go dc_268_28, J_iload_1, K_il, ld_1, am_go dc_268_29, J_irem, am_go dc_268_30, J_ret_i ret_268, mH_o, mg_36, mp_36, pf_i pk_12_300_12 rfl, zI_add, zI_mul, zI_lt, zI_le, zI_eq, zI_neg, zI_pos, zI_ne0, zI_gt0, zB_0, lg_cmp_ge, lg_cmp_le, lg_cmp_gt, lg_cmp_lt, lg_cmp_eq, ail_r, abl_r, all_r, ais_r, abs_r, als_r, mF_len, mS_s, mS_o, mS_2, mS_S, mI_1, mI_2, mI_s, mI_o, mI_3, mI_I, mJ_1, mJ_2, mJ_3, mJ_s, mJ_o, mJ_J, mL_1, mL_s, mL_o, mL_2, J_ldc_w, ck_12_303, ck_12_304, ck_12_305, i16_12345, hne, h65, hl, List.length_cons, List.length_nil, Nat.reduceAdd, Nat.reduceLT, Nat.reduceLeDiff, Nat.reduceEqDiff, ↓reduceIte, bind_s, if_true, if_false, not_true_eq_false, not_false_eq_true, Nat.zero_add]
/-- what a box shows, as numbers -/
def qSn (S : Nat → Int32) (b i : Nat) : Nat := wN (qShows S b i)
theorem qSh_ok {S : Nat → Int32} {b i : Nat} (hG : qG S) (hb : b < wN (S 116)) (hi : i < wN (S (18 * b + 3))) : qShows S b i = zI (qSn S b i) ∧ qSn S b i ≤ 100 := by
  unfold qSn qShows
  split
  · rw [wN_zI (by omega)]
    exact ⟨rfl, by omega⟩
  · exact (qCh_ok hG hb).1 i hi
def qSa (S : Nat → Int32) (b : Nat) : Nat := fsum (qSn S b) 0 (wN (S (18 * b + 3)))
theorem r_drawn {b : Nat} (hG : qG (u.1 1)) (hw : qHw (u.1 1)) (hb : b < wN (u.1 1 116)) (ha : 0 < qSa (u.1 1) b) : am_f X (d + 4) 267 [.ref o, .int (zI b)] (mH h o u, z) = some (.inl (some (.int (zI (qDw (qSn (u.1 1) b) (wN (u.1 1 (18 * b + 3))) 0 (qLot (qSeed (u.2.2.1 36)) (qSa (u.1 1) b)))))), (mH h o (mI u 36 (qSeed (u.2.2.1 36))), z)) := by
  have hq := qW_of2 hG hw
  have hm5 := hG.m.2
  have hb5 : b < 5 := by omega
  obtain ⟨hn, hn1, hn4⟩ := hG.n hb
  have hok := fun i (hi : i < wN (u.1 1 (18 * b + 3))) => qSh_ok hG hb hi
  unfold qSa at ha ⊢
  generalize wN (u.1 1 (18 * b + 3)) = n at hn hn1 hn4 hok ha ⊢
  have hl1 : ∀ (k i a : Nat), i + k = n → a ≤ 100 * i → am_I X (am_f X (d + 3)) 267 4 [some (.ref o), some (.int (zI b)), some (.int (zI a)), some (.int (zI i)), none] [] (mH h o u, z) = am_I X (am_f X (d + 3)) 267 28 [some (.ref o), some (.int (zI b)), some (.int (zI (a + fsum (qSn (u.1 1) b) i k))), some (.int (zI n)), none] [] (mH h o u, z) := by
    intro k
    induction k with
    | zero =>
      intro i a hi ha
      rw [am_go dc_267_4]
      simp (disch := first | omega | exact ci_m | exact Nat.le_of_ble_eq_true rfl | (refine mF_lt ?_; omega)) only [own_267, am_go dc_267_0, J_iconst, c32_0, am_go dc_267_1, J_istore_2, st1_0, st1_1, st1_s, kl_i, kl_l, kl_r, kl_n, am_go dc_267_2, am_go dc_267_3, J_istore_3, J_iload_3, K_il, ld_3, am_go dc_267_5, J_aload_0, K_al, ld_0, am_go dc_267_6, J_iload_1, ld_1, am_go dc_267_7, cv_12_143_12 own_267, JR_v, JR_0, JR_ite, ci1_r, am_go dc_267_10, J_icmp_ge, am_go dc_267_13, J_iload_2, ld_2, am_go dc_267_14, am_go dc_267_15, am_go dc_267_16, am_go dc_267_17, cv_12_198_12 own_267, am_go dc_267_20, J_iadd, am_go dc_267_21, am_go dc_267_22, J_iinc, pinc_go, c32_1, am_go dc_267_25, J_goto, am_go dc_267_29, am_go dc_267_30, cv_12_306_12 own_267, am_go dc_267_33, am_go dc_267_34, am_go dc_267_35, J_istore, am_go dc_267_37, am_go dc_267_38, am_go dc_267_39, am_go dc_267_40, J_iload, ld_4, am_go dc_267_42, am_go dc_267_45, J_icmp_lt, am_go dc_267_48, am_go dc_267_49, am_go dc_267_50, am_go dc_267_51, am_go dc_267_53, am_go dc_267_56, J_isub, am_go dc_267_57, am_go dc_267_58, am_go dc_267_61, am_go dc_267_64, am_go dc_267_66, J_ret_i ret_267, mH_o, zI_add, zI_mul, zI_lt, zI_le, zI_eq, zI_neg, zI_pos, zI_ne0, zI_gt0, zB_0, lg_cmp_ge, lg_cmp_le, lg_cmp_gt, lg_cmp_lt, lg_cmp_eq, ail_r, abl_r, all_r, ais_r, abs_r, als_r, mF_len, r_steps, hn, List.length_cons, List.length_nil, Nat.reduceAdd, Nat.reduceLT, Nat.reduceLeDiff, Nat.reduceEqDiff, ↓reduceIte, bind_s, if_true, if_false, not_true_eq_false, not_false_eq_true, Nat.zero_add]
      rw [if_pos (by omega)]
      have : i = n := by omega
      rw [this]
      rfl
    | succ k ih =>
      intro i a hi ha
      have hi4 : i < 4 := by omega
      obtain ⟨s1, s2⟩ := hok i (by omega)
      have hsh := fun d => r_shows (X := X) (h := h) (o := o) (d := d) (u := u) (z := z) (b := b) (i := i) hq hb hi4
      rw [s1] at hsh
      rw [fsum_s, ← Nat.add_assoc, ← ih (i + 1) (a + qSn (u.1 1) b i) (by omega) (by omega), am_go dc_267_4]
      simp (disch := first | omega | exact ci_m | exact Nat.le_of_ble_eq_true rfl | (refine mF_lt ?_; omega)) only [own_267, am_go dc_267_0, J_iconst, c32_0, am_go dc_267_1, J_istore_2, st1_0, st1_1, st1_s, kl_i, kl_l, kl_r, kl_n, am_go dc_267_2, am_go dc_267_3, J_istore_3, J_iload_3, K_il, ld_3, am_go dc_267_5, J_aload_0, K_al, ld_0, am_go dc_267_6, J_iload_1, ld_1, am_go dc_267_7, cv_12_143_12 own_267, JR_v, JR_0, JR_ite, ci1_r, am_go dc_267_10, J_icmp_ge, am_go dc_267_13, J_iload_2, ld_2, am_go dc_267_14, am_go dc_267_15, am_go dc_267_16, am_go dc_267_17, cv_12_198_12 own_267, am_go dc_267_20, J_iadd, am_go dc_267_21, am_go dc_267_22, J_iinc, pinc_go, c32_1, am_go dc_267_25, J_goto, am_go dc_267_29, am_go dc_267_30, cv_12_306_12 own_267, am_go dc_267_33, am_go dc_267_34, am_go dc_267_35, J_istore, am_go dc_267_37, am_go dc_267_38, am_go dc_267_39, am_go dc_267_40, J_iload, ld_4, am_go dc_267_42, am_go dc_267_45, J_icmp_lt, am_go dc_267_48, am_go dc_267_49, am_go dc_267_50, am_go dc_267_51, am_go dc_267_53, am_go dc_267_56, J_isub, am_go dc_267_57, am_go dc_267_58, am_go dc_267_61, am_go dc_267_64, am_go dc_267_66, J_ret_i ret_267, mH_o, zI_add, zI_mul, zI_lt, zI_le, zI_eq, zI_neg, zI_pos, zI_ne0, zI_gt0, zB_0, lg_cmp_ge, lg_cmp_le, lg_cmp_gt, lg_cmp_lt, lg_cmp_eq, ail_r, abl_r, all_r, ais_r, abs_r, als_r, mF_len, r_steps, hn, hsh, List.length_cons, List.length_nil, Nat.reduceAdd, Nat.reduceLT, Nat.reduceLeDiff, Nat.reduceEqDiff, ↓reduceIte, bind_s, if_true, if_false, not_true_eq_false, not_false_eq_true, Nat.zero_add]
      rw [if_neg (by omega)]
  have hl2 : ∀ (k i w : Nat) (a : Int32) (u' : mU), u'.1 1 = u.1 1 → i + k = n → w < fsum (qSn (u.1 1) b) i k → w < 1000 → am_I X (am_f X (d + 3)) 267 37 [some (.ref o), some (.int (zI b)), some (.int a), some (.int (zI w)), some (.int (zI i))] [] (mH h o u', z) = some (.inl (some (.int (zI (qDw (qSn (u.1 1) b) k i w)))), (mH h o u', z)) := by
    intro k
    induction k with
    | zero =>
      intro i w a u' hu hi hw
      have : fsum (qSn (u.1 1) b) i 0 = 0 := rfl
      omega
    | succ k ih =>
      intro i w a u' hu hi hw' hw1
      have hi4 : i < 4 := by omega
      obtain ⟨s1, s2⟩ := hok i (by omega)
      have hsh := fun d => r_shows (X := X) (h := h) (o := o) (d := d) (u := u') (z := z) (b := b) (i := i) (by rw [hu]; exact hq) (by rw [hu]; exact hb) hi4
      rw [hu, s1] at hsh
      rw [fsum_s] at hw'
      unfold qDw
      by_cases c : w < qSn (u.1 1) b i
      · rw [if_pos c, am_go dc_267_37]
        simp (disch := first | omega | exact ci_m | exact Nat.le_of_ble_eq_true rfl | (refine mF_lt ?_; omega)) only [own_267, am_go dc_267_0, J_iconst, c32_0, am_go dc_267_1, J_istore_2, st1_0, st1_1, st1_s, kl_i, kl_l, kl_r, kl_n, am_go dc_267_2, am_go dc_267_3, J_istore_3, am_go dc_267_4, J_iload_3, K_il, ld_3, am_go dc_267_5, J_aload_0, K_al, ld_0, am_go dc_267_6, J_iload_1, ld_1, am_go dc_267_7, cv_12_143_12 own_267, JR_v, JR_0, JR_ite, ci1_r, am_go dc_267_10, J_icmp_ge, am_go dc_267_13, J_iload_2, ld_2, am_go dc_267_14, am_go dc_267_15, am_go dc_267_16, am_go dc_267_17, cv_12_198_12 own_267, am_go dc_267_20, J_iadd, am_go dc_267_21, am_go dc_267_22, J_iinc, pinc_go, c32_1, am_go dc_267_25, J_goto, am_go dc_267_28, am_go dc_267_29, am_go dc_267_30, cv_12_306_12 own_267, am_go dc_267_33, am_go dc_267_34, am_go dc_267_35, J_istore, am_go dc_267_38, am_go dc_267_39, am_go dc_267_40, J_iload, ld_4, am_go dc_267_42, am_go dc_267_45, J_icmp_lt, am_go dc_267_48, am_go dc_267_49, am_go dc_267_50, am_go dc_267_51, am_go dc_267_53, am_go dc_267_56, J_isub, am_go dc_267_57, am_go dc_267_58, am_go dc_267_61, am_go dc_267_64, am_go dc_267_66, J_ret_i ret_267, mH_o, zI_add, zI_mul, zI_lt, zI_le, zI_eq, zI_neg, zI_pos, zI_ne0, zI_gt0, zB_0, lg_cmp_ge, lg_cmp_le, lg_cmp_gt, lg_cmp_lt, lg_cmp_eq, ail_r, abl_r, all_r, ais_r, abs_r, als_r, mF_len, hsh, c, List.length_cons, List.length_nil, Nat.reduceAdd, Nat.reduceLT, Nat.reduceLeDiff, Nat.reduceEqDiff, ↓reduceIte, bind_s, if_true, if_false, not_true_eq_false, not_false_eq_true, Nat.zero_add]
      · rw [if_neg c, ← ih (i + 1) (w - qSn (u.1 1) b i) a u' hu (by omega) (by omega) (by omega), am_go dc_267_37]
        have hle : qSn (u.1 1) b i ≤ w := by omega
        simp (disch := first | omega | exact ci_m | exact Nat.le_of_ble_eq_true rfl | (refine mF_lt ?_; omega)) only [own_267, am_go dc_267_0, J_iconst, c32_0, am_go dc_267_1, J_istore_2, st1_0, st1_1, st1_s, kl_i, kl_l, kl_r, kl_n, am_go dc_267_2, am_go dc_267_3, J_istore_3, am_go dc_267_4, J_iload_3, K_il, ld_3, am_go dc_267_5, J_aload_0, K_al, ld_0, am_go dc_267_6, J_iload_1, ld_1, am_go dc_267_7, cv_12_143_12 own_267, JR_v, JR_0, JR_ite, ci1_r, am_go dc_267_10, J_icmp_ge, am_go dc_267_13, J_iload_2, ld_2, am_go dc_267_14, am_go dc_267_15, am_go dc_267_16, am_go dc_267_17, cv_12_198_12 own_267, am_go dc_267_20, J_iadd, am_go dc_267_21, am_go dc_267_22, J_iinc, pinc_go, c32_1, am_go dc_267_25, J_goto, am_go dc_267_28, am_go dc_267_29, am_go dc_267_30, cv_12_306_12 own_267, am_go dc_267_33, am_go dc_267_34, am_go dc_267_35, J_istore, am_go dc_267_38, am_go dc_267_39, am_go dc_267_40, J_iload, ld_4, am_go dc_267_42, am_go dc_267_45, J_icmp_lt, am_go dc_267_48, am_go dc_267_49, am_go dc_267_50, am_go dc_267_51, am_go dc_267_53, am_go dc_267_56, J_isub, am_go dc_267_57, am_go dc_267_58, am_go dc_267_61, am_go dc_267_64, am_go dc_267_66, J_ret_i ret_267, mH_o, zI_add, zI_mul, zI_lt, zI_le, zI_eq, zI_neg, zI_pos, zI_ne0, zI_gt0, zB_0, lg_cmp_ge, lg_cmp_le, lg_cmp_gt, lg_cmp_lt, lg_cmp_eq, ail_r, abl_r, all_r, ais_r, abs_r, als_r, mF_len, hsh, c, zI_sub, List.length_cons, List.length_nil, Nat.reduceAdd, Nat.reduceLT, Nat.reduceLeDiff, Nat.reduceEqDiff, ↓reduceIte, bind_s, if_true, if_false, not_true_eq_false, not_false_eq_true, Nat.zero_add]
  have ha4 : fsum (qSn (u.1 1) b) 0 n ≤ 400 := by
    have key : ∀ k i, i + k ≤ n → fsum (qSn (u.1 1) b) i k ≤ 100 * k := by
      intro k
      induction k with
      | zero => intros; exact Nat.le_refl _
      | succ k ih =>
        intro i hi
        rw [fsum_s]
        have := (hok i (by omega)).2
        have := ih (i + 1) (by omega)
        omega
    have := key n 0 (by omega)
    omega
  have hlt : qLot (qSeed (u.2.2.1 36)) (fsum (qSn (u.1 1) b) 0 n) < fsum (qSn (u.1 1) b) 0 n := Nat.mod_lt _ ha
  have hdr := fun d => r_draws (X := X) (h := h) (o := o) (d := d) (u := u) (z := z) (n := fsum (qSn (u.1 1) b) 0 n) (by omega) ha
  have h1 := hl1 n 0 0 (by omega) (by omega)
  rw [Nat.zero_add] at h1
  rw [fU_267]
  simp (disch := first | omega | exact ci_m | exact Nat.le_of_ble_eq_true rfl | (refine mF_lt ?_; omega)) only [own_267, am_go dc_267_0, J_iconst, c32_0, am_go dc_267_1, J_istore_2, st1_0, st1_1, st1_s, kl_i, kl_l, kl_r, kl_n, am_go dc_267_2, am_go dc_267_3, J_istore_3, J_iload_3, K_il, ld_3, am_go dc_267_5, J_aload_0, K_al, ld_0, am_go dc_267_6, J_iload_1, ld_1, am_go dc_267_7, cv_12_143_12 own_267, JR_v, JR_0, JR_ite, ci1_r, am_go dc_267_10, J_icmp_ge, am_go dc_267_13, J_iload_2, ld_2, am_go dc_267_14, am_go dc_267_15, am_go dc_267_16, am_go dc_267_17, cv_12_198_12 own_267, am_go dc_267_20, J_iadd, am_go dc_267_21, am_go dc_267_22, J_iinc, pinc_go, c32_1, am_go dc_267_25, J_goto, am_go dc_267_28, am_go dc_267_29, am_go dc_267_30, cv_12_306_12 own_267, am_go dc_267_33, am_go dc_267_34, am_go dc_267_35, J_istore, am_go dc_267_37, am_go dc_267_38, am_go dc_267_39, am_go dc_267_40, J_iload, ld_4, am_go dc_267_42, am_go dc_267_45, J_icmp_lt, am_go dc_267_48, am_go dc_267_49, am_go dc_267_50, am_go dc_267_51, am_go dc_267_53, am_go dc_267_56, J_isub, am_go dc_267_57, am_go dc_267_58, am_go dc_267_61, am_go dc_267_64, am_go dc_267_66, J_ret_i ret_267, mH_o, zI_add, zI_mul, zI_lt, zI_le, zI_eq, zI_neg, zI_pos, zI_ne0, zI_gt0, zB_0, lg_cmp_ge, lg_cmp_le, lg_cmp_gt, lg_cmp_lt, lg_cmp_eq, ail_r, abl_r, all_r, ais_r, abs_r, als_r, mF_len, List.length_cons, List.length_nil, Nat.reduceAdd, Nat.reduceLT, Nat.reduceLeDiff, Nat.reduceEqDiff, ↓reduceIte, bind_s, if_true, if_false, not_true_eq_false, not_false_eq_true, Nat.zero_add]
  refine Eq.trans h1 ?_
  rw [am_go dc_267_28]
  simp (disch := first | omega | exact ci_m | exact Nat.le_of_ble_eq_true rfl | (refine mF_lt ?_; omega)) only [own_267, am_go dc_267_0, J_iconst, c32_0, am_go dc_267_1, J_istore_2, st1_0, st1_1, st1_s, kl_i, kl_l, kl_r, kl_n, am_go dc_267_2, am_go dc_267_3, J_istore_3, J_iload_3, K_il, ld_3, am_go dc_267_5, J_aload_0, K_al, ld_0, am_go dc_267_6, J_iload_1, ld_1, am_go dc_267_7, cv_12_143_12 own_267, JR_v, JR_0, JR_ite, ci1_r, am_go dc_267_10, J_icmp_ge, am_go dc_267_13, J_iload_2, ld_2, am_go dc_267_14, am_go dc_267_15, am_go dc_267_16, am_go dc_267_17, cv_12_198_12 own_267, am_go dc_267_20, J_iadd, am_go dc_267_21, am_go dc_267_22, J_iinc, pinc_go, c32_1, am_go dc_267_25, J_goto, am_go dc_267_28, am_go dc_267_29, am_go dc_267_30, cv_12_306_12 own_267, am_go dc_267_33, am_go dc_267_34, am_go dc_267_35, J_istore, am_go dc_267_38, am_go dc_267_39, am_go dc_267_40, J_iload, ld_4, am_go dc_267_42, am_go dc_267_45, J_icmp_lt, am_go dc_267_48, am_go dc_267_49, am_go dc_267_50, am_go dc_267_51, am_go dc_267_53, am_go dc_267_56, J_isub, am_go dc_267_57, am_go dc_267_58, am_go dc_267_61, am_go dc_267_64, am_go dc_267_66, J_ret_i ret_267, mH_o, zI_add, zI_mul, zI_lt, zI_le, zI_eq, zI_neg, zI_pos, zI_ne0, zI_gt0, zB_0, lg_cmp_ge, lg_cmp_le, lg_cmp_gt, lg_cmp_lt, lg_cmp_eq, ail_r, abl_r, all_r, ais_r, abs_r, als_r, mF_len, hdr, List.length_cons, List.length_nil, Nat.reduceAdd, Nat.reduceLT, Nat.reduceLeDiff, Nat.reduceEqDiff, ↓reduceIte, bind_s, if_true, if_false, not_true_eq_false, not_false_eq_true, Nat.zero_add]
  exact hl2 n 0 _ _ _ rfl (by omega) hlt (by omega)
/-- places that a run can come to -/
def qRv (S : Nat → Int32) : Prop := qHw S ∧ ∀ b, b < wN (S 116) → ((S (90 + b) = zI 1 ∨ S (90 + b) = zI 2) → S (18 * b) = zI 1) ∧ (S (90 + b) = zI 2 → S (18 * b + 10) ≠ zI 100)
theorem qRv.up {S : Nat → Int32} {b x : Nat} (hG : qG S) (h : qRv S) (hb : b < 5) (hx : x ≤ 6) (h1 : x = 1 ∨ x = 2 → S (18 * b) = zI 1) (h2 : x = 2 → S (18 * b + 10) ≠ zI 100) : qRv (upd S (90 + b) (zI x)) := by
  have hm := hG.m.2
  refine ⟨h.1.up hx, fun c hc => ?_⟩
  rw [upd_o (j := 116) (by omega)] at hc
  rw [upd_o (j := 18 * c) (by omega), upd_o (j := 18 * c + 10) (by omega)]
  by_cases e : c = b
  · subst e
    rw [upd_s, zI_eq (by omega) (by omega), zI_eq (by omega) (by omega)]
    exact ⟨h1, h2⟩
  · rw [upd_o (by omega)]
    exact h.2 c hc
theorem qKin_peep {S : Nat → Int32} {b : Nat} (hG : qG S) (hb : b < wN (S 116)) (h1 : S (18 * b) = zI 1) : S (18 * b + 5) = -4 := by
  rcases (hG.2.2 b hb).2.2.2.2.2.2.1 with e | e
  · exact e
  · exact absurd h1 e.2.2.2.2.2
theorem qCh_peep {S : Nat → Int32} {b i : Nat} (hG : qG S) (hb : b < wN (S 116)) (h1 : S (18 * b) = zI 1) : qChance S b i = S (18 * b + (10 + i)) := by
  unfold qChance
  rw [qKin_peep hG hb h1, if_pos (by decide)]
/-- what the chances of a box are together -/
theorem qSa_eq {S : Nat → Int32} {b : Nat} (hG : qG S) (hb : b < wN (S 116)) (hv : (S (90 + b) = zI 1 ∨ S (90 + b) = zI 2) → S (18 * b) = zI 1) : (S (90 + b) = zI 1 → qSa S b = wN (S (18 * b + 10))) ∧ (S (90 + b) = zI 2 → qSa S b + wN (S (18 * b + 10)) = 100) ∧ (¬ S (90 + b) = zI 1 → ¬ S (90 + b) = zI 2 → qSa S b = 100) := by
  obtain ⟨hn, hn1, hn4⟩ := hG.n hb
  obtain ⟨hc, hs⟩ := qCh_ok hG hb
  have hs' : fsum (fun i => wN (qChance S b i)) 0 (wN (S (18 * b + 3))) = 100 := by
    have cast : ∀ (f : Nat → Nat) (k i : Nat) (x : Nat), fo (fun i (v : Int) => v + ((f i : Nat) : Int)) i k (x : Int) = ((fo (fun i v => v + f i) i k x : Nat) : Int) := by
      intro f k
      induction k with
      | zero => intros; rfl
      | succ k ih =>
        intro i x
        show fo _ (i + 1) k ((x : Int) + ((f i : Nat) : Int)) = _
        rw [← Int.natCast_add, ih]
        rfl
    have := cast (fun i => wN (qChance S b i)) (wN (S (18 * b + 3))) 0 0
    rw [show ((0 : Nat) : Int) = 0 from rfl, hs] at this
    have this : (100 : Int) = ((fo (fun i v => v + wN (qChance S b i)) 0 (wN (S (18 * b + 3))) 0 : Nat) : Int) := this
    show fo (fun i v => v + wN (qChance S b i)) 0 (wN (S (18 * b + 3))) 0 = 100
    omega
  unfold qSa
  obtain ⟨k, hk⟩ : ∃ k, wN (S (18 * b + 3)) = k + 1 := ⟨wN (S (18 * b + 3)) - 1, by omega⟩
  rw [hk] at hs' ⊢
  refine ⟨fun e => ?_, fun e => ?_, fun e1 e2 => ?_⟩
  · have hp := hv (Or.inl e)
    rw [fsum_s, fsum_z]
    · unfold qSn qShows
      have e2 : ¬ S (90 + b) = zI 2 := by rw [e]; decide
      rw [if_neg (by simp [e2]), qCh_peep hG hb hp]
      rfl
    · intro j h1 h2
      unfold qSn qShows
      rw [if_pos (Or.inl ⟨e, by omega⟩)]
      rfl
  · have hp := hv (Or.inr e)
    have h0 : qSn S b 0 = 0 := by
      unfold qSn qShows
      rw [if_pos (Or.inr ⟨e, rfl⟩)]
      rfl
    have e1 : ¬ S (90 + b) = zI 1 := by rw [e]; decide
    have hr : fsum (qSn S b) 1 k = fsum (fun i => wN (qChance S b i)) 1 k := fsum_cg (fun j h1 h2 => by
      unfold qSn qShows
      rw [if_neg]
      rintro (h3 | h3)
      · exact e1 h3.1
      · omega)
    rw [fsum_s, h0, Nat.zero_add 1, hr]
    rw [fsum_s, qCh_peep hG hb hp, Nat.zero_add 1] at hs'
    simp only [Nat.add_zero] at hs'
    omega
  · rw [← hs']
    exact fsum_cg (fun j h1 h2 => by
      unfold qSn qShows
      rw [if_neg]
      rintro (h3 | h3)
      · exact e1 h3.1
      · exact e2 h3.1)
theorem qSa_pos {S : Nat → Int32} {b : Nat} (hG : qG S) (hb : b < wN (S 116)) (hv : qRv S) : 0 < qSa S b ∧ qSa S b ≤ 100 := by
  obtain ⟨h1, h2, h3⟩ := qSa_eq hG hb (hv.2 b hb).1
  have hi := ((hG.2.2 b hb).2.2.2.2.2.2.2.1) 0 (by have := (hG.n hb).2.1; omega)
  have hc := hi.2.1.z (by omega)
  have hc1 := hi.2.2.1
  simp only [Nat.add_zero] at hc hc1
  by_cases e1 : S (90 + b) = zI 1
  · rw [h1 e1]
    exact ⟨by omega, hc.2⟩
  · by_cases e2 : S (90 + b) = zI 2
    · have := h2 e2
      have h4 := (hv.2 b hb).2 e2
      have : wN (S (18 * b + 10)) ≠ 100 := fun e => h4 (by rw [hc.1, e])
      have := hc.2
      omega
    · rw [h3 e1 e2]
      omega
/-! a run -/
def qArl (S : Nat → Int32) : Nat := if qRl S < 0 then 0 else 10 + wN (qRl S)
def qAct (br : Bool) (S : Nat → Int32) : Nat := if br = true then qArl S else wN (qB S).2
def qDi (S : Nat → Int32) (x : Nat) (s : Int32) : Nat := qDw (qSn S x) (wN (S (18 * x + 3))) 0 (qLot s (qSa S x))
def qRn (br : Bool) : Nat → (Nat → Int32) → Int32 → Int64 → Int64
  | 0, _, _, _ => 0
  | n + 1, S, s, paid => if qAct br S = 0 then (qHas S).toInt64 - paid
    else if 30 ≤ qAct br S then (S (18 * (qAct br S % 10) + (6 + qDi S (qAct br S % 10) (qSeed s)))).toInt64 - paid
    else if qAct br S < 20 then qRn br n (upd S (90 + qAct br S % 10) (zI (3 + qDi S (qAct br S % 10) (qSeed s)))) (qSeed s) (paid + (S (18 * (qAct br S % 10) + 1)).toInt64)
    else qRn br n (upd S (90 + qAct br S % 10) (if qLot (qSeed s) 100 < wN (qChance S (qAct br S % 10) 0) then zI 1 else zI 2)) (qSeed s) (paid + (S (18 * (qAct br S % 10) + 4)).toInt64)
/-- behind a run -/
def mRu (u u' : mU) : Prop := (∀ j, j ≠ 1 → j ≠ 16 → j ≠ 17 → j ≠ 18 → u'.1 j = u.1 j) ∧ (∀ j, j < 90 ∨ 95 ≤ j → u'.1 1 j = u.1 1 j) ∧ (∀ j, j ≠ 32 → j ≠ 36 → u'.2.2.1 j = u.2.2.1 j) ∧ mFr u'
theorem mRu.tr {u u' u'' : mU} (h : mRu u u') (h2 : mRu u' u'') : mRu u u'' := ⟨fun j i1 i2 i3 i4 => (h2.1 j i1 i2 i3 i4).trans (h.1 j i1 i2 i3 i4), fun j hj => (h2.2.1 j hj).trans (h.2.1 j hj), fun j i1 i2 => (h2.2.2.1 j i1 i2).trans (h.2.2.1 j i1 i2), h2.2.2.2⟩
theorem mRu.ed {u u' : mU} (h : mEd u u') : mRu u u' := ⟨fun j _ i2 i3 i4 => h.1.1 j i2 i3 i4, fun j _ => by rw [h.1.s], fun j i1 _ => h.1.2 j i1, h.fr⟩
theorem mFr.put {u : mU} {b : Nat} {x y : Int32} (h : mFr u) (hb : b < 5) : mFr (mS (mI u 36 y) 1 (upd (u.1 1) (90 + b) x)) := by
  rcases h with ⟨h1, h2⟩ | h1
  · refine Or.inl ⟨h1, ?_⟩
    show mMem (mS (mI u 36 y) 1 (upd (u.1 1) (90 + b) x)) (upd (u.1 1) (90 + b) x)
    have h3 : mMem (mI u 36 y) (u.1 1) := h2
    exact (h3.a (qA0.up hb)).S
  · exact Or.inr h1
theorem mFr.I {u : mU} {y : Int32} (h : mFr u) : mFr (mI u 36 y) := h
theorem mRu.I {u : mU} {y : Int32} (h : mFr u) : mRu u (mI u 36 y) := ⟨fun _ _ _ _ _ => rfl, fun _ _ => rfl, fun j _ i2 => mI_o i2, h⟩
theorem mRu.put {u : mU} {b : Nat} {x y : Int32} (h : mFr u) (hb : b < 5) : mRu u (mS (mI u 36 y) 1 (upd (u.1 1) (90 + b) x)) := ⟨fun j i1 _ _ _ => mS_o i1, fun j hj => by rw [mS_s, upd_o (by omega)], fun j _ i2 => mI_o i2, h.put hb⟩
theorem qArl_inv {S : Nat → Int32} (hn : qNn S) : qAct true S = 0 ∧ qRl S = -4 ∨ ∃ b, b < wN (S 116) ∧ qMay S b = true ∧ qRl S = zI b ∧ qAct true S = 10 + b := by
  rcases qRl_inv hn with e | ⟨b, e1, e2, e3, e4⟩
  · left
    refine ⟨?_, e⟩
    unfold qAct qArl
    rw [if_pos rfl, if_pos (by rw [e]; decide)]
  · right
    refine ⟨b, e1, e3, e2, ?_⟩
    have := hn.1
    unfold qAct qArl
    rw [if_pos rfl, if_neg (by rw [e2, zI_neg (by omega)]; exact not_false), e4]
theorem qAct_inv {S : Nat → Int32} {br : Bool} (hw : qHw S) (hn : qNn S) : qAct br S = 0 ∨ ∃ b, b < wN (S 116) ∧ ((qAct br S = 30 + b ∧ S (90 + b) = 0) ∨ (qAct br S = 10 + b ∧ qMay S b = true) ∨ (qAct br S = 20 + b ∧ qPeep S b = true)) := by
  have h5 := hn.1
  cases br with
  | true =>
    rcases qArl_inv hn with e | ⟨b, e1, e2, -, e4⟩
    · exact Or.inl e.1
    · exact Or.inr ⟨b, e1, Or.inr (Or.inl ⟨e4, e2⟩)⟩
  | false =>
    have hq : qAct false S = wN (qB S).2 := by
      unfold qAct
      rw [if_neg (by decide)]
    rw [hq]
    rcases qB_act hw hn with e | ⟨b, hb, ⟨e, -, e2⟩ | ⟨e, e2⟩ | ⟨e, e2⟩⟩
    · left
      rw [e]
      rfl
    · exact Or.inr ⟨b, hb, Or.inl ⟨by rw [e]; exact wN_zI (by omega), e2⟩⟩
    · exact Or.inr ⟨b, hb, Or.inr (Or.inl ⟨by rw [e]; exact wN_zI (by omega), e2⟩)⟩
    · exact Or.inr ⟨b, hb, Or.inr (Or.inr ⟨by rw [e]; exact wN_zI (by omega), e2⟩)⟩
/-- what is done, as the loop of a run finds it -/
theorem r_act {br : Bool} {p : Int64} {v4 v5 : Option Value} (hG : qG (u.1 1)) (hw : qHw (u.1 1)) (hF : mFr u) : ∃ u' x4, am_I X (am_f X (d + 30)) 266 2 [some (.ref o), some (.int (zB br)), some (.long p), none, v4, v5] [] (mH h o u, z) = am_I X (am_f X (d + 30)) 266 43 [some (.ref o), some (.int (zB br)), some (.long p), none, some (.int x4), some (.int (zI (qAct br (u.1 1))))] [] (mH h o u', z) ∧ mRu u u' ∧ u'.1 1 = u.1 1 ∧ u'.2.2.1 36 = u.2.2.1 36 := by
  have hq := qW_of2 hG hw
  have hn := hG.nn
  cases br with
  | true =>
    obtain ⟨x, y, hr⟩ := r_ruled (X := X) (h := h) (o := o) (d := d + 26) (u := u) (z := z) hG hq
    rcases qArl_inv hn with e | ⟨b, e1, e2, e3, e4⟩
    · refine ⟨mJ (mJ u 25 x) 26 y, -4, ?_, ⟨fun _ _ _ _ _ => rfl, fun _ _ => rfl, fun _ _ _ => rfl, hF⟩, rfl, rfl⟩
      rw [e.2] at hr
      rw [e.1, am_go dc_266_2]
      simp (disch := first | omega | exact ci_m | exact Nat.le_of_ble_eq_true rfl | (refine mF_lt ?_; omega)) only [own_266, am_go dc_266_0, J_lconst, i64_0, am_go dc_266_1, J_lstore_2, st2_0, st2_1, st2_s, kl_i, kl_l, kl_r, kl_n, J_iload_1, K_il, ld_1, am_go dc_266_3, J_if_eq, am_go dc_266_6, J_aload_0, K_al, ld_0, am_go dc_266_7, cv_12_236_12 own_266, JR_v, JR_0, JR_ite, ci1_r, am_go dc_266_10, J_goto, am_go dc_266_13, J_iconst, c32_0, am_go dc_266_14, J_istore, st1_0, st1_1, st1_s, am_go dc_266_16, am_go dc_266_17, am_go dc_266_20, J_iload, ld_4, am_go dc_266_22, J_if_ge, am_go dc_266_25, am_go dc_266_26, am_go dc_266_29, J_bipush, c8_10, am_go dc_266_31, am_go dc_266_33, J_iadd, am_go dc_266_34, am_go dc_266_37, am_go dc_266_38, cv_12_262_12 own_266, am_go dc_266_41, ld_5, am_go dc_266_45, J_if_ne, am_go dc_266_48, am_go dc_266_49, cv_12_204_12 own_266, am_go dc_266_52, J_i2l, am_go dc_266_53, J_lload_2, K_ll, ld_2, am_go dc_266_54, J_lsub, am_go dc_266_55, J_ret_l ret_266, am_go dc_266_56, am_go dc_266_58, am_go dc_266_60, J_irem, am_go dc_266_61, am_go dc_266_63, am_go dc_266_65, c8_30, am_go dc_266_67, J_icmp_lt, am_go dc_266_70, am_go dc_266_71, am_go dc_266_73, am_go dc_266_74, am_go dc_266_76, cv_12_309_12 own_266, am_go dc_266_79, cv_12_186_12 own_266, am_go dc_266_82, am_go dc_266_83, am_go dc_266_84, am_go dc_266_85, am_go dc_266_86, am_go dc_266_88, c8_20, am_go dc_266_90, J_icmp_ge, am_go dc_266_93, am_go dc_266_94, am_go dc_266_95, am_go dc_266_97, c32_1, am_go dc_266_98, cv_12_79_12 own_266, am_go dc_266_101, am_go dc_266_102, J_ladd, am_go dc_266_103, am_go dc_266_104, am_go dc_266_105, am_go dc_266_107, c32_3, am_go dc_266_108, am_go dc_266_109, am_go dc_266_111, am_go dc_266_114, am_go dc_266_115, cv_12_154_12 own_266, am_go dc_266_118, am_go dc_266_121, am_go dc_266_122, am_go dc_266_123, am_go dc_266_125, c32_4, am_go dc_266_126, am_go dc_266_129, am_go dc_266_130, am_go dc_266_131, am_go dc_266_132, am_go dc_266_133, am_go dc_266_135, am_go dc_266_136, c8_100, am_go dc_266_138, cv_12_306_12 own_266, am_go dc_266_141, am_go dc_266_142, am_go dc_266_144, am_go dc_266_145, cv_12_195_12 own_266, am_go dc_266_148, am_go dc_266_151, am_go dc_266_152, am_go dc_266_155, c32_2, am_go dc_266_156, am_go dc_266_159, mH_o, zI_add, zI_mul, zI_lt, zI_le, zI_eq, zI_neg, zI_pos, zI_ne0, zI_gt0, zB_0, lg_cmp_ge, lg_cmp_le, lg_cmp_gt, lg_cmp_lt, lg_cmp_eq, ail_r, abl_r, all_r, ais_r, abs_r, als_r, mF_len, hr, m4_lt2, Bool.true_eq_false, i8_m4, List.length_cons, List.length_nil, Nat.reduceAdd, Nat.reduceLT, Nat.reduceLeDiff, Nat.reduceEqDiff, ↓reduceIte, bind_s, if_true, if_false, not_true_eq_false, not_false_eq_true, Nat.zero_add]
    · refine ⟨mJ (mJ u 25 x) 26 y, zI b, ?_, ⟨fun _ _ _ _ _ => rfl, fun _ _ => rfl, fun _ _ _ => rfl, hF⟩, rfl, rfl⟩
      have := hn.1
      rw [e3] at hr
      rw [e4, am_go dc_266_2]
      simp (disch := first | omega | exact ci_m | exact Nat.le_of_ble_eq_true rfl | (refine mF_lt ?_; omega)) only [own_266, am_go dc_266_0, J_lconst, i64_0, am_go dc_266_1, J_lstore_2, st2_0, st2_1, st2_s, kl_i, kl_l, kl_r, kl_n, J_iload_1, K_il, ld_1, am_go dc_266_3, J_if_eq, am_go dc_266_6, J_aload_0, K_al, ld_0, am_go dc_266_7, cv_12_236_12 own_266, JR_v, JR_0, JR_ite, ci1_r, am_go dc_266_10, J_goto, am_go dc_266_13, J_iconst, c32_0, am_go dc_266_14, J_istore, st1_0, st1_1, st1_s, am_go dc_266_16, am_go dc_266_17, am_go dc_266_20, J_iload, ld_4, am_go dc_266_22, J_if_ge, am_go dc_266_25, am_go dc_266_26, am_go dc_266_29, J_bipush, c8_10, am_go dc_266_31, am_go dc_266_33, J_iadd, am_go dc_266_34, am_go dc_266_37, am_go dc_266_38, cv_12_262_12 own_266, am_go dc_266_41, ld_5, am_go dc_266_45, J_if_ne, am_go dc_266_48, am_go dc_266_49, cv_12_204_12 own_266, am_go dc_266_52, J_i2l, am_go dc_266_53, J_lload_2, K_ll, ld_2, am_go dc_266_54, J_lsub, am_go dc_266_55, J_ret_l ret_266, am_go dc_266_56, am_go dc_266_58, am_go dc_266_60, J_irem, am_go dc_266_61, am_go dc_266_63, am_go dc_266_65, c8_30, am_go dc_266_67, J_icmp_lt, am_go dc_266_70, am_go dc_266_71, am_go dc_266_73, am_go dc_266_74, am_go dc_266_76, cv_12_309_12 own_266, am_go dc_266_79, cv_12_186_12 own_266, am_go dc_266_82, am_go dc_266_83, am_go dc_266_84, am_go dc_266_85, am_go dc_266_86, am_go dc_266_88, c8_20, am_go dc_266_90, J_icmp_ge, am_go dc_266_93, am_go dc_266_94, am_go dc_266_95, am_go dc_266_97, c32_1, am_go dc_266_98, cv_12_79_12 own_266, am_go dc_266_101, am_go dc_266_102, J_ladd, am_go dc_266_103, am_go dc_266_104, am_go dc_266_105, am_go dc_266_107, c32_3, am_go dc_266_108, am_go dc_266_109, am_go dc_266_111, am_go dc_266_114, am_go dc_266_115, cv_12_154_12 own_266, am_go dc_266_118, am_go dc_266_121, am_go dc_266_122, am_go dc_266_123, am_go dc_266_125, c32_4, am_go dc_266_126, am_go dc_266_129, am_go dc_266_130, am_go dc_266_131, am_go dc_266_132, am_go dc_266_133, am_go dc_266_135, am_go dc_266_136, c8_100, am_go dc_266_138, cv_12_306_12 own_266, am_go dc_266_141, am_go dc_266_142, am_go dc_266_144, am_go dc_266_145, cv_12_195_12 own_266, am_go dc_266_148, am_go dc_266_151, am_go dc_266_152, am_go dc_266_155, c32_2, am_go dc_266_156, am_go dc_266_159, mH_o, zI_add, zI_mul, zI_lt, zI_le, zI_eq, zI_neg, zI_pos, zI_ne0, zI_gt0, zB_0, lg_cmp_ge, lg_cmp_le, lg_cmp_gt, lg_cmp_lt, lg_cmp_eq, ail_r, abl_r, all_r, ais_r, abs_r, als_r, mF_len, hr, Bool.true_eq_false, List.length_cons, List.length_nil, Nat.reduceAdd, Nat.reduceLT, Nat.reduceLeDiff, Nat.reduceEqDiff, ↓reduceIte, bind_s, if_true, if_false, not_true_eq_false, not_false_eq_true, Nat.zero_add]
  | false =>
    obtain ⟨u', k1, k2⟩ := r_doesNow (X := X) (h := h) (o := o) (d := d) (u := u) (z := z) hG hw hF
    refine ⟨u', zI 0, ?_, mRu.ed k2, k2.1.s, k2.1.2 36 (by omega)⟩
    have hz : zI (qAct false (u.1 1)) = (qB (u.1 1)).2 := by
      unfold qAct
      rw [if_neg (by decide)]
      rcases qB_act hw hn with e | ⟨b, hb, ⟨e, -⟩ | ⟨e, -⟩ | ⟨e, -⟩⟩
      · rw [e, wN_zI (by omega)]
      · have := hn.1
        rw [e, wN_zI (by omega)]
      · have := hn.1
        rw [e, wN_zI (by omega)]
      · have := hn.1
        rw [e, wN_zI (by omega)]
    rw [hz, am_go dc_266_2]
    simp (disch := first | omega | exact ci_m | exact Nat.le_of_ble_eq_true rfl | (refine mF_lt ?_; omega)) only [own_266, am_go dc_266_0, J_lconst, i64_0, am_go dc_266_1, J_lstore_2, st2_0, st2_1, st2_s, kl_i, kl_l, kl_r, kl_n, J_iload_1, K_il, ld_1, am_go dc_266_3, J_if_eq, am_go dc_266_6, J_aload_0, K_al, ld_0, am_go dc_266_7, cv_12_236_12 own_266, JR_v, JR_0, JR_ite, ci1_r, am_go dc_266_10, J_goto, am_go dc_266_13, J_iconst, c32_0, am_go dc_266_14, J_istore, st1_0, st1_1, st1_s, am_go dc_266_16, am_go dc_266_17, am_go dc_266_20, J_iload, ld_4, am_go dc_266_22, J_if_ge, am_go dc_266_25, am_go dc_266_26, am_go dc_266_29, J_bipush, c8_10, am_go dc_266_31, am_go dc_266_33, J_iadd, am_go dc_266_34, am_go dc_266_37, am_go dc_266_38, cv_12_262_12 own_266, am_go dc_266_41, ld_5, am_go dc_266_45, J_if_ne, am_go dc_266_48, am_go dc_266_49, cv_12_204_12 own_266, am_go dc_266_52, J_i2l, am_go dc_266_53, J_lload_2, K_ll, ld_2, am_go dc_266_54, J_lsub, am_go dc_266_55, J_ret_l ret_266, am_go dc_266_56, am_go dc_266_58, am_go dc_266_60, J_irem, am_go dc_266_61, am_go dc_266_63, am_go dc_266_65, c8_30, am_go dc_266_67, J_icmp_lt, am_go dc_266_70, am_go dc_266_71, am_go dc_266_73, am_go dc_266_74, am_go dc_266_76, cv_12_309_12 own_266, am_go dc_266_79, cv_12_186_12 own_266, am_go dc_266_82, am_go dc_266_83, am_go dc_266_84, am_go dc_266_85, am_go dc_266_86, am_go dc_266_88, c8_20, am_go dc_266_90, J_icmp_ge, am_go dc_266_93, am_go dc_266_94, am_go dc_266_95, am_go dc_266_97, c32_1, am_go dc_266_98, cv_12_79_12 own_266, am_go dc_266_101, am_go dc_266_102, J_ladd, am_go dc_266_103, am_go dc_266_104, am_go dc_266_105, am_go dc_266_107, c32_3, am_go dc_266_108, am_go dc_266_109, am_go dc_266_111, am_go dc_266_114, am_go dc_266_115, cv_12_154_12 own_266, am_go dc_266_118, am_go dc_266_121, am_go dc_266_122, am_go dc_266_123, am_go dc_266_125, c32_4, am_go dc_266_126, am_go dc_266_129, am_go dc_266_130, am_go dc_266_131, am_go dc_266_132, am_go dc_266_133, am_go dc_266_135, am_go dc_266_136, c8_100, am_go dc_266_138, cv_12_306_12 own_266, am_go dc_266_141, am_go dc_266_142, am_go dc_266_144, am_go dc_266_145, cv_12_195_12 own_266, am_go dc_266_148, am_go dc_266_151, am_go dc_266_152, am_go dc_266_155, c32_2, am_go dc_266_156, am_go dc_266_159, mH_o, zI_add, zI_mul, zI_lt, zI_le, zI_eq, zI_neg, zI_pos, zI_ne0, zI_gt0, zB_0, lg_cmp_ge, lg_cmp_le, lg_cmp_gt, lg_cmp_lt, lg_cmp_eq, ail_r, abl_r, all_r, ais_r, abs_r, als_r, mF_len, k1, zB_f, Bool.false_eq_true, List.length_cons, List.length_nil, Nat.reduceAdd, Nat.reduceLT, Nat.reduceLeDiff, Nat.reduceEqDiff, ↓reduceIte, bind_s, if_true, if_false, not_true_eq_false, not_false_eq_true, Nat.zero_add]
theorem r_runs_l {br : Bool} : ∀ (N : Nat) (p : Int64) (v4 v5 : Option Value) (u : mU), qG (u.1 1) → qRv (u.1 1) → mFr u → meas (u.1 1) < N → ∃ u', am_I X (am_f X (d + 30)) 266 2 [some (.ref o), some (.int (zB br)), some (.long p), none, v4, v5] [] (mH h o u, z) = some (.inl (some (.long (qRn br N (u.1 1) (u.2.2.1 36) p))), (mH h o u', z)) ∧ mRu u u' := by
  intro N
  induction N with
  | zero =>
    intro p v4 v5 u hG hv hF hN
    omega
  | succ N ih =>
    intro p v4 v5 u hG hv hF hN
    have hw := hv.1
    have hq := qW_of2 hG hw
    have hm5 := hG.m.2
    obtain ⟨u1, x4, g1, g2, g3, g4⟩ := r_act (X := X) (h := h) (o := o) (d := d) (u := u) (z := z) (br := br) (p := p) (v4 := v4) (v5 := v5) hG hw hF
    rw [g1]
    have hhs : ∀ d, am_f X (d + 3) 225 [.ref o] (mH h o u1, z) = some (.inl (some (.int (qHas (u.1 1)))), (mH h o u1, z)) := fun d => by
      rw [r_has (by rw [g3]; exact hq), g3]
    have hof : ∀ d b k, 18 * b + k < 118 → am_f X (d + 1) 208 [.ref o, .int (zI b), .int (zI k)] (mH h o u1, z) = some (.inl (some (.int (u.1 1 (18 * b + k)))), (mH h o u1, z)) := fun d b k hk => by
      rw [r_of hk, g3]
    unfold qRn
    rcases qAct_inv (br := br) hw hG.nn with e | ⟨b, hb, ⟨e, e2⟩ | ⟨e, e2⟩ | ⟨e, e2⟩⟩
    · refine ⟨u1, ?_, g2⟩
      rw [e, if_pos rfl, am_go dc_266_43]
      simp (disch := first | omega | exact ci_m | exact Nat.le_of_ble_eq_true rfl | (refine mF_lt ?_; omega)) only [own_266, am_go dc_266_0, J_lconst, i64_0, am_go dc_266_1, J_lstore_2, st2_0, st2_1, st2_s, kl_i, kl_l, kl_r, kl_n, J_iload_1, K_il, ld_1, am_go dc_266_3, J_if_eq, am_go dc_266_6, J_aload_0, K_al, ld_0, am_go dc_266_7, cv_12_236_12 own_266, JR_v, JR_0, JR_ite, ci1_r, am_go dc_266_10, J_goto, am_go dc_266_13, J_iconst, c32_0, am_go dc_266_14, J_istore, st1_0, st1_1, st1_s, am_go dc_266_16, am_go dc_266_17, am_go dc_266_20, J_iload, ld_4, am_go dc_266_22, J_if_ge, am_go dc_266_25, am_go dc_266_26, am_go dc_266_29, J_bipush, c8_10, am_go dc_266_31, am_go dc_266_33, J_iadd, am_go dc_266_34, am_go dc_266_37, am_go dc_266_38, cv_12_262_12 own_266, am_go dc_266_41, am_go dc_266_43, ld_5, am_go dc_266_45, J_if_ne, am_go dc_266_48, am_go dc_266_49, cv_12_204_12 own_266, am_go dc_266_52, J_i2l, am_go dc_266_53, J_lload_2, K_ll, ld_2, am_go dc_266_54, J_lsub, am_go dc_266_55, J_ret_l ret_266, am_go dc_266_56, am_go dc_266_58, am_go dc_266_60, J_irem, am_go dc_266_61, am_go dc_266_63, am_go dc_266_65, c8_30, am_go dc_266_67, J_icmp_lt, am_go dc_266_70, am_go dc_266_71, am_go dc_266_73, am_go dc_266_74, am_go dc_266_76, cv_12_309_12 own_266, am_go dc_266_79, cv_12_186_12 own_266, am_go dc_266_82, am_go dc_266_83, am_go dc_266_84, am_go dc_266_85, am_go dc_266_86, am_go dc_266_88, c8_20, am_go dc_266_90, J_icmp_ge, am_go dc_266_93, am_go dc_266_94, am_go dc_266_95, am_go dc_266_97, c32_1, am_go dc_266_98, cv_12_79_12 own_266, am_go dc_266_101, am_go dc_266_102, J_ladd, am_go dc_266_103, am_go dc_266_104, am_go dc_266_105, am_go dc_266_107, c32_3, am_go dc_266_108, am_go dc_266_109, am_go dc_266_111, am_go dc_266_114, am_go dc_266_115, cv_12_154_12 own_266, am_go dc_266_118, am_go dc_266_121, am_go dc_266_122, am_go dc_266_123, am_go dc_266_125, c32_4, am_go dc_266_126, am_go dc_266_129, am_go dc_266_130, am_go dc_266_131, am_go dc_266_132, am_go dc_266_133, am_go dc_266_135, am_go dc_266_136, c8_100, am_go dc_266_138, cv_12_306_12 own_266, am_go dc_266_141, am_go dc_266_142, am_go dc_266_144, am_go dc_266_145, cv_12_195_12 own_266, am_go dc_266_148, am_go dc_266_151, am_go dc_266_152, am_go dc_266_155, c32_2, am_go dc_266_156, am_go dc_266_159, mH_o, zI_add, zI_mul, zI_lt, zI_le, zI_eq, zI_neg, zI_pos, zI_ne0, zI_gt0, zB_0, lg_cmp_ge, lg_cmp_le, lg_cmp_gt, lg_cmp_lt, lg_cmp_eq, ail_r, abl_r, all_r, ais_r, abs_r, als_r, mF_len, hhs, List.length_cons, List.length_nil, Nat.reduceAdd, Nat.reduceLT, Nat.reduceLeDiff, Nat.reduceEqDiff, ↓reduceIte, bind_s, if_true, if_false, not_true_eq_false, not_false_eq_true, Nat.zero_add]
    · have hb5 : b < 5 := by omega
      have hr := (rem_10 b hb5).2.2
      have hsa := (qSa_pos hG hb hv).1
      have hdr := fun d => r_drawn (X := X) (h := h) (o := o) (d := d) (u := u1) (z := z) (b := b) (by rw [g3]; exact hG) (by rw [g3]; exact hw) (by rw [g3]; exact hb) (by rw [g3]; exact hsa)
      rw [g3, g4] at hdr
      have hdi : qDw (qSn (u.1 1) b) (wN (u.1 1 (18 * b + 3))) 0 (qLot (qSeed (u.2.2.1 36)) (qSa (u.1 1) b)) = qDi (u.1 1) b (qSeed (u.2.2.1 36)) := rfl
      have hlt := qDw_lt (s := qSn (u.1 1) b) (wN (u.1 1 (18 * b + 3))) 0 (qLot (qSeed (u.2.2.1 36)) (qSa (u.1 1) b)) (Nat.mod_lt _ hsa)
      rw [hdi] at hlt hdr
      have hn4 := (hG.n hb).2.2
      have hd4 : qDi (u.1 1) b (qSeed (u.2.2.1 36)) < 4 := by omega
      have hne : ¬ 30 + b = 0 := by omega
      have hl : ¬ 30 + b < 30 := by omega
      refine ⟨mI u1 36 (qSeed (u.2.2.1 36)), ?_, g2.tr (mRu.I g2.2.2.2)⟩
      rw [e, if_neg hne, if_pos (by omega), show (30 + b) % 10 = b by omega, am_go dc_266_43]
      simp (disch := first | omega | exact ci_m | exact Nat.le_of_ble_eq_true rfl | (refine mF_lt ?_; omega)) only [own_266, am_go dc_266_0, J_lconst, i64_0, am_go dc_266_1, J_lstore_2, st2_0, st2_1, st2_s, kl_i, kl_l, kl_r, kl_n, J_iload_1, K_il, ld_1, am_go dc_266_3, J_if_eq, am_go dc_266_6, J_aload_0, K_al, ld_0, am_go dc_266_7, cv_12_236_12 own_266, JR_v, JR_0, JR_ite, ci1_r, am_go dc_266_10, J_goto, am_go dc_266_13, J_iconst, c32_0, am_go dc_266_14, J_istore, st1_0, st1_1, st1_s, am_go dc_266_16, am_go dc_266_17, am_go dc_266_20, J_iload, ld_4, am_go dc_266_22, J_if_ge, am_go dc_266_25, am_go dc_266_26, am_go dc_266_29, J_bipush, c8_10, am_go dc_266_31, am_go dc_266_33, J_iadd, am_go dc_266_34, am_go dc_266_37, am_go dc_266_38, cv_12_262_12 own_266, am_go dc_266_41, am_go dc_266_43, ld_5, am_go dc_266_45, J_if_ne, am_go dc_266_48, am_go dc_266_49, cv_12_204_12 own_266, am_go dc_266_52, J_i2l, am_go dc_266_53, J_lload_2, K_ll, ld_2, am_go dc_266_54, J_lsub, am_go dc_266_55, J_ret_l ret_266, am_go dc_266_56, am_go dc_266_58, am_go dc_266_60, J_irem, am_go dc_266_61, am_go dc_266_63, am_go dc_266_65, c8_30, am_go dc_266_67, J_icmp_lt, am_go dc_266_70, am_go dc_266_71, am_go dc_266_73, am_go dc_266_74, am_go dc_266_76, cv_12_309_12 own_266, am_go dc_266_79, cv_12_186_12 own_266, am_go dc_266_82, am_go dc_266_83, am_go dc_266_84, am_go dc_266_85, am_go dc_266_86, am_go dc_266_88, c8_20, am_go dc_266_90, J_icmp_ge, am_go dc_266_93, am_go dc_266_94, am_go dc_266_95, am_go dc_266_97, c32_1, am_go dc_266_98, cv_12_79_12 own_266, am_go dc_266_101, am_go dc_266_102, J_ladd, am_go dc_266_103, am_go dc_266_104, am_go dc_266_105, am_go dc_266_107, c32_3, am_go dc_266_108, am_go dc_266_109, am_go dc_266_111, am_go dc_266_114, am_go dc_266_115, cv_12_154_12 own_266, am_go dc_266_118, am_go dc_266_121, am_go dc_266_122, am_go dc_266_123, am_go dc_266_125, c32_4, am_go dc_266_126, am_go dc_266_129, am_go dc_266_130, am_go dc_266_131, am_go dc_266_132, am_go dc_266_133, am_go dc_266_135, am_go dc_266_136, c8_100, am_go dc_266_138, cv_12_306_12 own_266, am_go dc_266_141, am_go dc_266_142, am_go dc_266_144, am_go dc_266_145, cv_12_195_12 own_266, am_go dc_266_148, am_go dc_266_151, am_go dc_266_152, am_go dc_266_155, c32_2, am_go dc_266_156, am_go dc_266_159, mH_o, zI_add, zI_mul, zI_lt, zI_le, zI_eq, zI_neg, zI_pos, zI_ne0, zI_gt0, zB_0, lg_cmp_ge, lg_cmp_le, lg_cmp_gt, lg_cmp_lt, lg_cmp_eq, ail_r, abl_r, all_r, ais_r, abs_r, als_r, mF_len, hr, hl, hne, hdr, r_worth, List.length_cons, List.length_nil, Nat.reduceAdd, Nat.reduceLT, Nat.reduceLeDiff, Nat.reduceEqDiff, ↓reduceIte, bind_s, if_true, if_false, not_true_eq_false, not_false_eq_true, Nat.zero_add]
      rw [mI_1, g3]
    · have hb5 : b < 5 := by omega
      have hr := (rem_10 b hb5).1
      have hsa := (qSa_pos hG hb hv).1
      have hdr := fun d => r_drawn (X := X) (h := h) (o := o) (d := d) (u := u1) (z := z) (b := b) (by rw [g3]; exact hG) (by rw [g3]; exact hw) (by rw [g3]; exact hb) (by rw [g3]; exact hsa)
      rw [g3, g4] at hdr
      have hdi : qDw (qSn (u.1 1) b) (wN (u.1 1 (18 * b + 3))) 0 (qLot (qSeed (u.2.2.1 36)) (qSa (u.1 1) b)) = qDi (u.1 1) b (qSeed (u.2.2.1 36)) := rfl
      have hlt := qDw_lt (s := qSn (u.1 1) b) (wN (u.1 1 (18 * b + 3))) 0 (qLot (qSeed (u.2.2.1 36)) (qSa (u.1 1) b)) (Nat.mod_lt _ hsa)
      rw [hdi] at hlt hdr
      have hn4 := (hG.n hb).2.2
      have hd4 : qDi (u.1 1) b (qSeed (u.2.2.1 36)) < 4 := by omega
      have hne : ¬ 10 + b = 0 := by omega
      have hl : 10 + b < 30 := by omega
      have hl2 : ¬ 20 ≤ 10 + b := by omega
      have hlv := qMay_lev (i := qDi (u.1 1) b (qSeed (u.2.2.1 36))) hw hb5 e2
      have hms := meas_up hb5 (x := 3 + qDi (u.1 1) b (qSeed (u.2.2.1 36))) (by omega) hlv
      have hS2 : (mS (mI u1 36 (qSeed (u.2.2.1 36))) 1 (upd (u1.1 1) (90 + b) (zI (3 + qDi (u.1 1) b (qSeed (u.2.2.1 36)))))).1 1 = upd (u.1 1) (90 + b) (zI (3 + qDi (u.1 1) b (qSeed (u.2.2.1 36)))) := by rw [mS_s, g3]
      obtain ⟨u', l1, l2⟩ := ih (p + (u.1 1 (18 * b + 1)).toInt64) (some (.int (zI b))) (some (.int (zI (10 + b)))) (mS (mI u1 36 (qSeed (u.2.2.1 36))) 1 (upd (u1.1 1) (90 + b) (zI (3 + qDi (u.1 1) b (qSeed (u.2.2.1 36)))))) (by rw [hS2]; exact qG_x (qA0.up hb5) hG) (by rw [hS2]; exact hv.up hG hb5 (by omega) (by omega) (by omega)) (g2.2.2.2.put hb5) (by rw [hS2]; omega)
      rw [hS2] at l1
      refine ⟨u', ?_, g2.tr ((mRu.put g2.2.2.2 hb5).tr l2)⟩
      rw [e, if_neg hne, if_neg (by omega), if_pos (by omega), show (10 + b) % 10 = b by omega]
      refine Eq.trans ?_ l1
      rw [am_go dc_266_43]
      simp (disch := first | omega | exact ci_m | exact Nat.le_of_ble_eq_true rfl | (refine mF_lt ?_; omega)) only [own_266, am_go dc_266_0, J_lconst, i64_0, am_go dc_266_1, J_lstore_2, st2_0, st2_1, st2_s, kl_i, kl_l, kl_r, kl_n, J_iload_1, K_il, ld_1, am_go dc_266_3, J_if_eq, am_go dc_266_6, J_aload_0, K_al, ld_0, am_go dc_266_7, cv_12_236_12 own_266, JR_v, JR_0, JR_ite, ci1_r, am_go dc_266_10, J_goto, am_go dc_266_13, J_iconst, c32_0, am_go dc_266_14, J_istore, st1_0, st1_1, st1_s, am_go dc_266_16, am_go dc_266_17, am_go dc_266_20, J_iload, ld_4, am_go dc_266_22, J_if_ge, am_go dc_266_25, am_go dc_266_26, am_go dc_266_29, J_bipush, c8_10, am_go dc_266_31, am_go dc_266_33, J_iadd, am_go dc_266_34, am_go dc_266_37, am_go dc_266_38, cv_12_262_12 own_266, am_go dc_266_41, am_go dc_266_43, ld_5, am_go dc_266_45, J_if_ne, am_go dc_266_48, am_go dc_266_49, cv_12_204_12 own_266, am_go dc_266_52, J_i2l, am_go dc_266_53, J_lload_2, K_ll, ld_2, am_go dc_266_54, J_lsub, am_go dc_266_55, J_ret_l ret_266, am_go dc_266_56, am_go dc_266_58, am_go dc_266_60, J_irem, am_go dc_266_61, am_go dc_266_63, am_go dc_266_65, c8_30, am_go dc_266_67, J_icmp_lt, am_go dc_266_70, am_go dc_266_71, am_go dc_266_73, am_go dc_266_74, am_go dc_266_76, cv_12_309_12 own_266, am_go dc_266_79, cv_12_186_12 own_266, am_go dc_266_82, am_go dc_266_83, am_go dc_266_84, am_go dc_266_85, am_go dc_266_86, am_go dc_266_88, c8_20, am_go dc_266_90, J_icmp_ge, am_go dc_266_93, am_go dc_266_94, am_go dc_266_95, am_go dc_266_97, c32_1, am_go dc_266_98, cv_12_79_12 own_266, am_go dc_266_101, am_go dc_266_102, J_ladd, am_go dc_266_103, am_go dc_266_104, am_go dc_266_105, am_go dc_266_107, c32_3, am_go dc_266_108, am_go dc_266_109, am_go dc_266_111, am_go dc_266_114, am_go dc_266_115, cv_12_154_12 own_266, am_go dc_266_118, am_go dc_266_121, am_go dc_266_122, am_go dc_266_123, am_go dc_266_125, c32_4, am_go dc_266_126, am_go dc_266_129, am_go dc_266_130, am_go dc_266_131, am_go dc_266_132, am_go dc_266_133, am_go dc_266_135, am_go dc_266_136, c8_100, am_go dc_266_138, cv_12_306_12 own_266, am_go dc_266_141, am_go dc_266_142, am_go dc_266_144, am_go dc_266_145, cv_12_195_12 own_266, am_go dc_266_148, am_go dc_266_151, am_go dc_266_152, am_go dc_266_155, c32_2, am_go dc_266_156, am_go dc_266_159, mH_o, zI_add, zI_mul, zI_lt, zI_le, zI_eq, zI_neg, zI_pos, zI_ne0, zI_gt0, zB_0, lg_cmp_ge, lg_cmp_le, lg_cmp_gt, lg_cmp_lt, lg_cmp_eq, ail_r, abl_r, all_r, ais_r, abs_r, als_r, mF_len, hr, hl, hl2, hne, hof, hdr, r_puts, mI_1, List.length_cons, List.length_nil, Nat.reduceAdd, Nat.reduceLT, Nat.reduceLeDiff, Nat.reduceEqDiff, ↓reduceIte, bind_s, if_true, if_false, not_true_eq_false, not_false_eq_true, Nat.zero_add]
    · have hb5 : b < 5 := by omega
      have hr := (rem_10 b hb5).2.1
      have hdr := fun d => r_draws (X := X) (h := h) (o := o) (d := d) (u := u1) (z := z) (n := 100) (by omega) (by omega)
      rw [g4] at hdr
      have hcc : ∀ d, am_f X (d + 2) 223 [.ref o, .int (zI b), .int (zI 0)] (mH h o (mI u1 36 (qSeed (u.2.2.1 36))), z) = some (.inl (some (.int (qChance (u.1 1) b 0))), (mH h o (mI u1 36 (qSeed (u.2.2.1 36))), z)) := fun d => by
        rw [r_chance (by show qW (u1.1 1); rw [g3]; exact hq) (by show b < wN (u1.1 1 116); rw [g3]; exact hb) (by omega), mI_1, g3]
      have hk1 : u.1 1 (18 * b) = zI 1 := by
        unfold qPeep at e2
        simp only [Bool.and_eq_true, decide_eq_true_eq] at e2
        exact e2.1
      obtain ⟨hc1, hc2⟩ := (qCh_ok hG hb).1 0 (hG.n hb).2.1
      have hlot : qLot (qSeed (u.2.2.1 36)) 100 < 100 := Nat.mod_lt _ (by omega)
      have hcp := qCh_peep (i := 0) hG hb hk1
      rw [hc1] at hcc
      have hne : ¬ 20 + b = 0 := by omega
      have hl : 20 + b < 30 := by omega
      have hl2 : 20 ≤ 20 + b := by omega
      obtain ⟨x, hx1, hx2, hx3, hx4⟩ : ∃ x, (if qLot (qSeed (u.2.2.1 36)) 100 < wN (qChance (u.1 1) b 0) then zI 1 else zI 2) = zI x ∧ 1 ≤ x ∧ x ≤ 2 ∧ (x = 2 → u.1 1 (18 * b + 10) ≠ zI 100) := by
        by_cases c : qLot (qSeed (u.2.2.1 36)) 100 < wN (qChance (u.1 1) b 0)
        · exact ⟨1, by rw [if_pos c], by omega, by omega, by omega⟩
        · refine ⟨2, by rw [if_neg c], by omega, by omega, fun _ e => ?_⟩
          rw [hcp, Nat.add_zero, e, wN_zI (by omega)] at c
          omega
      have hlv := qPeep_lev (k := x) hx2 e2
      have hms := meas_up hb5 (x := x) (by omega) hlv
      have hS2 : (mS (mI u1 36 (qSeed (u.2.2.1 36))) 1 (upd (u1.1 1) (90 + b) (zI x))).1 1 = upd (u.1 1) (90 + b) (zI x) := by rw [mS_s, g3]
      obtain ⟨u', l1, l2⟩ := ih (p + (u.1 1 (18 * b + 4)).toInt64) (some (.int (zI b))) (some (.int (zI (20 + b)))) (mS (mI u1 36 (qSeed (u.2.2.1 36))) 1 (upd (u1.1 1) (90 + b) (zI x))) (by rw [hS2]; exact qG_x (qA0.up hb5) hG) (by rw [hS2]; exact hv.up hG hb5 (by omega) (fun _ => hk1) hx4) (g2.2.2.2.put hb5) (by rw [hS2]; omega)
      rw [hS2] at l1
      refine ⟨u', ?_, g2.tr ((mRu.put g2.2.2.2 hb5).tr l2)⟩
      rw [e, if_neg hne, if_neg (by omega), if_neg (by omega), show (20 + b) % 10 = b by omega, hx1]
      refine Eq.trans ?_ l1
      rw [am_go dc_266_43]
      by_cases c : qLot (qSeed (u.2.2.1 36)) 100 < wN (qChance (u.1 1) b 0)
      · have c' : ¬ wN (qChance (u.1 1) b 0) ≤ qLot (qSeed (u.2.2.1 36)) 100 := by omega
        rw [if_pos c] at hx1
        rw [← hx1]
        simp (disch := first | omega | exact ci_m | exact Nat.le_of_ble_eq_true rfl | (refine mF_lt ?_; omega)) only [own_266, am_go dc_266_0, J_lconst, i64_0, am_go dc_266_1, J_lstore_2, st2_0, st2_1, st2_s, kl_i, kl_l, kl_r, kl_n, J_iload_1, K_il, ld_1, am_go dc_266_3, J_if_eq, am_go dc_266_6, J_aload_0, K_al, ld_0, am_go dc_266_7, cv_12_236_12 own_266, JR_v, JR_0, JR_ite, ci1_r, am_go dc_266_10, J_goto, am_go dc_266_13, J_iconst, c32_0, am_go dc_266_14, J_istore, st1_0, st1_1, st1_s, am_go dc_266_16, am_go dc_266_17, am_go dc_266_20, J_iload, ld_4, am_go dc_266_22, J_if_ge, am_go dc_266_25, am_go dc_266_26, am_go dc_266_29, J_bipush, c8_10, am_go dc_266_31, am_go dc_266_33, J_iadd, am_go dc_266_34, am_go dc_266_37, am_go dc_266_38, cv_12_262_12 own_266, am_go dc_266_41, am_go dc_266_43, ld_5, am_go dc_266_45, J_if_ne, am_go dc_266_48, am_go dc_266_49, cv_12_204_12 own_266, am_go dc_266_52, J_i2l, am_go dc_266_53, J_lload_2, K_ll, ld_2, am_go dc_266_54, J_lsub, am_go dc_266_55, J_ret_l ret_266, am_go dc_266_56, am_go dc_266_58, am_go dc_266_60, J_irem, am_go dc_266_61, am_go dc_266_63, am_go dc_266_65, c8_30, am_go dc_266_67, J_icmp_lt, am_go dc_266_70, am_go dc_266_71, am_go dc_266_73, am_go dc_266_74, am_go dc_266_76, cv_12_309_12 own_266, am_go dc_266_79, cv_12_186_12 own_266, am_go dc_266_82, am_go dc_266_83, am_go dc_266_84, am_go dc_266_85, am_go dc_266_86, am_go dc_266_88, c8_20, am_go dc_266_90, J_icmp_ge, am_go dc_266_93, am_go dc_266_94, am_go dc_266_95, am_go dc_266_97, c32_1, am_go dc_266_98, cv_12_79_12 own_266, am_go dc_266_101, am_go dc_266_102, J_ladd, am_go dc_266_103, am_go dc_266_104, am_go dc_266_105, am_go dc_266_107, c32_3, am_go dc_266_108, am_go dc_266_109, am_go dc_266_111, am_go dc_266_114, am_go dc_266_115, cv_12_154_12 own_266, am_go dc_266_118, am_go dc_266_121, am_go dc_266_122, am_go dc_266_123, am_go dc_266_125, c32_4, am_go dc_266_126, am_go dc_266_129, am_go dc_266_130, am_go dc_266_131, am_go dc_266_132, am_go dc_266_133, am_go dc_266_135, am_go dc_266_136, c8_100, am_go dc_266_138, cv_12_306_12 own_266, am_go dc_266_141, am_go dc_266_142, am_go dc_266_144, am_go dc_266_145, cv_12_195_12 own_266, am_go dc_266_148, am_go dc_266_151, am_go dc_266_152, am_go dc_266_155, c32_2, am_go dc_266_156, am_go dc_266_159, mH_o, zI_add, zI_mul, zI_lt, zI_le, zI_eq, zI_neg, zI_pos, zI_ne0, zI_gt0, zB_0, lg_cmp_ge, lg_cmp_le, lg_cmp_gt, lg_cmp_lt, lg_cmp_eq, ail_r, abl_r, all_r, ais_r, abs_r, als_r, mF_len, hr, hl, hl2, hne, hof, hdr, hcc, c', r_puts, mI_1, List.length_cons, List.length_nil, Nat.reduceAdd, Nat.reduceLT, Nat.reduceLeDiff, Nat.reduceEqDiff, ↓reduceIte, bind_s, if_true, if_false, not_true_eq_false, not_false_eq_true, Nat.zero_add]
      · have c' : wN (qChance (u.1 1) b 0) ≤ qLot (qSeed (u.2.2.1 36)) 100 := by omega
        rw [if_neg c] at hx1
        rw [← hx1]
        simp (disch := first | omega | exact ci_m | exact Nat.le_of_ble_eq_true rfl | (refine mF_lt ?_; omega)) only [own_266, am_go dc_266_0, J_lconst, i64_0, am_go dc_266_1, J_lstore_2, st2_0, st2_1, st2_s, kl_i, kl_l, kl_r, kl_n, J_iload_1, K_il, ld_1, am_go dc_266_3, J_if_eq, am_go dc_266_6, J_aload_0, K_al, ld_0, am_go dc_266_7, cv_12_236_12 own_266, JR_v, JR_0, JR_ite, ci1_r, am_go dc_266_10, J_goto, am_go dc_266_13, J_iconst, c32_0, am_go dc_266_14, J_istore, st1_0, st1_1, st1_s, am_go dc_266_16, am_go dc_266_17, am_go dc_266_20, J_iload, ld_4, am_go dc_266_22, J_if_ge, am_go dc_266_25, am_go dc_266_26, am_go dc_266_29, J_bipush, c8_10, am_go dc_266_31, am_go dc_266_33, J_iadd, am_go dc_266_34, am_go dc_266_37, am_go dc_266_38, cv_12_262_12 own_266, am_go dc_266_41, am_go dc_266_43, ld_5, am_go dc_266_45, J_if_ne, am_go dc_266_48, am_go dc_266_49, cv_12_204_12 own_266, am_go dc_266_52, J_i2l, am_go dc_266_53, J_lload_2, K_ll, ld_2, am_go dc_266_54, J_lsub, am_go dc_266_55, J_ret_l ret_266, am_go dc_266_56, am_go dc_266_58, am_go dc_266_60, J_irem, am_go dc_266_61, am_go dc_266_63, am_go dc_266_65, c8_30, am_go dc_266_67, J_icmp_lt, am_go dc_266_70, am_go dc_266_71, am_go dc_266_73, am_go dc_266_74, am_go dc_266_76, cv_12_309_12 own_266, am_go dc_266_79, cv_12_186_12 own_266, am_go dc_266_82, am_go dc_266_83, am_go dc_266_84, am_go dc_266_85, am_go dc_266_86, am_go dc_266_88, c8_20, am_go dc_266_90, J_icmp_ge, am_go dc_266_93, am_go dc_266_94, am_go dc_266_95, am_go dc_266_97, c32_1, am_go dc_266_98, cv_12_79_12 own_266, am_go dc_266_101, am_go dc_266_102, J_ladd, am_go dc_266_103, am_go dc_266_104, am_go dc_266_105, am_go dc_266_107, c32_3, am_go dc_266_108, am_go dc_266_109, am_go dc_266_111, am_go dc_266_114, am_go dc_266_115, cv_12_154_12 own_266, am_go dc_266_118, am_go dc_266_121, am_go dc_266_122, am_go dc_266_123, am_go dc_266_125, c32_4, am_go dc_266_126, am_go dc_266_129, am_go dc_266_130, am_go dc_266_131, am_go dc_266_132, am_go dc_266_133, am_go dc_266_135, am_go dc_266_136, c8_100, am_go dc_266_138, cv_12_306_12 own_266, am_go dc_266_141, am_go dc_266_142, am_go dc_266_144, am_go dc_266_145, cv_12_195_12 own_266, am_go dc_266_148, am_go dc_266_151, am_go dc_266_152, am_go dc_266_155, c32_2, am_go dc_266_156, am_go dc_266_159, mH_o, zI_add, zI_mul, zI_lt, zI_le, zI_eq, zI_neg, zI_pos, zI_ne0, zI_gt0, zB_0, lg_cmp_ge, lg_cmp_le, lg_cmp_gt, lg_cmp_lt, lg_cmp_eq, ail_r, abl_r, all_r, ais_r, abs_r, als_r, mF_len, hr, hl, hl2, hne, hof, hdr, hcc, c', r_puts, mI_1, List.length_cons, List.length_nil, Nat.reduceAdd, Nat.reduceLT, Nat.reduceLeDiff, Nat.reduceEqDiff, ↓reduceIte, bind_s, if_true, if_false, not_true_eq_false, not_false_eq_true, Nat.zero_add]
end M18
