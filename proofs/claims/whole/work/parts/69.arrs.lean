/-! Arrays; Place, written -/
def updrL (f : Nat → Int64) (a k : Nat) (g : Nat → Int64) : Nat → Int64 := fun j => if a ≤ j ∧ j < a + k then g (j - a) else f j
section AR
variable {X : am_X} {h H : am_H} {a d : Nat} {z : Nat × Nat}
theorem up_id {e : am_E} (hH : H a = some e) : am_up H a e = H := by
  funext q
  unfold am_up
  by_cases c : q = a
  · rw [if_pos c, c, hH]
  · rw [if_neg c]
theorem up_u {e e' : am_E} : am_up (am_up H a e) a e' = am_up H a e' := by
  funext q
  unfold am_up
  by_cases c : q = a
  · rw [if_pos c, if_pos c]
  · rw [if_neg c, if_neg c, if_neg c]
theorem upL_s {f : Nat → Int64} {k : Nat} {v : Int64} : vp_updL f k v k = v := by simp [vp_updL]
theorem upL_o {f : Nat → Int64} {k j : Nat} {v : Int64} (h : j ≠ k) : vp_updL f k v j = f j := by simp [vp_updL, h]
theorem a_fill_l {n : Nat} {x : Int32} (hn : n < 1000000) : ∀ (k i : Nat) (f : Nat → Int32), i + k = n → am_I X (am_f X d) 21 5 [some (.ref a), some (.int x), some (.int (zI i)), some (.int (zI n))] [] (am_up H a (.inl (.int, n, .inl f)), z) = some (.inl none, (am_up H a (.inl (.int, n, .inl (updr f i k (fun _ => x)))), z)) := by
  intro k
  induction k with
  | zero =>
    intro i f hi
    rw [am_go dc_21_5]
    simp (disch := first | omega | exact Nat.le_of_ble_eq_true rfl) only [own_21, am_go dc_21_0, J_iconst, c32_0, am_go dc_21_1, J_istore_2, st1_0, st1_1, st1_s, kl_i, kl_l, kl_r, kl_n, am_go dc_21_2, J_aload_0, K_al, ld_0, am_go dc_21_3, J_alen, am_go dc_21_4, J_istore_3, J_iload_2, K_il, ld_2, am_go dc_21_6, J_iload_3, ld_3, am_go dc_21_7, J_icmp_ge, am_go dc_21_10, am_go dc_21_11, am_go dc_21_12, J_iload_1, ld_1, am_go dc_21_13, J_iastore, am_go dc_21_14, J_iinc, pinc_go, c32_1, am_go dc_21_17, J_goto, am_go dc_21_20, J_ret_v ret_21, zI_add, zI_mul, zI_lt, zI_le, zI_eq, zI_neg, zI_pos, zI_ne0, zI_gt0, zB_0, lg_cmp_ge, lg_cmp_le, lg_cmp_gt, lg_cmp_lt, lg_cmp_eq, ail_r, abl_r, all_r, ais_r, abs_r, als_r, aal_r, aal_q, aln_r, vrf_s, vrf_n, z32, up_r, List.length_cons, List.length_nil, Nat.reduceAdd, Nat.reduceLT, Nat.reduceLeDiff, Nat.reduceEqDiff, ↓reduceIte, bind_s, if_true, if_false, not_true_eq_false, not_false_eq_true, Nat.zero_add]
    rw [if_pos (by omega)]
    have : updr f i 0 (fun _ => x) = f := by
      funext j
      exact if_neg (by omega)
    rw [this]
  | succ k ih =>
    intro i f hi
    have ih' := ih (i + 1) (upd f i x) (by omega)
    rw [am_go dc_21_5]
    simp (disch := first | omega | exact Nat.le_of_ble_eq_true rfl) only [own_21, am_go dc_21_0, J_iconst, c32_0, am_go dc_21_1, J_istore_2, st1_0, st1_1, st1_s, kl_i, kl_l, kl_r, kl_n, am_go dc_21_2, J_aload_0, K_al, ld_0, am_go dc_21_3, J_alen, am_go dc_21_4, J_istore_3, J_iload_2, K_il, ld_2, am_go dc_21_6, J_iload_3, ld_3, am_go dc_21_7, J_icmp_ge, am_go dc_21_10, am_go dc_21_11, am_go dc_21_12, J_iload_1, ld_1, am_go dc_21_13, J_iastore, am_go dc_21_14, J_iinc, pinc_go, c32_1, am_go dc_21_17, J_goto, am_go dc_21_20, J_ret_v ret_21, zI_add, zI_mul, zI_lt, zI_le, zI_eq, zI_neg, zI_pos, zI_ne0, zI_gt0, zB_0, lg_cmp_ge, lg_cmp_le, lg_cmp_gt, lg_cmp_lt, lg_cmp_eq, ail_r, abl_r, all_r, ais_r, abs_r, als_r, aal_r, aal_q, aln_r, vrf_s, vrf_n, z32, up_r, up_u, List.length_cons, List.length_nil, Nat.reduceAdd, Nat.reduceLT, Nat.reduceLeDiff, Nat.reduceEqDiff, ↓reduceIte, bind_s, if_true, if_false, not_true_eq_false, not_false_eq_true, Nat.zero_add]
    rw [if_neg (by omega), ih']
    have : updr (upd f i x) (i + 1) k (fun _ => x) = updr f i (k + 1) (fun _ => x) := by
      funext j
      unfold updr
      by_cases e1 : i + 1 ≤ j ∧ j < i + 1 + k
      · rw [if_pos e1, if_pos (by omega)]
      · rw [if_neg e1]
        by_cases e2 : j = i
        · subst e2
          rw [upd_s, if_pos (by omega)]
        · rw [upd_o e2, if_neg (by omega)]
    rw [this]
theorem a_fill {n : Nat} {x : Int32} {f : Nat → Int32} (hH : H a = some (.inl (.int, n, .inl f))) (hn : n < 1000000) : am_f X (d + 1) 21 [.ref a, .int x] (H, z) = some (.inl none, (am_up H a (.inl (.int, n, .inl (updr f 0 n (fun _ => x)))), z)) := by
  rw [fU_21]
  simp (disch := first | omega | exact Nat.le_of_ble_eq_true rfl) only [own_21, am_go dc_21_0, J_iconst, c32_0, am_go dc_21_1, J_istore_2, st1_0, st1_1, st1_s, kl_i, kl_l, kl_r, kl_n, am_go dc_21_2, J_aload_0, K_al, ld_0, am_go dc_21_3, J_alen, am_go dc_21_4, J_istore_3, J_iload_2, K_il, ld_2, am_go dc_21_6, J_iload_3, ld_3, am_go dc_21_7, J_icmp_ge, am_go dc_21_10, am_go dc_21_11, am_go dc_21_12, J_iload_1, ld_1, am_go dc_21_13, J_iastore, am_go dc_21_14, J_iinc, pinc_go, c32_1, am_go dc_21_17, J_goto, am_go dc_21_20, J_ret_v ret_21, zI_add, zI_mul, zI_lt, zI_le, zI_eq, zI_neg, zI_pos, zI_ne0, zI_gt0, zB_0, lg_cmp_ge, lg_cmp_le, lg_cmp_gt, lg_cmp_lt, lg_cmp_eq, ail_r, abl_r, all_r, ais_r, abs_r, als_r, aal_r, aal_q, aln_r, vrf_s, vrf_n, z32, hH, List.length_cons, List.length_nil, Nat.reduceAdd, Nat.reduceLT, Nat.reduceLeDiff, Nat.reduceEqDiff, ↓reduceIte, bind_s, if_true, if_false, not_true_eq_false, not_false_eq_true, Nat.zero_add]
  have := a_fill_l (X := X) (H := H) (a := a) (d := d) (z := z) (n := n) (x := x) hn n 0 f (by omega)
  rw [up_id hH] at this
  exact this
theorem a_fillL_l {n : Nat} {x : Int64} (hn : n < 1000000) : ∀ (k i : Nat) (f : Nat → Int64), i + k = n → am_I X (am_f X d) 134 6 [some (.ref a), some (.long x), none, some (.int (zI i)), some (.int (zI n))] [] (am_up H a (.inl (.long, n, .inr (.inl f))), z) = some (.inl none, (am_up H a (.inl (.long, n, .inr (.inl (updrL f i k (fun _ => x))))), z)) := by
  intro k
  induction k with
  | zero =>
    intro i f hi
    rw [am_go dc_134_6]
    simp (disch := first | omega | exact Nat.le_of_ble_eq_true rfl) only [own_134, am_go dc_134_0, J_iconst, c32_0, am_go dc_134_1, J_istore_3, st1_0, st1_1, st1_s, kl_i, kl_l, kl_r, kl_n, am_go dc_134_2, J_aload_0, K_al, ld_0, am_go dc_134_3, J_alen, am_go dc_134_4, J_istore, J_iload_3, K_il, ld_3, am_go dc_134_7, J_iload, ld_4, am_go dc_134_9, J_icmp_ge, am_go dc_134_12, am_go dc_134_13, am_go dc_134_14, J_lload_1, K_ll, ld_1, am_go dc_134_15, J_lastore, am_go dc_134_16, J_iinc, pinc_go, c32_1, am_go dc_134_19, J_goto, am_go dc_134_22, J_ret_v ret_134, zI_add, zI_mul, zI_lt, zI_le, zI_eq, zI_neg, zI_pos, zI_ne0, zI_gt0, zB_0, lg_cmp_ge, lg_cmp_le, lg_cmp_gt, lg_cmp_lt, lg_cmp_eq, ail_r, abl_r, all_r, ais_r, abs_r, als_r, aal_r, aal_q, aln_r, vrf_s, vrf_n, z32, up_r, List.length_cons, List.length_nil, Nat.reduceAdd, Nat.reduceLT, Nat.reduceLeDiff, Nat.reduceEqDiff, ↓reduceIte, bind_s, if_true, if_false, not_true_eq_false, not_false_eq_true, Nat.zero_add]
    rw [if_pos (by omega)]
    have : updrL f i 0 (fun _ => x) = f := by
      funext j
      exact if_neg (by omega)
    rw [this]
  | succ k ih =>
    intro i f hi
    have ih' := ih (i + 1) (vp_updL f i x) (by omega)
    rw [am_go dc_134_6]
    simp (disch := first | omega | exact Nat.le_of_ble_eq_true rfl) only [own_134, am_go dc_134_0, J_iconst, c32_0, am_go dc_134_1, J_istore_3, st1_0, st1_1, st1_s, kl_i, kl_l, kl_r, kl_n, am_go dc_134_2, J_aload_0, K_al, ld_0, am_go dc_134_3, J_alen, am_go dc_134_4, J_istore, J_iload_3, K_il, ld_3, am_go dc_134_7, J_iload, ld_4, am_go dc_134_9, J_icmp_ge, am_go dc_134_12, am_go dc_134_13, am_go dc_134_14, J_lload_1, K_ll, ld_1, am_go dc_134_15, J_lastore, am_go dc_134_16, J_iinc, pinc_go, c32_1, am_go dc_134_19, J_goto, am_go dc_134_22, J_ret_v ret_134, zI_add, zI_mul, zI_lt, zI_le, zI_eq, zI_neg, zI_pos, zI_ne0, zI_gt0, zB_0, lg_cmp_ge, lg_cmp_le, lg_cmp_gt, lg_cmp_lt, lg_cmp_eq, ail_r, abl_r, all_r, ais_r, abs_r, als_r, aal_r, aal_q, aln_r, vrf_s, vrf_n, z32, up_r, up_u, List.length_cons, List.length_nil, Nat.reduceAdd, Nat.reduceLT, Nat.reduceLeDiff, Nat.reduceEqDiff, ↓reduceIte, bind_s, if_true, if_false, not_true_eq_false, not_false_eq_true, Nat.zero_add]
    rw [if_neg (by omega), ih']
    have : updrL (vp_updL f i x) (i + 1) k (fun _ => x) = updrL f i (k + 1) (fun _ => x) := by
      funext j
      unfold updrL
      by_cases e1 : i + 1 ≤ j ∧ j < i + 1 + k
      · rw [if_pos e1, if_pos (by omega)]
      · rw [if_neg e1]
        by_cases e2 : j = i
        · subst e2
          rw [upL_s, if_pos (by omega)]
        · rw [upL_o e2, if_neg (by omega)]
    rw [this]
theorem a_fillL {n : Nat} {x : Int64} {f : Nat → Int64} (hH : H a = some (.inl (.long, n, .inr (.inl f)))) (hn : n < 1000000) : am_f X (d + 1) 134 [.ref a, .long x] (H, z) = some (.inl none, (am_up H a (.inl (.long, n, .inr (.inl (updrL f 0 n (fun _ => x))))), z)) := by
  rw [fU_134]
  simp (disch := first | omega | exact Nat.le_of_ble_eq_true rfl) only [own_134, am_go dc_134_0, J_iconst, c32_0, am_go dc_134_1, J_istore_3, st1_0, st1_1, st1_s, kl_i, kl_l, kl_r, kl_n, am_go dc_134_2, J_aload_0, K_al, ld_0, am_go dc_134_3, J_alen, am_go dc_134_4, J_istore, J_iload_3, K_il, ld_3, am_go dc_134_7, J_iload, ld_4, am_go dc_134_9, J_icmp_ge, am_go dc_134_12, am_go dc_134_13, am_go dc_134_14, J_lload_1, K_ll, ld_1, am_go dc_134_15, J_lastore, am_go dc_134_16, J_iinc, pinc_go, c32_1, am_go dc_134_19, J_goto, am_go dc_134_22, J_ret_v ret_134, zI_add, zI_mul, zI_lt, zI_le, zI_eq, zI_neg, zI_pos, zI_ne0, zI_gt0, zB_0, lg_cmp_ge, lg_cmp_le, lg_cmp_gt, lg_cmp_lt, lg_cmp_eq, ail_r, abl_r, all_r, ais_r, abs_r, als_r, aal_r, aal_q, aln_r, vrf_s, vrf_n, z32, hH, List.length_cons, List.length_nil, Nat.reduceAdd, Nat.reduceLT, Nat.reduceLeDiff, Nat.reduceEqDiff, ↓reduceIte, bind_s, if_true, if_false, not_true_eq_false, not_false_eq_true, Nat.zero_add]
  have := a_fillL_l (X := X) (H := H) (a := a) (d := d) (z := z) (n := n) (x := x) hn n 0 f (by omega)
  rw [up_id hH] at this
  exact this
theorem J_cln {k n nx tg pc t : Nat} {rec : am_O} {lv : am_L} {rest : List Value} {f : Nat → Int32} (ho : am_own t = 15) (hv : am_vn 15 k = none) (hk : k = 316) (hr : rest.length ≤ 8) (hH : H a = some (.inl (.int, n, .inl f))) : am_J X rec t (some (.invokevirtual k, nx, tg)) pc lv (.ref a :: rest) (H, z) = am_I X rec t nx lv (.ref z.1 :: rest) (am_up H z.1 (.inl (.int, n, .inl f)), (z.1 + 1, z.2 + n)) := by
  subst hk
  rw [J_virtual]
  unfold am_heap
  simp only [ho, hv]
  unfold am_cln
  simp only [hr, if_true]
  show am_K X rec t ((am_arrI (H a)).map _) = _
  rw [hH]
  rfl
theorem J_cka {k n nx tg pc t : Nat} {rec : am_O} {lv : am_L} {rest : List Value} {f : Nat → Int32} (ho : am_own t = 15) (hv : am_kk 15 k = none) (hk : k = 317) (hH : H a = some (.inl (.int, n, .inl f))) : am_J X rec t (some (.checkcast k, nx, tg)) pc lv (.ref a :: rest) (H, z) = am_I X rec t nx lv (.ref a :: rest) (H, z) := by
  subst hk
  rw [J_cast]
  unfold am_heap
  simp only [ho, hv]
  unfold am_cka
  show am_K X rec t ((am_arrI (H a)).map _) = _
  rw [hH]
  rfl
theorem vn316 : am_vn 15 316 = none := by decide +kernel
theorem kk317 : am_kk 15 317 = none := by decide +kernel
theorem cpy_r {n0 n1 sp dp n : Nat} {f g : Nat → Int32} (h1 : sp + n ≤ n0) (h2 : dp + n ≤ n1) (h3 : n0 < 1000000) (h4 : n1 < 1000000) : am_cpy (some (.inl (.int, n0, .inl f))) (some (.inl (.int, n1, .inl g))) (zI sp) (zI dp) (zI n) = some (.inl (.int, n1, .inl (va_cpy f g sp dp n))) := by
  unfold am_cpy
  simp only [zI_nat (show sp < 2147483648 by omega), zI_nat (show dp < 2147483648 by omega), zI_nat (show n < 2147483648 by omega), zI_neg (show sp < 2147483648 by omega), zI_neg (show dp < 2147483648 by omega), zI_neg (show n < 2147483648 by omega), h1, h2, decide_true, decide_false, Bool.not_false, Bool.and_self, if_true]
/-- the first k of at least k ints, or zeros behind -/
theorem a_copyOf {n k : Nat} {f : Nat → Int32} (hH : H a = some (.inl (.int, n, .inl f))) (hz : H z.1 = none) (hk : k ≤ n) (hn : n < 60000) : ∃ g : Nat → Int32, am_f X (d + 1) 37 [.ref a, .int (zI k)] (H, z) = some (.inl (some (.ref z.1)), (am_up H z.1 (.inl (.int, k, .inl g)), (z.1 + 1, z.2 + k))) ∧ ∀ j, j < k → g j = f j := by
  have hne : a ≠ z.1 := fun e => by
    rw [e, hz] at hH
    cases hH
  by_cases c : k = n
  · subst c
    refine ⟨f, ?_, fun _ _ => rfl⟩
    have hc := fun (rec : am_O) (lv : am_L) (nx tg pc : Nat) => J_cln (X := X) (H := H) (a := a) (z := z) (k := 316) (t := 37) (rec := rec) (lv := lv) (nx := nx) (tg := tg) (pc := pc) (rest := []) own_37 vn316 rfl (by decide) hH
    have hk2 := fun (rec : am_O) (lv : am_L) (nx tg pc : Nat) => J_cka (X := X) (H := am_up H z.1 (.inl (.int, k, .inl f))) (a := z.1) (z := (z.1 + 1, z.2 + k)) (k := 317) (t := 37) (rec := rec) (lv := lv) (nx := nx) (tg := tg) (pc := pc) (rest := []) own_37 kk317 rfl up_r
    rw [fU_37]
    simp (disch := first | omega | exact Nat.le_of_ble_eq_true rfl) only [own_37, am_go dc_37_0, J_iload_1, K_il, ld_1, am_go dc_37_1, J_aload_0, K_al, ld_0, am_go dc_37_2, J_alen, am_go dc_37_3, J_icmp_ne, am_go dc_37_6, am_go dc_37_7, JR_v, JR_0, JR_ite, ci1_r, am_go dc_37_10, am_go dc_37_13, J_ret_a ret_37, am_go dc_37_14, am_go dc_37_15, am_go dc_37_17, J_astore_2, st1_0, st1_1, st1_s, kl_i, kl_l, kl_r, kl_n, am_go dc_37_18, am_go dc_37_19, J_iconst, c32_0, am_go dc_37_20, J_aload_2, ld_2, am_go dc_37_21, am_go dc_37_22, am_go dc_37_23, am_go dc_37_24, am_go dc_37_25, cm_15_304 own_37, mth_1, am_go dc_37_28, ca_15_150 own_37, am_go dc_37_31, am_go dc_37_32, zI_add, zI_mul, zI_lt, zI_le, zI_eq, zI_neg, zI_pos, zI_ne0, zI_gt0, zB_0, lg_cmp_ge, lg_cmp_le, lg_cmp_gt, lg_cmp_lt, lg_cmp_eq, ail_r, abl_r, all_r, ais_r, abs_r, als_r, aal_r, aal_q, aln_r, vrf_s, vrf_n, z32, hH, hc, hk2, List.length_cons, List.length_nil, Nat.reduceAdd, Nat.reduceLT, Nat.reduceLeDiff, Nat.reduceEqDiff, ↓reduceIte, bind_s, if_true, if_false, not_true_eq_false, not_false_eq_true, Nat.zero_add]
  · have c' : ¬ k = n := c
    refine ⟨va_cpy f (fun _ => 0) 0 0 k, ?_, fun j hj => ?_⟩
    · have hm : k < n := by omega
      rw [fU_37]
      simp (disch := first | omega | exact Nat.le_of_ble_eq_true rfl) only [own_37, am_go dc_37_0, J_iload_1, K_il, ld_1, am_go dc_37_1, J_aload_0, K_al, ld_0, am_go dc_37_2, J_alen, am_go dc_37_3, J_icmp_ne, am_go dc_37_6, am_go dc_37_7, JR_v, JR_0, JR_ite, ci1_r, am_go dc_37_10, am_go dc_37_13, J_ret_a ret_37, am_go dc_37_14, am_go dc_37_15, am_go dc_37_17, J_astore_2, st1_0, st1_1, st1_s, kl_i, kl_l, kl_r, kl_n, am_go dc_37_18, am_go dc_37_19, J_iconst, c32_0, am_go dc_37_20, J_aload_2, ld_2, am_go dc_37_21, am_go dc_37_22, am_go dc_37_23, am_go dc_37_24, am_go dc_37_25, cm_15_304 own_37, mth_1, am_go dc_37_28, ca_15_150 own_37, am_go dc_37_31, am_go dc_37_32, zI_add, zI_mul, zI_lt, zI_le, zI_eq, zI_neg, zI_pos, zI_ne0, zI_gt0, zB_0, lg_cmp_ge, lg_cmp_le, lg_cmp_gt, lg_cmp_lt, lg_cmp_eq, ail_r, abl_r, all_r, ais_r, abs_r, als_r, aal_r, aal_q, aln_r, vrf_s, vrf_n, z32, hH, c', J_nai, up_r, up_x hne, up_x, up_u, cpy_r, hm, Nat.zero_add, List.length_cons, List.length_nil, Nat.reduceAdd, Nat.reduceLT, Nat.reduceLeDiff, Nat.reduceEqDiff, ↓reduceIte, bind_s, if_true, if_false, not_true_eq_false, not_false_eq_true]
    · unfold va_cpy
      simp [hj]
end AR
