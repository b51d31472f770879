/-! boxes made -/
section BM
variable {X : am_X} {rec : am_O} {h H : am_H} {d t pc nx tg k on : Nat} {b : Nat × Nat × Nat × Nat} {id : Int32} {f g : Nat → Int32} {z : Nat × Nat} {lv : am_L} {rest st : List Value} {σ : am_S}
theorem J_newc {ci : Nat} (hk : am_kk (am_own t) k = some ci) (hc : ci < 13) : am_J X rec t (some (.new k, nx, tg)) pc lv st σ = am_I X rec t nx lv (.ref σ.2.1 :: st) (am_up σ.1 σ.2.1 (.inr (ci, am_df ci)), σ.2.1 + 1, σ.2.2 + (am_df ci).length) := by
  rw [J_new, hk]
  unfold am_new
  simp only [hc, if_true]
  rfl
theorem bi39_6 {a w c : Nat} {i p q : Int32} {fs : List Value} (hl : 5 ≤ fs.length) : am_f X (d + 1) 39 [.ref a, .int i, .int p, .int q, .ref w, .ref c] (am_up h a (.inr (6, fs)), z) = some (.inl none, (am_up h a (.inr (6, ((((fs.set 0 (.int i)).set 1 (.int p)).set 2 (.int q)).set 3 (.ref w)).set 4 (.ref c))), z)) := by
  rw [fU_39]
  simp (disch := first | omega | exact up_r | exact Nat.le_of_ble_eq_true rfl | (simp only [List.length_set]; omega)) only [own_39, am_go dc_39_0, J_aload_0, K_al, ld_0, am_go dc_39_1, co_6_3 own_39, am_go dc_39_4, am_go dc_39_5, J_iload_1, K_il, ld_1, am_go dc_39_6, J_putfield_i, J_putfield_l, J_putfield_r, ini_39, am_go dc_39_9, am_go dc_39_10, J_iload_2, ld_2, am_go dc_39_11, am_go dc_39_14, am_go dc_39_15, J_iload_3, ld_3, am_go dc_39_16, am_go dc_39_19, am_go dc_39_20, J_aload, ld_4, am_go dc_39_22, am_go dc_39_25, am_go dc_39_26, ld_5, am_go dc_39_28, am_go dc_39_31, J_ret_v ret_39, pf_i pk_6_9_6 rfl, pf_i pk_6_15_6 rfl, pf_i pk_6_18_6 rfl, pf_a pk_6_21_6 rfl, pf_a pk_6_25_6 rfl, up_r, up_u, List.length_cons, List.length_nil, Nat.reduceAdd, Nat.reduceLT, Nat.reduceLeDiff, Nat.reduceEqDiff, ↓reduceIte, bind_s, if_true, if_false, not_true_eq_false, not_false_eq_true, Nat.zero_add]
theorem bi39_7 {a w c : Nat} {i p q : Int32} {fs : List Value} (hl : 5 ≤ fs.length) : am_f X (d + 1) 39 [.ref a, .int i, .int p, .int q, .ref w, .ref c] (am_up h a (.inr (7, fs)), z) = some (.inl none, (am_up h a (.inr (7, ((((fs.set 0 (.int i)).set 1 (.int p)).set 2 (.int q)).set 3 (.ref w)).set 4 (.ref c))), z)) := by
  rw [fU_39]
  simp (disch := first | omega | exact up_r | exact Nat.le_of_ble_eq_true rfl | (simp only [List.length_set]; omega)) only [own_39, am_go dc_39_0, J_aload_0, K_al, ld_0, am_go dc_39_1, co_6_3 own_39, am_go dc_39_4, am_go dc_39_5, J_iload_1, K_il, ld_1, am_go dc_39_6, J_putfield_i, J_putfield_l, J_putfield_r, ini_39, am_go dc_39_9, am_go dc_39_10, J_iload_2, ld_2, am_go dc_39_11, am_go dc_39_14, am_go dc_39_15, J_iload_3, ld_3, am_go dc_39_16, am_go dc_39_19, am_go dc_39_20, J_aload, ld_4, am_go dc_39_22, am_go dc_39_25, am_go dc_39_26, ld_5, am_go dc_39_28, am_go dc_39_31, J_ret_v ret_39, pf_i pk_6_9_7 rfl, pf_i pk_6_15_7 rfl, pf_i pk_6_18_7 rfl, pf_a pk_6_21_7 rfl, pf_a pk_6_25_7 rfl, up_r, up_u, List.length_cons, List.length_nil, Nat.reduceAdd, Nat.reduceLT, Nat.reduceLeDiff, Nat.reduceEqDiff, ↓reduceIte, bind_s, if_true, if_false, not_true_eq_false, not_false_eq_true, Nat.zero_add]
theorem bi39_8 {a w c : Nat} {i p q : Int32} {fs : List Value} (hl : 5 ≤ fs.length) : am_f X (d + 1) 39 [.ref a, .int i, .int p, .int q, .ref w, .ref c] (am_up h a (.inr (8, fs)), z) = some (.inl none, (am_up h a (.inr (8, ((((fs.set 0 (.int i)).set 1 (.int p)).set 2 (.int q)).set 3 (.ref w)).set 4 (.ref c))), z)) := by
  rw [fU_39]
  simp (disch := first | omega | exact up_r | exact Nat.le_of_ble_eq_true rfl | (simp only [List.length_set]; omega)) only [own_39, am_go dc_39_0, J_aload_0, K_al, ld_0, am_go dc_39_1, co_6_3 own_39, am_go dc_39_4, am_go dc_39_5, J_iload_1, K_il, ld_1, am_go dc_39_6, J_putfield_i, J_putfield_l, J_putfield_r, ini_39, am_go dc_39_9, am_go dc_39_10, J_iload_2, ld_2, am_go dc_39_11, am_go dc_39_14, am_go dc_39_15, J_iload_3, ld_3, am_go dc_39_16, am_go dc_39_19, am_go dc_39_20, J_aload, ld_4, am_go dc_39_22, am_go dc_39_25, am_go dc_39_26, ld_5, am_go dc_39_28, am_go dc_39_31, J_ret_v ret_39, pf_i pk_6_9_8 rfl, pf_i pk_6_15_8 rfl, pf_i pk_6_18_8 rfl, pf_a pk_6_21_8 rfl, pf_a pk_6_25_8 rfl, up_r, up_u, List.length_cons, List.length_nil, Nat.reduceAdd, Nat.reduceLT, Nat.reduceLeDiff, Nat.reduceEqDiff, ↓reduceIte, bind_s, if_true, if_false, not_true_eq_false, not_false_eq_true, Nat.zero_add]
theorem bi39_9 {a w c : Nat} {i p q : Int32} {fs : List Value} (hl : 5 ≤ fs.length) : am_f X (d + 1) 39 [.ref a, .int i, .int p, .int q, .ref w, .ref c] (am_up h a (.inr (9, fs)), z) = some (.inl none, (am_up h a (.inr (9, ((((fs.set 0 (.int i)).set 1 (.int p)).set 2 (.int q)).set 3 (.ref w)).set 4 (.ref c))), z)) := by
  rw [fU_39]
  simp (disch := first | omega | exact up_r | exact Nat.le_of_ble_eq_true rfl | (simp only [List.length_set]; omega)) only [own_39, am_go dc_39_0, J_aload_0, K_al, ld_0, am_go dc_39_1, co_6_3 own_39, am_go dc_39_4, am_go dc_39_5, J_iload_1, K_il, ld_1, am_go dc_39_6, J_putfield_i, J_putfield_l, J_putfield_r, ini_39, am_go dc_39_9, am_go dc_39_10, J_iload_2, ld_2, am_go dc_39_11, am_go dc_39_14, am_go dc_39_15, J_iload_3, ld_3, am_go dc_39_16, am_go dc_39_19, am_go dc_39_20, J_aload, ld_4, am_go dc_39_22, am_go dc_39_25, am_go dc_39_26, ld_5, am_go dc_39_28, am_go dc_39_31, J_ret_v ret_39, pf_i pk_6_9_9 rfl, pf_i pk_6_15_9 rfl, pf_i pk_6_18_9 rfl, pf_a pk_6_21_9 rfl, pf_a pk_6_25_9 rfl, up_r, up_u, List.length_cons, List.length_nil, Nat.reduceAdd, Nat.reduceLT, Nat.reduceLeDiff, Nat.reduceEqDiff, ↓reduceIte, bind_s, if_true, if_false, not_true_eq_false, not_false_eq_true, Nat.zero_add]
theorem bi39_10 {a w c : Nat} {i p q : Int32} {fs : List Value} (hl : 5 ≤ fs.length) : am_f X (d + 1) 39 [.ref a, .int i, .int p, .int q, .ref w, .ref c] (am_up h a (.inr (10, fs)), z) = some (.inl none, (am_up h a (.inr (10, ((((fs.set 0 (.int i)).set 1 (.int p)).set 2 (.int q)).set 3 (.ref w)).set 4 (.ref c))), z)) := by
  rw [fU_39]
  simp (disch := first | omega | exact up_r | exact Nat.le_of_ble_eq_true rfl | (simp only [List.length_set]; omega)) only [own_39, am_go dc_39_0, J_aload_0, K_al, ld_0, am_go dc_39_1, co_6_3 own_39, am_go dc_39_4, am_go dc_39_5, J_iload_1, K_il, ld_1, am_go dc_39_6, J_putfield_i, J_putfield_l, J_putfield_r, ini_39, am_go dc_39_9, am_go dc_39_10, J_iload_2, ld_2, am_go dc_39_11, am_go dc_39_14, am_go dc_39_15, J_iload_3, ld_3, am_go dc_39_16, am_go dc_39_19, am_go dc_39_20, J_aload, ld_4, am_go dc_39_22, am_go dc_39_25, am_go dc_39_26, ld_5, am_go dc_39_28, am_go dc_39_31, J_ret_v ret_39, pf_i pk_6_9_10 rfl, pf_i pk_6_15_10 rfl, pf_i pk_6_18_10 rfl, pf_a pk_6_21_10 rfl, pf_a pk_6_25_10 rfl, up_r, up_u, List.length_cons, List.length_nil, Nat.reduceAdd, Nat.reduceLT, Nat.reduceLeDiff, Nat.reduceEqDiff, ↓reduceIte, bind_s, if_true, if_false, not_true_eq_false, not_false_eq_true, Nat.zero_add]
theorem bi39_11 {a w c : Nat} {i p q : Int32} {fs : List Value} (hl : 5 ≤ fs.length) : am_f X (d + 1) 39 [.ref a, .int i, .int p, .int q, .ref w, .ref c] (am_up h a (.inr (11, fs)), z) = some (.inl none, (am_up h a (.inr (11, ((((fs.set 0 (.int i)).set 1 (.int p)).set 2 (.int q)).set 3 (.ref w)).set 4 (.ref c))), z)) := by
  rw [fU_39]
  simp (disch := first | omega | exact up_r | exact Nat.le_of_ble_eq_true rfl | (simp only [List.length_set]; omega)) only [own_39, am_go dc_39_0, J_aload_0, K_al, ld_0, am_go dc_39_1, co_6_3 own_39, am_go dc_39_4, am_go dc_39_5, J_iload_1, K_il, ld_1, am_go dc_39_6, J_putfield_i, J_putfield_l, J_putfield_r, ini_39, am_go dc_39_9, am_go dc_39_10, J_iload_2, ld_2, am_go dc_39_11, am_go dc_39_14, am_go dc_39_15, J_iload_3, ld_3, am_go dc_39_16, am_go dc_39_19, am_go dc_39_20, J_aload, ld_4, am_go dc_39_22, am_go dc_39_25, am_go dc_39_26, ld_5, am_go dc_39_28, am_go dc_39_31, J_ret_v ret_39, pf_i pk_6_9_11 rfl, pf_i pk_6_15_11 rfl, pf_i pk_6_18_11 rfl, pf_a pk_6_21_11 rfl, pf_a pk_6_25_11 rfl, up_r, up_u, List.length_cons, List.length_nil, Nat.reduceAdd, Nat.reduceLT, Nat.reduceLeDiff, Nat.reduceEqDiff, ↓reduceIte, bind_s, if_true, if_false, not_true_eq_false, not_false_eq_true, Nat.zero_add]
theorem bi38_7 {a w c : Nat} {i p q : Int32} {fs : List Value} {e : Int32} (hl : 6 ≤ fs.length) : am_f X (d + 2) 38 [.ref a, .int i, .int p, .int q, .ref w, .ref c, .int e] (am_up h a (.inr (7, fs)), z) = some (.inl none, (am_up h a (.inr (7, (((((fs.set 0 (.int i)).set 1 (.int p)).set 2 (.int q)).set 3 (.ref w)).set 4 (.ref c)).set 5 (.int e))), z)) := by
  have h39 := bi39_7 (X := X) (h := h) (d := d) (z := z) (a := a) (w := w) (c := c) (i := i) (p := p) (q := q) (fs := fs) (by omega)
  rw [fU_38]
  simp (disch := first | omega | exact up_r | exact Nat.le_of_ble_eq_true rfl | (simp only [List.length_set]; omega)) only [own_38, am_go dc_38_0, J_aload_0, K_al, ld_0, am_go dc_38_1, J_iload_1, K_il, ld_1, am_go dc_38_2, J_iload_2, ld_2, am_go dc_38_3, J_iload_3, ld_3, am_go dc_38_4, J_aload, ld_4, am_go dc_38_6, ld_5, am_go dc_38_8, cn_7_1 own_38, JR_0, am_go dc_38_11, am_go dc_38_12, J_iload, ld_6, am_go dc_38_14, J_putfield_i, J_putfield_l, J_putfield_r, ini_38, am_go dc_38_17, J_ret_v ret_38, pf_i pk_7_7_7 rfl, up_r, up_u, h39, List.length_cons, List.length_nil, Nat.reduceAdd, Nat.reduceLT, Nat.reduceLeDiff, Nat.reduceEqDiff, ↓reduceIte, bind_s, if_true, if_false, not_true_eq_false, not_false_eq_true, Nat.zero_add]
theorem bi40_8 {a w c : Nat} {i p q : Int32} {fs : List Value} {e : Int32} (hl : 5 ≤ fs.length) : am_f X (d + 2) 40 [.ref a, .int i, .int p, .int q, .ref w, .ref c] (am_up h a (.inr (8, fs)), z) = some (.inl none, (am_up h a (.inr (8, ((((fs.set 0 (.int i)).set 1 (.int p)).set 2 (.int q)).set 3 (.ref w)).set 4 (.ref c))), z)) := by
  have h39 := bi39_8 (X := X) (h := h) (d := d) (z := z) (a := a) (w := w) (c := c) (i := i) (p := p) (q := q) (fs := fs) (by omega)
  rw [fU_40]
  simp (disch := first | omega | exact up_r | exact Nat.le_of_ble_eq_true rfl | (simp only [List.length_set]; omega)) only [own_40, am_go dc_40_0, J_aload_0, K_al, ld_0, am_go dc_40_1, J_iload_1, K_il, ld_1, am_go dc_40_2, J_iload_2, ld_2, am_go dc_40_3, J_iload_3, ld_3, am_go dc_40_4, J_aload, ld_4, am_go dc_40_6, ld_5, am_go dc_40_8, cn_8_1 own_40, JR_0, am_go dc_40_11, J_ret_v ret_40, up_r, up_u, h39, List.length_cons, List.length_nil, Nat.reduceAdd, Nat.reduceLT, Nat.reduceLeDiff, Nat.reduceEqDiff, ↓reduceIte, bind_s, if_true, if_false, not_true_eq_false, not_false_eq_true, Nat.zero_add]
theorem bi41_9 {a w c : Nat} {i p q : Int32} {fs : List Value} {e : Int32} (hl : 6 ≤ fs.length) : am_f X (d + 2) 41 [.ref a, .int i, .int p, .int q, .ref w, .ref c, .int e] (am_up h a (.inr (9, fs)), z) = some (.inl none, (am_up h a (.inr (9, (((((fs.set 0 (.int i)).set 1 (.int p)).set 2 (.int q)).set 3 (.ref w)).set 4 (.ref c)).set 5 (.int e))), z)) := by
  have h39 := bi39_9 (X := X) (h := h) (d := d) (z := z) (a := a) (w := w) (c := c) (i := i) (p := p) (q := q) (fs := fs) (by omega)
  rw [fU_41]
  simp (disch := first | omega | exact up_r | exact Nat.le_of_ble_eq_true rfl | (simp only [List.length_set]; omega)) only [own_41, am_go dc_41_0, J_aload_0, K_al, ld_0, am_go dc_41_1, J_iload_1, K_il, ld_1, am_go dc_41_2, J_iload_2, ld_2, am_go dc_41_3, J_iload_3, ld_3, am_go dc_41_4, J_aload, ld_4, am_go dc_41_6, ld_5, am_go dc_41_8, cn_9_1 own_41, JR_0, am_go dc_41_11, am_go dc_41_12, J_iload, ld_6, am_go dc_41_14, J_putfield_i, J_putfield_l, J_putfield_r, ini_41, am_go dc_41_17, J_ret_v ret_41, pf_i pk_9_7_9 rfl, up_r, up_u, h39, List.length_cons, List.length_nil, Nat.reduceAdd, Nat.reduceLT, Nat.reduceLeDiff, Nat.reduceEqDiff, ↓reduceIte, bind_s, if_true, if_false, not_true_eq_false, not_false_eq_true, Nat.zero_add]
theorem bi41_10 {a w c : Nat} {i p q : Int32} {fs : List Value} {e : Int32} (hl : 6 ≤ fs.length) : am_f X (d + 2) 41 [.ref a, .int i, .int p, .int q, .ref w, .ref c, .int e] (am_up h a (.inr (10, fs)), z) = some (.inl none, (am_up h a (.inr (10, (((((fs.set 0 (.int i)).set 1 (.int p)).set 2 (.int q)).set 3 (.ref w)).set 4 (.ref c)).set 5 (.int e))), z)) := by
  have h39 := bi39_10 (X := X) (h := h) (d := d) (z := z) (a := a) (w := w) (c := c) (i := i) (p := p) (q := q) (fs := fs) (by omega)
  rw [fU_41]
  simp (disch := first | omega | exact up_r | exact Nat.le_of_ble_eq_true rfl | (simp only [List.length_set]; omega)) only [own_41, am_go dc_41_0, J_aload_0, K_al, ld_0, am_go dc_41_1, J_iload_1, K_il, ld_1, am_go dc_41_2, J_iload_2, ld_2, am_go dc_41_3, J_iload_3, ld_3, am_go dc_41_4, J_aload, ld_4, am_go dc_41_6, ld_5, am_go dc_41_8, cn_9_1 own_41, JR_0, am_go dc_41_11, am_go dc_41_12, J_iload, ld_6, am_go dc_41_14, J_putfield_i, J_putfield_l, J_putfield_r, ini_41, am_go dc_41_17, J_ret_v ret_41, pf_i pk_9_7_10 rfl, up_r, up_u, h39, List.length_cons, List.length_nil, Nat.reduceAdd, Nat.reduceLT, Nat.reduceLeDiff, Nat.reduceEqDiff, ↓reduceIte, bind_s, if_true, if_false, not_true_eq_false, not_false_eq_true, Nat.zero_add]
theorem bi43_11 {a w c : Nat} {i p q : Int32} {fs : List Value} {e : Int32} (hl : 6 ≤ fs.length) : am_f X (d + 2) 43 [.ref a, .int i, .int p, .int q, .ref w, .ref c, .int e] (am_up h a (.inr (11, fs)), z) = some (.inl none, (am_up h a (.inr (11, (((((fs.set 0 (.int i)).set 1 (.int p)).set 2 (.int q)).set 3 (.ref w)).set 4 (.ref c)).set 5 (.int e))), z)) := by
  have h39 := bi39_11 (X := X) (h := h) (d := d) (z := z) (a := a) (w := w) (c := c) (i := i) (p := p) (q := q) (fs := fs) (by omega)
  rw [fU_43]
  simp (disch := first | omega | exact up_r | exact Nat.le_of_ble_eq_true rfl | (simp only [List.length_set]; omega)) only [own_43, am_go dc_43_0, J_aload_0, K_al, ld_0, am_go dc_43_1, J_iload_1, K_il, ld_1, am_go dc_43_2, J_iload_2, ld_2, am_go dc_43_3, J_iload_3, ld_3, am_go dc_43_4, J_aload, ld_4, am_go dc_43_6, ld_5, am_go dc_43_8, cn_11_1 own_43, JR_0, am_go dc_43_11, am_go dc_43_12, J_iload, ld_6, am_go dc_43_14, J_putfield_i, J_putfield_l, J_putfield_r, ini_43, am_go dc_43_17, J_ret_v ret_43, pf_i pk_11_7_11 rfl, up_r, up_u, h39, List.length_cons, List.length_nil, Nat.reduceAdd, Nat.reduceLT, Nat.reduceLeDiff, Nat.reduceEqDiff, ↓reduceIte, bind_s, if_true, if_false, not_true_eq_false, not_false_eq_true, Nat.zero_add]
theorem bi42_10 {a w c : Nat} {i p q : Int32} {fs : List Value} {e : Int32} {y : Nat} (hl : 7 ≤ fs.length) : am_f X (d + 3) 42 [.ref a, .int i, .int p, .int q, .ref w, .ref c, .int e, .ref y] (am_up h a (.inr (10, fs)), z) = some (.inl none, (am_up h a (.inr (10, ((((((fs.set 0 (.int i)).set 1 (.int p)).set 2 (.int q)).set 3 (.ref w)).set 4 (.ref c)).set 5 (.int e)).set 6 (.ref y))), z)) := by
  have h41 := bi41_10 (X := X) (h := h) (d := d) (z := z) (a := a) (w := w) (c := c) (i := i) (p := p) (q := q) (e := e) (fs := fs) (by omega)
  rw [fU_42]
  simp (disch := first | omega | exact up_r | exact Nat.le_of_ble_eq_true rfl | (simp only [List.length_set]; omega)) only [own_42, am_go dc_42_0, J_aload_0, K_al, ld_0, am_go dc_42_1, J_iload_1, K_il, ld_1, am_go dc_42_2, J_iload_2, ld_2, am_go dc_42_3, J_iload_3, ld_3, am_go dc_42_4, J_aload, ld_4, am_go dc_42_6, ld_5, am_go dc_42_8, J_iload, ld_6, am_go dc_42_10, cn_10_1 own_42, JR_0, am_go dc_42_13, am_go dc_42_14, ld_7, am_go dc_42_16, J_putfield_i, J_putfield_l, J_putfield_r, ini_42, am_go dc_42_19, J_ret_v ret_42, pf_a pk_10_7_10 rfl, up_r, up_u, h41, List.length_cons, List.length_nil, Nat.reduceAdd, Nat.reduceLT, Nat.reduceLeDiff, Nat.reduceEqDiff, ↓reduceIte, bind_s, if_true, if_false, not_true_eq_false, not_false_eq_true, Nat.zero_add]
theorem kk_6_10 : am_kk 6 10 = some 6 := by decide +kernel
theorem bm_priced_0 {a : Nat} {x : Int32} (hB : isB H a b id f on g) (hk : b.1 = 0) (hz : H z.1 = none) : am_f X (d + 4) 67 [.ref a, .int x] (H, z) = some (.inl (some (.ref z.1)), (am_up H z.1 (.inr (6, bF b id (upd f 1 x))), (z.1 + 1, z.2 + (am_df 6).length))) := by
  have hat := hB.at
  have hne : a ≠ z.1 := fun e => by
    rw [e, hz] at hat
    exact absurd hat (by simp)
  obtain ⟨k, wa, ca, oa⟩ := b
  dsimp only at hk
  subst hk
  have hat2 : ∀ e, am_up H z.1 e a = some (.inr (6, bF (0, wa, ca, oa) id f)) := fun e => by rw [up_x hne]; exact hat
  have hct := bi39_6 (X := X) (h := H) (d := d + 2) (z := (z.1 + 1, z.2 + (am_df 6).length)) (a := z.1) (w := wa) (c := ca) (i := id) (p := x) (q := f 2) (fs := am_df 6) (by decide)
  have hk' : am_kk (am_own 67) 10 = some 6 := by rw [own_67]; exact kk_6_10
  rw [fU_67]
  simp (disch := first | omega | exact up_r | exact Nat.le_of_ble_eq_true rfl) only [own_67, am_go dc_67_0, am_go dc_67_3, J_dup_i, J_dup_r, am_go dc_67_4, J_aload_0, K_al, ld_0, am_go dc_67_5, J_getfield, gf_r, fk_6_9_6, am_go dc_67_8, J_iload_1, K_il, ld_1, am_go dc_67_9, am_go dc_67_10, fk_6_18_6, am_go dc_67_13, am_go dc_67_14, fk_6_21_6, am_go dc_67_17, am_go dc_67_18, fk_6_25_6, am_go dc_67_21, cn_6_28 own_67, JR_0, am_go dc_67_24, J_ret_o ret_67, J_newc hk' (Nat.le_of_ble_eq_true rfl), hat2, bFk0, lF0, lF1, lF2, lF3, lF4, lF5, lF6, hct, List.length_cons, List.length_nil, Nat.reduceAdd, Nat.reduceLT, Nat.reduceLeDiff, Nat.reduceEqDiff, ↓reduceIte, bind_s, if_true, if_false, not_true_eq_false, not_false_eq_true, Nat.zero_add]
  rfl
theorem kk_7_8 : am_kk 7 8 = some 7 := by decide +kernel
theorem bm_priced_1 {a : Nat} {x : Int32} (hB : isB H a b id f on g) (hk : b.1 = 1) (hz : H z.1 = none) : am_f X (d + 4) 65 [.ref a, .int x] (H, z) = some (.inl (some (.ref z.1)), (am_up H z.1 (.inr (7, bF b id (upd f 1 x))), (z.1 + 1, z.2 + (am_df 7).length))) := by
  have hat := hB.at
  have hne : a ≠ z.1 := fun e => by
    rw [e, hz] at hat
    exact absurd hat (by simp)
  obtain ⟨k, wa, ca, oa⟩ := b
  dsimp only at hk
  subst hk
  have hat2 : ∀ e, am_up H z.1 e a = some (.inr (7, bF (1, wa, ca, oa) id f)) := fun e => by rw [up_x hne]; exact hat
  have hct := bi38_7 (X := X) (h := H) (d := d + 1) (z := (z.1 + 1, z.2 + (am_df 7).length)) (a := z.1) (w := wa) (c := ca) (i := id) (p := x) (q := f 2) (fs := am_df 7) (e := f 4) (by decide)
  have hk' : am_kk (am_own 65) 8 = some 7 := by rw [own_65]; exact kk_7_8
  rw [fU_65]
  simp (disch := first | omega | exact up_r | exact Nat.le_of_ble_eq_true rfl) only [own_65, am_go dc_65_0, am_go dc_65_3, J_dup_i, J_dup_r, am_go dc_65_4, J_aload_0, K_al, ld_0, am_go dc_65_5, J_getfield, gf_r, fk_7_13_7, am_go dc_65_8, J_iload_1, K_il, ld_1, am_go dc_65_9, am_go dc_65_10, fk_7_16_7, am_go dc_65_13, am_go dc_65_14, fk_7_19_7, am_go dc_65_17, am_go dc_65_18, fk_7_23_7, am_go dc_65_21, am_go dc_65_22, fk_7_7_7, am_go dc_65_25, cn_7_26 own_65, JR_0, am_go dc_65_28, J_ret_o ret_65, J_newc hk' (Nat.le_of_ble_eq_true rfl), hat2, bFk1, lF0, lF1, lF2, lF3, lF4, lF5, lF6, hct, List.length_cons, List.length_nil, Nat.reduceAdd, Nat.reduceLT, Nat.reduceLeDiff, Nat.reduceEqDiff, ↓reduceIte, bind_s, if_true, if_false, not_true_eq_false, not_false_eq_true, Nat.zero_add]
  rfl
theorem kk_8_7 : am_kk 8 7 = some 8 := by decide +kernel
theorem bm_priced_2 {a : Nat} {x : Int32} (hB : isB H a b id f on g) (hk : b.1 = 2) (hz : H z.1 = none) : am_f X (d + 4) 63 [.ref a, .int x] (H, z) = some (.inl (some (.ref z.1)), (am_up H z.1 (.inr (8, bF b id (upd f 1 x))), (z.1 + 1, z.2 + (am_df 8).length))) := by
  have hat := hB.at
  have hne : a ≠ z.1 := fun e => by
    rw [e, hz] at hat
    exact absurd hat (by simp)
  obtain ⟨k, wa, ca, oa⟩ := b
  dsimp only at hk
  subst hk
  have hat2 : ∀ e, am_up H z.1 e a = some (.inr (8, bF (2, wa, ca, oa) id f)) := fun e => by rw [up_x hne]; exact hat
  have hct := bi40_8 (X := X) (h := H) (d := d + 1) (z := (z.1 + 1, z.2 + (am_df 8).length)) (a := z.1) (w := wa) (c := ca) (i := id) (p := x) (q := f 2) (fs := am_df 8) (e := 0) (by decide)
  have hk' : am_kk (am_own 63) 7 = some 8 := by rw [own_63]; exact kk_8_7
  rw [fU_63]
  simp (disch := first | omega | exact up_r | exact Nat.le_of_ble_eq_true rfl) only [own_63, am_go dc_63_0, am_go dc_63_3, J_dup_i, J_dup_r, am_go dc_63_4, J_aload_0, K_al, ld_0, am_go dc_63_5, J_getfield, gf_r, fk_8_9_8, am_go dc_63_8, J_iload_1, K_il, ld_1, am_go dc_63_9, am_go dc_63_10, fk_8_13_8, am_go dc_63_13, am_go dc_63_14, fk_8_16_8, am_go dc_63_17, am_go dc_63_18, fk_8_20_8, am_go dc_63_21, cn_8_23 own_63, JR_0, am_go dc_63_24, J_ret_o ret_63, J_newc hk' (Nat.le_of_ble_eq_true rfl), hat2, bFk2, lF0, lF1, lF2, lF3, lF4, lF5, lF6, hct, List.length_cons, List.length_nil, Nat.reduceAdd, Nat.reduceLT, Nat.reduceLeDiff, Nat.reduceEqDiff, ↓reduceIte, bind_s, if_true, if_false, not_true_eq_false, not_false_eq_true, Nat.zero_add]
  rfl
theorem kk_9_8 : am_kk 9 8 = some 9 := by decide +kernel
theorem bm_priced_3 {a : Nat} {x : Int32} (hB : isB H a b id f on g) (hk : b.1 = 3) (hz : H z.1 = none) : am_f X (d + 4) 62 [.ref a, .int x] (H, z) = some (.inl (some (.ref z.1)), (am_up H z.1 (.inr (9, bF b id (upd f 1 x))), (z.1 + 1, z.2 + (am_df 9).length))) := by
  have hat := hB.at
  have hne : a ≠ z.1 := fun e => by
    rw [e, hz] at hat
    exact absurd hat (by simp)
  obtain ⟨k, wa, ca, oa⟩ := b
  dsimp only at hk
  subst hk
  have hat2 : ∀ e, am_up H z.1 e a = some (.inr (9, bF (3, wa, ca, oa) id f)) := fun e => by rw [up_x hne]; exact hat
  have hct := bi41_9 (X := X) (h := H) (d := d + 1) (z := (z.1 + 1, z.2 + (am_df 9).length)) (a := z.1) (w := wa) (c := ca) (i := id) (p := x) (q := f 2) (fs := am_df 9) (e := f 4) (by decide)
  have hk' : am_kk (am_own 62) 8 = some 9 := by rw [own_62]; exact kk_9_8
  rw [fU_62]
  simp (disch := first | omega | exact up_r | exact Nat.le_of_ble_eq_true rfl) only [own_62, am_go dc_62_0, am_go dc_62_3, J_dup_i, J_dup_r, am_go dc_62_4, J_aload_0, K_al, ld_0, am_go dc_62_5, J_getfield, gf_r, fk_9_13_9, am_go dc_62_8, J_iload_1, K_il, ld_1, am_go dc_62_9, am_go dc_62_10, fk_9_16_9, am_go dc_62_13, am_go dc_62_14, fk_9_19_9, am_go dc_62_17, am_go dc_62_18, fk_9_23_9, am_go dc_62_21, am_go dc_62_22, fk_9_7_9, am_go dc_62_25, cn_9_26 own_62, JR_0, am_go dc_62_28, J_ret_o ret_62, J_newc hk' (Nat.le_of_ble_eq_true rfl), hat2, bFk3, lF0, lF1, lF2, lF3, lF4, lF5, lF6, hct, List.length_cons, List.length_nil, Nat.reduceAdd, Nat.reduceLT, Nat.reduceLeDiff, Nat.reduceEqDiff, ↓reduceIte, bind_s, if_true, if_false, not_true_eq_false, not_false_eq_true, Nat.zero_add]
  rfl
theorem kk_10_8 : am_kk 10 8 = some 10 := by decide +kernel
theorem bm_priced_4 {a : Nat} {x : Int32} (hB : isB H a b id f on g) (hk : b.1 = 4) (hz : H z.1 = none) : am_f X (d + 4) 64 [.ref a, .int x] (H, z) = some (.inl (some (.ref z.1)), (am_up H z.1 (.inr (10, bF b id (upd f 1 x))), (z.1 + 1, z.2 + (am_df 10).length))) := by
  have hat := hB.at
  have hne : a ≠ z.1 := fun e => by
    rw [e, hz] at hat
    exact absurd hat (by simp)
  obtain ⟨k, wa, ca, oa⟩ := b
  dsimp only at hk
  subst hk
  have hat2 : ∀ e, am_up H z.1 e a = some (.inr (10, bF (4, wa, ca, oa) id f)) := fun e => by rw [up_x hne]; exact hat
  have hct := bi42_10 (X := X) (h := H) (d := d + 0) (z := (z.1 + 1, z.2 + (am_df 10).length)) (a := z.1) (w := wa) (c := ca) (i := id) (p := x) (q := f 2) (fs := am_df 10) (e := f 4) (y := oa) (by decide)
  have hk' : am_kk (am_own 64) 8 = some 10 := by rw [own_64]; exact kk_10_8
  rw [fU_64]
  simp (disch := first | omega | exact up_r | exact Nat.le_of_ble_eq_true rfl) only [own_64, am_go dc_64_0, am_go dc_64_3, J_dup_i, J_dup_r, am_go dc_64_4, J_aload_0, K_al, ld_0, am_go dc_64_5, J_getfield, gf_r, fk_10_13_10, am_go dc_64_8, J_iload_1, K_il, ld_1, am_go dc_64_9, am_go dc_64_10, fk_10_17_10, am_go dc_64_13, am_go dc_64_14, fk_10_20_10, am_go dc_64_17, am_go dc_64_18, fk_10_23_10, am_go dc_64_21, am_go dc_64_22, fk_10_26_10, am_go dc_64_25, am_go dc_64_26, fk_10_7_10, am_go dc_64_29, cn_10_29 own_64, JR_0, am_go dc_64_32, J_ret_o ret_64, J_newc hk' (Nat.le_of_ble_eq_true rfl), hat2, bFk4, lF0, lF1, lF2, lF3, lF4, lF5, lF6, hct, List.length_cons, List.length_nil, Nat.reduceAdd, Nat.reduceLT, Nat.reduceLeDiff, Nat.reduceEqDiff, ↓reduceIte, bind_s, if_true, if_false, not_true_eq_false, not_false_eq_true, Nat.zero_add]
  rfl
theorem kk_11_8 : am_kk 11 8 = some 11 := by decide +kernel
theorem bm_priced_5 {a : Nat} {x : Int32} (hB : isB H a b id f on g) (hk : b.1 = 5) (hz : H z.1 = none) : am_f X (d + 4) 66 [.ref a, .int x] (H, z) = some (.inl (some (.ref z.1)), (am_up H z.1 (.inr (11, bF b id (upd f 1 x))), (z.1 + 1, z.2 + (am_df 11).length))) := by
  have hat := hB.at
  have hne : a ≠ z.1 := fun e => by
    rw [e, hz] at hat
    exact absurd hat (by simp)
  obtain ⟨k, wa, ca, oa⟩ := b
  dsimp only at hk
  subst hk
  have hat2 : ∀ e, am_up H z.1 e a = some (.inr (11, bF (5, wa, ca, oa) id f)) := fun e => by rw [up_x hne]; exact hat
  have hct := bi43_11 (X := X) (h := H) (d := d + 1) (z := (z.1 + 1, z.2 + (am_df 11).length)) (a := z.1) (w := wa) (c := ca) (i := id) (p := x) (q := f 2) (fs := am_df 11) (e := f 4) (by decide)
  have hk' : am_kk (am_own 66) 8 = some 11 := by rw [own_66]; exact kk_11_8
  rw [fU_66]
  simp (disch := first | omega | exact up_r | exact Nat.le_of_ble_eq_true rfl) only [own_66, am_go dc_66_0, am_go dc_66_3, J_dup_i, J_dup_r, am_go dc_66_4, J_aload_0, K_al, ld_0, am_go dc_66_5, J_getfield, gf_r, fk_11_13_11, am_go dc_66_8, J_iload_1, K_il, ld_1, am_go dc_66_9, am_go dc_66_10, fk_11_16_11, am_go dc_66_13, am_go dc_66_14, fk_11_19_11, am_go dc_66_17, am_go dc_66_18, fk_11_23_11, am_go dc_66_21, am_go dc_66_22, fk_11_7_11, am_go dc_66_25, cn_11_26 own_66, JR_0, am_go dc_66_28, J_ret_o ret_66, J_newc hk' (Nat.le_of_ble_eq_true rfl), hat2, bFk5, lF0, lF1, lF2, lF3, lF4, lF5, lF6, hct, List.length_cons, List.length_nil, Nat.reduceAdd, Nat.reduceLT, Nat.reduceLeDiff, Nat.reduceEqDiff, ↓reduceIte, bind_s, if_true, if_false, not_true_eq_false, not_false_eq_true, Nat.zero_add]
  rfl
theorem vx_1_50 {a : Nat} {x : Int32} (ho : am_own t = 1) (hB : isB H a b id f on g) (hz : H z.1 = none) (hr : rest.length ≤ 8) : am_J X (am_f X (d + 4)) t (some (.invokevirtual 50, nx, tg)) pc lv (.int x :: .ref a :: rest) (H, z) = am_I X (am_f X (d + 4)) t nx lv (.ref z.1 :: rest) (am_up H z.1 (.inr (6 + b.1, bF b id (upd f 1 x))), (z.1 + 1, z.2 + (am_df (6 + b.1)).length)) := by
  rcases hB.k with h | h | h | h | h | h
  · rw [cv_1_50_6 ho (by rw [hB.ci, h]) hr, bm_priced_0 hB h hz, h]
    rfl
  · rw [cv_1_50_7 ho (by rw [hB.ci, h]) hr, bm_priced_1 hB h hz, h]
    rfl
  · rw [cv_1_50_8 ho (by rw [hB.ci, h]) hr, bm_priced_2 hB h hz, h]
    rfl
  · rw [cv_1_50_9 ho (by rw [hB.ci, h]) hr, bm_priced_3 hB h hz, h]
    rfl
  · rw [cv_1_50_10 ho (by rw [hB.ci, h]) hr, bm_priced_4 hB h hz, h]
    rfl
  · rw [cv_1_50_11 ho (by rw [hB.ci, h]) hr, bm_priced_5 hB h hz, h]
    rfl
theorem isB.pr {a n : Nat} {x : Int32} (hB : isB H a b id f on g) (hz : H n = none) : isB (am_up H n (.inr (6 + b.1, bF b id (upd f 1 x)))) n b id (upd f 1 x) on g := by
  have ne : ∀ q e, H q = some e → q ≠ n := fun q e h1 h2 => by
    rw [h2, hz] at h1
    exact absurd h1 (by simp)
  obtain ⟨h1, h2, h3, h4, ⟨w, h5, h6⟩, ⟨c, h7, h8⟩, h9⟩ := hB
  have u0 : ∀ j, j ≠ 1 → upd f 1 x j = f j := fun j hj => upd_o hj
  unfold isB
  rw [u0 0 (by decide), u0 3 (by decide), u0 4 (by decide)]
  refine ⟨h1, h2, h3, up_r, ⟨w, by rw [up_x (ne _ _ h5)]; exact h5, fun i hi => by rw [u0 _ (by omega)]; exact h6 i hi⟩, ⟨c, by rw [up_x (ne _ _ h7)]; exact h7, fun i hi => by rw [u0 _ (by omega)]; exact h8 i hi⟩, fun e => ?_⟩
  obtain ⟨k1, e', k2, k3⟩ := h9 e
  exact ⟨k1, e', by rw [up_x (ne _ _ k2)]; exact k2, k3⟩
end BM
