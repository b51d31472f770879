/-! Reader: a box made -/
def eX (e q : Nat) : Prop := q ≠ e ∧ q ≠ e + 10 ∧ q ≠ e + 11 ∧ q ≠ e + 12
theorem eC_n {e k : Nat} {D : mU × Nat} (h0 : k ≠ 0) (h1 : k ≠ 10) (h2 : k ≠ 11) (h3 : k ≠ 12) : eC e D k = none := by
  match k, h0, h1, h2, h3 with
  | 0, h, _, _, _ => exact absurd rfl h
  | 1, _, _, _, _ => rfl
  | 2, _, _, _, _ => rfl
  | 3, _, _, _, _ => rfl
  | 4, _, _, _, _ => rfl
  | 5, _, _, _, _ => rfl
  | 6, _, _, _, _ => rfl
  | 7, _, _, _, _ => rfl
  | 8, _, _, _, _ => rfl
  | 9, _, _, _, _ => rfl
  | 10, _, h, _, _ => exact absurd rfl h
  | 11, _, _, h, _ => exact absurd rfl h
  | 12, _, _, _, h => exact absurd rfl h
  | k + 13, _, _, _, _ => rfl
theorem eH_up {h : am_H} {e q : Nat} {D : mU × Nat} {x : am_E} (hq : eX e q) : am_up (eH h e D) q x = eH (am_up h q x) e D := ov_up (fun k hk => by
  obtain ⟨h0, h1, h2, h3⟩ := hq
  exact eC_n (by omega) (by omega) (by omega) (by omega))
theorem eH_x {h : am_H} {e q : Nat} {D : mU × Nat} (hq : eX e q) : eH h e D q = h q := ov_x (fun k hk => by
  obtain ⟨h0, h1, h2, h3⟩ := hq
  exact eC_n (by omega) (by omega) (by omega) (by omega))
theorem eH_out {h : am_H} {e q : Nat} {D : mU × Nat} (hq : eH h e D q = none) : eX e q ∧ h q = none := by
  have h0 := ov_out (k := 0) hq rfl
  have h1 := ov_out (k := 10) hq rfl
  have h2 := ov_out (k := 11) hq rfl
  have h3 := ov_out (k := 12) hq rfl
  have hx : eX e q := ⟨h0, h1, h2, h3⟩
  exact ⟨hx, by rw [← eH_x (h := h) (D := D) hx]; exact hq⟩
theorem up_c {h : am_H} {p q : Nat} {x y : am_E} (hpq : p ≠ q) : am_up (am_up h p x) q y = am_up (am_up h q y) p x := by
  funext j
  unfold am_up
  by_cases e1 : j = q
  · have : ¬ j = p := by omega
    simp [e1, this]
    omega
  · simp [e1]
section RM
variable {X : am_X} {rec : am_O} {h : am_H} {e r d nx tg : Nat} {u : mU} {z : Nat × Nat} {lv : am_L} {st : List Value} {σ : am_S}
theorem ls_36_33 : am_J X rec 36 (some (.lookupswitch 174 #[(33, 75), (60, 94), (62, 117), (63, 52), (64, 151)], nx, tg)) 36 lv (.int (zI 33) :: st) σ = am_I X rec 36 111 lv st σ := rfl
theorem ls_36_60 : am_J X rec 36 (some (.lookupswitch 174 #[(33, 75), (60, 94), (62, 117), (63, 52), (64, 151)], nx, tg)) 36 lv (.int (zI 60) :: st) σ = am_I X rec 36 130 lv st σ := rfl
theorem ls_36_62 : am_J X rec 36 (some (.lookupswitch 174 #[(33, 75), (60, 94), (62, 117), (63, 52), (64, 151)], nx, tg)) 36 lv (.int (zI 62) :: st) σ = am_I X rec 36 153 lv st σ := rfl
theorem ls_36_63 : am_J X rec 36 (some (.lookupswitch 174 #[(33, 75), (60, 94), (62, 117), (63, 52), (64, 151)], nx, tg)) 36 lv (.int (zI 63) :: st) σ = am_I X rec 36 88 lv st σ := rfl
theorem ls_36_64 : am_J X rec 36 (some (.lookupswitch 174 #[(33, 75), (60, 94), (62, 117), (63, 52), (64, 151)], nx, tg)) 36 lv (.int (zI 64) :: st) σ = am_I X rec 36 187 lv st σ := rfl
theorem ls_36_d {x : Int32} (h1 : ¬ x = zI 33) (h2 : ¬ x = zI 60) (h3 : ¬ x = zI 62) (h4 : ¬ x = zI 63) (h5 : ¬ x = zI 64) : am_J X rec 36 (some (.lookupswitch 174 #[(33, 75), (60, 94), (62, 117), (63, 52), (64, 151)], nx, tg)) 36 lv (.int x :: st) σ = am_I X rec 36 210 lv st σ := by
  rw [J_lsw]
  have e : Op.lookupswitch.offset (#[(33, 75), (60, 94), (62, 117), (63, 52), (64, 151)] : Array (Int × Int)).toList 174 x.toInt = 174 := by
    show Op.lookupswitch.offset [(33, 75), (60, 94), (62, 117), (63, 52), (64, 151)] 174 x.toInt = 174
    rw [lv_osw (a := 33) h1 rfl, lv_osw (a := 60) h2 rfl, lv_osw (a := 62) h3 rfl, lv_osw (a := 63) h4 rfl, lv_osw (a := 64) h5 rfl]
    rfl
  unfold am_pure
  simp only
  rw [e]
  rfl
theorem kk_3_139 : am_kk 3 139 = some 6 := by decide +kernel
theorem kk_3_154 : am_kk 3 154 = some 7 := by decide +kernel
theorem kk_3_159 : am_kk 3 159 = some 8 := by decide +kernel
theorem kk_3_164 : am_kk 3 164 = some 9 := by decide +kernel
theorem kk_3_167 : am_kk 3 167 = some 10 := by decide +kernel
theorem kk_3_172 : am_kk 3 172 = some 11 := by decide +kernel
theorem e_mk0 {wa ca oa : Nat} {i : Int32} {f : Nat → Int32} {g : Int32} (h11 : u.2.2.1 11 = g) (g1 : ¬ g = zI 33) (g2 : ¬ g = zI 60) (g3 : ¬ g = zI 62) (g4 : ¬ g = zI 63) (g5 : ¬ g = zI 64) (f1 : f 1 = u.2.2.1 6) (f2 : f 2 = u.2.2.1 7) (hz : eX e z.1) : am_I X (am_f X (d + 3)) 36 32 [some (.ref e), some (.int i), some (.ref wa), some (.ref ca)] [] (eH h e (u, r), z) = some (.inl (some (.ref z.1)), (eH (am_up h z.1 (.inr (6, bF (0, wa, ca, oa) i f))) e (u, r), (z.1 + 1, z.2 + (am_df 6).length))) := by
  have hup : ∀ x, am_up (eH h e (u, r)) z.1 x = eH (am_up h z.1 x) e (u, r) := fun x => eH_up hz
  have hr2 : ∀ x, eH (am_up h z.1 x) e (u, r) z.1 = some x := fun x => by rw [← hup]; exact up_r
  have hct := bi39_6 (X := X) (h := eH h e (u, r)) (d := d + 2) (z := (z.1 + 1, z.2 + (am_df 6).length)) (a := z.1) (w := wa) (c := ca) (i := i) (p := u.2.2.1 6) (q := u.2.2.1 7) (fs := am_df 6) (by decide)
  rw [hup, hup] at hct
  have hk' : am_kk (am_own 36) 139 = some 6 := by rw [own_36]; exact kk_3_139
  rw [bFk0, f1, f2, am_go dc_36_32]
  simp (disch := first | omega | exact Nat.le_of_ble_eq_true rfl | exact eH_ci | (refine eF_lt ?_; omega) | exact hr2 _) only [own_36, J_aload_0, K_al, ld_0, am_go dc_36_33, J_getfield, gf_r, fk_3_98_3, am_go dc_36_36, am_go dc_36_210, am_go dc_36_213, J_dup_i, J_dup_r, am_go dc_36_214, J_iload_1, K_il, ld_1, am_go dc_36_215, am_go dc_36_216, fk_3_80_3, am_go dc_36_219, am_go dc_36_220, fk_3_83_3, am_go dc_36_223, J_aload_2, ld_2, am_go dc_36_224, J_aload_3, ld_3, am_go dc_36_225, cn_3_175 own_36, JR_0, am_go dc_36_228, J_ret_o ret_36, eg_4, eg_9, eg_8, eg_10, eg_11, eg_6, eg_7, eg_12, eg_14, eg_13, eH_0, eH_10, eH_11, eH_12, ew_10, ew_11, ew_12, zI_add, zI_mul, zI_lt, zI_le, zI_eq, zI_neg, zI_pos, zI_ne0, zI_gt0, zB_0, lg_cmp_ge, lg_cmp_le, lg_cmp_gt, lg_cmp_lt, lg_cmp_eq, ail_r, abl_r, all_r, ais_r, abs_r, als_r, aal_r, aal_q, aln_r, vrf_s, vrf_n, z32, h11, ls_36_d g1 g2 g3 g4 g5, J_newc hk' (Nat.le_of_ble_eq_true rfl), hup, hct, List.length_cons, List.length_nil, Nat.reduceAdd, Nat.reduceLT, Nat.reduceLeDiff, Nat.reduceEqDiff, ↓reduceIte, bind_s, if_true, if_false, not_true_eq_false, not_false_eq_true, Nat.zero_add]
  rfl
theorem e_mk1 {wa ca oa : Nat} {i : Int32} {f : Nat → Int32} (h11 : u.2.2.1 11 = zI 63) (f1 : f 1 = u.2.2.1 6) (f2 : f 2 = u.2.2.1 7) (f4 : f 4 = u.2.2.1 12) (hz : eX e z.1) : am_I X (am_f X (d + 3)) 36 32 [some (.ref e), some (.int i), some (.ref wa), some (.ref ca)] [] (eH h e (u, r), z) = some (.inl (some (.ref z.1)), (eH (am_up h z.1 (.inr (7, bF (1, wa, ca, oa) i f))) e (u, r), (z.1 + 1, z.2 + (am_df 7).length))) := by
  have hup : ∀ x, am_up (eH h e (u, r)) z.1 x = eH (am_up h z.1 x) e (u, r) := fun x => eH_up hz
  have hr2 : ∀ x, eH (am_up h z.1 x) e (u, r) z.1 = some x := fun x => by rw [← hup]; exact up_r
  have hct := bi38_7 (X := X) (h := eH h e (u, r)) (d := d + 1) (z := (z.1 + 1, z.2 + (am_df 7).length)) (a := z.1) (w := wa) (c := ca) (i := i) (p := u.2.2.1 6) (q := u.2.2.1 7) (fs := am_df 7) (e := u.2.2.1 12) (by decide)
  rw [hup, hup] at hct
  have hk' : am_kk (am_own 36) 154 = some 7 := by rw [own_36]; exact kk_3_154
  rw [bFk1, f1, f2, f4, am_go dc_36_32]
  simp (disch := first | omega | exact Nat.le_of_ble_eq_true rfl | exact eH_ci | (refine eF_lt ?_; omega) | exact hr2 _) only [own_36, J_aload_0, K_al, ld_0, am_go dc_36_33, J_getfield, gf_r, fk_3_98_3, am_go dc_36_36, am_go dc_36_88, am_go dc_36_91, J_dup_i, J_dup_r, am_go dc_36_92, J_iload_1, K_il, ld_1, am_go dc_36_93, am_go dc_36_94, fk_3_80_3, am_go dc_36_97, am_go dc_36_98, fk_3_83_3, am_go dc_36_101, J_aload_2, ld_2, am_go dc_36_102, J_aload_3, ld_3, am_go dc_36_103, am_go dc_36_104, fk_3_73_3, am_go dc_36_107, cn_3_156 own_36, JR_0, am_go dc_36_110, J_ret_o ret_36, eg_4, eg_9, eg_8, eg_10, eg_11, eg_6, eg_7, eg_12, eg_14, eg_13, eH_0, eH_10, eH_11, eH_12, ew_10, ew_11, ew_12, zI_add, zI_mul, zI_lt, zI_le, zI_eq, zI_neg, zI_pos, zI_ne0, zI_gt0, zB_0, lg_cmp_ge, lg_cmp_le, lg_cmp_gt, lg_cmp_lt, lg_cmp_eq, ail_r, abl_r, all_r, ais_r, abs_r, als_r, aal_r, aal_q, aln_r, vrf_s, vrf_n, z32, h11, ls_36_63, J_newc hk' (Nat.le_of_ble_eq_true rfl), hup, hct, List.length_cons, List.length_nil, Nat.reduceAdd, Nat.reduceLT, Nat.reduceLeDiff, Nat.reduceEqDiff, ↓reduceIte, bind_s, if_true, if_false, not_true_eq_false, not_false_eq_true, Nat.zero_add]
  rfl
theorem e_mk2 {wa ca oa : Nat} {i : Int32} {f : Nat → Int32} (h11 : u.2.2.1 11 = zI 33) (f1 : f 1 = u.2.2.1 6) (f2 : f 2 = u.2.2.1 7) (hz : eX e z.1) : am_I X (am_f X (d + 3)) 36 32 [some (.ref e), some (.int i), some (.ref wa), some (.ref ca)] [] (eH h e (u, r), z) = some (.inl (some (.ref z.1)), (eH (am_up h z.1 (.inr (8, bF (2, wa, ca, oa) i f))) e (u, r), (z.1 + 1, z.2 + (am_df 8).length))) := by
  have hup : ∀ x, am_up (eH h e (u, r)) z.1 x = eH (am_up h z.1 x) e (u, r) := fun x => eH_up hz
  have hr2 : ∀ x, eH (am_up h z.1 x) e (u, r) z.1 = some x := fun x => by rw [← hup]; exact up_r
  have hct := bi40_8 (X := X) (h := eH h e (u, r)) (d := d + 1) (z := (z.1 + 1, z.2 + (am_df 8).length)) (a := z.1) (w := wa) (c := ca) (i := i) (p := u.2.2.1 6) (q := u.2.2.1 7) (fs := am_df 8) (e := 0) (by decide)
  rw [hup, hup] at hct
  have hk' : am_kk (am_own 36) 159 = some 8 := by rw [own_36]; exact kk_3_159
  rw [bFk2, f1, f2, am_go dc_36_32]
  simp (disch := first | omega | exact Nat.le_of_ble_eq_true rfl | exact eH_ci | (refine eF_lt ?_; omega) | exact hr2 _) only [own_36, J_aload_0, K_al, ld_0, am_go dc_36_33, J_getfield, gf_r, fk_3_98_3, am_go dc_36_36, am_go dc_36_111, am_go dc_36_114, J_dup_i, J_dup_r, am_go dc_36_115, J_iload_1, K_il, ld_1, am_go dc_36_116, am_go dc_36_117, fk_3_80_3, am_go dc_36_120, am_go dc_36_121, fk_3_83_3, am_go dc_36_124, J_aload_2, ld_2, am_go dc_36_125, J_aload_3, ld_3, am_go dc_36_126, cn_3_161 own_36, JR_0, am_go dc_36_129, J_ret_o ret_36, eg_4, eg_9, eg_8, eg_10, eg_11, eg_6, eg_7, eg_12, eg_14, eg_13, eH_0, eH_10, eH_11, eH_12, ew_10, ew_11, ew_12, zI_add, zI_mul, zI_lt, zI_le, zI_eq, zI_neg, zI_pos, zI_ne0, zI_gt0, zB_0, lg_cmp_ge, lg_cmp_le, lg_cmp_gt, lg_cmp_lt, lg_cmp_eq, ail_r, abl_r, all_r, ais_r, abs_r, als_r, aal_r, aal_q, aln_r, vrf_s, vrf_n, z32, h11, ls_36_33, J_newc hk' (Nat.le_of_ble_eq_true rfl), hup, hct, List.length_cons, List.length_nil, Nat.reduceAdd, Nat.reduceLT, Nat.reduceLeDiff, Nat.reduceEqDiff, ↓reduceIte, bind_s, if_true, if_false, not_true_eq_false, not_false_eq_true, Nat.zero_add]
  rfl
theorem e_mk3 {wa ca oa : Nat} {i : Int32} {f : Nat → Int32} (h11 : u.2.2.1 11 = zI 60) (f1 : f 1 = u.2.2.1 6) (f2 : f 2 = u.2.2.1 7) (f4 : f 4 = u.2.2.1 12) (hz : eX e z.1) : am_I X (am_f X (d + 3)) 36 32 [some (.ref e), some (.int i), some (.ref wa), some (.ref ca)] [] (eH h e (u, r), z) = some (.inl (some (.ref z.1)), (eH (am_up h z.1 (.inr (9, bF (3, wa, ca, oa) i f))) e (u, r), (z.1 + 1, z.2 + (am_df 9).length))) := by
  have hup : ∀ x, am_up (eH h e (u, r)) z.1 x = eH (am_up h z.1 x) e (u, r) := fun x => eH_up hz
  have hr2 : ∀ x, eH (am_up h z.1 x) e (u, r) z.1 = some x := fun x => by rw [← hup]; exact up_r
  have hct := bi41_9 (X := X) (h := eH h e (u, r)) (d := d + 1) (z := (z.1 + 1, z.2 + (am_df 9).length)) (a := z.1) (w := wa) (c := ca) (i := i) (p := u.2.2.1 6) (q := u.2.2.1 7) (fs := am_df 9) (e := u.2.2.1 12) (by decide)
  rw [hup, hup] at hct
  have hk' : am_kk (am_own 36) 164 = some 9 := by rw [own_36]; exact kk_3_164
  rw [bFk3, f1, f2, f4, am_go dc_36_32]
  simp (disch := first | omega | exact Nat.le_of_ble_eq_true rfl | exact eH_ci | (refine eF_lt ?_; omega) | exact hr2 _) only [own_36, J_aload_0, K_al, ld_0, am_go dc_36_33, J_getfield, gf_r, fk_3_98_3, am_go dc_36_36, am_go dc_36_130, am_go dc_36_133, J_dup_i, J_dup_r, am_go dc_36_134, J_iload_1, K_il, ld_1, am_go dc_36_135, am_go dc_36_136, fk_3_80_3, am_go dc_36_139, am_go dc_36_140, fk_3_83_3, am_go dc_36_143, J_aload_2, ld_2, am_go dc_36_144, J_aload_3, ld_3, am_go dc_36_145, am_go dc_36_146, fk_3_73_3, am_go dc_36_149, cn_3_166 own_36, JR_0, am_go dc_36_152, J_ret_o ret_36, eg_4, eg_9, eg_8, eg_10, eg_11, eg_6, eg_7, eg_12, eg_14, eg_13, eH_0, eH_10, eH_11, eH_12, ew_10, ew_11, ew_12, zI_add, zI_mul, zI_lt, zI_le, zI_eq, zI_neg, zI_pos, zI_ne0, zI_gt0, zB_0, lg_cmp_ge, lg_cmp_le, lg_cmp_gt, lg_cmp_lt, lg_cmp_eq, ail_r, abl_r, all_r, ais_r, abs_r, als_r, aal_r, aal_q, aln_r, vrf_s, vrf_n, z32, h11, ls_36_60, J_newc hk' (Nat.le_of_ble_eq_true rfl), hup, hct, List.length_cons, List.length_nil, Nat.reduceAdd, Nat.reduceLT, Nat.reduceLeDiff, Nat.reduceEqDiff, ↓reduceIte, bind_s, if_true, if_false, not_true_eq_false, not_false_eq_true, Nat.zero_add]
  rfl
theorem e_mk4 {wa ca : Nat} {i : Int32} {f : Nat → Int32} (h11 : u.2.2.1 11 = zI 62) (f1 : f 1 = u.2.2.1 6) (f2 : f 2 = u.2.2.1 7) (f4 : f 4 = u.2.2.1 12) (hz : eX e z.1) {on : Nat} (h13 : u.2.2.1 13 = zI on) (hon : on ≤ 4) (hz1 : eX e (z.1 + 1)) (hn1 : h (z.1 + 1) = none) : ∃ O : Nat → Int32, (∀ j, j < on → O j = u.1 14 j) ∧ am_I X (am_f X (d + 3)) 36 32 [some (.ref e), some (.int i), some (.ref wa), some (.ref ca)] [] (eH h e (u, r), z) = some (.inl (some (.ref z.1)), (eH (am_up (am_up h (z.1 + 1) (.inl (.int, on, .inl O))) z.1 (.inr (10, bF (4, wa, ca, z.1 + 1) i f))) e (u, r), (z.1 + 2, z.2 + 7 + on))) := by
  have hup : ∀ x, am_up (eH h e (u, r)) z.1 x = eH (am_up h z.1 x) e (u, r) := fun x => eH_up hz
  have hup1 : ∀ h x, am_up (eH h e (u, r)) (z.1 + 1) x = eH (am_up h (z.1 + 1) x) e (u, r) := fun h x => eH_up hz1
  have hn1' : eH (am_up h z.1 (.inr (10, am_df 10))) e (u, r) (z.1 + 1) = none := by
    rw [eH_x hz1, up_x (by omega)]
    exact hn1
  obtain ⟨O, o1, o2⟩ := a_copyOf (X := X) (d := d + 2) (H := eH (am_up h z.1 (.inr (10, am_df 10))) e (u, r)) (z := (z.1 + 1, z.2 + 7)) (a := e + 12) (k := on) eH_12 hn1' hon (by omega)
  have o1' : am_f X (d + 3) 37 [.ref (e + 12), .int (zI on)] (eH (am_up h z.1 (.inr (10, am_df 10))) e (u, r), (z.1 + 1, z.2 + 7)) = some (.inl (some (.ref (z.1 + 1))), (eH (am_up (am_up h z.1 (.inr (10, am_df 10))) (z.1 + 1) (.inl (.int, on, .inl O))) e (u, r), (z.1 + 2, z.2 + 7 + on))) := by
    rw [← hup1]
    exact o1
  refine ⟨O, o2, ?_⟩
  have hr2 : ∀ h x, eH (am_up h z.1 x) e (u, r) z.1 = some x := fun h x => by rw [← eH_up hz]; exact up_r
  have hcc : am_up (am_up h z.1 (.inr (10, am_df 10))) (z.1 + 1) (.inl (.int, on, .inl O)) = am_up (am_up h (z.1 + 1) (.inl (.int, on, .inl O))) z.1 (.inr (10, am_df 10)) := up_c (by omega)
  rw [hcc] at o1'
  have hct := bi42_10 (X := X) (h := eH (am_up h (z.1 + 1) (.inl (.int, on, .inl O))) e (u, r)) (d := d) (z := (z.1 + 2, z.2 + 7 + on)) (a := z.1) (w := wa) (c := ca) (i := i) (p := u.2.2.1 6) (q := u.2.2.1 7) (e := u.2.2.1 12) (y := z.1 + 1) (fs := am_df 10) (by decide)
  rw [eH_up hz, eH_up hz] at hct
  have hl7 : (am_df 10).length = 7 := rfl
  have hk' : am_kk (am_own 36) 167 = some 10 := by rw [own_36]; exact kk_3_167
  rw [bFk4, f1, f2, f4, am_go dc_36_32]
  simp (disch := first | omega | exact Nat.le_of_ble_eq_true rfl | exact eH_ci | (refine eF_lt ?_; omega) | exact hr2 _ _) only [own_36, J_aload_0, K_al, ld_0, am_go dc_36_33, J_getfield, gf_r, fk_3_98_3, am_go dc_36_36, am_go dc_36_153, am_go dc_36_156, J_dup_i, J_dup_r, am_go dc_36_157, J_iload_1, K_il, ld_1, am_go dc_36_158, am_go dc_36_159, fk_3_80_3, am_go dc_36_162, am_go dc_36_163, fk_3_83_3, am_go dc_36_166, J_aload_2, ld_2, am_go dc_36_167, J_aload_3, ld_3, am_go dc_36_168, am_go dc_36_169, fk_3_73_3, am_go dc_36_172, am_go dc_36_173, fk_3_28_3, am_go dc_36_176, am_go dc_36_177, fk_3_101_3, am_go dc_36_180, cs_3_148 own_36, JR_v, JR_0, JR_ite, am_go dc_36_183, cn_3_169 own_36, am_go dc_36_186, J_ret_o ret_36, eg_4, eg_9, eg_8, eg_10, eg_11, eg_6, eg_7, eg_12, eg_14, eg_13, eH_0, eH_10, eH_11, eH_12, ew_10, ew_11, ew_12, zI_add, zI_mul, zI_lt, zI_le, zI_eq, zI_neg, zI_pos, zI_ne0, zI_gt0, zB_0, lg_cmp_ge, lg_cmp_le, lg_cmp_gt, lg_cmp_lt, lg_cmp_eq, ail_r, abl_r, all_r, ais_r, abs_r, als_r, aal_r, aal_q, aln_r, vrf_s, vrf_n, z32, h11, h13, ls_36_62, J_newc hk' (Nat.le_of_ble_eq_true rfl), hl7, hup, o1', hct, List.length_cons, List.length_nil, Nat.reduceAdd, Nat.reduceLT, Nat.reduceLeDiff, Nat.reduceEqDiff, ↓reduceIte, bind_s, if_true, if_false, not_true_eq_false, not_false_eq_true, Nat.zero_add]
  rfl
theorem e_mk5 {wa ca oa : Nat} {i : Int32} {f : Nat → Int32} (h11 : u.2.2.1 11 = zI 64) (f1 : f 1 = u.2.2.1 6) (f2 : f 2 = u.2.2.1 7) (f4 : f 4 = u.2.2.1 12) (hz : eX e z.1) : am_I X (am_f X (d + 3)) 36 32 [some (.ref e), some (.int i), some (.ref wa), some (.ref ca)] [] (eH h e (u, r), z) = some (.inl (some (.ref z.1)), (eH (am_up h z.1 (.inr (11, bF (5, wa, ca, oa) i f))) e (u, r), (z.1 + 1, z.2 + (am_df 11).length))) := by
  have hup : ∀ x, am_up (eH h e (u, r)) z.1 x = eH (am_up h z.1 x) e (u, r) := fun x => eH_up hz
  have hr2 : ∀ x, eH (am_up h z.1 x) e (u, r) z.1 = some x := fun x => by rw [← hup]; exact up_r
  have hct := bi43_11 (X := X) (h := eH h e (u, r)) (d := d + 1) (z := (z.1 + 1, z.2 + (am_df 11).length)) (a := z.1) (w := wa) (c := ca) (i := i) (p := u.2.2.1 6) (q := u.2.2.1 7) (fs := am_df 11) (e := u.2.2.1 12) (by decide)
  rw [hup, hup] at hct
  have hk' : am_kk (am_own 36) 172 = some 11 := by rw [own_36]; exact kk_3_172
  rw [bFk5, f1, f2, f4, am_go dc_36_32]
  simp (disch := first | omega | exact Nat.le_of_ble_eq_true rfl | exact eH_ci | (refine eF_lt ?_; omega) | exact hr2 _) only [own_36, J_aload_0, K_al, ld_0, am_go dc_36_33, J_getfield, gf_r, fk_3_98_3, am_go dc_36_36, am_go dc_36_187, am_go dc_36_190, J_dup_i, J_dup_r, am_go dc_36_191, J_iload_1, K_il, ld_1, am_go dc_36_192, am_go dc_36_193, fk_3_80_3, am_go dc_36_196, am_go dc_36_197, fk_3_83_3, am_go dc_36_200, J_aload_2, ld_2, am_go dc_36_201, J_aload_3, ld_3, am_go dc_36_202, am_go dc_36_203, fk_3_73_3, am_go dc_36_206, cn_3_174 own_36, JR_0, am_go dc_36_209, J_ret_o ret_36, eg_4, eg_9, eg_8, eg_10, eg_11, eg_6, eg_7, eg_12, eg_14, eg_13, eH_0, eH_10, eH_11, eH_12, ew_10, ew_11, ew_12, zI_add, zI_mul, zI_lt, zI_le, zI_eq, zI_neg, zI_pos, zI_ne0, zI_gt0, zB_0, lg_cmp_ge, lg_cmp_le, lg_cmp_gt, lg_cmp_lt, lg_cmp_eq, ail_r, abl_r, all_r, ais_r, abs_r, als_r, aal_r, aal_q, aln_r, vrf_s, vrf_n, z32, h11, ls_36_64, J_newc hk' (Nat.le_of_ble_eq_true rfl), hup, hct, List.length_cons, List.length_nil, Nat.reduceAdd, Nat.reduceLT, Nat.reduceLeDiff, Nat.reduceEqDiff, ↓reduceIte, bind_s, if_true, if_false, not_true_eq_false, not_false_eq_true, Nat.zero_add]
  rfl
end RM
