/-! Reader: a box made, a statement added -/
theorem tH_in {h h' : am_H} {t q : Nat} {T : mU × (Nat → Option Nat)} (h1 : t ≤ q) (h2 : q < t + 8) : tH h t T q = tH h' t T q := by
  obtain ⟨k, rfl, hk⟩ : ∃ k, q = t + k ∧ k < 8 := ⟨q - t, by omega, by omega⟩
  match k, hk with
  | 0, _ => exact (ov_r (k := 0) rfl).trans (ov_r (k := 0) rfl).symm
  | 1, _ => exact (ov_r (k := 1) rfl).trans (ov_r (k := 1) rfl).symm
  | 2, _ => exact (ov_r (k := 2) rfl).trans (ov_r (k := 2) rfl).symm
  | 3, _ => exact (ov_r (k := 3) rfl).trans (ov_r (k := 3) rfl).symm
  | 4, _ => exact (ov_r (k := 4) rfl).trans (ov_r (k := 4) rfl).symm
  | 5, _ => exact (ov_r (k := 5) rfl).trans (ov_r (k := 5) rfl).symm
  | 6, _ => exact (ov_r (k := 6) rfl).trans (ov_r (k := 6) rfl).symm
  | 7, _ => exact (ov_r (k := 7) rfl).trans (ov_r (k := 7) rfl).symm
theorem eH_in {h h' : am_H} {e q : Nat} {D : mU × Nat} (hq : q = e ∨ q = e + 10 ∨ q = e + 11 ∨ q = e + 12) : eH h e D q = eH h' e D q := by
  rcases hq with rfl | rfl | rfl | rfl
  · exact (ov_r (k := 0) rfl).trans (ov_r (k := 0) rfl).symm
  · exact (ov_r (k := 10) rfl).trans (ov_r (k := 10) rfl).symm
  · exact (ov_r (k := 11) rfl).trans (ov_r (k := 11) rfl).symm
  · exact (ov_r (k := 12) rfl).trans (ov_r (k := 12) rfl).symm
theorem te_c {h : am_H} {e : Nat} {T : mU × (Nat → Option Nat)} {D : mU × Nat} : eH (tH h (e + 2) T) e D = tH (eH h e D) (e + 2) T := by
  funext q
  by_cases hx : eX e q
  · rw [eH_x hx]
    by_cases hq : e + 2 ≤ q ∧ q < e + 2 + 8
    · exact tH_in hq.1 hq.2
    · rw [tH_x (by omega), tH_x (by omega), eH_x hx]
  · have hq : q = e ∨ q = e + 10 ∨ q = e + 11 ∨ q = e + 12 := by
      unfold eX at hx
      omega
    rw [tH_x (by omega)]
    exact eH_in hq
section RA
variable {X : am_X} {C : Nat → Prop} {h : am_H} {e r d : Nat} {u : mU} {T : mU × (Nat → Option Nat)} {S : Nat → Int32} {z : Nat × Nat}
theorem isB_mk {H : am_H} {a : Nat} {bb : Nat × Nat × Nat × Nat} {id : Int32} {f W Cc : Nat → Int32} {K on : Nat} {g' : Nat → Int32} (h5 : bb.1 ≤ 5) (f0 : f 0 = zI bb.1) (f3 : f 3 = zI K) (k1 : 1 ≤ K) (k4 : K ≤ 4) (f4 : bb.1 = 0 ∨ bb.1 = 2 → f 4 = -4) (ha : H a = some (.inr (6 + bb.1, bF bb id f))) (hw : H bb.2.1 = some (.inl (.int, K, .inl W))) (hW : ∀ i, i < K → W i = f (6 + i)) (hc : H bb.2.2.1 = some (.inl (.int, K, .inl Cc))) (hC : ∀ i, i < K → Cc i = f (10 + i)) (ho : bb.1 = 4 → on ≤ 4 ∧ ∃ O : Nat → Int32, H bb.2.2.2 = some (.inl (.int, on, .inl O)) ∧ ∀ i, i < on → O i = g' i) : isB H a bb id f on g' := by
  have hK : wN (f 3) = K := by rw [f3, wN_zI (by omega)]
  unfold isB
  rw [hK]
  exact ⟨⟨h5, f0⟩, ⟨f3, k1, k4⟩, f4, ha, ⟨W, hw, hW⟩, ⟨Cc, hc, hC⟩, ho⟩
theorem sKd_eq {g : Int32} : (g = zI 63 → sKd g = 1) ∧ (g = zI 33 → sKd g = 2) ∧ (g = zI 60 → sKd g = 3) ∧ (g = zI 62 → sKd g = 4) ∧ (g = zI 64 → sKd g = 5) ∧ (¬ g = zI 63 → ¬ g = zI 33 → ¬ g = zI 60 → ¬ g = zI 62 → ¬ g = zI 64 → sKd g = 0) := by
  refine ⟨fun h => by rw [h]; decide, fun h => by rw [h]; decide, fun h => by rw [h]; decide, fun h => by rw [h]; decide, fun h => by rw [h]; decide, fun h1 h2 h3 h4 h5 => ?_⟩
  unfold sKd
  rw [if_neg h1, if_neg h2, if_neg h3, if_neg h4, if_neg h5]
theorem e_make {m K on : Nat} {g : Int32} {f g' : Nat → Int32} (hT : isT (eH h e (u, r)) (e + 2) T) (hsz : T.1.2.2.1 1 = zI m) (h8 : u.2.2.1 8 = zI K) (hK1 : 1 ≤ K) (hK : K ≤ 4) (h11 : u.2.2.1 11 = g) (f0 : f 0 = zI (sKd g)) (f1 : f 1 = u.2.2.1 6) (f2 : f 2 = u.2.2.1 7) (f3 : f 3 = zI K) (f4a : sKd g = 0 ∨ sKd g = 2 → f 4 = -4) (f4b : sKd g ≠ 0 → sKd g ≠ 2 → f 4 = u.2.2.1 12) (fw : ∀ i, i < K → f (6 + i) = u.1 9 i) (fc : ∀ i, i < K → f (10 + i) = u.1 10 i) (ho : sKd g = 4 → u.2.2.1 13 = zI on ∧ on ≤ 4 ∧ ∀ i, i < on → g' i = u.1 14 i) (hz : ∀ x, z.1 ≤ x → eH h e (u, r) x = none) : ∃ h' z', am_f X (d + 4) 36 [.ref e] (eH h e (u, r), z) = some (.inl (some (.ref (z.1 + 2))), (eH h' e (u, r), z')) ∧ (∀ x, x < z.1 → h' x = h x) ∧ z.1 + 3 ≤ z'.1 ∧ z'.1 ≤ z.1 + 4 ∧ z'.2 ≤ z.2 + 19 ∧ (∀ x, z'.1 ≤ x → h' x = none) ∧ ∃ bb, bIn (fun x => z.1 ≤ x ∧ x < z'.1) (z.1 + 2) bb ∧ isB h' (z.1 + 2) bb (zI m) f on g' := by
  have hx : ∀ x, z.1 ≤ x → eX e x ∧ h x = none := fun x hx => eH_out (hz x hx)
  obtain ⟨W, w1, w2⟩ := a_copyOf (X := X) (d := d + 2) (H := eH h e (u, r)) (z := z) (a := e + 10) (k := K) eH_10 (hz _ (Nat.le_refl _)) hK (by omega)
  rw [eH_up (hx z.1 (Nat.le_refl _)).1] at w1
  obtain ⟨Cc, c1, c2⟩ := a_copyOf (X := X) (d := d + 2) (H := eH (am_up h z.1 (.inl (.int, K, .inl W))) e (u, r)) (z := (z.1 + 1, z.2 + K)) (a := e + 11) (k := K) eH_11 (by
    show eH (am_up h z.1 (.inl (.int, K, .inl W))) e (u, r) (z.1 + 1) = none
    rw [eH_x (hx (z.1 + 1) (by omega)).1, up_x (by omega)]
    exact (hx (z.1 + 1) (by omega)).2) hK (by omega)
  simp only at c1
  rw [eH_up (hx (z.1 + 1) (by omega)).1] at c1
  have w1' : am_f X (d + 3) 37 [.ref (e + 10), .int (zI K)] (eH h e (u, r), z) = some (.inl (some (.ref z.1)), (eH (am_up h z.1 (.inl (.int, K, .inl W))) e (u, r), (z.1 + 1, z.2 + K))) := w1
  have c1' : am_f X (d + 3) 37 [.ref (e + 11), .int (zI K)] (eH (am_up h z.1 (.inl (.int, K, .inl W))) e (u, r), (z.1 + 1, z.2 + K)) = some (.inl (some (.ref (z.1 + 1))), (eH (am_up (am_up h z.1 (.inl (.int, K, .inl W))) (z.1 + 1) (.inl (.int, K, .inl Cc))) e (u, r), (z.1 + 2, z.2 + K + K))) := c1
  have g0 : am_f X (d + 4) 36 [.ref e] (eH h e (u, r), z) = am_I X (am_f X (d + 3)) 36 32 [some (.ref e), some (.int (zI m)), some (.ref z.1), some (.ref (z.1 + 1))] [] (eH (am_up (am_up h z.1 (.inl (.int, K, .inl W))) (z.1 + 1) (.inl (.int, K, .inl Cc))) e (u, r), (z.1 + 2, z.2 + K + K)) := by
    rw [fU_36]
    simp (disch := first | omega | exact Nat.le_of_ble_eq_true rfl | exact eH_ci | exact hT.ci | (refine eF_lt ?_; omega)) only [own_36, am_go dc_36_0, J_aload_0, K_al, ld_0, am_go dc_36_1, J_getfield, gf_r, fk_3_18_3, am_go dc_36_4, fk_3_107_1, am_go dc_36_7, J_istore_1, st1_0, st1_1, st1_s, kl_i, kl_l, kl_r, kl_n, am_go dc_36_8, am_go dc_36_9, fk_3_22_3, am_go dc_36_12, am_go dc_36_13, fk_3_95_3, am_go dc_36_16, cs_3_148 own_36, JR_v, JR_0, JR_ite, am_go dc_36_19, J_astore_2, am_go dc_36_20, am_go dc_36_21, fk_3_25_3, am_go dc_36_24, am_go dc_36_25, am_go dc_36_28, am_go dc_36_31, J_astore_3, eg_4, tg_1, eg_9, eg_8, eg_10, eg_11, eg_6, eg_7, eg_12, eg_14, eg_13, eH_0, eH_10, eH_11, eH_12, ew_10, ew_11, ew_12, hT.c0, hT.c1, hT.c2, hT.c3, hT.c4, hT.c5, hT.c6, hT.c7, zI_add, zI_mul, zI_lt, zI_le, zI_eq, zI_neg, zI_pos, zI_ne0, zI_gt0, zB_0, lg_cmp_ge, lg_cmp_le, lg_cmp_gt, lg_cmp_lt, lg_cmp_eq, ail_r, abl_r, all_r, ais_r, abs_r, als_r, aal_r, aal_q, aln_r, vrf_s, vrf_n, z32, hsz, h8, w1', c1', List.length_cons, List.length_nil, Nat.reduceAdd, Nat.reduceLT, Nat.reduceLeDiff, Nat.reduceEqDiff, ↓reduceIte, bind_s, if_true, if_false, not_true_eq_false, not_false_eq_true, Nat.zero_add]
  have hxz := (hx (z.1 + 2) (by omega)).1
  have hxz3 := (hx (z.1 + 3) (by omega)).1
  generalize hh2 : am_up (am_up h z.1 (.inl (.int, K, .inl W))) (z.1 + 1) (.inl (.int, K, .inl Cc)) = h2 at g0
  have r0 : h2 z.1 = some (.inl (.int, K, .inl W)) := by rw [← hh2, up_x (by omega), up_r]
  have r1 : h2 (z.1 + 1) = some (.inl (.int, K, .inl Cc)) := by rw [← hh2, up_r]
  have r2 : ∀ x, x ≠ z.1 → x ≠ z.1 + 1 → h2 x = h x := fun x n1 n2 => by rw [← hh2, up_x n2, up_x n1]
  obtain ⟨q1, q2, q3, q4, q5, q6⟩ := sKd_eq (g := g)
  have fin : ∀ (k : Nat) (E : am_E) (n : Nat), k ≤ 5 → k ≠ 4 → sKd g = k → E = .inr (6 + k, bF (k, z.1, z.1 + 1, 0) (zI m) f) → n ≤ 7 → am_I X (am_f X (d + 3)) 36 32 [some (.ref e), some (.int (zI m)), some (.ref z.1), some (.ref (z.1 + 1))] [] (eH h2 e (u, r), (z.1 + 2, z.2 + K + K)) = some (.inl (some (.ref (z.1 + 2))), (eH (am_up h2 (z.1 + 2) E) e (u, r), (z.1 + 2 + 1, z.2 + K + K + n))) → ∃ h' z', am_f X (d + 4) 36 [.ref e] (eH h e (u, r), z) = some (.inl (some (.ref (z.1 + 2))), (eH h' e (u, r), z')) ∧ (∀ x, x < z.1 → h' x = h x) ∧ z.1 + 3 ≤ z'.1 ∧ z'.1 ≤ z.1 + 4 ∧ z'.2 ≤ z.2 + 19 ∧ (∀ x, z'.1 ≤ x → h' x = none) ∧ ∃ bb, bIn (fun x => z.1 ≤ x ∧ x < z'.1) (z.1 + 2) bb ∧ isB h' (z.1 + 2) bb (zI m) f on g' := by
    intro k E n k5 k4 hk hE hn hI
    refine ⟨_, _, g0.trans hI, fun x hx' => by rw [up_x (by omega), r2 x (by omega) (by omega)], by show z.1 + 3 ≤ z.1 + 2 + 1; omega, by show z.1 + 2 + 1 ≤ z.1 + 4; omega, by show z.2 + K + K + n ≤ z.2 + 19; omega, fun x hx' => ?_, (k, z.1, z.1 + 1, 0), ⟨⟨by omega, by show z.1 + 2 < z.1 + 2 + 1; omega⟩, ⟨Nat.le_refl _, by show z.1 < z.1 + 2 + 1; omega⟩, ⟨by show z.1 ≤ z.1 + 1; omega, by show z.1 + 1 < z.1 + 2 + 1; omega⟩, fun e' => absurd e' k4⟩, ?_⟩
    · have hx'' : z.1 + 2 + 1 ≤ x := hx'
      rw [up_x (by omega), r2 x (by omega) (by omega)]
      exact (hx x (by omega)).2
    · refine isB_mk k5 (by rw [f0, hk]) f3 hK1 hK (fun e' => f4a (by rw [hk]; exact e')) (by rw [up_r, hE]) (W := W) ?_ (fun i hi => by rw [w2 i hi, fw i hi]) (Cc := Cc) ?_ (fun i hi => by rw [c2 i hi, fc i hi]) (fun e' => absurd e' k4)
      · show am_up h2 (z.1 + 2) E z.1 = _
        rw [up_x (by omega), r0]
      · show am_up h2 (z.1 + 2) E (z.1 + 1) = _
        rw [up_x (by omega), r1]
  by_cases s1 : g = zI 63
  · have k := q1 s1
    exact fin 1 _ _ (by omega) (by omega) k rfl (by decide) (e_mk1 (X := X) (d := d) (z := (z.1 + 2, z.2 + K + K)) (oa := 0) (by rw [h11, s1]) f1 f2 (f4b (by omega) (by omega)) hxz)
  by_cases s2 : g = zI 33
  · have k := q2 s2
    exact fin 2 _ _ (by omega) (by omega) k rfl (by decide) (e_mk2 (X := X) (d := d) (z := (z.1 + 2, z.2 + K + K)) (oa := 0) (by rw [h11, s2]) f1 f2 hxz)
  by_cases s3 : g = zI 60
  · have k := q3 s3
    exact fin 3 _ _ (by omega) (by omega) k rfl (by decide) (e_mk3 (X := X) (d := d) (z := (z.1 + 2, z.2 + K + K)) (oa := 0) (by rw [h11, s3]) f1 f2 (f4b (by omega) (by omega)) hxz)
  by_cases s4 : g = zI 62
  · have k := q4 s4
    obtain ⟨o1, o2, o3⟩ := ho k
    obtain ⟨O, p1, p2⟩ := e_mk4 (X := X) (h := h2) (e := e) (r := r) (d := d) (z := (z.1 + 2, z.2 + K + K)) (wa := z.1) (ca := z.1 + 1) (i := zI m) (f := f) (by rw [h11, s4]) f1 f2 (f4b (by omega) (by omega)) hxz o1 o2 hxz3 (by
      show h2 (z.1 + 3) = none
      rw [r2 _ (by omega) (by omega)]
      exact (hx (z.1 + 3) (by omega)).2)
    refine ⟨_, _, g0.trans p2, fun x hx' => ?_, by show z.1 + 3 ≤ z.1 + 2 + 2; omega, by show z.1 + 2 + 2 ≤ z.1 + 4; omega, by show z.2 + K + K + 7 + on ≤ z.2 + 19; omega, fun x hx' => ?_, (4, z.1, z.1 + 1, z.1 + 3), ⟨⟨by omega, by show z.1 + 2 < z.1 + 2 + 2; omega⟩, ⟨Nat.le_refl _, by show z.1 < z.1 + 2 + 2; omega⟩, ⟨by show z.1 ≤ z.1 + 1; omega, by show z.1 + 1 < z.1 + 2 + 2; omega⟩, fun _ => ⟨by show z.1 ≤ z.1 + 3; omega, by show z.1 + 3 < z.1 + 2 + 2; omega⟩⟩, ?_⟩
    · show am_up (am_up h2 (z.1 + 3) _) (z.1 + 2) _ x = h x
      rw [up_x (by omega), up_x (by omega), r2 x (by omega) (by omega)]
    · have hx'' : z.1 + 2 + 2 ≤ x := hx'
      show am_up (am_up h2 (z.1 + 3) _) (z.1 + 2) _ x = none
      rw [up_x (by omega), up_x (by omega), r2 x (by omega) (by omega)]
      exact (hx x (by omega)).2
    · refine isB_mk (Nat.le_of_ble_eq_true rfl) (by rw [f0, k]) f3 hK1 hK (fun e' => by rcases e' with e' | e' <;> exact absurd e' (by simp)) ?_ (W := W) ?_ (fun i hi => by rw [w2 i hi, fw i hi]) (Cc := Cc) ?_ (fun i hi => by rw [c2 i hi, fc i hi]) (fun _ => ⟨o2, O, ?_, fun i hi => by rw [p1 i hi, o3 i hi]⟩)
      · exact up_r
      · show am_up (am_up h2 (z.1 + 3) _) (z.1 + 2) _ z.1 = _
        rw [up_x (by omega), up_x (by omega), r0]
      · show am_up (am_up h2 (z.1 + 3) _) (z.1 + 2) _ (z.1 + 1) = _
        rw [up_x (by omega), up_x (by omega), r1]
      · show am_up (am_up h2 (z.1 + 3) _) (z.1 + 2) _ (z.1 + 3) = _
        rw [up_x (by omega), up_r]
  by_cases s5 : g = zI 64
  · have k := q5 s5
    exact fin 5 _ _ (by omega) (by omega) k rfl (by decide) (e_mk5 (X := X) (d := d) (z := (z.1 + 2, z.2 + K + K)) (oa := 0) (by rw [h11, s5]) f1 f2 (f4b (by omega) (by omega)) hxz)
  · have k := q6 s1 s2 s3 s4 s5
    exact fin 0 _ _ (by omega) (by omega) k rfl (by decide) (e_mk0 (X := X) (d := d) (z := (z.1 + 2, z.2 + K + K)) (oa := 0) h11 s2 s3 s4 s1 s5 f1 f2 hxz)
end RA
