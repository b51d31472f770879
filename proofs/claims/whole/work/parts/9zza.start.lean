/-! before the first call -/
section ST
variable {X : am_X} {h H : am_H} {o d s : Nat} {z : Nat × Nat}
theorem x_init : ∃ H1, am_f X (d + 3) 0 [.ref o] (am_up h o (.inr (0, am_df 0)), (o + 1, s)) = some (.inl none, (H1, (o + 66, s + 1644))) ∧ isX H1 o (P00, fun _ => none) ∧ isT H1 (o + 1) T00 ∧ isP H1 (o + 9) P00 ∧ isT H1 (o + 14) T00 ∧ isP H1 (o + 22) P00 ∧ isE H1 (o + 27) (P00, o + 28) ∧ isT H1 (o + 29) T00 ∧ cL H1 (o + 40) (P00, (o + 1, o + 42, o + 43, 0)) ∧ cW H1 (o + 49) (P00, (o + 1, o + 51, 0, o + 52, 0)) ∧ ∀ x, x < o ∨ o + 66 ≤ x → H1 x = h x := by
  rw [show d + 3 = d + 2 + 1 from rfl, fU_0, am_go dc_0_0]
  simp (disch := first | omega | exact Nat.le_of_ble_eq_true rfl) only [own_0, J_aload_0, K_al, ld_0, am_go dc_0_1, co_0_3 own_0, List.length_nil]
  obtain ⟨H1, e1, o1, y1, f1⟩ := sg_1 (X := X) (d := d) (s := s) (H := am_up h o (.inr (0, am_df 0))) (o := o) up_r rfl
  rw [e1]
  obtain ⟨H2, e2, o2, y2, f2⟩ := sg_2 (X := X) (d := d) (s := s + 101) (H := H1) (o := o) o1 rfl
  rw [e2]
  obtain ⟨H3, e3, o3, y3, f3⟩ := sg_3 (X := X) (d := d) (s := s + 101 + 35) (H := H2) (o := o) o2 rfl
  rw [e3]
  obtain ⟨H4, e4, o4, y4, f4⟩ := sg_4 (X := X) (d := d) (s := s + 101 + 35 + 101) (H := H3) (o := o) o3 rfl
  rw [e4]
  obtain ⟨H5, e5, o5, y5, y5b, f5⟩ := sg_5 (X := X) (d := d) (s := s + 101 + 35 + 101 + 35) (H := H4) (o := o) o4 rfl
  rw [e5]
  obtain ⟨H6, e6, o6, y6, f6⟩ := sg_6 (X := X) (d := d) (s := s + 101 + 35 + 101 + 35 + 128) (H := H5) (o := o) o5 rfl rfl
  rw [e6]
  obtain ⟨H7, e7, o7, y7, f7⟩ := sg_7 (X := X) (d := d) (s := s + 101 + 35 + 101 + 35 + 128 + 74) (H := H6) (o := o) o6 rfl rfl
  rw [e7]
  obtain ⟨H8, e8, o8, y8, f8⟩ := sg_8 (X := X) (d := d) (s := s + 101 + 35 + 101 + 35 + 128 + 74 + 170) (H := H7) (o := o) o7 rfl
  rw [e8]
  obtain ⟨H9, e9, o9, y9, f9⟩ := sg_9 (X := X) (d := d) (s := s + 101 + 35 + 101 + 35 + 128 + 74 + 170 + 8) (H := H8) (o := o) o8 rfl
  rw [e9]
  obtain ⟨H10, e10, o10, y10, y10b, f10⟩ := sg_10 (X := X) (d := d) (s := s + 101 + 35 + 101 + 35 + 128 + 74 + 170 + 8 + 8) (H := H9) (o := o) o9 rfl
  rw [e10]
  obtain ⟨H11, e11, o11, y11, f11⟩ := sg_11 (X := X) (d := d) (s := s + 101 + 35 + 101 + 35 + 128 + 74 + 170 + 8 + 8 + 968) (H := H10) (o := o) o10 rfl
  rw [e11]
  obtain ⟨H12, e12, o12, y12, f12⟩ := sg_12 (X := X) (d := d) (s := s + 101 + 35 + 101 + 35 + 128 + 74 + 170 + 8 + 8 + 968 + 8) (H := H11) (o := o) o11 rfl
  rw [e12]
  refine ⟨H12, ?_, fun k e hc => ?_, y1.fr (fun x q1 q2 => by rw [f12 x (by omega) (by omega), f11 x (by omega) (by omega), f10 x (by omega) (by omega), f9 x (by omega) (by omega), f8 x (by omega) (by omega), f7 x (by omega) (by omega), f6 x (by omega) (by omega), f5 x (by omega) (by omega), f4 x (by omega) (by omega), f3 x (by omega) (by omega), f2 x (by omega) (by omega)]), y2.fr (fun x q1 q2 => by rw [f12 x (by omega) (by omega), f11 x (by omega) (by omega), f10 x (by omega) (by omega), f9 x (by omega) (by omega), f8 x (by omega) (by omega), f7 x (by omega) (by omega), f6 x (by omega) (by omega), f5 x (by omega) (by omega), f4 x (by omega) (by omega), f3 x (by omega) (by omega)]), y3.fr (fun x q1 q2 => by rw [f12 x (by omega) (by omega), f11 x (by omega) (by omega), f10 x (by omega) (by omega), f9 x (by omega) (by omega), f8 x (by omega) (by omega), f7 x (by omega) (by omega), f6 x (by omega) (by omega), f5 x (by omega) (by omega), f4 x (by omega) (by omega)]), y4.fr (fun x q1 q2 => by rw [f12 x (by omega) (by omega), f11 x (by omega) (by omega), f10 x (by omega) (by omega), f9 x (by omega) (by omega), f8 x (by omega) (by omega), f7 x (by omega) (by omega), f6 x (by omega) (by omega), f5 x (by omega) (by omega)]), y5.fr (fun x q1 q2 => by rw [f12 x (by omega) (by omega), f11 x (by omega) (by omega), f10 x (by omega) (by omega), f9 x (by omega) (by omega), f8 x (by omega) (by omega), f7 x (by omega) (by omega), f6 x (by omega) (by omega)]), y5b.fr (fun x q1 q2 => by rw [f12 x (by omega) (by omega), f11 x (by omega) (by omega), f10 x (by omega) (by omega), f9 x (by omega) (by omega), f8 x (by omega) (by omega), f7 x (by omega) (by omega), f6 x (by omega) (by omega)]), y6.fr (fun x hx => ?_), y7.fr (fun x hx => ?_), fun x hx => ?_⟩
  · rw [am_go dc_0_134, J_ret_v ret_0]
  · have hk := xC_k hc
    by_cases k0 : k = 0
    · subst k0
      exact o12.trans hc
    · by_cases k1 : 56 ≤ k ∧ k < 64
      · obtain ⟨j, rfl⟩ : ∃ j, k = 56 + j := ⟨k - 56, by omega⟩
        rw [show o + (56 + j) = o + 56 + j by omega, f12 (o + 56 + j) (by omega) (by omega), f11 (o + 56 + j) (by omega) (by omega), y10b j (by omega)]
        rcases (by omega : j = 0 ∨ j = 1 ∨ j = 2 ∨ j = 3 ∨ j = 4 ∨ j = 5 ∨ j = 6 ∨ j = 7) with rfl | rfl | rfl | rfl | rfl | rfl | rfl | rfl <;> exact hc
      · rcases (by omega : k = 53 ∨ k = 54 ∨ k = 55 ∨ k = 64 ∨ k = 65) with rfl | rfl | rfl | rfl | rfl
        · rw [f12 _ (by omega) (by omega), f11 _ (by omega) (by omega), f10 _ (by omega) (by omega), f9 _ (by omega) (by omega)]
          exact y8.trans hc
        · rw [f12 _ (by omega) (by omega), f11 _ (by omega) (by omega), f10 _ (by omega) (by omega)]
          exact y9.trans hc
        · rw [f12 _ (by omega) (by omega), f11 _ (by omega) (by omega)]
          exact y10.trans hc
        · rw [f12 _ (by omega) (by omega)]
          exact y11.trans hc
        · exact y12.trans hc
  · have hx' : o + 40 ≤ x ∧ x < o + 49 := by
      rcases hx with q | q | q
      · unfold lK at q
        omega
      · have : x = o + 42 := q
        omega
      · have : x = o + 43 := q
        omega
    rw [f12 x (by omega) (by omega), f11 x (by omega) (by omega), f10 x (by omega) (by omega), f9 x (by omega) (by omega), f8 x (by omega) (by omega), f7 x (by omega) (by omega)]
  · have hx' : o + 49 ≤ x ∧ x < o + 53 := by
      rcases hx with q | q | q
      · unfold wK at q
        omega
      · have : x = o + 51 := q
        omega
      · have : x = o + 52 := q
        omega
    rw [f12 x (by omega) (by omega), f11 x (by omega) (by omega), f10 x (by omega) (by omega), f9 x (by omega) (by omega), f8 x (by omega) (by omega)]
  · rw [f12 x (by omega) (by omega), f11 x (by omega) (by omega), f10 x (by omega) (by omega), f9 x (by omega) (by omega), f8 x (by omega) (by omega), f7 x (by omega) (by omega), f6 x (by omega) (by omega), f5 x (by omega) (by omega), f4 x (by omega) (by omega), f3 x (by omega) (by omega), f2 x (by omega) (by omega), f1 x (by omega) (by omega)]
    exact up_x (by omega)
def S00 : Nat → Int32 := upd (fun _ => 0) 117 (zI 99)
theorem S00_o {j : Nat} (hj : j ≠ 117) : S00 j = zI 0 := upd_o hj
theorem S00_m : wN (S00 116) = 0 := rfl
theorem qG_0 : qG S00 := ⟨⟨0, S00_o (by omega), by omega⟩, ⟨99, upd_s, by omega⟩, fun b hb => by
  rw [S00_m] at hb
  omega⟩
theorem rI_0 : rI S00 := rI_z qG_0 (fun b hb => S00_o (by omega)) (S00_o (by omega))
theorem pS_0 : pS P00 S00 := ⟨fun b hb => by
  rw [S00_o (by omega)]
  exact ⟨rfl, fun q => by rw [wN_zI (by omega)] at q; omega⟩, (S00_o (by omega)).symm, ⟨0, S00_o (by omega), by omega⟩, fun j hj => by
  rw [S00_o (by omega), wN_zI (by omega)] at hj
  omega⟩
theorem tSN_0 {C : Nat → Prop} {t : Nat} (hT : isT H t T00) : tSN C H t T00 S00 := by
  have nb : ∀ b, ¬ b < wN (S00 116) := fun b => by
    rw [S00_m]
    omega
  refine ⟨⟨hT, qG_0, ⟨(S00_o (by omega)).symm, upd_s.symm, fun b hb => absurd hb (nb b)⟩, ⟨fun b hb => absurd hb (nb b), fun b i hb _ => absurd hb (nb b)⟩, ⟨1, rfl, by omega, by omega, rfl, fun i j h1 h2 => by omega, fun b i hb _ => absurd hb (nb b)⟩⟩, fun b hb => absurd hb (nb b), fun b _ _ => rfl⟩
/-- what holds before the first call -/
theorem g_start (hX : isX H o (P00, fun _ => none)) (h1 : isT H (o + 1) T00) (h2 : isP H (o + 9) P00) (h3 : isT H (o + 14) T00) (h4 : isP H (o + 22) P00) (h5 : isE H (o + 27) (P00, o + 28)) (h6 : isT H (o + 29) T00) (h7 : cL H (o + 40) (P00, (o + 1, o + 42, o + 43, 0))) (h8 : cW H (o + 49) (P00, (o + 1, o + 51, 0, o + 52, 0))) (h9 : gO H o) (h10 : ∀ x, x < o → H x = none) (h11 : ∀ x, o + 87 ≤ x → H x = none) (hs : s ≤ 200000) : gK o 0 H (o + 87, s) mU0 := by
  have e1 : mU0.1 1 = S00 := rfl
  refine ⟨fun _ => False, (P00, fun _ => none), T00, P00, T00, P00, P00, o + 42, o + 43, 0, P00, o + 51, 0, o + 52, 0, hX, ⟨tSN_0 h1, h2, pS_0, rI_0⟩, ⟨h3, rfl, h4, rfl, Or.inl rfl⟩, ⟨P00, o + 28, T00, h5, h6, rfl⟩, ⟨h7, by omega, Or.inl rfl⟩, ⟨h8, by omega, by omega⟩, fun e he => ⟨⟨rfl, rfl, rfl, Or.inl rfl, Or.inl rfl, ⟨0, by omega, rfl⟩, fun i hi => ?_⟩, fun q => absurd (show (0 : Int32) = zI 1 from q) (by decide)⟩, h9, ⟨Nat.le_refl _, ⟨Or.inl rfl, ?_⟩, ⟨Or.inl rfl, ?_⟩, ⟨Or.inl rfl, ?_⟩, ⟨Or.inl rfl, ?_⟩, by omega, fun x hx => hx.elim⟩, ?_, h10, h11⟩
  · rfl
  · show o + 42 < o + 87
    omega
  · show o + 43 < o + 87
    omega
  · show o + 51 < o + 87
    omega
  · show o + 52 < o + 87
    omega
  · have := gT0
    refine ⟨?_, ?_⟩
    · show o + 87 + _ ≤ o + 400 + 25 * 0
      omega
    · show s + _ ≤ 2200000 + 100 * 0
      omega
end ST
