/-! switches -/
section SW
variable {X : am_X} {rec : am_O} {nx tg : Nat} {lv : am_L} {st : List Value} {σ : am_S}
theorem sw_31_4_0 : am_J X rec 31 (some (.tableswitch 98 60 64 #[36, 98, 48, 98, 75], nx, tg)) 4 lv (.int (zI 0) :: st) σ = am_I X rec 31 102 lv st σ := by rw [J_tsw]; rfl
theorem sw_31_4_1 : am_J X rec 31 (some (.tableswitch 98 60 64 #[36, 98, 48, 98, 75], nx, tg)) 4 lv (.int (zI 1) :: st) σ = am_I X rec 31 102 lv st σ := by rw [J_tsw]; rfl
theorem sw_31_4_2 : am_J X rec 31 (some (.tableswitch 98 60 64 #[36, 98, 48, 98, 75], nx, tg)) 4 lv (.int (zI 2) :: st) σ = am_I X rec 31 102 lv st σ := by rw [J_tsw]; rfl
theorem sw_31_4_3 : am_J X rec 31 (some (.tableswitch 98 60 64 #[36, 98, 48, 98, 75], nx, tg)) 4 lv (.int (zI 3) :: st) σ = am_I X rec 31 102 lv st σ := by rw [J_tsw]; rfl
theorem sw_31_4_4 : am_J X rec 31 (some (.tableswitch 98 60 64 #[36, 98, 48, 98, 75], nx, tg)) 4 lv (.int (zI 4) :: st) σ = am_I X rec 31 102 lv st σ := by rw [J_tsw]; rfl
theorem sw_31_4_5 : am_J X rec 31 (some (.tableswitch 98 60 64 #[36, 98, 48, 98, 75], nx, tg)) 4 lv (.int (zI 5) :: st) σ = am_I X rec 31 102 lv st σ := by rw [J_tsw]; rfl
theorem sw_31_4_6 : am_J X rec 31 (some (.tableswitch 98 60 64 #[36, 98, 48, 98, 75], nx, tg)) 4 lv (.int (zI 6) :: st) σ = am_I X rec 31 102 lv st σ := by rw [J_tsw]; rfl
theorem sw_31_4_7 : am_J X rec 31 (some (.tableswitch 98 60 64 #[36, 98, 48, 98, 75], nx, tg)) 4 lv (.int (zI 7) :: st) σ = am_I X rec 31 102 lv st σ := by rw [J_tsw]; rfl
theorem sw_31_4_8 : am_J X rec 31 (some (.tableswitch 98 60 64 #[36, 98, 48, 98, 75], nx, tg)) 4 lv (.int (zI 8) :: st) σ = am_I X rec 31 102 lv st σ := by rw [J_tsw]; rfl
theorem sw_31_4_9 : am_J X rec 31 (some (.tableswitch 98 60 64 #[36, 98, 48, 98, 75], nx, tg)) 4 lv (.int (zI 9) :: st) σ = am_I X rec 31 102 lv st σ := by rw [J_tsw]; rfl
theorem sw_31_4_10 : am_J X rec 31 (some (.tableswitch 98 60 64 #[36, 98, 48, 98, 75], nx, tg)) 4 lv (.int (zI 10) :: st) σ = am_I X rec 31 102 lv st σ := by rw [J_tsw]; rfl
theorem sw_31_4_11 : am_J X rec 31 (some (.tableswitch 98 60 64 #[36, 98, 48, 98, 75], nx, tg)) 4 lv (.int (zI 11) :: st) σ = am_I X rec 31 102 lv st σ := by rw [J_tsw]; rfl
theorem sw_31_4_12 : am_J X rec 31 (some (.tableswitch 98 60 64 #[36, 98, 48, 98, 75], nx, tg)) 4 lv (.int (zI 12) :: st) σ = am_I X rec 31 102 lv st σ := by rw [J_tsw]; rfl
theorem sw_31_4_13 : am_J X rec 31 (some (.tableswitch 98 60 64 #[36, 98, 48, 98, 75], nx, tg)) 4 lv (.int (zI 13) :: st) σ = am_I X rec 31 102 lv st σ := by rw [J_tsw]; rfl
theorem sw_31_4_14 : am_J X rec 31 (some (.tableswitch 98 60 64 #[36, 98, 48, 98, 75], nx, tg)) 4 lv (.int (zI 14) :: st) σ = am_I X rec 31 102 lv st σ := by rw [J_tsw]; rfl
theorem sw_31_4_15 : am_J X rec 31 (some (.tableswitch 98 60 64 #[36, 98, 48, 98, 75], nx, tg)) 4 lv (.int (zI 15) :: st) σ = am_I X rec 31 102 lv st σ := by rw [J_tsw]; rfl
theorem sw_31_4_16 : am_J X rec 31 (some (.tableswitch 98 60 64 #[36, 98, 48, 98, 75], nx, tg)) 4 lv (.int (zI 16) :: st) σ = am_I X rec 31 102 lv st σ := by rw [J_tsw]; rfl
theorem sw_31_4_17 : am_J X rec 31 (some (.tableswitch 98 60 64 #[36, 98, 48, 98, 75], nx, tg)) 4 lv (.int (zI 17) :: st) σ = am_I X rec 31 102 lv st σ := by rw [J_tsw]; rfl
theorem sw_31_4_18 : am_J X rec 31 (some (.tableswitch 98 60 64 #[36, 98, 48, 98, 75], nx, tg)) 4 lv (.int (zI 18) :: st) σ = am_I X rec 31 102 lv st σ := by rw [J_tsw]; rfl
theorem sw_31_4_19 : am_J X rec 31 (some (.tableswitch 98 60 64 #[36, 98, 48, 98, 75], nx, tg)) 4 lv (.int (zI 19) :: st) σ = am_I X rec 31 102 lv st σ := by rw [J_tsw]; rfl
theorem sw_31_4_20 : am_J X rec 31 (some (.tableswitch 98 60 64 #[36, 98, 48, 98, 75], nx, tg)) 4 lv (.int (zI 20) :: st) σ = am_I X rec 31 102 lv st σ := by rw [J_tsw]; rfl
theorem sw_31_4_21 : am_J X rec 31 (some (.tableswitch 98 60 64 #[36, 98, 48, 98, 75], nx, tg)) 4 lv (.int (zI 21) :: st) σ = am_I X rec 31 102 lv st σ := by rw [J_tsw]; rfl
theorem sw_31_4_22 : am_J X rec 31 (some (.tableswitch 98 60 64 #[36, 98, 48, 98, 75], nx, tg)) 4 lv (.int (zI 22) :: st) σ = am_I X rec 31 102 lv st σ := by rw [J_tsw]; rfl
theorem sw_31_4_23 : am_J X rec 31 (some (.tableswitch 98 60 64 #[36, 98, 48, 98, 75], nx, tg)) 4 lv (.int (zI 23) :: st) σ = am_I X rec 31 102 lv st σ := by rw [J_tsw]; rfl
theorem sw_31_4_24 : am_J X rec 31 (some (.tableswitch 98 60 64 #[36, 98, 48, 98, 75], nx, tg)) 4 lv (.int (zI 24) :: st) σ = am_I X rec 31 102 lv st σ := by rw [J_tsw]; rfl
theorem sw_31_4_25 : am_J X rec 31 (some (.tableswitch 98 60 64 #[36, 98, 48, 98, 75], nx, tg)) 4 lv (.int (zI 25) :: st) σ = am_I X rec 31 102 lv st σ := by rw [J_tsw]; rfl
theorem sw_31_4_26 : am_J X rec 31 (some (.tableswitch 98 60 64 #[36, 98, 48, 98, 75], nx, tg)) 4 lv (.int (zI 26) :: st) σ = am_I X rec 31 102 lv st σ := by rw [J_tsw]; rfl
theorem sw_31_4_27 : am_J X rec 31 (some (.tableswitch 98 60 64 #[36, 98, 48, 98, 75], nx, tg)) 4 lv (.int (zI 27) :: st) σ = am_I X rec 31 102 lv st σ := by rw [J_tsw]; rfl
theorem sw_31_4_28 : am_J X rec 31 (some (.tableswitch 98 60 64 #[36, 98, 48, 98, 75], nx, tg)) 4 lv (.int (zI 28) :: st) σ = am_I X rec 31 102 lv st σ := by rw [J_tsw]; rfl
theorem sw_31_4_29 : am_J X rec 31 (some (.tableswitch 98 60 64 #[36, 98, 48, 98, 75], nx, tg)) 4 lv (.int (zI 29) :: st) σ = am_I X rec 31 102 lv st σ := by rw [J_tsw]; rfl
theorem sw_31_4_30 : am_J X rec 31 (some (.tableswitch 98 60 64 #[36, 98, 48, 98, 75], nx, tg)) 4 lv (.int (zI 30) :: st) σ = am_I X rec 31 102 lv st σ := by rw [J_tsw]; rfl
theorem sw_31_4_31 : am_J X rec 31 (some (.tableswitch 98 60 64 #[36, 98, 48, 98, 75], nx, tg)) 4 lv (.int (zI 31) :: st) σ = am_I X rec 31 102 lv st σ := by rw [J_tsw]; rfl
theorem sw_31_4_32 : am_J X rec 31 (some (.tableswitch 98 60 64 #[36, 98, 48, 98, 75], nx, tg)) 4 lv (.int (zI 32) :: st) σ = am_I X rec 31 102 lv st σ := by rw [J_tsw]; rfl
theorem sw_31_4_33 : am_J X rec 31 (some (.tableswitch 98 60 64 #[36, 98, 48, 98, 75], nx, tg)) 4 lv (.int (zI 33) :: st) σ = am_I X rec 31 102 lv st σ := by rw [J_tsw]; rfl
theorem sw_31_4_34 : am_J X rec 31 (some (.tableswitch 98 60 64 #[36, 98, 48, 98, 75], nx, tg)) 4 lv (.int (zI 34) :: st) σ = am_I X rec 31 102 lv st σ := by rw [J_tsw]; rfl
theorem sw_31_4_35 : am_J X rec 31 (some (.tableswitch 98 60 64 #[36, 98, 48, 98, 75], nx, tg)) 4 lv (.int (zI 35) :: st) σ = am_I X rec 31 102 lv st σ := by rw [J_tsw]; rfl
theorem sw_31_4_36 : am_J X rec 31 (some (.tableswitch 98 60 64 #[36, 98, 48, 98, 75], nx, tg)) 4 lv (.int (zI 36) :: st) σ = am_I X rec 31 102 lv st σ := by rw [J_tsw]; rfl
theorem sw_31_4_37 : am_J X rec 31 (some (.tableswitch 98 60 64 #[36, 98, 48, 98, 75], nx, tg)) 4 lv (.int (zI 37) :: st) σ = am_I X rec 31 102 lv st σ := by rw [J_tsw]; rfl
theorem sw_31_4_38 : am_J X rec 31 (some (.tableswitch 98 60 64 #[36, 98, 48, 98, 75], nx, tg)) 4 lv (.int (zI 38) :: st) σ = am_I X rec 31 102 lv st σ := by rw [J_tsw]; rfl
theorem sw_31_4_39 : am_J X rec 31 (some (.tableswitch 98 60 64 #[36, 98, 48, 98, 75], nx, tg)) 4 lv (.int (zI 39) :: st) σ = am_I X rec 31 102 lv st σ := by rw [J_tsw]; rfl
theorem sw_31_4_40 : am_J X rec 31 (some (.tableswitch 98 60 64 #[36, 98, 48, 98, 75], nx, tg)) 4 lv (.int (zI 40) :: st) σ = am_I X rec 31 102 lv st σ := by rw [J_tsw]; rfl
theorem sw_31_4_41 : am_J X rec 31 (some (.tableswitch 98 60 64 #[36, 98, 48, 98, 75], nx, tg)) 4 lv (.int (zI 41) :: st) σ = am_I X rec 31 102 lv st σ := by rw [J_tsw]; rfl
theorem sw_31_4_42 : am_J X rec 31 (some (.tableswitch 98 60 64 #[36, 98, 48, 98, 75], nx, tg)) 4 lv (.int (zI 42) :: st) σ = am_I X rec 31 102 lv st σ := by rw [J_tsw]; rfl
theorem sw_31_4_43 : am_J X rec 31 (some (.tableswitch 98 60 64 #[36, 98, 48, 98, 75], nx, tg)) 4 lv (.int (zI 43) :: st) σ = am_I X rec 31 102 lv st σ := by rw [J_tsw]; rfl
theorem sw_31_4_44 : am_J X rec 31 (some (.tableswitch 98 60 64 #[36, 98, 48, 98, 75], nx, tg)) 4 lv (.int (zI 44) :: st) σ = am_I X rec 31 102 lv st σ := by rw [J_tsw]; rfl
theorem sw_31_4_45 : am_J X rec 31 (some (.tableswitch 98 60 64 #[36, 98, 48, 98, 75], nx, tg)) 4 lv (.int (zI 45) :: st) σ = am_I X rec 31 102 lv st σ := by rw [J_tsw]; rfl
theorem sw_31_4_46 : am_J X rec 31 (some (.tableswitch 98 60 64 #[36, 98, 48, 98, 75], nx, tg)) 4 lv (.int (zI 46) :: st) σ = am_I X rec 31 102 lv st σ := by rw [J_tsw]; rfl
theorem sw_31_4_47 : am_J X rec 31 (some (.tableswitch 98 60 64 #[36, 98, 48, 98, 75], nx, tg)) 4 lv (.int (zI 47) :: st) σ = am_I X rec 31 102 lv st σ := by rw [J_tsw]; rfl
theorem sw_31_4_48 : am_J X rec 31 (some (.tableswitch 98 60 64 #[36, 98, 48, 98, 75], nx, tg)) 4 lv (.int (zI 48) :: st) σ = am_I X rec 31 102 lv st σ := by rw [J_tsw]; rfl
theorem sw_31_4_49 : am_J X rec 31 (some (.tableswitch 98 60 64 #[36, 98, 48, 98, 75], nx, tg)) 4 lv (.int (zI 49) :: st) σ = am_I X rec 31 102 lv st σ := by rw [J_tsw]; rfl
theorem sw_31_4_50 : am_J X rec 31 (some (.tableswitch 98 60 64 #[36, 98, 48, 98, 75], nx, tg)) 4 lv (.int (zI 50) :: st) σ = am_I X rec 31 102 lv st σ := by rw [J_tsw]; rfl
theorem sw_31_4_51 : am_J X rec 31 (some (.tableswitch 98 60 64 #[36, 98, 48, 98, 75], nx, tg)) 4 lv (.int (zI 51) :: st) σ = am_I X rec 31 102 lv st σ := by rw [J_tsw]; rfl
theorem sw_31_4_52 : am_J X rec 31 (some (.tableswitch 98 60 64 #[36, 98, 48, 98, 75], nx, tg)) 4 lv (.int (zI 52) :: st) σ = am_I X rec 31 102 lv st σ := by rw [J_tsw]; rfl
theorem sw_31_4_53 : am_J X rec 31 (some (.tableswitch 98 60 64 #[36, 98, 48, 98, 75], nx, tg)) 4 lv (.int (zI 53) :: st) σ = am_I X rec 31 102 lv st σ := by rw [J_tsw]; rfl
theorem sw_31_4_54 : am_J X rec 31 (some (.tableswitch 98 60 64 #[36, 98, 48, 98, 75], nx, tg)) 4 lv (.int (zI 54) :: st) σ = am_I X rec 31 102 lv st σ := by rw [J_tsw]; rfl
theorem sw_31_4_55 : am_J X rec 31 (some (.tableswitch 98 60 64 #[36, 98, 48, 98, 75], nx, tg)) 4 lv (.int (zI 55) :: st) σ = am_I X rec 31 102 lv st σ := by rw [J_tsw]; rfl
theorem sw_31_4_56 : am_J X rec 31 (some (.tableswitch 98 60 64 #[36, 98, 48, 98, 75], nx, tg)) 4 lv (.int (zI 56) :: st) σ = am_I X rec 31 102 lv st σ := by rw [J_tsw]; rfl
theorem sw_31_4_57 : am_J X rec 31 (some (.tableswitch 98 60 64 #[36, 98, 48, 98, 75], nx, tg)) 4 lv (.int (zI 57) :: st) σ = am_I X rec 31 102 lv st σ := by rw [J_tsw]; rfl
theorem sw_31_4_58 : am_J X rec 31 (some (.tableswitch 98 60 64 #[36, 98, 48, 98, 75], nx, tg)) 4 lv (.int (zI 58) :: st) σ = am_I X rec 31 102 lv st σ := by rw [J_tsw]; rfl
theorem sw_31_4_59 : am_J X rec 31 (some (.tableswitch 98 60 64 #[36, 98, 48, 98, 75], nx, tg)) 4 lv (.int (zI 59) :: st) σ = am_I X rec 31 102 lv st σ := by rw [J_tsw]; rfl
theorem sw_31_4_60 : am_J X rec 31 (some (.tableswitch 98 60 64 #[36, 98, 48, 98, 75], nx, tg)) 4 lv (.int (zI 60) :: st) σ = am_I X rec 31 40 lv st σ := by rw [J_tsw]; rfl
theorem sw_31_4_61 : am_J X rec 31 (some (.tableswitch 98 60 64 #[36, 98, 48, 98, 75], nx, tg)) 4 lv (.int (zI 61) :: st) σ = am_I X rec 31 102 lv st σ := by rw [J_tsw]; rfl
theorem sw_31_4_62 : am_J X rec 31 (some (.tableswitch 98 60 64 #[36, 98, 48, 98, 75], nx, tg)) 4 lv (.int (zI 62) :: st) σ = am_I X rec 31 52 lv st σ := by rw [J_tsw]; rfl
theorem sw_31_4_63 : am_J X rec 31 (some (.tableswitch 98 60 64 #[36, 98, 48, 98, 75], nx, tg)) 4 lv (.int (zI 63) :: st) σ = am_I X rec 31 102 lv st σ := by rw [J_tsw]; rfl
theorem sw_31_4_64 : am_J X rec 31 (some (.tableswitch 98 60 64 #[36, 98, 48, 98, 75], nx, tg)) 4 lv (.int (zI 64) :: st) σ = am_I X rec 31 79 lv st σ := by rw [J_tsw]; rfl
theorem sw_47_24_0 : am_J X rec 47 (some (.tableswitch 92 0 5 #[40, 45, 50, 55, 60, 65], nx, tg)) 24 lv (.int (zI 0) :: st) σ = am_I X rec 47 64 lv st σ := by rw [J_tsw]; rfl
theorem sw_47_24_1 : am_J X rec 47 (some (.tableswitch 92 0 5 #[40, 45, 50, 55, 60, 65], nx, tg)) 24 lv (.int (zI 1) :: st) σ = am_I X rec 47 69 lv st σ := by rw [J_tsw]; rfl
theorem sw_47_24_2 : am_J X rec 47 (some (.tableswitch 92 0 5 #[40, 45, 50, 55, 60, 65], nx, tg)) 24 lv (.int (zI 2) :: st) σ = am_I X rec 47 74 lv st σ := by rw [J_tsw]; rfl
theorem sw_47_24_3 : am_J X rec 47 (some (.tableswitch 92 0 5 #[40, 45, 50, 55, 60, 65], nx, tg)) 24 lv (.int (zI 3) :: st) σ = am_I X rec 47 79 lv st σ := by rw [J_tsw]; rfl
theorem sw_47_24_4 : am_J X rec 47 (some (.tableswitch 92 0 5 #[40, 45, 50, 55, 60, 65], nx, tg)) 24 lv (.int (zI 4) :: st) σ = am_I X rec 47 84 lv st σ := by rw [J_tsw]; rfl
theorem sw_47_24_5 : am_J X rec 47 (some (.tableswitch 92 0 5 #[40, 45, 50, 55, 60, 65], nx, tg)) 24 lv (.int (zI 5) :: st) σ = am_I X rec 47 89 lv st σ := by rw [J_tsw]; rfl
theorem sd_47_24 {x : Int32} (hx : qIs x 6 = false) : am_J X rec 47 (some (.tableswitch 92 0 5 #[40, 45, 50, 55, 60, 65], nx, tg)) 24 lv (.int x :: st) σ = am_I X rec 47 116 lv st σ := by
  rw [J_tsw]
  have hc : x.toInt < 0 ∨ (5 : Int) < x.toInt := by
    unfold qIs at hx
    simp only [Bool.and_eq_false_iff, decide_eq_false_iff_not] at hx
    rcases hx with h | h
    · left
      rw [Int32.not_le, Int32.lt_iff_toInt_lt] at h
      simpa using h
    · right
      have h2 : ¬ x.toInt.toNat < 6 := h
      omega
  unfold am_pure
  simp only
  rw [if_pos hc]
  rfl
theorem sw_58_12_0 : am_J X rec 58 (some (.tableswitch 72 0 2 #[28, 43, 58], nx, tg)) 12 lv (.int (zI 0) :: st) σ = am_I X rec 58 40 lv st σ := by rw [J_tsw]; rfl
theorem sw_58_12_1 : am_J X rec 58 (some (.tableswitch 72 0 2 #[28, 43, 58], nx, tg)) 12 lv (.int (zI 1) :: st) σ = am_I X rec 58 55 lv st σ := by rw [J_tsw]; rfl
theorem sw_58_12_2 : am_J X rec 58 (some (.tableswitch 72 0 2 #[28, 43, 58], nx, tg)) 12 lv (.int (zI 2) :: st) σ = am_I X rec 58 70 lv st σ := by rw [J_tsw]; rfl
theorem sd_58_12 {x : Int32} (hx : qIs x 3 = false) : am_J X rec 58 (some (.tableswitch 72 0 2 #[28, 43, 58], nx, tg)) 12 lv (.int x :: st) σ = am_I X rec 58 84 lv st σ := by
  rw [J_tsw]
  have hc : x.toInt < 0 ∨ (2 : Int) < x.toInt := by
    unfold qIs at hx
    simp only [Bool.and_eq_false_iff, decide_eq_false_iff_not] at hx
    rcases hx with h | h
    · left
      rw [Int32.not_le, Int32.lt_iff_toInt_lt] at h
      simpa using h
    · right
      have h2 : ¬ x.toInt.toNat < 3 := h
      omega
  unfold am_pure
  simp only
  rw [if_pos hc]
  rfl
theorem sw_95_1_0 : am_J X rec 95 (some (.tableswitch 78 0 3 #[31, 39, 44, 70], nx, tg)) 1 lv (.int (zI 0) :: st) σ = am_I X rec 95 32 lv st σ := by rw [J_tsw]; rfl
theorem sw_95_1_1 : am_J X rec 95 (some (.tableswitch 78 0 3 #[31, 39, 44, 70], nx, tg)) 1 lv (.int (zI 1) :: st) σ = am_I X rec 95 40 lv st σ := by rw [J_tsw]; rfl
theorem sw_95_1_2 : am_J X rec 95 (some (.tableswitch 78 0 3 #[31, 39, 44, 70], nx, tg)) 1 lv (.int (zI 2) :: st) σ = am_I X rec 95 45 lv st σ := by rw [J_tsw]; rfl
theorem sw_95_1_3 : am_J X rec 95 (some (.tableswitch 78 0 3 #[31, 39, 44, 70], nx, tg)) 1 lv (.int (zI 3) :: st) σ = am_I X rec 95 71 lv st σ := by rw [J_tsw]; rfl
theorem sd_95_1 {x : Int32} (hx : qIs x 4 = false) : am_J X rec 95 (some (.tableswitch 78 0 3 #[31, 39, 44, 70], nx, tg)) 1 lv (.int x :: st) σ = am_I X rec 95 79 lv st σ := by
  rw [J_tsw]
  have hc : x.toInt < 0 ∨ (3 : Int) < x.toInt := by
    unfold qIs at hx
    simp only [Bool.and_eq_false_iff, decide_eq_false_iff_not] at hx
    rcases hx with h | h
    · left
      rw [Int32.not_le, Int32.lt_iff_toInt_lt] at h
      simpa using h
    · right
      have h2 : ¬ x.toInt.toNat < 4 := h
      omega
  unfold am_pure
  simp only
  rw [if_pos hc]
  rfl
theorem sw_160_1_0 : am_J X rec 160 (some (.tableswitch 88 0 5 #[39, 47, 55, 63, 73, 83], nx, tg)) 1 lv (.int (zI 0) :: st) σ = am_I X rec 160 40 lv st σ := by rw [J_tsw]; rfl
theorem sw_160_1_1 : am_J X rec 160 (some (.tableswitch 88 0 5 #[39, 47, 55, 63, 73, 83], nx, tg)) 1 lv (.int (zI 1) :: st) σ = am_I X rec 160 48 lv st σ := by rw [J_tsw]; rfl
theorem sw_160_1_2 : am_J X rec 160 (some (.tableswitch 88 0 5 #[39, 47, 55, 63, 73, 83], nx, tg)) 1 lv (.int (zI 2) :: st) σ = am_I X rec 160 56 lv st σ := by rw [J_tsw]; rfl
theorem sw_160_1_3 : am_J X rec 160 (some (.tableswitch 88 0 5 #[39, 47, 55, 63, 73, 83], nx, tg)) 1 lv (.int (zI 3) :: st) σ = am_I X rec 160 64 lv st σ := by rw [J_tsw]; rfl
theorem sw_160_1_4 : am_J X rec 160 (some (.tableswitch 88 0 5 #[39, 47, 55, 63, 73, 83], nx, tg)) 1 lv (.int (zI 4) :: st) σ = am_I X rec 160 74 lv st σ := by rw [J_tsw]; rfl
theorem sw_160_1_5 : am_J X rec 160 (some (.tableswitch 88 0 5 #[39, 47, 55, 63, 73, 83], nx, tg)) 1 lv (.int (zI 5) :: st) σ = am_I X rec 160 84 lv st σ := by rw [J_tsw]; rfl
theorem sd_160_1 {x : Int32} (hx : qIs x 6 = false) : am_J X rec 160 (some (.tableswitch 88 0 5 #[39, 47, 55, 63, 73, 83], nx, tg)) 1 lv (.int x :: st) σ = am_I X rec 160 89 lv st σ := by
  rw [J_tsw]
  have hc : x.toInt < 0 ∨ (5 : Int) < x.toInt := by
    unfold qIs at hx
    simp only [Bool.and_eq_false_iff, decide_eq_false_iff_not] at hx
    rcases hx with h | h
    · left
      rw [Int32.not_le, Int32.lt_iff_toInt_lt] at h
      simpa using h
    · right
      have h2 : ¬ x.toInt.toNat < 6 := h
      omega
  unfold am_pure
  simp only
  rw [if_pos hc]
  rfl
theorem sw_230_1_0 : am_J X rec 230 (some (.tableswitch 55 0 3 #[31, 37, 42, 47], nx, tg)) 1 lv (.int (zI 0) :: st) σ = am_I X rec 230 32 lv st σ := by rw [J_tsw]; rfl
theorem sw_230_1_1 : am_J X rec 230 (some (.tableswitch 55 0 3 #[31, 37, 42, 47], nx, tg)) 1 lv (.int (zI 1) :: st) σ = am_I X rec 230 38 lv st σ := by rw [J_tsw]; rfl
theorem sw_230_1_2 : am_J X rec 230 (some (.tableswitch 55 0 3 #[31, 37, 42, 47], nx, tg)) 1 lv (.int (zI 2) :: st) σ = am_I X rec 230 43 lv st σ := by rw [J_tsw]; rfl
theorem sw_230_1_3 : am_J X rec 230 (some (.tableswitch 55 0 3 #[31, 37, 42, 47], nx, tg)) 1 lv (.int (zI 3) :: st) σ = am_I X rec 230 48 lv st σ := by rw [J_tsw]; rfl
theorem sd_230_1 {x : Int32} (hx : qIs x 4 = false) : am_J X rec 230 (some (.tableswitch 55 0 3 #[31, 37, 42, 47], nx, tg)) 1 lv (.int x :: st) σ = am_I X rec 230 56 lv st σ := by
  rw [J_tsw]
  have hc : x.toInt < 0 ∨ (3 : Int) < x.toInt := by
    unfold qIs at hx
    simp only [Bool.and_eq_false_iff, decide_eq_false_iff_not] at hx
    rcases hx with h | h
    · left
      rw [Int32.not_le, Int32.lt_iff_toInt_lt] at h
      simpa using h
    · right
      have h2 : ¬ x.toInt.toNat < 4 := h
      omega
  unfold am_pure
  simp only
  rw [if_pos hc]
  rfl
theorem sw_273_19_0 : am_J X rec 273 (some (.tableswitch 70 1 5 #[33, 42, 46, 51, 56], nx, tg)) 19 lv (.int (zI 0) :: st) σ = am_I X rec 273 89 lv st σ := by rw [J_tsw]; rfl
theorem sw_273_19_1 : am_J X rec 273 (some (.tableswitch 70 1 5 #[33, 42, 46, 51, 56], nx, tg)) 19 lv (.int (zI 1) :: st) σ = am_I X rec 273 52 lv st σ := by rw [J_tsw]; rfl
theorem sw_273_19_2 : am_J X rec 273 (some (.tableswitch 70 1 5 #[33, 42, 46, 51, 56], nx, tg)) 19 lv (.int (zI 2) :: st) σ = am_I X rec 273 61 lv st σ := by rw [J_tsw]; rfl
theorem sw_273_19_3 : am_J X rec 273 (some (.tableswitch 70 1 5 #[33, 42, 46, 51, 56], nx, tg)) 19 lv (.int (zI 3) :: st) σ = am_I X rec 273 65 lv st σ := by rw [J_tsw]; rfl
theorem sw_273_19_4 : am_J X rec 273 (some (.tableswitch 70 1 5 #[33, 42, 46, 51, 56], nx, tg)) 19 lv (.int (zI 4) :: st) σ = am_I X rec 273 70 lv st σ := by rw [J_tsw]; rfl
theorem sw_273_19_5 : am_J X rec 273 (some (.tableswitch 70 1 5 #[33, 42, 46, 51, 56], nx, tg)) 19 lv (.int (zI 5) :: st) σ = am_I X rec 273 75 lv st σ := by rw [J_tsw]; rfl
theorem sw_281_40_0 : am_J X rec 281 (some (.tableswitch 1222 0 34 #[156, 181, 218, 267, 304, 329, 354, 379, 416, 469, 482, 507, 521, 559, 572, 586, 599, 613, 627, 640, 678, 703, 728, 754, 767, 834, 847, 860, 885, 934, 983, 1032, 1099, 1172, 1197], nx, tg)) 40 lv (.int (zI 0) :: st) σ = am_I X rec 281 196 lv st σ := by rw [J_tsw]; rfl
theorem sw_281_40_1 : am_J X rec 281 (some (.tableswitch 1222 0 34 #[156, 181, 218, 267, 304, 329, 354, 379, 416, 469, 482, 507, 521, 559, 572, 586, 599, 613, 627, 640, 678, 703, 728, 754, 767, 834, 847, 860, 885, 934, 983, 1032, 1099, 1172, 1197], nx, tg)) 40 lv (.int (zI 1) :: st) σ = am_I X rec 281 221 lv st σ := by rw [J_tsw]; rfl
theorem sw_281_40_2 : am_J X rec 281 (some (.tableswitch 1222 0 34 #[156, 181, 218, 267, 304, 329, 354, 379, 416, 469, 482, 507, 521, 559, 572, 586, 599, 613, 627, 640, 678, 703, 728, 754, 767, 834, 847, 860, 885, 934, 983, 1032, 1099, 1172, 1197], nx, tg)) 40 lv (.int (zI 2) :: st) σ = am_I X rec 281 258 lv st σ := by rw [J_tsw]; rfl
theorem sw_281_40_3 : am_J X rec 281 (some (.tableswitch 1222 0 34 #[156, 181, 218, 267, 304, 329, 354, 379, 416, 469, 482, 507, 521, 559, 572, 586, 599, 613, 627, 640, 678, 703, 728, 754, 767, 834, 847, 860, 885, 934, 983, 1032, 1099, 1172, 1197], nx, tg)) 40 lv (.int (zI 3) :: st) σ = am_I X rec 281 307 lv st σ := by rw [J_tsw]; rfl
theorem sw_281_40_4 : am_J X rec 281 (some (.tableswitch 1222 0 34 #[156, 181, 218, 267, 304, 329, 354, 379, 416, 469, 482, 507, 521, 559, 572, 586, 599, 613, 627, 640, 678, 703, 728, 754, 767, 834, 847, 860, 885, 934, 983, 1032, 1099, 1172, 1197], nx, tg)) 40 lv (.int (zI 4) :: st) σ = am_I X rec 281 344 lv st σ := by rw [J_tsw]; rfl
theorem sw_281_40_5 : am_J X rec 281 (some (.tableswitch 1222 0 34 #[156, 181, 218, 267, 304, 329, 354, 379, 416, 469, 482, 507, 521, 559, 572, 586, 599, 613, 627, 640, 678, 703, 728, 754, 767, 834, 847, 860, 885, 934, 983, 1032, 1099, 1172, 1197], nx, tg)) 40 lv (.int (zI 5) :: st) σ = am_I X rec 281 369 lv st σ := by rw [J_tsw]; rfl
theorem sw_281_40_6 : am_J X rec 281 (some (.tableswitch 1222 0 34 #[156, 181, 218, 267, 304, 329, 354, 379, 416, 469, 482, 507, 521, 559, 572, 586, 599, 613, 627, 640, 678, 703, 728, 754, 767, 834, 847, 860, 885, 934, 983, 1032, 1099, 1172, 1197], nx, tg)) 40 lv (.int (zI 6) :: st) σ = am_I X rec 281 394 lv st σ := by rw [J_tsw]; rfl
theorem sw_281_40_7 : am_J X rec 281 (some (.tableswitch 1222 0 34 #[156, 181, 218, 267, 304, 329, 354, 379, 416, 469, 482, 507, 521, 559, 572, 586, 599, 613, 627, 640, 678, 703, 728, 754, 767, 834, 847, 860, 885, 934, 983, 1032, 1099, 1172, 1197], nx, tg)) 40 lv (.int (zI 7) :: st) σ = am_I X rec 281 419 lv st σ := by rw [J_tsw]; rfl
theorem sw_281_40_8 : am_J X rec 281 (some (.tableswitch 1222 0 34 #[156, 181, 218, 267, 304, 329, 354, 379, 416, 469, 482, 507, 521, 559, 572, 586, 599, 613, 627, 640, 678, 703, 728, 754, 767, 834, 847, 860, 885, 934, 983, 1032, 1099, 1172, 1197], nx, tg)) 40 lv (.int (zI 8) :: st) σ = am_I X rec 281 456 lv st σ := by rw [J_tsw]; rfl
theorem sw_281_40_9 : am_J X rec 281 (some (.tableswitch 1222 0 34 #[156, 181, 218, 267, 304, 329, 354, 379, 416, 469, 482, 507, 521, 559, 572, 586, 599, 613, 627, 640, 678, 703, 728, 754, 767, 834, 847, 860, 885, 934, 983, 1032, 1099, 1172, 1197], nx, tg)) 40 lv (.int (zI 9) :: st) σ = am_I X rec 281 509 lv st σ := by rw [J_tsw]; rfl
theorem sw_281_40_10 : am_J X rec 281 (some (.tableswitch 1222 0 34 #[156, 181, 218, 267, 304, 329, 354, 379, 416, 469, 482, 507, 521, 559, 572, 586, 599, 613, 627, 640, 678, 703, 728, 754, 767, 834, 847, 860, 885, 934, 983, 1032, 1099, 1172, 1197], nx, tg)) 40 lv (.int (zI 10) :: st) σ = am_I X rec 281 522 lv st σ := by rw [J_tsw]; rfl
theorem sw_281_40_11 : am_J X rec 281 (some (.tableswitch 1222 0 34 #[156, 181, 218, 267, 304, 329, 354, 379, 416, 469, 482, 507, 521, 559, 572, 586, 599, 613, 627, 640, 678, 703, 728, 754, 767, 834, 847, 860, 885, 934, 983, 1032, 1099, 1172, 1197], nx, tg)) 40 lv (.int (zI 11) :: st) σ = am_I X rec 281 547 lv st σ := by rw [J_tsw]; rfl
theorem sw_281_40_12 : am_J X rec 281 (some (.tableswitch 1222 0 34 #[156, 181, 218, 267, 304, 329, 354, 379, 416, 469, 482, 507, 521, 559, 572, 586, 599, 613, 627, 640, 678, 703, 728, 754, 767, 834, 847, 860, 885, 934, 983, 1032, 1099, 1172, 1197], nx, tg)) 40 lv (.int (zI 12) :: st) σ = am_I X rec 281 561 lv st σ := by rw [J_tsw]; rfl
theorem sw_281_40_13 : am_J X rec 281 (some (.tableswitch 1222 0 34 #[156, 181, 218, 267, 304, 329, 354, 379, 416, 469, 482, 507, 521, 559, 572, 586, 599, 613, 627, 640, 678, 703, 728, 754, 767, 834, 847, 860, 885, 934, 983, 1032, 1099, 1172, 1197], nx, tg)) 40 lv (.int (zI 13) :: st) σ = am_I X rec 281 599 lv st σ := by rw [J_tsw]; rfl
theorem sw_281_40_14 : am_J X rec 281 (some (.tableswitch 1222 0 34 #[156, 181, 218, 267, 304, 329, 354, 379, 416, 469, 482, 507, 521, 559, 572, 586, 599, 613, 627, 640, 678, 703, 728, 754, 767, 834, 847, 860, 885, 934, 983, 1032, 1099, 1172, 1197], nx, tg)) 40 lv (.int (zI 14) :: st) σ = am_I X rec 281 612 lv st σ := by rw [J_tsw]; rfl
theorem sw_281_40_15 : am_J X rec 281 (some (.tableswitch 1222 0 34 #[156, 181, 218, 267, 304, 329, 354, 379, 416, 469, 482, 507, 521, 559, 572, 586, 599, 613, 627, 640, 678, 703, 728, 754, 767, 834, 847, 860, 885, 934, 983, 1032, 1099, 1172, 1197], nx, tg)) 40 lv (.int (zI 15) :: st) σ = am_I X rec 281 626 lv st σ := by rw [J_tsw]; rfl
theorem sw_281_40_16 : am_J X rec 281 (some (.tableswitch 1222 0 34 #[156, 181, 218, 267, 304, 329, 354, 379, 416, 469, 482, 507, 521, 559, 572, 586, 599, 613, 627, 640, 678, 703, 728, 754, 767, 834, 847, 860, 885, 934, 983, 1032, 1099, 1172, 1197], nx, tg)) 40 lv (.int (zI 16) :: st) σ = am_I X rec 281 639 lv st σ := by rw [J_tsw]; rfl
theorem sw_281_40_17 : am_J X rec 281 (some (.tableswitch 1222 0 34 #[156, 181, 218, 267, 304, 329, 354, 379, 416, 469, 482, 507, 521, 559, 572, 586, 599, 613, 627, 640, 678, 703, 728, 754, 767, 834, 847, 860, 885, 934, 983, 1032, 1099, 1172, 1197], nx, tg)) 40 lv (.int (zI 17) :: st) σ = am_I X rec 281 653 lv st σ := by rw [J_tsw]; rfl
theorem sw_281_40_18 : am_J X rec 281 (some (.tableswitch 1222 0 34 #[156, 181, 218, 267, 304, 329, 354, 379, 416, 469, 482, 507, 521, 559, 572, 586, 599, 613, 627, 640, 678, 703, 728, 754, 767, 834, 847, 860, 885, 934, 983, 1032, 1099, 1172, 1197], nx, tg)) 40 lv (.int (zI 18) :: st) σ = am_I X rec 281 667 lv st σ := by rw [J_tsw]; rfl
theorem sw_281_40_19 : am_J X rec 281 (some (.tableswitch 1222 0 34 #[156, 181, 218, 267, 304, 329, 354, 379, 416, 469, 482, 507, 521, 559, 572, 586, 599, 613, 627, 640, 678, 703, 728, 754, 767, 834, 847, 860, 885, 934, 983, 1032, 1099, 1172, 1197], nx, tg)) 40 lv (.int (zI 19) :: st) σ = am_I X rec 281 680 lv st σ := by rw [J_tsw]; rfl
theorem sw_281_40_20 : am_J X rec 281 (some (.tableswitch 1222 0 34 #[156, 181, 218, 267, 304, 329, 354, 379, 416, 469, 482, 507, 521, 559, 572, 586, 599, 613, 627, 640, 678, 703, 728, 754, 767, 834, 847, 860, 885, 934, 983, 1032, 1099, 1172, 1197], nx, tg)) 40 lv (.int (zI 20) :: st) σ = am_I X rec 281 718 lv st σ := by rw [J_tsw]; rfl
theorem sw_281_40_21 : am_J X rec 281 (some (.tableswitch 1222 0 34 #[156, 181, 218, 267, 304, 329, 354, 379, 416, 469, 482, 507, 521, 559, 572, 586, 599, 613, 627, 640, 678, 703, 728, 754, 767, 834, 847, 860, 885, 934, 983, 1032, 1099, 1172, 1197], nx, tg)) 40 lv (.int (zI 21) :: st) σ = am_I X rec 281 743 lv st σ := by rw [J_tsw]; rfl
theorem sw_281_40_22 : am_J X rec 281 (some (.tableswitch 1222 0 34 #[156, 181, 218, 267, 304, 329, 354, 379, 416, 469, 482, 507, 521, 559, 572, 586, 599, 613, 627, 640, 678, 703, 728, 754, 767, 834, 847, 860, 885, 934, 983, 1032, 1099, 1172, 1197], nx, tg)) 40 lv (.int (zI 22) :: st) σ = am_I X rec 281 768 lv st σ := by rw [J_tsw]; rfl
theorem sw_281_40_23 : am_J X rec 281 (some (.tableswitch 1222 0 34 #[156, 181, 218, 267, 304, 329, 354, 379, 416, 469, 482, 507, 521, 559, 572, 586, 599, 613, 627, 640, 678, 703, 728, 754, 767, 834, 847, 860, 885, 934, 983, 1032, 1099, 1172, 1197], nx, tg)) 40 lv (.int (zI 23) :: st) σ = am_I X rec 281 794 lv st σ := by rw [J_tsw]; rfl
theorem sw_281_40_24 : am_J X rec 281 (some (.tableswitch 1222 0 34 #[156, 181, 218, 267, 304, 329, 354, 379, 416, 469, 482, 507, 521, 559, 572, 586, 599, 613, 627, 640, 678, 703, 728, 754, 767, 834, 847, 860, 885, 934, 983, 1032, 1099, 1172, 1197], nx, tg)) 40 lv (.int (zI 24) :: st) σ = am_I X rec 281 807 lv st σ := by rw [J_tsw]; rfl
theorem sw_281_40_25 : am_J X rec 281 (some (.tableswitch 1222 0 34 #[156, 181, 218, 267, 304, 329, 354, 379, 416, 469, 482, 507, 521, 559, 572, 586, 599, 613, 627, 640, 678, 703, 728, 754, 767, 834, 847, 860, 885, 934, 983, 1032, 1099, 1172, 1197], nx, tg)) 40 lv (.int (zI 25) :: st) σ = am_I X rec 281 874 lv st σ := by rw [J_tsw]; rfl
theorem sw_281_40_26 : am_J X rec 281 (some (.tableswitch 1222 0 34 #[156, 181, 218, 267, 304, 329, 354, 379, 416, 469, 482, 507, 521, 559, 572, 586, 599, 613, 627, 640, 678, 703, 728, 754, 767, 834, 847, 860, 885, 934, 983, 1032, 1099, 1172, 1197], nx, tg)) 40 lv (.int (zI 26) :: st) σ = am_I X rec 281 887 lv st σ := by rw [J_tsw]; rfl
theorem sw_281_40_27 : am_J X rec 281 (some (.tableswitch 1222 0 34 #[156, 181, 218, 267, 304, 329, 354, 379, 416, 469, 482, 507, 521, 559, 572, 586, 599, 613, 627, 640, 678, 703, 728, 754, 767, 834, 847, 860, 885, 934, 983, 1032, 1099, 1172, 1197], nx, tg)) 40 lv (.int (zI 27) :: st) σ = am_I X rec 281 900 lv st σ := by rw [J_tsw]; rfl
theorem sw_281_40_28 : am_J X rec 281 (some (.tableswitch 1222 0 34 #[156, 181, 218, 267, 304, 329, 354, 379, 416, 469, 482, 507, 521, 559, 572, 586, 599, 613, 627, 640, 678, 703, 728, 754, 767, 834, 847, 860, 885, 934, 983, 1032, 1099, 1172, 1197], nx, tg)) 40 lv (.int (zI 28) :: st) σ = am_I X rec 281 925 lv st σ := by rw [J_tsw]; rfl
theorem sw_281_40_29 : am_J X rec 281 (some (.tableswitch 1222 0 34 #[156, 181, 218, 267, 304, 329, 354, 379, 416, 469, 482, 507, 521, 559, 572, 586, 599, 613, 627, 640, 678, 703, 728, 754, 767, 834, 847, 860, 885, 934, 983, 1032, 1099, 1172, 1197], nx, tg)) 40 lv (.int (zI 29) :: st) σ = am_I X rec 281 974 lv st σ := by rw [J_tsw]; rfl
theorem sw_281_40_30 : am_J X rec 281 (some (.tableswitch 1222 0 34 #[156, 181, 218, 267, 304, 329, 354, 379, 416, 469, 482, 507, 521, 559, 572, 586, 599, 613, 627, 640, 678, 703, 728, 754, 767, 834, 847, 860, 885, 934, 983, 1032, 1099, 1172, 1197], nx, tg)) 40 lv (.int (zI 30) :: st) σ = am_I X rec 281 1023 lv st σ := by rw [J_tsw]; rfl
theorem sw_281_40_31 : am_J X rec 281 (some (.tableswitch 1222 0 34 #[156, 181, 218, 267, 304, 329, 354, 379, 416, 469, 482, 507, 521, 559, 572, 586, 599, 613, 627, 640, 678, 703, 728, 754, 767, 834, 847, 860, 885, 934, 983, 1032, 1099, 1172, 1197], nx, tg)) 40 lv (.int (zI 31) :: st) σ = am_I X rec 281 1072 lv st σ := by rw [J_tsw]; rfl
theorem sw_281_40_32 : am_J X rec 281 (some (.tableswitch 1222 0 34 #[156, 181, 218, 267, 304, 329, 354, 379, 416, 469, 482, 507, 521, 559, 572, 586, 599, 613, 627, 640, 678, 703, 728, 754, 767, 834, 847, 860, 885, 934, 983, 1032, 1099, 1172, 1197], nx, tg)) 40 lv (.int (zI 32) :: st) σ = am_I X rec 281 1139 lv st σ := by rw [J_tsw]; rfl
theorem sw_281_40_33 : am_J X rec 281 (some (.tableswitch 1222 0 34 #[156, 181, 218, 267, 304, 329, 354, 379, 416, 469, 482, 507, 521, 559, 572, 586, 599, 613, 627, 640, 678, 703, 728, 754, 767, 834, 847, 860, 885, 934, 983, 1032, 1099, 1172, 1197], nx, tg)) 40 lv (.int (zI 33) :: st) σ = am_I X rec 281 1212 lv st σ := by rw [J_tsw]; rfl
theorem sw_281_40_34 : am_J X rec 281 (some (.tableswitch 1222 0 34 #[156, 181, 218, 267, 304, 329, 354, 379, 416, 469, 482, 507, 521, 559, 572, 586, 599, 613, 627, 640, 678, 703, 728, 754, 767, 834, 847, 860, 885, 934, 983, 1032, 1099, 1172, 1197], nx, tg)) 40 lv (.int (zI 34) :: st) σ = am_I X rec 281 1237 lv st σ := by rw [J_tsw]; rfl
theorem sd_281_40 {x : Int32} (hx : qIs x 35 = false) : am_J X rec 281 (some (.tableswitch 1222 0 34 #[156, 181, 218, 267, 304, 329, 354, 379, 416, 469, 482, 507, 521, 559, 572, 586, 599, 613, 627, 640, 678, 703, 728, 754, 767, 834, 847, 860, 885, 934, 983, 1032, 1099, 1172, 1197], nx, tg)) 40 lv (.int x :: st) σ = am_I X rec 281 1262 lv st σ := by
  rw [J_tsw]
  have hc : x.toInt < 0 ∨ (34 : Int) < x.toInt := by
    unfold qIs at hx
    simp only [Bool.and_eq_false_iff, decide_eq_false_iff_not] at hx
    rcases hx with h | h
    · left
      rw [Int32.not_le, Int32.lt_iff_toInt_lt] at h
      simpa using h
    · right
      have h2 : ¬ x.toInt.toNat < 35 := h
      omega
  unfold am_pure
  simp only
  rw [if_pos hc]
  rfl
end SW
