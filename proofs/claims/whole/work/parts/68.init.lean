/-! making: cells one by one -/
def cu (c : Nat → Option am_E) (k : Nat) (e : am_E) : Nat → Option am_E := fun j => if j = k then some e else c j
def c0' : Nat → Option am_E := fun _ => none
def orE (a b : Option am_E) : Option am_E := match a with
  | some e => some e
  | none => b
section CU
variable {h : am_H} {o k j : Nat} {c : Nat → Option am_E} {e : am_E} {b : Option am_E}
theorem orE_s : orE (some e) b = some e := rfl
theorem orE_n : orE none b = b := rfl
theorem cu_s : cu c k e k = some e := if_pos rfl
theorem cu_o (h : j ≠ k) : cu c k e j = c j := if_neg h
theorem ovr_k : ov h o c (o + k) = orE (c k) (h (o + k)) := by
  unfold ov
  rw [if_pos (by omega), Nat.add_sub_cancel_left]
  rfl
theorem ovr_0 : ov h o c o = orE (c 0) (h o) := ovr_k (k := 0)
theorem ov_cu : am_up (ov h o c) (o + k) e = ov h o (cu c k e) := ov_u (fun _ => rfl)
theorem ov_cu0 : am_up (ov h o c) o e = ov h o (cu c 0 e) := ov_cu (k := 0)
theorem ov_new : am_up h o e = ov h o (cu c0' 0 e) := by
  funext q
  unfold am_up ov cu c0'
  by_cases e1 : q = o
  · subst e1
    rw [if_pos rfl, if_pos (Nat.le_refl _), Nat.sub_self, if_pos rfl]
  · rw [if_neg e1]
    by_cases e2 : o ≤ q
    · rw [if_pos e2, if_neg (by omega)]
    · rw [if_neg e2]
theorem a0_i {n : Nat} : am_a0 .int n = some (.inl (.int, n, .inl (fun _ => 0))) := rfl
theorem a0_l {n : Nat} : am_a0 .long n = some (.inl (.long, n, .inr (.inl (fun _ => 0)))) := rfl
theorem a0_z {n : Nat} : am_a0 .boolean n = some (.inl (.boolean, n, .inl (fun _ => 0))) := rfl
end CU
section MI
variable {X : am_X} {rec : am_O} {h : am_H} {o d t pc nx tg : Nat} {z : Nat × Nat} {lv : am_L} {st : List Value} {σ : am_S}
theorem J_nai {n : Nat} (hn : n < 65537) : am_J X rec t (some (.newarray .int, nx, tg)) pc lv (.int (zI n) :: st) σ = am_I X rec t nx lv (.ref σ.2.1 :: st) (am_up σ.1 σ.2.1 (.inl (.int, n, .inl (fun _ => 0))), σ.2.1 + 1, σ.2.2 + n) := by
  rw [J_newarray, zI_in hn (by omega), zI_nat (by omega)]
  rfl
theorem J_nal {n : Nat} (hn : n < 65537) : am_J X rec t (some (.newarray .long, nx, tg)) pc lv (.int (zI n) :: st) σ = am_I X rec t nx lv (.ref σ.2.1 :: st) (am_up σ.1 σ.2.1 (.inl (.long, n, .inr (.inl (fun _ => 0)))), σ.2.1 + 1, σ.2.2 + n) := by
  rw [J_newarray, zI_in hn (by omega), zI_nat (by omega)]
  rfl
theorem J_naz {n : Nat} (hn : n < 65537) : am_J X rec t (some (.newarray .boolean, nx, tg)) pc lv (.int (zI n) :: st) σ = am_I X rec t nx lv (.ref σ.2.1 :: st) (am_up σ.1 σ.2.1 (.inl (.boolean, n, .inl (fun _ => 0))), σ.2.1 + 1, σ.2.2 + n) := by
  rw [J_newarray, zI_in hn (by omega), zI_nat (by omega)]
  rfl
/-- the reference, made -/
def mU0 : mU := (fun j => if j = 1 then upd (fun _ => 0) 117 (zI 99) else fun _ => 0, fun _ _ => 0, fun _ => 0, fun _ => 0)
theorem ov_mH {c : Nat → Option am_E} {u : mU} (h0 : c 0 = some (.inr (12, mF o u))) (h1 : ∀ k, 0 < k → k < 20 → c k = some (.inl (mA u k))) (h2 : ∀ k, 20 ≤ k → c k = none) : ov h o c = mH h o u := by
  funext q
  unfold ov mH
  by_cases e1 : q = o
  · subst e1
    rw [if_pos (Nat.le_refl _), Nat.sub_self, h0, if_pos rfl]
  · rw [if_neg e1]
    by_cases e2 : o < q ∧ q < o + 20
    · rw [if_pos (by omega), if_pos e2, h1 _ (by omega) (by omega)]
    · rw [if_neg e2]
      by_cases e3 : o ≤ q
      · rw [if_pos e3, h2 _ (by omega)]
      · rw [if_neg e3]
theorem ri_1 {rec : am_O} {s : Nat} (c : Nat → Option am_E) (fs : List Value) (hl : fs.length = 37) (hc : c 0 = some (.inr (12, fs))) : am_I X rec 192 4 [some (.ref o)] [] (ov h o c, (o + 1, s)) = am_I X rec 192 12 [some (.ref o)] [] (ov h o (cu (cu c 1 (.inl (.int, 118, .inl (fun _ => 0)))) 0 (.inr (12, fs.set 0 (.ref (o + 1))))), (o + 2, s + 118)) := by
  have hj : 0 < fs.length := by rw [hl]; omega
  simp (disch := first | omega | exact hj | exact Nat.le_of_ble_eq_true rfl) only [own_192, am_go dc_192_4, am_go dc_192_5, am_go dc_192_7, am_go dc_192_9, J_aload_0, K_al, ld_0, J_bipush, c8_118, J_nai, J_putfield_r, ini_192, ovr_0, ov_cu, ov_cu0, cu_o, hc, orE_s, pf_a pk_12_9_12 rfl, hl, bind_s, Nat.add_assoc, Nat.reduceAdd]
theorem ri_2 {rec : am_O} {s : Nat} (c : Nat → Option am_E) (fs : List Value) (hl : fs.length = 37) (hc : c 0 = some (.inr (12, fs))) : am_I X rec 192 12 [some (.ref o)] [] (ov h o c, (o + 2, s)) = am_I X rec 192 20 [some (.ref o)] [] (ov h o (cu (cu c 2 (.inl (.int, 118, .inl (fun _ => 0)))) 0 (.inr (12, fs.set 1 (.ref (o + 2))))), (o + 3, s + 118)) := by
  have hj : 1 < fs.length := by rw [hl]; omega
  simp (disch := first | omega | exact hj | exact Nat.le_of_ble_eq_true rfl) only [own_192, am_go dc_192_12, am_go dc_192_13, am_go dc_192_15, am_go dc_192_17, J_aload_0, K_al, ld_0, J_bipush, c8_118, J_nai, J_putfield_r, ini_192, ovr_0, ov_cu, ov_cu0, cu_o, hc, orE_s, pf_a pk_12_13_12 rfl, hl, bind_s, Nat.add_assoc, Nat.reduceAdd]
theorem ri_3 {rec : am_O} {s : Nat} (c : Nat → Option am_E) (fs : List Value) (hl : fs.length = 37) (hc : c 0 = some (.inr (12, fs))) : am_I X rec 192 20 [some (.ref o)] [] (ov h o c, (o + 3, s)) = am_I X rec 192 28 [some (.ref o)] [] (ov h o (cu (cu c 3 (.inl (.int, 118, .inl (fun _ => 0)))) 0 (.inr (12, fs.set 2 (.ref (o + 3))))), (o + 4, s + 118)) := by
  have hj : 2 < fs.length := by rw [hl]; omega
  simp (disch := first | omega | exact hj | exact Nat.le_of_ble_eq_true rfl) only [own_192, am_go dc_192_20, am_go dc_192_21, am_go dc_192_23, am_go dc_192_25, J_aload_0, K_al, ld_0, J_bipush, c8_118, J_nai, J_putfield_r, ini_192, ovr_0, ov_cu, ov_cu0, cu_o, hc, orE_s, pf_a pk_12_16_12 rfl, hl, bind_s, Nat.add_assoc, Nat.reduceAdd]
theorem ri_4 {rec : am_O} {s : Nat} (c : Nat → Option am_E) (fs : List Value) (hl : fs.length = 37) (hc : c 0 = some (.inr (12, fs))) : am_I X rec 192 28 [some (.ref o)] [] (ov h o c, (o + 4, s)) = am_I X rec 192 35 [some (.ref o)] [] (ov h o (cu (cu c 4 (.inl (.int, 5, .inl (fun _ => 0)))) 0 (.inr (12, fs.set 3 (.ref (o + 4))))), (o + 5, s + 5)) := by
  have hj : 3 < fs.length := by rw [hl]; omega
  simp (disch := first | omega | exact hj | exact Nat.le_of_ble_eq_true rfl) only [own_192, am_go dc_192_28, am_go dc_192_29, am_go dc_192_30, am_go dc_192_32, J_aload_0, K_al, ld_0, J_iconst, c32_5, J_nai, J_putfield_r, ini_192, ovr_0, ov_cu, ov_cu0, cu_o, hc, orE_s, pf_a pk_12_19_12 rfl, hl, bind_s, Nat.add_assoc, Nat.reduceAdd]
theorem ri_5 {rec : am_O} {s : Nat} (c : Nat → Option am_E) (fs : List Value) (hl : fs.length = 37) (hc : c 0 = some (.inr (12, fs))) : am_I X rec 192 35 [some (.ref o)] [] (ov h o c, (o + 5, s)) = am_I X rec 192 43 [some (.ref o)] [] (ov h o (cu (cu c 5 (.inl (.int, 8, .inl (fun _ => 0)))) 0 (.inr (12, fs.set 4 (.ref (o + 5))))), (o + 6, s + 8)) := by
  have hj : 4 < fs.length := by rw [hl]; omega
  simp (disch := first | omega | exact hj | exact Nat.le_of_ble_eq_true rfl) only [own_192, am_go dc_192_35, am_go dc_192_36, am_go dc_192_38, am_go dc_192_40, J_aload_0, K_al, ld_0, J_bipush, c8_8, J_nai, J_putfield_r, ini_192, ovr_0, ov_cu, ov_cu0, cu_o, hc, orE_s, pf_a pk_12_22_12 rfl, hl, bind_s, Nat.add_assoc, Nat.reduceAdd]
theorem ri_6 {rec : am_O} {s : Nat} (c : Nat → Option am_E) (fs : List Value) (hl : fs.length = 37) (hc : c 0 = some (.inr (12, fs))) : am_I X rec 192 43 [some (.ref o)] [] (ov h o c, (o + 6, s)) = am_I X rec 192 51 [some (.ref o)] [] (ov h o (cu (cu c 6 (.inl (.int, 8, .inl (fun _ => 0)))) 0 (.inr (12, fs.set 5 (.ref (o + 6))))), (o + 7, s + 8)) := by
  have hj : 5 < fs.length := by rw [hl]; omega
  simp (disch := first | omega | exact hj | exact Nat.le_of_ble_eq_true rfl) only [own_192, am_go dc_192_43, am_go dc_192_44, am_go dc_192_46, am_go dc_192_48, J_aload_0, K_al, ld_0, J_bipush, c8_8, J_nai, J_putfield_r, ini_192, ovr_0, ov_cu, ov_cu0, cu_o, hc, orE_s, pf_a pk_12_25_12 rfl, hl, bind_s, Nat.add_assoc, Nat.reduceAdd]
theorem ri_7 {rec : am_O} {s : Nat} (c : Nat → Option am_E) (fs : List Value) (hl : fs.length = 37) (hc : c 0 = some (.inr (12, fs))) : am_I X rec 192 51 [some (.ref o)] [] (ov h o c, (o + 7, s)) = am_I X rec 192 59 [some (.ref o)] [] (ov h o (cu (cu c 7 (.inl (.int, 8, .inl (fun _ => 0)))) 0 (.inr (12, fs.set 6 (.ref (o + 7))))), (o + 8, s + 8)) := by
  have hj : 6 < fs.length := by rw [hl]; omega
  simp (disch := first | omega | exact hj | exact Nat.le_of_ble_eq_true rfl) only [own_192, am_go dc_192_51, am_go dc_192_52, am_go dc_192_54, am_go dc_192_56, J_aload_0, K_al, ld_0, J_bipush, c8_8, J_nai, J_putfield_r, ini_192, ovr_0, ov_cu, ov_cu0, cu_o, hc, orE_s, pf_a pk_12_28_12 rfl, hl, bind_s, Nat.add_assoc, Nat.reduceAdd]
theorem ri_8 {rec : am_O} {s : Nat} (c : Nat → Option am_E) (fs : List Value) (hl : fs.length = 37) (hc : c 0 = some (.inr (12, fs))) : am_I X rec 192 59 [some (.ref o)] [] (ov h o c, (o + 8, s)) = am_I X rec 192 68 [some (.ref o)] [] (ov h o (cu (cu c 8 (.inl (.int, 960, .inl (fun _ => 0)))) 0 (.inr (12, fs.set 7 (.ref (o + 8))))), (o + 9, s + 960)) := by
  have hj : 7 < fs.length := by rw [hl]; omega
  simp (disch := first | omega | exact hj | exact Nat.le_of_ble_eq_true rfl) only [own_192, am_go dc_192_59, am_go dc_192_60, am_go dc_192_63, am_go dc_192_65, J_aload_0, K_al, ld_0, J_sipush, c16_960, J_nai, J_putfield_r, ini_192, ovr_0, ov_cu, ov_cu0, cu_o, hc, orE_s, pf_a pk_12_31_12 rfl, hl, bind_s, Nat.add_assoc, Nat.reduceAdd]
theorem ri_9 {rec : am_O} {s : Nat} (c : Nat → Option am_E) (fs : List Value) (hl : fs.length = 37) (hc : c 0 = some (.inr (12, fs))) : am_I X rec 192 68 [some (.ref o)] [] (ov h o c, (o + 9, s)) = am_I X rec 192 76 [some (.ref o)] [] (ov h o (cu (cu c 9 (.inl (.int, 8, .inl (fun _ => 0)))) 0 (.inr (12, fs.set 8 (.ref (o + 9))))), (o + 10, s + 8)) := by
  have hj : 8 < fs.length := by rw [hl]; omega
  simp (disch := first | omega | exact hj | exact Nat.le_of_ble_eq_true rfl) only [own_192, am_go dc_192_68, am_go dc_192_69, am_go dc_192_71, am_go dc_192_73, J_aload_0, K_al, ld_0, J_bipush, c8_8, J_nai, J_putfield_r, ini_192, ovr_0, ov_cu, ov_cu0, cu_o, hc, orE_s, pf_a pk_12_34_12 rfl, hl, bind_s, Nat.add_assoc, Nat.reduceAdd]
theorem ri_10 {rec : am_O} {s : Nat} (c : Nat → Option am_E) (fs : List Value) (hl : fs.length = 37) (hc : c 0 = some (.inr (12, fs))) : am_I X rec 192 76 [some (.ref o)] [] (ov h o c, (o + 10, s)) = am_I X rec 192 84 [some (.ref o)] [] (ov h o (cu (cu c 10 (.inl (.int, 8, .inl (fun _ => 0)))) 0 (.inr (12, fs.set 9 (.ref (o + 10))))), (o + 11, s + 8)) := by
  have hj : 9 < fs.length := by rw [hl]; omega
  simp (disch := first | omega | exact hj | exact Nat.le_of_ble_eq_true rfl) only [own_192, am_go dc_192_76, am_go dc_192_77, am_go dc_192_79, am_go dc_192_81, J_aload_0, K_al, ld_0, J_bipush, c8_8, J_nai, J_putfield_r, ini_192, ovr_0, ov_cu, ov_cu0, cu_o, hc, orE_s, pf_a pk_12_37_12 rfl, hl, bind_s, Nat.add_assoc, Nat.reduceAdd]
theorem ri_11 {rec : am_O} {s : Nat} (c : Nat → Option am_E) (fs : List Value) (hl : fs.length = 37) (hc : c 0 = some (.inr (12, fs))) : am_I X rec 192 84 [some (.ref o)] [] (ov h o c, (o + 11, s)) = am_I X rec 192 92 [some (.ref o)] [] (ov h o (cu (cu c 11 (.inl (.int, 120, .inl (fun _ => 0)))) 0 (.inr (12, fs.set 16 (.ref (o + 11))))), (o + 12, s + 120)) := by
  have hj : 16 < fs.length := by rw [hl]; omega
  simp (disch := first | omega | exact hj | exact Nat.le_of_ble_eq_true rfl) only [own_192, am_go dc_192_84, am_go dc_192_85, am_go dc_192_87, am_go dc_192_89, J_aload_0, K_al, ld_0, J_bipush, c8_120, J_nai, J_putfield_r, ini_192, ovr_0, ov_cu, ov_cu0, cu_o, hc, orE_s, pf_a pk_12_40_12 rfl, hl, bind_s, Nat.add_assoc, Nat.reduceAdd]
theorem ri_12 {rec : am_O} {s : Nat} (c : Nat → Option am_E) (fs : List Value) (hl : fs.length = 37) (hc : c 0 = some (.inr (12, fs))) : am_I X rec 192 92 [some (.ref o)] [] (ov h o c, (o + 12, s)) = am_I X rec 192 100 [some (.ref o)] [] (ov h o (cu (cu c 12 (.inl (.int, 120, .inl (fun _ => 0)))) 0 (.inr (12, fs.set 17 (.ref (o + 12))))), (o + 13, s + 120)) := by
  have hj : 17 < fs.length := by rw [hl]; omega
  simp (disch := first | omega | exact hj | exact Nat.le_of_ble_eq_true rfl) only [own_192, am_go dc_192_92, am_go dc_192_93, am_go dc_192_95, am_go dc_192_97, J_aload_0, K_al, ld_0, J_bipush, c8_120, J_nai, J_putfield_r, ini_192, ovr_0, ov_cu, ov_cu0, cu_o, hc, orE_s, pf_a pk_12_43_12 rfl, hl, bind_s, Nat.add_assoc, Nat.reduceAdd]
theorem ri_13 {rec : am_O} {s : Nat} (c : Nat → Option am_E) (fs : List Value) (hl : fs.length = 37) (hc : c 0 = some (.inr (12, fs))) : am_I X rec 192 100 [some (.ref o)] [] (ov h o c, (o + 13, s)) = am_I X rec 192 108 [some (.ref o)] [] (ov h o (cu (cu c 13 (.inl (.int, 120, .inl (fun _ => 0)))) 0 (.inr (12, fs.set 18 (.ref (o + 13))))), (o + 14, s + 120)) := by
  have hj : 18 < fs.length := by rw [hl]; omega
  simp (disch := first | omega | exact hj | exact Nat.le_of_ble_eq_true rfl) only [own_192, am_go dc_192_100, am_go dc_192_101, am_go dc_192_103, am_go dc_192_105, J_aload_0, K_al, ld_0, J_bipush, c8_120, J_nai, J_putfield_r, ini_192, ovr_0, ov_cu, ov_cu0, cu_o, hc, orE_s, pf_a pk_12_46_12 rfl, hl, bind_s, Nat.add_assoc, Nat.reduceAdd]
theorem ri_14 {rec : am_O} {s : Nat} (c : Nat → Option am_E) (fs : List Value) (hl : fs.length = 37) (hc : c 0 = some (.inr (12, fs))) : am_I X rec 192 108 [some (.ref o)] [] (ov h o c, (o + 14, s)) = am_I X rec 192 117 [some (.ref o)] [] (ov h o (cu (cu c 14 (.inl (.long, 16807, .inr (.inl (fun _ => 0))))) 0 (.inr (12, fs.set 27 (.ref (o + 14))))), (o + 15, s + 16807)) := by
  have hj : 27 < fs.length := by rw [hl]; omega
  simp (disch := first | omega | exact hj | exact Nat.le_of_ble_eq_true rfl) only [own_192, am_go dc_192_108, am_go dc_192_109, am_go dc_192_112, am_go dc_192_114, J_aload_0, K_al, ld_0, J_sipush, c16_16807, J_nal, J_putfield_r, ini_192, ovr_0, ov_cu, ov_cu0, cu_o, hc, orE_s, pf_a pk_12_49_12 rfl, hl, bind_s, Nat.add_assoc, Nat.reduceAdd]
theorem ri_15 {rec : am_O} {s : Nat} (c : Nat → Option am_E) (fs : List Value) (hl : fs.length = 37) (hc : c 0 = some (.inr (12, fs))) : am_I X rec 192 117 [some (.ref o)] [] (ov h o c, (o + 15, s)) = am_I X rec 192 126 [some (.ref o)] [] (ov h o (cu (cu c 15 (.inl (.long, 16807, .inr (.inl (fun _ => 0))))) 0 (.inr (12, fs.set 28 (.ref (o + 15))))), (o + 16, s + 16807)) := by
  have hj : 28 < fs.length := by rw [hl]; omega
  simp (disch := first | omega | exact hj | exact Nat.le_of_ble_eq_true rfl) only [own_192, am_go dc_192_117, am_go dc_192_118, am_go dc_192_121, am_go dc_192_123, J_aload_0, K_al, ld_0, J_sipush, c16_16807, J_nal, J_putfield_r, ini_192, ovr_0, ov_cu, ov_cu0, cu_o, hc, orE_s, pf_a pk_12_53_12 rfl, hl, bind_s, Nat.add_assoc, Nat.reduceAdd]
theorem ri_16 {rec : am_O} {s : Nat} (c : Nat → Option am_E) (fs : List Value) (hl : fs.length = 37) (hc : c 0 = some (.inr (12, fs))) : am_I X rec 192 126 [some (.ref o)] [] (ov h o c, (o + 16, s)) = am_I X rec 192 135 [some (.ref o)] [] (ov h o (cu (cu c 16 (.inl (.int, 16807, .inl (fun _ => 0)))) 0 (.inr (12, fs.set 29 (.ref (o + 16))))), (o + 17, s + 16807)) := by
  have hj : 29 < fs.length := by rw [hl]; omega
  simp (disch := first | omega | exact hj | exact Nat.le_of_ble_eq_true rfl) only [own_192, am_go dc_192_126, am_go dc_192_127, am_go dc_192_130, am_go dc_192_132, J_aload_0, K_al, ld_0, J_sipush, c16_16807, J_nai, J_putfield_r, ini_192, ovr_0, ov_cu, ov_cu0, cu_o, hc, orE_s, pf_a pk_12_56_12 rfl, hl, bind_s, Nat.add_assoc, Nat.reduceAdd]
theorem ri_17 {rec : am_O} {s : Nat} (c : Nat → Option am_E) (fs : List Value) (hl : fs.length = 37) (hc : c 0 = some (.inr (12, fs))) : am_I X rec 192 135 [some (.ref o)] [] (ov h o c, (o + 17, s)) = am_I X rec 192 144 [some (.ref o)] [] (ov h o (cu (cu c 17 (.inl (.boolean, 16807, .inl (fun _ => 0)))) 0 (.inr (12, fs.set 30 (.ref (o + 17))))), (o + 18, s + 16807)) := by
  have hj : 30 < fs.length := by rw [hl]; omega
  simp (disch := first | omega | exact hj | exact Nat.le_of_ble_eq_true rfl) only [own_192, am_go dc_192_135, am_go dc_192_136, am_go dc_192_139, am_go dc_192_141, J_aload_0, K_al, ld_0, J_sipush, c16_16807, J_naz, J_putfield_r, ini_192, ovr_0, ov_cu, ov_cu0, cu_o, hc, orE_s, pf_a pk_12_59_12 rfl, hl, bind_s, Nat.add_assoc, Nat.reduceAdd]
theorem ri_18 {rec : am_O} {s : Nat} (c : Nat → Option am_E) (fs : List Value) (hl : fs.length = 37) (hc : c 0 = some (.inr (12, fs))) : am_I X rec 192 144 [some (.ref o)] [] (ov h o c, (o + 18, s)) = am_I X rec 192 153 [some (.ref o)] [] (ov h o (cu (cu c 18 (.inl (.boolean, 16807, .inl (fun _ => 0)))) 0 (.inr (12, fs.set 31 (.ref (o + 18))))), (o + 19, s + 16807)) := by
  have hj : 31 < fs.length := by rw [hl]; omega
  simp (disch := first | omega | exact hj | exact Nat.le_of_ble_eq_true rfl) only [own_192, am_go dc_192_144, am_go dc_192_145, am_go dc_192_148, am_go dc_192_150, J_aload_0, K_al, ld_0, J_sipush, c16_16807, J_naz, J_putfield_r, ini_192, ovr_0, ov_cu, ov_cu0, cu_o, hc, orE_s, pf_a pk_12_63_12 rfl, hl, bind_s, Nat.add_assoc, Nat.reduceAdd]
theorem ri_19 {rec : am_O} {s : Nat} (c : Nat → Option am_E) (fs : List Value) (hl : fs.length = 37) (hc : c 0 = some (.inr (12, fs))) : am_I X rec 192 153 [some (.ref o)] [] (ov h o c, (o + 19, s)) = am_I X rec 192 160 [some (.ref o)] [] (ov h o (cu (cu c 19 (.inl (.int, 5, .inl (fun _ => 0)))) 0 (.inr (12, fs.set 33 (.ref (o + 19))))), (o + 20, s + 5)) := by
  have hj : 33 < fs.length := by rw [hl]; omega
  simp (disch := first | omega | exact hj | exact Nat.le_of_ble_eq_true rfl) only [own_192, am_go dc_192_153, am_go dc_192_154, am_go dc_192_155, am_go dc_192_157, J_aload_0, K_al, ld_0, J_iconst, c32_5, J_nai, J_putfield_r, ini_192, ovr_0, ov_cu, ov_cu0, cu_o, hc, orE_s, pf_a pk_12_66_12 rfl, hl, bind_s, Nat.add_assoc, Nat.reduceAdd]
theorem ri_end {rec : am_O} (c : Nat → Option am_E) (fs : List Value) (hc : c 0 = some (.inr (12, fs))) (hf : fs[0]? = some (.ref (o + 1))) (hc1 : c 1 = some (.inl (.int, 118, .inl (fun _ => 0)))) : am_I X rec 192 160 [some (.ref o)] [] (ov h o c, z) = some (.inl none, (ov h o (cu c 1 (.inl (.int, 118, .inl (upd (fun _ => 0) 117 (zI 99))))), z)) := by
  rw [am_go dc_192_160]
  simp (disch := first | omega | exact Nat.le_of_ble_eq_true rfl) only [own_192, J_aload_0, K_al, ld_0, am_go dc_192_161, J_getfield, gf_r, fk_12_9_12, am_go dc_192_164, J_bipush, c8_117, am_go dc_192_166, c8_99, am_go dc_192_168, J_iastore, am_go dc_192_169, J_ret_v ret_192, ovr_0, ovr_k, hc, hf, hc1, orE_s, ov_cu, bind_s, ais_r]
theorem r_init {s : Nat} : am_f X (d + 1) 192 [.ref o] (am_up h o (.inr (12, am_df 12)), (o + 1, s)) = some (.inl none, (mH h o mU0, (o + 20, s + 85759))) := by
  rw [ov_new, fU_192, am_go dc_192_0]
  simp (disch := first | omega | exact Nat.le_of_ble_eq_true rfl) only [own_192, J_aload_0, K_al, ld_0, am_go dc_192_1, co_12_1 own_192, List.length_nil]
  refine Eq.trans (ri_1 _ _ rfl cu_s) ?_
  refine Eq.trans (ri_2 _ _ (by simp only [List.length_set]; rfl) cu_s) ?_
  refine Eq.trans (ri_3 _ _ (by simp only [List.length_set]; rfl) cu_s) ?_
  refine Eq.trans (ri_4 _ _ (by simp only [List.length_set]; rfl) cu_s) ?_
  refine Eq.trans (ri_5 _ _ (by simp only [List.length_set]; rfl) cu_s) ?_
  refine Eq.trans (ri_6 _ _ (by simp only [List.length_set]; rfl) cu_s) ?_
  refine Eq.trans (ri_7 _ _ (by simp only [List.length_set]; rfl) cu_s) ?_
  refine Eq.trans (ri_8 _ _ (by simp only [List.length_set]; rfl) cu_s) ?_
  refine Eq.trans (ri_9 _ _ (by simp only [List.length_set]; rfl) cu_s) ?_
  refine Eq.trans (ri_10 _ _ (by simp only [List.length_set]; rfl) cu_s) ?_
  refine Eq.trans (ri_11 _ _ (by simp only [List.length_set]; rfl) cu_s) ?_
  refine Eq.trans (ri_12 _ _ (by simp only [List.length_set]; rfl) cu_s) ?_
  refine Eq.trans (ri_13 _ _ (by simp only [List.length_set]; rfl) cu_s) ?_
  refine Eq.trans (ri_14 _ _ (by simp only [List.length_set]; rfl) cu_s) ?_
  refine Eq.trans (ri_15 _ _ (by simp only [List.length_set]; rfl) cu_s) ?_
  refine Eq.trans (ri_16 _ _ (by simp only [List.length_set]; rfl) cu_s) ?_
  refine Eq.trans (ri_17 _ _ (by simp only [List.length_set]; rfl) cu_s) ?_
  refine Eq.trans (ri_18 _ _ (by simp only [List.length_set]; rfl) cu_s) ?_
  refine Eq.trans (ri_19 _ _ (by simp only [List.length_set]; rfl) cu_s) ?_
  refine Eq.trans (ri_end _ _ cu_s rfl rfl) ?_
  refine congrArg (fun x : am_S => some ((.inl none : am_R), x)) ?_
  refine Prod.ext (ov_mH ?_ (fun k h1 h2 => ?_) (fun k hk => ?_)) ?_
  · simp (disch := decide) only [cu_o, cu_s, am_df, List.set_cons_zero, List.set_cons_succ]
    unfold mF mU0
    rfl
  · rcases (by omega : k = 1 ∨ k = 2 ∨ k = 3 ∨ k = 4 ∨ k = 5 ∨ k = 6 ∨ k = 7 ∨ k = 8 ∨ k = 9 ∨ k = 10 ∨ k = 11 ∨ k = 12 ∨ k = 13 ∨ k = 14 ∨ k = 15 ∨ k = 16 ∨ k = 17 ∨ k = 18 ∨ k = 19) with rfl | rfl | rfl | rfl | rfl | rfl | rfl | rfl | rfl | rfl | rfl | rfl | rfl | rfl | rfl | rfl | rfl | rfl | rfl
    all_goals
      simp (disch := decide) only [cu_o, cu_s]
      rfl
  · simp (disch := omega) only [cu_o]
    rfl
  · simp only [Nat.add_assoc, Nat.reduceAdd]

end MI
