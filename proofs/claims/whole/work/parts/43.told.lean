/-! what is told, as rows of ints; the object that holds it -/
def qRow (S : Nat → Int32) (b : Nat) : Nat → Int32 := fun k => S (18 * b + k)
def qON (S : Nat → Int32) (b : Nat) : Nat := wN (S (18 * wN (S (18 * b + 4)) + 3))
def qOG (S : Nat → Int32) (b : Nat) : Nat → Int32 := fun i => S (18 * wN (S (18 * b + 4)) + (14 + i))
theorem qRow_k {S : Nat → Int32} {b k : Nat} : qRow S b k = S (18 * b + k) := rfl
theorem qRow_0 {S : Nat → Int32} {b : Nat} : qRow S b 0 = S (18 * b) := rfl
def qR (S : Nat → Int32) (m b : Nat) : Prop :=
  (qN S (18 * b) 5 ∧ qN S (18 * b + 1) 999 ∧ qN S (18 * b + 2) 9 ∧ qN S (18 * b + 3) 4 ∧ 1 ≤ wN (S (18 * b + 3))) ∧
  ((S (18 * b) = zI 0 ∨ S (18 * b) = zI 2) → S (18 * b + 4) = -4) ∧
  (S (18 * b) = zI 1 → qN S (18 * b + 4) 999) ∧
  (S (18 * b) = zI 3 → qN S (18 * b + 4) 4 ∧ wN (S (18 * b + 4)) < b) ∧
  (S (18 * b) = zI 4 → qN S (18 * b + 4) 4 ∧ wN (S (18 * b + 4)) < b ∧ S (18 * wN (S (18 * b + 4)) + 5) = zI b) ∧
  (S (18 * b) = zI 5 → qN S (18 * b + 4) 99) ∧
  (S (18 * b + 5) = -4 ∨ (qN S (18 * b + 5) 4 ∧ wN (S (18 * b + 5)) < m ∧ b < wN (S (18 * b + 5)) ∧ S (18 * wN (S (18 * b + 5))) = zI 4 ∧ S (18 * wN (S (18 * b + 5)) + 4) = zI b ∧ S (18 * b) ≠ zI 1)) ∧
  (∀ i, i < wN (S (18 * b + 3)) → qN S (18 * b + (6 + i)) 999 ∧ qN S (18 * b + (10 + i)) 100 ∧ 1 ≤ wN (S (18 * b + (10 + i))) ∧ (S (18 * b + 5) ≠ -4 → qN S (18 * b + (14 + i)) 100)) ∧
  fo (fun i v => v + wN (S (18 * b + (10 + i)))) 0 (wN (S (18 * b + 3))) 0 = 100 ∧
  (S (18 * b + 5) ≠ -4 → fo (fun i v => v + wN (S (18 * b + (14 + i)))) 0 (wN (S (18 * b + 3))) 0 = 100)
def qG (S : Nat → Int32) : Prop := qN S 116 5 ∧ qN S 117 99 ∧ ∀ b, b < wN (S 116) → qR S (wN (S 116)) b
theorem qN.z {S : Nat → Int32} {i n : Nat} (h : qN S i n) (hn : n < 2147483648) : S i = zI (wN (S i)) ∧ wN (S i) ≤ n := by
  obtain ⟨k, hk, hkn⟩ := h
  rw [hk, wN_zI (by omega)]
  exact ⟨rfl, hkn⟩
theorem qG.m {S : Nat → Int32} (h : qG S) : S 116 = zI (wN (S 116)) ∧ wN (S 116) ≤ 5 := h.1.z (by omega)
theorem qG.n {S : Nat → Int32} {b : Nat} (h : qG S) (hb : b < wN (S 116)) : S (18 * b + 3) = zI (wN (S (18 * b + 3))) ∧ 1 ≤ wN (S (18 * b + 3)) ∧ wN (S (18 * b + 3)) ≤ 4 := by
  have h1 := (h.2.2 b hb).1.2.2.2.1.z (by omega)
  exact ⟨h1.1, (h.2.2 b hb).1.2.2.2.2, h1.2⟩
def tRk (T : mU × (Nat → Option Nat)) (S : Nat → Int32) : Prop := ∃ R, T.1.2.2.1 5 = zI R ∧ 1 ≤ R ∧ R ≤ 21 ∧ T.1.1 4 0 = 0 ∧ (∀ i j, i < j → j < R → T.1.1 4 i < T.1.1 4 j) ∧ ∀ b i, b < wN (S 116) → i < wN (S (18 * b + 3)) → ∃ r, r < R ∧ T.1.1 6 (4 * b + i) = zI r ∧ T.1.1 4 r = S (18 * b + (6 + i))
def bIn (C : Nat → Prop) (a : Nat) (bb : Nat × Nat × Nat × Nat) : Prop := C a ∧ C bb.2.1 ∧ C bb.2.2.1 ∧ (bb.1 = 4 → C bb.2.2.2)
/-- C: the cells of boxes -/
def tBx (C : Nat → Prop) (H : am_H) (T : mU × (Nat → Option Nat)) (S : Nat → Int32) : Prop := T.1.2.2.1 1 = S 116 ∧ T.1.2.2.1 2 = S 117 ∧ ∀ b, b < wN (S 116) → ∃ a bb, T.2 b = some a ∧ bIn C a bb ∧ isB H a bb (zI b) (qRow S b) (qON S b) (qOG S b)
def tKn (T : mU × (Nat → Option Nat)) (S : Nat → Int32) : Prop := (∀ b, b < wN (S 116) → T.1.1 3 b = S (18 * b + 5)) ∧ (∀ b i, b < wN (S 116) → i < wN (S (18 * b + 3)) → T.1.1 7 (4 * b + i) = if S (18 * b + 5) < 0 then -4 else S (18 * b + (14 + i)))
/-- at t stands a Told of S, but for its numbers -/
def tS (C : Nat → Prop) (H : am_H) (t : Nat) (T : mU × (Nat → Option Nat)) (S : Nat → Int32) : Prop := isT H t T ∧ qG S ∧ tBx C H T S ∧ tKn T S ∧ tRk T S
section TL
variable {X : am_X} {C : Nat → Prop} {H : am_H} {t d : Nat} {T : mU × (Nat → Option Nat)} {S : Nat → Int32} {z : Nat × Nat} {dg : Nat → Nat}
theorem tS.iT (h : tS C H t T S) : isT H t T := h.1
theorem tS.m5 (h : tS C H t T S) : wN (S 116) ≤ 5 := h.2.1.m.2
theorem tS.sz (h : tS C H t T S) : T.1.2.2.1 1 = zI (wN (S 116)) := by rw [h.2.2.1.1, ← h.2.1.m.1]
theorem tS.bell (h : tS C H t T S) : T.1.2.2.1 2 = S 117 := h.2.2.1.2.1
theorem tS.box {b : Nat} (h : tS C H t T S) (hb : b < wN (S 116)) : ∃ a bb, T.2 b = some a ∧ isB H a bb (zI b) (qRow S b) (qON S b) (qOG S b) := by
  obtain ⟨a, bb, h1, -, h2⟩ := h.2.2.1.2.2 b hb
  exact ⟨a, bb, h1, h2⟩
theorem tS.kin {b : Nat} (h : tS C H t T S) (hb : b < wN (S 116)) : T.1.1 3 b = S (18 * b + 5) := h.2.2.2.1.1 b hb
theorem tS.oc {b i : Nat} (h : tS C H t T S) (hb : b < wN (S 116)) (hi : i < wN (S (18 * b + 3))) : T.1.1 7 (4 * b + i) = if S (18 * b + 5) < 0 then -4 else S (18 * b + (14 + i)) := h.2.2.2.1.2 b i hb hi
theorem qIs_lt {x : Int32} {m : Nat} (hm : m < 2147483648) : zB (qIs x m) = if x < 0 then zI 0 else if zI m ≤ x then zI 0 else zI 1 := by
  unfold qIs
  by_cases h0 : x < 0
  · have h1 : ¬ 0 ≤ x := Int32.not_le.mpr h0
    rw [if_pos h0]
    simp [h1, zB]
  · have h1 : 0 ≤ x := Int32.not_lt.mp h0
    have hx := zI_ofNN h1
    have hlt : wN x < 2147483648 := by
      have := x.toInt_lt
      show x.toInt.toNat < 2147483648
      omega
    rw [if_neg h0]
    by_cases h2 : wN x < m
    · have h3 : ¬ zI m ≤ x := by
        rw [hx, zI_le hm hlt]
        omega
      simp [h1, h2, h3, zB]
    · have h3 : zI m ≤ x := by
        rw [hx, zI_le hm hlt]
        omega
      simp [h1, h2, h3, zB]
theorem ls_85_0 {rec : am_O} {nx tg : Nat} {lv : am_L} {st : List Value} {σ : am_S} : am_J X rec 85 (some (.lookupswitch 67 #[(1, 27), (2, 47)], nx, tg)) 5 lv (.int (zI 0) :: st) σ = am_I X rec 85 72 lv st σ := rfl
theorem ls_85_1 {rec : am_O} {nx tg : Nat} {lv : am_L} {st : List Value} {σ : am_S} : am_J X rec 85 (some (.lookupswitch 67 #[(1, 27), (2, 47)], nx, tg)) 5 lv (.int (zI 1) :: st) σ = am_I X rec 85 32 lv st σ := rfl
theorem ls_85_2 {rec : am_O} {nx tg : Nat} {lv : am_L} {st : List Value} {σ : am_S} : am_J X rec 85 (some (.lookupswitch 67 #[(1, 27), (2, 47)], nx, tg)) 5 lv (.int (zI 2) :: st) σ = am_I X rec 85 52 lv st σ := rfl
theorem ls_85_3 {rec : am_O} {nx tg : Nat} {lv : am_L} {st : List Value} {σ : am_S} : am_J X rec 85 (some (.lookupswitch 67 #[(1, 27), (2, 47)], nx, tg)) 5 lv (.int (zI 3) :: st) σ = am_I X rec 85 72 lv st σ := rfl
theorem ls_99_0 {rec : am_O} {nx tg : Nat} {lv : am_L} {st : List Value} {σ : am_S} : am_J X rec 99 (some (.lookupswitch 55 #[(1, 28), (2, 40)], nx, tg)) 16 lv (.int (zI 0) :: st) σ = am_I X rec 99 71 lv st σ := rfl
theorem ls_99_1 {rec : am_O} {nx tg : Nat} {lv : am_L} {st : List Value} {σ : am_S} : am_J X rec 99 (some (.lookupswitch 55 #[(1, 28), (2, 40)], nx, tg)) 16 lv (.int (zI 1) :: st) σ = am_I X rec 99 44 lv st σ := rfl
theorem ls_99_2 {rec : am_O} {nx tg : Nat} {lv : am_L} {st : List Value} {σ : am_S} : am_J X rec 99 (some (.lookupswitch 55 #[(1, 28), (2, 40)], nx, tg)) 16 lv (.int (zI 2) :: st) σ = am_I X rec 99 56 lv st σ := rfl
theorem ls_99_3 {rec : am_O} {nx tg : Nat} {lv : am_L} {st : List Value} {σ : am_S} : am_J X rec 99 (some (.lookupswitch 55 #[(1, 28), (2, 40)], nx, tg)) 16 lv (.int (zI 3) :: st) σ = am_I X rec 99 71 lv st σ := rfl
theorem c_has {x : Int32} (hS : tS C H t T S) : am_f X (d + 1) 32 [.ref t, .int x] (H, z) = some (.inl (some (.int (zB (qIs x (wN (S 116)))))), (H, z)) := by
  have hT := hS.iT
  have hsz := hS.sz
  have hm5 := hS.m5
  
  rw [fU_32]
  simp (disch := first | omega | exact Nat.le_of_ble_eq_true rfl | exact hT.ci) only [own_32, am_go dc_32_0, J_iload_1, K_il, ld_1, am_go dc_32_1, J_if_lt, am_go dc_32_4, am_go dc_32_5, J_aload_0, K_al, ld_0, am_go dc_32_6, J_getfield, gf_r, fk_1_44_1, am_go dc_32_9, J_icmp_ge, am_go dc_32_12, J_iconst, c32_1, am_go dc_32_13, J_goto, am_go dc_32_16, c32_0, am_go dc_32_17, J_ret_z0 ret_32, J_ret_z1 ret_32, J_ret_zB ret_32, tg_1, hT.c0, hT.c1, hT.c2, hT.c3, hT.c4, hT.c5, hT.c6, hT.c7, zI_add, zI_mul, zI_lt, zI_le, zI_eq, zI_neg, zI_pos, zI_ne0, zI_gt0, zB_0, lg_cmp_ge, lg_cmp_le, lg_cmp_gt, lg_cmp_lt, lg_cmp_eq, ail_r, abl_r, all_r, ais_r, abs_r, als_r, aal_r, aal_q, aln_r, vrf_s, vrf_n, z32, hsz, List.length_cons, List.length_nil, Nat.reduceAdd, Nat.reduceLT, Nat.reduceLeDiff, Nat.reduceEqDiff, ↓reduceIte, bind_s, if_true, if_false, not_true_eq_false, not_false_eq_true, Nat.zero_add]
  rw [qIs_lt (by omega)]
  split
  · rfl
  · split <;> rfl
theorem c_digit {b : Nat} (hd : dOk dg) (hb : b < 5) : am_f X (d + 1) 86 [.int (zI (pk dg)), .int (zI b)] (H, z) = some (.inl (some (.int (zI (dg b)))), (H, z)) := by
  rw [fU_86]
  simp (disch := first | omega | exact Nat.le_of_ble_eq_true rfl) only [own_86, am_go dc_86_0, J_iload_0, K_il, ld_0, am_go dc_86_1, J_iconst, c32_2, am_go dc_86_2, J_iload_1, ld_1, am_go dc_86_3, J_imul, am_go dc_86_4, J_ishr, am_go dc_86_5, c32_3, am_go dc_86_6, J_iand, am_go dc_86_7, J_ret_i ret_86, zI_add, zI_mul, zI_lt, zI_le, zI_eq, zI_neg, zI_pos, zI_ne0, zI_gt0, zB_0, lg_cmp_ge, lg_cmp_le, lg_cmp_gt, lg_cmp_lt, lg_cmp_eq, ail_r, abl_r, all_r, ais_r, abs_r, als_r, aal_r, aal_q, aln_r, vrf_s, vrf_n, z32, dig_r hd hb, List.length_cons, List.length_nil, Nat.reduceAdd, Nat.reduceLT, Nat.reduceLeDiff, Nat.reduceEqDiff, ↓reduceIte, bind_s, if_true, if_false, not_true_eq_false, not_false_eq_true, Nat.zero_add]
def cOp (S : Nat → Int32) (dg : Nat → Nat) (b : Nat) : Bool := decide (dg b = 3) || (decide (dg b = 1) && decide (S (18 * b) = zI 4))
theorem c_isOpen {b : Nat} (hS : tS C H t T S) (hd : dOk dg) (hb : b < wN (S 116)) : am_f X (d + 1) 77 [.ref t, .int (zI (pk dg)), .int (zI b)] (H, z) = some (.inl (some (.int (zB (cOp S dg b)))), (H, z)) := by
  have hT := hS.iT
  have hsz := hS.sz
  have hm5 := hS.m5
  have hb5 : b < 5 := by omega
  obtain ⟨a, bb, ha, hB⟩ := hS.box hb
  have h4 := hd b hb5
  rw [fU_77]
  simp (disch := first | omega | exact Nat.le_of_ble_eq_true rfl | exact hT.ci) only [own_77, am_go dc_77_0, J_iload_1, K_il, ld_1, am_go dc_77_1, J_iconst, c32_2, am_go dc_77_2, J_iload_2, ld_2, am_go dc_77_3, J_imul, am_go dc_77_4, J_ishr, am_go dc_77_5, c32_3, am_go dc_77_6, J_iand, am_go dc_77_7, J_istore_3, st1_0, st1_1, st1_s, kl_i, kl_l, kl_r, kl_n, am_go dc_77_8, J_iload_3, ld_3, am_go dc_77_9, am_go dc_77_10, J_icmp_eq, am_go dc_77_13, am_go dc_77_14, c32_1, am_go dc_77_15, J_icmp_ne, am_go dc_77_18, J_aload_0, K_al, ld_0, am_go dc_77_19, J_getfield, gf_r, fk_1_11_1, am_go dc_77_22, am_go dc_77_23, J_aaload, am_go dc_77_24, am_go dc_77_27, J_if_eq, am_go dc_77_30, am_go dc_77_31, J_goto, am_go dc_77_34, c32_0, am_go dc_77_35, J_ret_z0 ret_77, J_ret_z1 ret_77, J_ret_zB ret_77, tg_0, hT.c0, hT.c1, hT.c2, hT.c3, hT.c4, hT.c5, hT.c6, hT.c7, zI_add, zI_mul, zI_lt, zI_le, zI_eq, zI_neg, zI_pos, zI_ne0, zI_gt0, zB_0, lg_cmp_ge, lg_cmp_le, lg_cmp_gt, lg_cmp_lt, lg_cmp_eq, ail_r, abl_r, all_r, ais_r, abs_r, als_r, aal_r, aal_q, aln_r, vrf_s, vrf_n, z32, ha, hsz, qRow_k, Nat.add_zero, dig_r hd hb5, J_kin (t := 77) (by rw [own_77]; exact kk_1_60) hB, List.length_cons, List.length_nil, Nat.reduceAdd, Nat.reduceLT, Nat.reduceLeDiff, Nat.reduceEqDiff, ↓reduceIte, bind_s, if_true, if_false, not_true_eq_false, not_false_eq_true, Nat.zero_add]
  unfold cOp
  by_cases e3 : dg b = 3
  · simp [e3, zB]
  · by_cases e1 : dg b = 1
    · by_cases e4 : S (18 * b) = zI 4
      · simp [e1, e4, zB]
      · simp [e1, e4, zB]
    · simp [e3, e1, zB]
def c_oo (S : Nat → Int32) (dg : Nat → Nat) (b : Nat) (x : Int32) : Int32 := if cOp S dg b = true then x ||| (zI 1 <<< (zI b &&& 31)) else x
def cOO (S : Nat → Int32) (dg : Nat → Nat) : Int32 := fo (c_oo S dg) 0 (wN (S 116)) (zI 0)
theorem c_openOnes_l (hS : tS C H t T S) (hd : dOk dg) (hT : isT H t T) (hsz : T.1.2.2.1 1 = zI (wN (S 116))) (hm5 : wN (S 116) ≤ 5) : ∀ (k i : Nat) (v : Int32), i + k = wN (S 116) → am_I X (am_f X (d + 1)) 76 4 [some (.ref t), some (.int (zI (pk dg))), some (.int v), some (.int (zI i))] [] (H, z) = some (.inl (some (.int (fo (c_oo S dg) i k v))), (H, z)) := by
  intro k
  induction k with
  | zero =>
    intro i v hi
    rw [am_go dc_76_4]
    simp (disch := first | omega | exact Nat.le_of_ble_eq_true rfl | exact hT.ci) only [own_76, am_go dc_76_0, J_iconst, c32_0, am_go dc_76_1, J_istore_2, st1_0, st1_1, st1_s, kl_i, kl_l, kl_r, kl_n, am_go dc_76_2, am_go dc_76_3, J_istore_3, J_iload_3, K_il, ld_3, am_go dc_76_5, J_aload_0, K_al, ld_0, am_go dc_76_6, J_getfield, gf_r, fk_1_44_1, am_go dc_76_9, J_icmp_ge, am_go dc_76_12, am_go dc_76_13, J_iload_1, ld_1, am_go dc_76_14, am_go dc_76_15, cv_1_95_1 own_76, JR_v, JR_0, JR_ite, ci1_r, am_go dc_76_18, J_if_eq, am_go dc_76_21, J_iload_2, ld_2, am_go dc_76_22, c32_1, am_go dc_76_23, am_go dc_76_24, J_ishl, am_go dc_76_25, J_ior, am_go dc_76_26, am_go dc_76_27, J_iinc, pinc_go, am_go dc_76_30, J_goto, am_go dc_76_33, am_go dc_76_34, J_ret_i ret_76, tg_1, hT.c0, hT.c1, hT.c2, hT.c3, hT.c4, hT.c5, hT.c6, hT.c7, zI_add, zI_mul, zI_lt, zI_le, zI_eq, zI_neg, zI_pos, zI_ne0, zI_gt0, zB_0, lg_cmp_ge, lg_cmp_le, lg_cmp_gt, lg_cmp_lt, lg_cmp_eq, ail_r, abl_r, all_r, ais_r, abs_r, als_r, aal_r, aal_q, aln_r, vrf_s, vrf_n, z32, hsz, List.length_cons, List.length_nil, Nat.reduceAdd, Nat.reduceLT, Nat.reduceLeDiff, Nat.reduceEqDiff, ↓reduceIte, bind_s, if_true, if_false, not_true_eq_false, not_false_eq_true, Nat.zero_add]
    rw [if_pos (by omega)]
    rfl
  | succ k ih =>
    intro i v hi
    have ih' := fun v => ih (i + 1) v (by omega)
    have hop := fun d => c_isOpen (X := X) (d := d) (z := z) (b := i) hS hd (by omega)
    rw [am_go dc_76_4]
    simp (disch := first | omega | exact Nat.le_of_ble_eq_true rfl | exact hT.ci) only [own_76, am_go dc_76_0, J_iconst, c32_0, am_go dc_76_1, J_istore_2, st1_0, st1_1, st1_s, kl_i, kl_l, kl_r, kl_n, am_go dc_76_2, am_go dc_76_3, J_istore_3, J_iload_3, K_il, ld_3, am_go dc_76_5, J_aload_0, K_al, ld_0, am_go dc_76_6, J_getfield, gf_r, fk_1_44_1, am_go dc_76_9, J_icmp_ge, am_go dc_76_12, am_go dc_76_13, J_iload_1, ld_1, am_go dc_76_14, am_go dc_76_15, cv_1_95_1 own_76, JR_v, JR_0, JR_ite, ci1_r, am_go dc_76_18, J_if_eq, am_go dc_76_21, J_iload_2, ld_2, am_go dc_76_22, c32_1, am_go dc_76_23, am_go dc_76_24, J_ishl, am_go dc_76_25, J_ior, am_go dc_76_26, am_go dc_76_27, J_iinc, pinc_go, am_go dc_76_30, J_goto, am_go dc_76_33, am_go dc_76_34, J_ret_i ret_76, tg_1, hT.c0, hT.c1, hT.c2, hT.c3, hT.c4, hT.c5, hT.c6, hT.c7, zI_add, zI_mul, zI_lt, zI_le, zI_eq, zI_neg, zI_pos, zI_ne0, zI_gt0, zB_0, lg_cmp_ge, lg_cmp_le, lg_cmp_gt, lg_cmp_lt, lg_cmp_eq, ail_r, abl_r, all_r, ais_r, abs_r, als_r, aal_r, aal_q, aln_r, vrf_s, vrf_n, z32, hsz, hop, List.length_cons, List.length_nil, Nat.reduceAdd, Nat.reduceLT, Nat.reduceLeDiff, Nat.reduceEqDiff, ↓reduceIte, bind_s, if_true, if_false, not_true_eq_false, not_false_eq_true, Nat.zero_add]
    rw [if_neg (by omega)]
    simp only [ih', fo, c_oo]
    cases cOp S dg i <;> simp
theorem c_openOnes (hS : tS C H t T S) (hd : dOk dg) : am_f X (d + 2) 76 [.ref t, .int (zI (pk dg))] (H, z) = some (.inl (some (.int (cOO S dg))), (H, z)) := by
  have hT := hS.iT
  have hsz := hS.sz
  have hm5 := hS.m5
  rw [fU_76]
  simp (disch := first | omega | exact Nat.le_of_ble_eq_true rfl | exact hT.ci) only [own_76, am_go dc_76_0, J_iconst, c32_0, am_go dc_76_1, J_istore_2, st1_0, st1_1, st1_s, kl_i, kl_l, kl_r, kl_n, am_go dc_76_2, am_go dc_76_3, J_istore_3, J_iload_3, K_il, ld_3, am_go dc_76_5, J_aload_0, K_al, ld_0, am_go dc_76_6, J_getfield, gf_r, fk_1_44_1, am_go dc_76_9, J_icmp_ge, am_go dc_76_12, am_go dc_76_13, J_iload_1, ld_1, am_go dc_76_14, am_go dc_76_15, cv_1_95_1 own_76, JR_v, JR_0, JR_ite, ci1_r, am_go dc_76_18, J_if_eq, am_go dc_76_21, J_iload_2, ld_2, am_go dc_76_22, c32_1, am_go dc_76_23, am_go dc_76_24, J_ishl, am_go dc_76_25, J_ior, am_go dc_76_26, am_go dc_76_27, J_iinc, pinc_go, am_go dc_76_30, J_goto, am_go dc_76_33, am_go dc_76_34, J_ret_i ret_76, tg_1, hT.c0, hT.c1, hT.c2, hT.c3, hT.c4, hT.c5, hT.c6, hT.c7, zI_add, zI_mul, zI_lt, zI_le, zI_eq, zI_neg, zI_pos, zI_ne0, zI_gt0, zB_0, lg_cmp_ge, lg_cmp_le, lg_cmp_gt, lg_cmp_lt, lg_cmp_eq, ail_r, abl_r, all_r, ais_r, abs_r, als_r, aal_r, aal_q, aln_r, vrf_s, vrf_n, z32, hsz, List.length_cons, List.length_nil, Nat.reduceAdd, Nat.reduceLT, Nat.reduceLeDiff, Nat.reduceEqDiff, ↓reduceIte, bind_s, if_true, if_false, not_true_eq_false, not_false_eq_true, Nat.zero_add]
  exact c_openOnes_l hS hd hT hsz hm5 _ 0 _ (Nat.zero_add _)
def c_sp (S : Nat → Int32) (x : Int32) (b : Nat) (v : Int32) : Int32 := if bt x b = true then v + S (18 * b + 2) else v
def cSp (S : Nat → Int32) (x : Int32) : Int32 := fo (c_sp S x) 0 (wN (S 116)) (zI 0)
theorem c_spentOn_l {x : Int32} (hS : tS C H t T S) (hT : isT H t T) (hsz : T.1.2.2.1 1 = zI (wN (S 116))) (hm5 : wN (S 116) ≤ 5) : ∀ (k i : Nat) (v : Int32), i + k = wN (S 116) → am_I X (am_f X (d + 0)) 78 4 [some (.ref t), some (.int x), some (.int v), some (.int (zI i))] [] (H, z) = some (.inl (some (.int (fo (c_sp S x) i k v))), (H, z)) := by
  intro k
  induction k with
  | zero =>
    intro i v hi
    rw [am_go dc_78_4]
    simp (disch := first | omega | exact Nat.le_of_ble_eq_true rfl | exact hT.ci) only [own_78, am_go dc_78_0, J_iconst, c32_0, am_go dc_78_1, J_istore_2, st1_0, st1_1, st1_s, kl_i, kl_l, kl_r, kl_n, am_go dc_78_2, am_go dc_78_3, J_istore_3, J_iload_3, K_il, ld_3, am_go dc_78_5, J_aload_0, K_al, ld_0, am_go dc_78_6, J_getfield, gf_r, fk_1_44_1, am_go dc_78_9, J_icmp_ge, am_go dc_78_12, J_iload_1, ld_1, am_go dc_78_13, c32_1, am_go dc_78_14, am_go dc_78_15, J_ishl, am_go dc_78_16, J_iand, am_go dc_78_17, J_if_eq, am_go dc_78_20, J_iload_2, ld_2, am_go dc_78_21, am_go dc_78_22, fk_1_11_1, am_go dc_78_25, am_go dc_78_26, J_aaload, am_go dc_78_27, am_go dc_78_30, J_iadd, am_go dc_78_31, am_go dc_78_32, J_iinc, pinc_go, am_go dc_78_35, J_goto, am_go dc_78_38, am_go dc_78_39, J_ret_i ret_78, tg_1, tg_0, hT.c0, hT.c1, hT.c2, hT.c3, hT.c4, hT.c5, hT.c6, hT.c7, zI_add, zI_mul, zI_lt, zI_le, zI_eq, zI_neg, zI_pos, zI_ne0, zI_gt0, zB_0, lg_cmp_ge, lg_cmp_le, lg_cmp_gt, lg_cmp_lt, lg_cmp_eq, ail_r, abl_r, all_r, ais_r, abs_r, als_r, aal_r, aal_q, aln_r, vrf_s, vrf_n, z32, hsz, List.length_cons, List.length_nil, Nat.reduceAdd, Nat.reduceLT, Nat.reduceLeDiff, Nat.reduceEqDiff, ↓reduceIte, bind_s, if_true, if_false, not_true_eq_false, not_false_eq_true, Nat.zero_add]
    rw [if_pos (by omega)]
    rfl
  | succ k ih =>
    intro i v hi
    have ih' := fun v => ih (i + 1) v (by omega)
    obtain ⟨a, bb, ha, hB⟩ := hS.box (b := i) (by omega)
    rw [am_go dc_78_4]
    simp (disch := first | omega | exact Nat.le_of_ble_eq_true rfl | exact hT.ci) only [own_78, am_go dc_78_0, J_iconst, c32_0, am_go dc_78_1, J_istore_2, st1_0, st1_1, st1_s, kl_i, kl_l, kl_r, kl_n, am_go dc_78_2, am_go dc_78_3, J_istore_3, J_iload_3, K_il, ld_3, am_go dc_78_5, J_aload_0, K_al, ld_0, am_go dc_78_6, J_getfield, gf_r, fk_1_44_1, am_go dc_78_9, J_icmp_ge, am_go dc_78_12, J_iload_1, ld_1, am_go dc_78_13, c32_1, am_go dc_78_14, am_go dc_78_15, J_ishl, am_go dc_78_16, J_iand, am_go dc_78_17, J_if_eq, am_go dc_78_20, J_iload_2, ld_2, am_go dc_78_21, am_go dc_78_22, fk_1_11_1, am_go dc_78_25, am_go dc_78_26, J_aaload, am_go dc_78_27, am_go dc_78_30, J_iadd, am_go dc_78_31, am_go dc_78_32, J_iinc, pinc_go, am_go dc_78_35, J_goto, am_go dc_78_38, am_go dc_78_39, J_ret_i ret_78, tg_1, tg_0, hT.c0, hT.c1, hT.c2, hT.c3, hT.c4, hT.c5, hT.c6, hT.c7, zI_add, zI_mul, zI_lt, zI_le, zI_eq, zI_neg, zI_pos, zI_ne0, zI_gt0, zB_0, lg_cmp_ge, lg_cmp_le, lg_cmp_gt, lg_cmp_lt, lg_cmp_eq, ail_r, abl_r, all_r, ais_r, abs_r, als_r, aal_r, aal_q, aln_r, vrf_s, vrf_n, z32, hsz, ha, bt_0, bf_1_106 hB, qRow_k, List.length_cons, List.length_nil, Nat.reduceAdd, Nat.reduceLT, Nat.reduceLeDiff, Nat.reduceEqDiff, ↓reduceIte, bind_s, if_true, if_false, not_true_eq_false, not_false_eq_true, Nat.zero_add]
    rw [if_neg (by omega)]
    simp only [ih', fo, c_sp]
    cases bt x i <;> simp
theorem c_spentOn {x : Int32} (hS : tS C H t T S) : am_f X (d + 1) 78 [.ref t, .int x] (H, z) = some (.inl (some (.int (cSp S x))), (H, z)) := by
  have hT := hS.iT
  have hsz := hS.sz
  have hm5 := hS.m5
  rw [fU_78]
  simp (disch := first | omega | exact Nat.le_of_ble_eq_true rfl | exact hT.ci) only [own_78, am_go dc_78_0, J_iconst, c32_0, am_go dc_78_1, J_istore_2, st1_0, st1_1, st1_s, kl_i, kl_l, kl_r, kl_n, am_go dc_78_2, am_go dc_78_3, J_istore_3, J_iload_3, K_il, ld_3, am_go dc_78_5, J_aload_0, K_al, ld_0, am_go dc_78_6, J_getfield, gf_r, fk_1_44_1, am_go dc_78_9, J_icmp_ge, am_go dc_78_12, J_iload_1, ld_1, am_go dc_78_13, c32_1, am_go dc_78_14, am_go dc_78_15, J_ishl, am_go dc_78_16, J_iand, am_go dc_78_17, J_if_eq, am_go dc_78_20, J_iload_2, ld_2, am_go dc_78_21, am_go dc_78_22, fk_1_11_1, am_go dc_78_25, am_go dc_78_26, J_aaload, am_go dc_78_27, am_go dc_78_30, J_iadd, am_go dc_78_31, am_go dc_78_32, J_iinc, pinc_go, am_go dc_78_35, J_goto, am_go dc_78_38, am_go dc_78_39, J_ret_i ret_78, tg_1, tg_0, hT.c0, hT.c1, hT.c2, hT.c3, hT.c4, hT.c5, hT.c6, hT.c7, zI_add, zI_mul, zI_lt, zI_le, zI_eq, zI_neg, zI_pos, zI_ne0, zI_gt0, zB_0, lg_cmp_ge, lg_cmp_le, lg_cmp_gt, lg_cmp_lt, lg_cmp_eq, ail_r, abl_r, all_r, ais_r, abs_r, als_r, aal_r, aal_q, aln_r, vrf_s, vrf_n, z32, hsz, List.length_cons, List.length_nil, Nat.reduceAdd, Nat.reduceLT, Nat.reduceLeDiff, Nat.reduceEqDiff, ↓reduceIte, bind_s, if_true, if_false, not_true_eq_false, not_false_eq_true, Nat.zero_add]
  exact c_spentOn_l hS hT hsz hm5 _ 0 _ (Nat.zero_add _)
def cAm (S : Nat → Int32) (x y : Int32) (b : Nat) : Bool := !bt x b && (decide (y + S (18 * b + 2) ≤ S 117) && bAmid (qRow S b) x y)
theorem c_amid {b : Nat} {x y : Int32} (hS : tS C H t T S) (hb : b < wN (S 116)) : am_f X (d + 2) 79 [.ref t, .int x, .int y, .int (zI b)] (H, z) = some (.inl (some (.int (zB (cAm S x y b)))), (H, z)) := by
  have hT := hS.iT
  have hsz := hS.sz
  have hm5 := hS.m5
  have hb5 : b < 5 := by omega
  obtain ⟨a, bb, ha, hB⟩ := hS.box hb
  have hbl := hS.bell
  rw [fU_79]
  simp (disch := first | omega | exact Nat.le_of_ble_eq_true rfl | exact hT.ci) only [own_79, am_go dc_79_0, J_iload_1, K_il, ld_1, am_go dc_79_1, J_iconst, c32_1, am_go dc_79_2, J_iload_3, ld_3, am_go dc_79_3, J_ishl, am_go dc_79_4, J_iand, am_go dc_79_5, J_if_ne, am_go dc_79_8, J_iload_2, ld_2, am_go dc_79_9, J_aload_0, K_al, ld_0, am_go dc_79_10, J_getfield, gf_r, fk_1_11_1, am_go dc_79_13, am_go dc_79_14, J_aaload, am_go dc_79_15, am_go dc_79_18, J_iadd, am_go dc_79_19, am_go dc_79_20, fk_1_17_1, am_go dc_79_23, J_icmp_gt, am_go dc_79_26, am_go dc_79_27, am_go dc_79_30, am_go dc_79_31, am_go dc_79_32, am_go dc_79_33, am_go dc_79_34, JR_v, JR_0, JR_ite, ci1_r, am_go dc_79_37, J_if_eq, am_go dc_79_40, am_go dc_79_41, J_goto, am_go dc_79_44, c32_0, am_go dc_79_45, J_ret_z0 ret_79, J_ret_z1 ret_79, J_ret_zB ret_79, tg_0, tg_2, hT.c0, hT.c1, hT.c2, hT.c3, hT.c4, hT.c5, hT.c6, hT.c7, zI_add, zI_mul, zI_lt, zI_le, zI_eq, zI_neg, zI_pos, zI_ne0, zI_gt0, zB_0, lg_cmp_ge, lg_cmp_le, lg_cmp_gt, lg_cmp_lt, lg_cmp_eq, ail_r, abl_r, all_r, ais_r, abs_r, als_r, aal_r, aal_q, aln_r, vrf_s, vrf_n, z32, ha, hsz, qRow_k, Nat.add_zero, bt_0, bf_1_106 hB, vx_1_119 own_79 hB, hbl, List.length_cons, List.length_nil, Nat.reduceAdd, Nat.reduceLT, Nat.reduceLeDiff, Nat.reduceEqDiff, ↓reduceIte, bind_s, if_true, if_false, not_true_eq_false, not_false_eq_true, Nat.zero_add]
  unfold cAm
  by_cases e : S 117 < y + S (18 * b + 2)
  · have e2 : ¬ y + S (18 * b + 2) ≤ S 117 := Int32.not_le.mpr e
    cases bt x b <;> cases bAmid (qRow S b) x y <;> simp [e, e2, zB]
  · have e2 : y + S (18 * b + 2) ≤ S 117 := Int32.not_lt.mp e
    cases bt x b <;> cases bAmid (qRow S b) x y <;> simp [e, e2, zB]
def cMay (S : Nat → Int32) (dg : Nat → Nat) (b : Nat) : Bool := cAm S (cOO S dg) (cSp S (cOO S dg)) b
theorem c_mayOpen {b : Nat} (hS : tS C H t T S) (hd : dOk dg) (hb : b < wN (S 116)) : am_f X (d + 3) 75 [.ref t, .int (zI (pk dg)), .int (zI b)] (H, z) = some (.inl (some (.int (zB (cMay S dg b)))), (H, z)) := by
  have hT := hS.iT
  have hsz := hS.sz
  
  rw [fU_75]
  simp (disch := first | omega | exact Nat.le_of_ble_eq_true rfl | exact hT.ci) only [own_75, am_go dc_75_0, J_aload_0, K_al, ld_0, am_go dc_75_1, J_iload_1, K_il, ld_1, am_go dc_75_2, cv_1_109_1 own_75, JR_v, JR_0, JR_ite, ci1_r, am_go dc_75_5, J_istore_3, st1_0, st1_1, st1_s, kl_i, kl_l, kl_r, kl_n, am_go dc_75_6, am_go dc_75_7, J_iload_3, ld_3, am_go dc_75_8, am_go dc_75_9, am_go dc_75_10, cv_1_112_1 own_75, am_go dc_75_13, J_iload_2, ld_2, am_go dc_75_14, cv_1_115_1 own_75, am_go dc_75_17, J_ret_z0 ret_75, J_ret_z1 ret_75, J_ret_zB ret_75, hT.c0, hT.c1, hT.c2, hT.c3, hT.c4, hT.c5, hT.c6, hT.c7, zI_add, zI_mul, zI_lt, zI_le, zI_eq, zI_neg, zI_pos, zI_ne0, zI_gt0, zB_0, lg_cmp_ge, lg_cmp_le, lg_cmp_gt, lg_cmp_lt, lg_cmp_eq, ail_r, abl_r, all_r, ais_r, abs_r, als_r, aal_r, aal_q, aln_r, vrf_s, vrf_n, z32, c_openOnes hS hd, c_spentOn hS, c_amid hS hb, List.length_cons, List.length_nil, Nat.reduceAdd, Nat.reduceLT, Nat.reduceLeDiff, Nat.reduceEqDiff, ↓reduceIte, bind_s, if_true, if_false, not_true_eq_false, not_false_eq_true, Nat.zero_add]
  rfl
def cTo (S : Nat → Int32) (dg : Nat → Nat) (b : Nat) : Bool := !decide (S (18 * b + 5) < 0) && decide (dg (wN (S (18 * b + 5))) = 1)
theorem qG.k {S : Nat → Int32} {b : Nat} (h : qG S) (hb : b < wN (S 116)) : S (18 * b + 5) = -4 ∨ ∃ k, S (18 * b + 5) = zI k ∧ k < wN (S 116) ∧ k ≤ 4 := by
  rcases (h.2.2 b hb).2.2.2.2.2.2.1 with h1 | h1
  · exact Or.inl h1
  · obtain ⟨h2, h3⟩ := h1.1.z (by omega)
    exact Or.inr ⟨_, h2, h1.2.1, h3⟩
theorem m4_lt : ((-4 : Int32) < 0) = True := by decide
theorem c_isToldOf {b : Nat} (hS : tS C H t T S) (hd : dOk dg) (hb : b < wN (S 116)) : am_f X (d + 1) 87 [.ref t, .int (zI (pk dg)), .int (zI b)] (H, z) = some (.inl (some (.int (zB (cTo S dg b)))), (H, z)) := by
  have hT := hS.iT
  have hm5 := hS.m5
  have hb5 : b < 5 := by omega
  have hk := hS.kin hb
  rw [fU_87]
  unfold cTo
  rcases hS.2.1.k hb with h1 | ⟨k, h1, h2, h3⟩
  · rw [h1] at hk
    simp (disch := first | omega | exact Nat.le_of_ble_eq_true rfl | exact hT.ci) only [own_87, am_go dc_87_0, J_aload_0, K_al, ld_0, am_go dc_87_1, J_getfield, gf_r, fk_1_21_1, am_go dc_87_4, J_iload_2, K_il, ld_2, am_go dc_87_5, J_iaload, am_go dc_87_6, J_istore_3, st1_0, st1_1, st1_s, kl_i, kl_l, kl_r, kl_n, am_go dc_87_7, J_iload_3, ld_3, am_go dc_87_8, J_if_lt, am_go dc_87_11, J_iload_1, ld_1, am_go dc_87_12, J_iconst, c32_2, am_go dc_87_13, am_go dc_87_14, J_imul, am_go dc_87_15, J_ishr, am_go dc_87_16, c32_3, am_go dc_87_17, J_iand, am_go dc_87_18, c32_1, am_go dc_87_19, J_icmp_ne, am_go dc_87_22, am_go dc_87_23, J_goto, am_go dc_87_26, c32_0, am_go dc_87_27, J_ret_z0 ret_87, J_ret_z1 ret_87, J_ret_zB ret_87, tg_3, hT.c0, hT.c1, hT.c2, hT.c3, hT.c4, hT.c5, hT.c6, hT.c7, zI_add, zI_mul, zI_lt, zI_le, zI_eq, zI_neg, zI_pos, zI_ne0, zI_gt0, zB_0, lg_cmp_ge, lg_cmp_le, lg_cmp_gt, lg_cmp_lt, lg_cmp_eq, ail_r, abl_r, all_r, ais_r, abs_r, als_r, aal_r, aal_q, aln_r, vrf_s, vrf_n, z32, hk, m4_lt, List.length_cons, List.length_nil, Nat.reduceAdd, Nat.reduceLT, Nat.reduceLeDiff, Nat.reduceEqDiff, ↓reduceIte, bind_s, if_true, if_false, not_true_eq_false, not_false_eq_true, Nat.zero_add]
    simp [h1, m4_lt, zB]
  · rw [h1] at hk
    have hk5 : k < 5 := by omega
    have h4 := hd k hk5
    have hw : wN (zI k) = k := wN_zI (by omega)
    have hn : ¬ zI k < 0 := by rw [zI_neg (by omega)]; exact not_false
    simp (disch := first | omega | exact Nat.le_of_ble_eq_true rfl | exact hT.ci) only [own_87, am_go dc_87_0, J_aload_0, K_al, ld_0, am_go dc_87_1, J_getfield, gf_r, fk_1_21_1, am_go dc_87_4, J_iload_2, K_il, ld_2, am_go dc_87_5, J_iaload, am_go dc_87_6, J_istore_3, st1_0, st1_1, st1_s, kl_i, kl_l, kl_r, kl_n, am_go dc_87_7, J_iload_3, ld_3, am_go dc_87_8, J_if_lt, am_go dc_87_11, J_iload_1, ld_1, am_go dc_87_12, J_iconst, c32_2, am_go dc_87_13, am_go dc_87_14, J_imul, am_go dc_87_15, J_ishr, am_go dc_87_16, c32_3, am_go dc_87_17, J_iand, am_go dc_87_18, c32_1, am_go dc_87_19, J_icmp_ne, am_go dc_87_22, am_go dc_87_23, J_goto, am_go dc_87_26, c32_0, am_go dc_87_27, J_ret_z0 ret_87, J_ret_z1 ret_87, J_ret_zB ret_87, tg_3, hT.c0, hT.c1, hT.c2, hT.c3, hT.c4, hT.c5, hT.c6, hT.c7, zI_add, zI_mul, zI_lt, zI_le, zI_eq, zI_neg, zI_pos, zI_ne0, zI_gt0, zB_0, lg_cmp_ge, lg_cmp_le, lg_cmp_gt, lg_cmp_lt, lg_cmp_eq, ail_r, abl_r, all_r, ais_r, abs_r, als_r, aal_r, aal_q, aln_r, vrf_s, vrf_n, z32, hk, dig_r hd hk5, List.length_cons, List.length_nil, Nat.reduceAdd, Nat.reduceLT, Nat.reduceLeDiff, Nat.reduceEqDiff, ↓reduceIte, bind_s, if_true, if_false, not_true_eq_false, not_false_eq_true, Nat.zero_add]
    simp only [h1, hw]
    by_cases e : dg k = 1 <;> simp [e, hn, zB]
def cCh (S : Nat → Int32) (dg : Nat → Nat) (b i : Nat) : Int32 := if dg b = 1 then (if i = 0 then S (18 * b + (10 + i)) else zI 0) else if dg b = 2 then (if i = 0 then zI 0 else S (18 * b + (10 + i))) else if cTo S dg b = true then S (18 * b + (14 + i)) else S (18 * b + (10 + i))
theorem c_chanceAt {b i : Nat} (hS : tS C H t T S) (hd : dOk dg) (hb : b < wN (S 116)) (hi : i < wN (S (18 * b + 3))) : am_f X (d + 2) 85 [.ref t, .int (zI (pk dg)), .int (zI b), .int (zI i)] (H, z) = some (.inl (some (.int (cCh S dg b i))), (H, z)) := by
  have hT := hS.iT
  have hsz := hS.sz
  have hm5 := hS.m5
  have hb5 : b < 5 := by omega
  obtain ⟨a, bb, ha, hB⟩ := hS.box hb
  have hto := fun d => c_isToldOf (X := X) (d := d) (z := z) hS hd hb
  have hdg := fun d => c_digit (X := X) (H := H) (d := d) (z := z) (b := b) hd hb5
  have hcc := fun x => hB.c (x := x) (i := i) hi
  have h4 := hd b hb5
  have hn4 := (hS.2.1.n hb).2.2
  rw [fU_85]
  unfold cCh
  generalize hD : dg b = D at h4 hdg
  rcases (by omega : D = 0 ∨ D = 1 ∨ D = 2 ∨ D = 3) with rfl | rfl | rfl | rfl
  · have hoc := hS.oc hb hi
    simp (disch := first | omega | exact Nat.le_of_ble_eq_true rfl | exact hT.ci) only [own_85, am_go dc_85_0, J_iload_1, K_il, ld_1, am_go dc_85_1, J_iload_2, ld_2, am_go dc_85_2, cs_1_91 own_85, JR_v, JR_0, JR_ite, am_go dc_85_5, am_go dc_85_32, J_iload_3, ld_3, am_go dc_85_33, J_if_ne, am_go dc_85_36, J_aload_0, K_al, ld_0, am_go dc_85_37, J_getfield, gf_r, fk_1_11_1, am_go dc_85_40, am_go dc_85_41, J_aaload, am_go dc_85_42, am_go dc_85_45, am_go dc_85_46, J_iaload, am_go dc_85_47, J_goto, am_go dc_85_50, J_iconst, c32_0, am_go dc_85_51, J_ret_i ret_85, am_go dc_85_52, am_go dc_85_53, am_go dc_85_56, am_go dc_85_57, am_go dc_85_60, am_go dc_85_61, am_go dc_85_64, am_go dc_85_65, am_go dc_85_66, am_go dc_85_69, am_go dc_85_70, am_go dc_85_71, am_go dc_85_72, am_go dc_85_73, am_go dc_85_74, am_go dc_85_75, cv_1_125_1 own_85, ci1_r, am_go dc_85_78, J_if_eq, am_go dc_85_81, am_go dc_85_82, fk_1_34_1, am_go dc_85_85, am_go dc_85_86, c32_4, am_go dc_85_87, J_imul, am_go dc_85_88, am_go dc_85_89, J_iadd, am_go dc_85_90, am_go dc_85_91, am_go dc_85_94, am_go dc_85_95, am_go dc_85_98, am_go dc_85_99, am_go dc_85_100, am_go dc_85_103, am_go dc_85_104, am_go dc_85_105, tg_0, tg_7, hT.c0, hT.c1, hT.c2, hT.c3, hT.c4, hT.c5, hT.c6, hT.c7, zI_add, zI_mul, zI_lt, zI_le, zI_eq, zI_neg, zI_pos, zI_ne0, zI_gt0, zB_0, lg_cmp_ge, lg_cmp_le, lg_cmp_gt, lg_cmp_lt, lg_cmp_eq, ail_r, abl_r, all_r, ais_r, abs_r, als_r, aal_r, aal_q, aln_r, vrf_s, vrf_n, z32, ha, hsz, qRow_k, Nat.add_zero, hto, hdg, hcc, bf_1_122 hB, ls_85_0, ls_85_1, ls_85_2, ls_85_3, Nat.mul_comm b 4, List.length_cons, List.length_nil, Nat.reduceAdd, Nat.reduceLT, Nat.reduceLeDiff, Nat.reduceEqDiff, ↓reduceIte, bind_s, if_true, if_false, not_true_eq_false, not_false_eq_true, Nat.zero_add]
    simp only [hoc]
    cases hc : cTo S dg b with
    | false => simp [zB]
    | true =>
      unfold cTo at hc
      simp only [Bool.and_eq_true, Bool.not_eq_true', decide_eq_false_iff_not] at hc
      simp [hc.1, zB]
  · simp (disch := first | omega | exact Nat.le_of_ble_eq_true rfl | exact hT.ci) only [own_85, am_go dc_85_0, J_iload_1, K_il, ld_1, am_go dc_85_1, J_iload_2, ld_2, am_go dc_85_2, cs_1_91 own_85, JR_v, JR_0, JR_ite, am_go dc_85_5, am_go dc_85_32, J_iload_3, ld_3, am_go dc_85_33, J_if_ne, am_go dc_85_36, J_aload_0, K_al, ld_0, am_go dc_85_37, J_getfield, gf_r, fk_1_11_1, am_go dc_85_40, am_go dc_85_41, J_aaload, am_go dc_85_42, am_go dc_85_45, am_go dc_85_46, J_iaload, am_go dc_85_47, J_goto, am_go dc_85_50, J_iconst, c32_0, am_go dc_85_51, J_ret_i ret_85, am_go dc_85_52, am_go dc_85_53, am_go dc_85_56, am_go dc_85_57, am_go dc_85_60, am_go dc_85_61, am_go dc_85_64, am_go dc_85_65, am_go dc_85_66, am_go dc_85_69, am_go dc_85_70, am_go dc_85_71, am_go dc_85_72, am_go dc_85_73, am_go dc_85_74, am_go dc_85_75, cv_1_125_1 own_85, ci1_r, am_go dc_85_78, J_if_eq, am_go dc_85_81, am_go dc_85_82, fk_1_34_1, am_go dc_85_85, am_go dc_85_86, c32_4, am_go dc_85_87, J_imul, am_go dc_85_88, am_go dc_85_89, J_iadd, am_go dc_85_90, am_go dc_85_91, am_go dc_85_94, am_go dc_85_95, am_go dc_85_98, am_go dc_85_99, am_go dc_85_100, am_go dc_85_103, am_go dc_85_104, am_go dc_85_105, tg_0, tg_7, hT.c0, hT.c1, hT.c2, hT.c3, hT.c4, hT.c5, hT.c6, hT.c7, zI_add, zI_mul, zI_lt, zI_le, zI_eq, zI_neg, zI_pos, zI_ne0, zI_gt0, zB_0, lg_cmp_ge, lg_cmp_le, lg_cmp_gt, lg_cmp_lt, lg_cmp_eq, ail_r, abl_r, all_r, ais_r, abs_r, als_r, aal_r, aal_q, aln_r, vrf_s, vrf_n, z32, ha, hsz, qRow_k, Nat.add_zero, hto, hdg, hcc, bf_1_122 hB, ls_85_0, ls_85_1, ls_85_2, ls_85_3, Nat.mul_comm b 4, List.length_cons, List.length_nil, Nat.reduceAdd, Nat.reduceLT, Nat.reduceLeDiff, Nat.reduceEqDiff, ↓reduceIte, bind_s, if_true, if_false, not_true_eq_false, not_false_eq_true, Nat.zero_add]
    by_cases e : i = 0 <;> simp [e]
  · simp (disch := first | omega | exact Nat.le_of_ble_eq_true rfl | exact hT.ci) only [own_85, am_go dc_85_0, J_iload_1, K_il, ld_1, am_go dc_85_1, J_iload_2, ld_2, am_go dc_85_2, cs_1_91 own_85, JR_v, JR_0, JR_ite, am_go dc_85_5, am_go dc_85_32, J_iload_3, ld_3, am_go dc_85_33, J_if_ne, am_go dc_85_36, J_aload_0, K_al, ld_0, am_go dc_85_37, J_getfield, gf_r, fk_1_11_1, am_go dc_85_40, am_go dc_85_41, J_aaload, am_go dc_85_42, am_go dc_85_45, am_go dc_85_46, J_iaload, am_go dc_85_47, J_goto, am_go dc_85_50, J_iconst, c32_0, am_go dc_85_51, J_ret_i ret_85, am_go dc_85_52, am_go dc_85_53, am_go dc_85_56, am_go dc_85_57, am_go dc_85_60, am_go dc_85_61, am_go dc_85_64, am_go dc_85_65, am_go dc_85_66, am_go dc_85_69, am_go dc_85_70, am_go dc_85_71, am_go dc_85_72, am_go dc_85_73, am_go dc_85_74, am_go dc_85_75, cv_1_125_1 own_85, ci1_r, am_go dc_85_78, J_if_eq, am_go dc_85_81, am_go dc_85_82, fk_1_34_1, am_go dc_85_85, am_go dc_85_86, c32_4, am_go dc_85_87, J_imul, am_go dc_85_88, am_go dc_85_89, J_iadd, am_go dc_85_90, am_go dc_85_91, am_go dc_85_94, am_go dc_85_95, am_go dc_85_98, am_go dc_85_99, am_go dc_85_100, am_go dc_85_103, am_go dc_85_104, am_go dc_85_105, tg_0, tg_7, hT.c0, hT.c1, hT.c2, hT.c3, hT.c4, hT.c5, hT.c6, hT.c7, zI_add, zI_mul, zI_lt, zI_le, zI_eq, zI_neg, zI_pos, zI_ne0, zI_gt0, zB_0, lg_cmp_ge, lg_cmp_le, lg_cmp_gt, lg_cmp_lt, lg_cmp_eq, ail_r, abl_r, all_r, ais_r, abs_r, als_r, aal_r, aal_q, aln_r, vrf_s, vrf_n, z32, ha, hsz, qRow_k, Nat.add_zero, hto, hdg, hcc, bf_1_122 hB, ls_85_0, ls_85_1, ls_85_2, ls_85_3, Nat.mul_comm b 4, List.length_cons, List.length_nil, Nat.reduceAdd, Nat.reduceLT, Nat.reduceLeDiff, Nat.reduceEqDiff, ↓reduceIte, bind_s, if_true, if_false, not_true_eq_false, not_false_eq_true, Nat.zero_add]
    by_cases e : i = 0 <;> simp [e]
  · have hoc := hS.oc hb hi
    simp (disch := first | omega | exact Nat.le_of_ble_eq_true rfl | exact hT.ci) only [own_85, am_go dc_85_0, J_iload_1, K_il, ld_1, am_go dc_85_1, J_iload_2, ld_2, am_go dc_85_2, cs_1_91 own_85, JR_v, JR_0, JR_ite, am_go dc_85_5, am_go dc_85_32, J_iload_3, ld_3, am_go dc_85_33, J_if_ne, am_go dc_85_36, J_aload_0, K_al, ld_0, am_go dc_85_37, J_getfield, gf_r, fk_1_11_1, am_go dc_85_40, am_go dc_85_41, J_aaload, am_go dc_85_42, am_go dc_85_45, am_go dc_85_46, J_iaload, am_go dc_85_47, J_goto, am_go dc_85_50, J_iconst, c32_0, am_go dc_85_51, J_ret_i ret_85, am_go dc_85_52, am_go dc_85_53, am_go dc_85_56, am_go dc_85_57, am_go dc_85_60, am_go dc_85_61, am_go dc_85_64, am_go dc_85_65, am_go dc_85_66, am_go dc_85_69, am_go dc_85_70, am_go dc_85_71, am_go dc_85_72, am_go dc_85_73, am_go dc_85_74, am_go dc_85_75, cv_1_125_1 own_85, ci1_r, am_go dc_85_78, J_if_eq, am_go dc_85_81, am_go dc_85_82, fk_1_34_1, am_go dc_85_85, am_go dc_85_86, c32_4, am_go dc_85_87, J_imul, am_go dc_85_88, am_go dc_85_89, J_iadd, am_go dc_85_90, am_go dc_85_91, am_go dc_85_94, am_go dc_85_95, am_go dc_85_98, am_go dc_85_99, am_go dc_85_100, am_go dc_85_103, am_go dc_85_104, am_go dc_85_105, tg_0, tg_7, hT.c0, hT.c1, hT.c2, hT.c3, hT.c4, hT.c5, hT.c6, hT.c7, zI_add, zI_mul, zI_lt, zI_le, zI_eq, zI_neg, zI_pos, zI_ne0, zI_gt0, zB_0, lg_cmp_ge, lg_cmp_le, lg_cmp_gt, lg_cmp_lt, lg_cmp_eq, ail_r, abl_r, all_r, ais_r, abs_r, als_r, aal_r, aal_q, aln_r, vrf_s, vrf_n, z32, ha, hsz, qRow_k, Nat.add_zero, hto, hdg, hcc, bf_1_122 hB, ls_85_0, ls_85_1, ls_85_2, ls_85_3, Nat.mul_comm b 4, List.length_cons, List.length_nil, Nat.reduceAdd, Nat.reduceLT, Nat.reduceLeDiff, Nat.reduceEqDiff, ↓reduceIte, bind_s, if_true, if_false, not_true_eq_false, not_false_eq_true, Nat.zero_add]
    simp only [hoc]
    cases hc : cTo S dg b with
    | false => simp [zB]
    | true =>
      unfold cTo at hc
      simp only [Bool.and_eq_true, Bool.not_eq_true', decide_eq_false_iff_not] at hc
      simp [hc.1, zB]
def cTg (S : Nat → Int32) (dg : Nat → Nat) (b : Nat) : Int32 := if cOp S dg b = true then zI 1 else if dg b = 1 then S (18 * b + 10) else if dg b = 2 then zI 100 - S (18 * b + 10) else zI 100
theorem c_tog {b : Nat} (hS : tS C H t T S) (hd : dOk dg) (hb : b < wN (S 116)) : am_f X (d + 2) 99 [.ref t, .int (zI (pk dg)), .int (zI b)] (H, z) = some (.inl (some (.int (cTg S dg b))), (H, z)) := by
  have hT := hS.iT
  have hsz := hS.sz
  have hm5 := hS.m5
  have hb5 : b < 5 := by omega
  obtain ⟨a, bb, ha, hB⟩ := hS.box hb
  have hop := fun d => c_isOpen (X := X) (d := d) (z := z) hS hd hb
  have hdg := fun d => c_digit (X := X) (H := H) (d := d) (z := z) (b := b) hd hb5
  have hcc := fun x => hB.c (x := x) (i := 0) (hS.2.1.n hb).2.1
  have h4 := hd b hb5
  rw [fU_99]
  unfold cTg
  generalize hD : dg b = D at h4 hdg
  rcases (by omega : D = 0 ∨ D = 1 ∨ D = 2 ∨ D = 3) with rfl | rfl | rfl | rfl <;> cases hO : cOp S dg b <;> rw [hO] at hop
  all_goals
    simp (disch := first | omega | exact Nat.le_of_ble_eq_true rfl | exact hT.ci) only [own_99, am_go dc_99_0, J_aload_0, K_al, ld_0, am_go dc_99_1, J_iload_1, K_il, ld_1, am_go dc_99_2, J_iload_2, ld_2, am_go dc_99_3, cv_1_95_1 own_99, JR_v, JR_0, JR_ite, ci1_r, am_go dc_99_6, J_if_eq, am_go dc_99_9, J_iconst, c32_1, am_go dc_99_10, J_ret_i ret_99, am_go dc_99_11, am_go dc_99_12, am_go dc_99_13, cs_1_91 own_99, am_go dc_99_16, am_go dc_99_44, am_go dc_99_45, J_getfield, gf_r, fk_1_11_1, am_go dc_99_48, am_go dc_99_49, J_aaload, am_go dc_99_50, am_go dc_99_53, c32_0, am_go dc_99_54, J_iaload, am_go dc_99_55, am_go dc_99_56, J_bipush, c8_100, am_go dc_99_58, am_go dc_99_59, am_go dc_99_62, am_go dc_99_63, am_go dc_99_64, am_go dc_99_67, am_go dc_99_68, am_go dc_99_69, J_isub, am_go dc_99_70, am_go dc_99_71, am_go dc_99_73, tg_0, hT.c0, hT.c1, hT.c2, hT.c3, hT.c4, hT.c5, hT.c6, hT.c7, zI_add, zI_mul, zI_lt, zI_le, zI_eq, zI_neg, zI_pos, zI_ne0, zI_gt0, zB_0, lg_cmp_ge, lg_cmp_le, lg_cmp_gt, lg_cmp_lt, lg_cmp_eq, ail_r, abl_r, all_r, ais_r, abs_r, als_r, aal_r, aal_q, aln_r, vrf_s, vrf_n, z32, ha, hsz, qRow_k, Nat.add_zero, hop, hdg, hcc, bf_1_122 hB, ls_99_0, ls_99_1, ls_99_2, ls_99_3, Bool.false_eq_true, Bool.true_eq_false, List.length_cons, List.length_nil, Nat.reduceAdd, Nat.reduceLT, Nat.reduceLeDiff, Nat.reduceEqDiff, ↓reduceIte, bind_s, if_true, if_false, not_true_eq_false, not_false_eq_true, Nat.zero_add]
    try rfl
def c_ms (S : Nat → Int32) (dg : Nat → Nat) (b : Nat) (v : Int64) : Int64 := v * (cTg S dg b).toInt64
def cMs (S : Nat → Int32) (dg : Nat → Nat) : Int64 := fo (c_ms S dg) 0 (wN (S 116)) 1
theorem c_mass_l (hS : tS C H t T S) (hd : dOk dg) (hT : isT H t T) (hsz : T.1.2.2.1 1 = zI (wN (S 116))) (hm5 : wN (S 116) ≤ 5) : ∀ (k i : Nat) (v : Int64), i + k = wN (S 116) → am_I X (am_f X (d + 2)) 98 5 [some (.ref t), some (.int (zI (pk dg))), some (.long v), none, some (.int (zI i))] [] (H, z) = some (.inl (some (.long (fo (c_ms S dg) i k v))), (H, z)) := by
  intro k
  induction k with
  | zero =>
    intro i v hi
    rw [am_go dc_98_5]
    simp (disch := first | omega | exact Nat.le_of_ble_eq_true rfl | exact hT.ci) only [own_98, am_go dc_98_0, J_lconst, i64_1, am_go dc_98_1, J_lstore_2, st2_0, st2_1, st2_s, kl_i, kl_l, kl_r, kl_n, am_go dc_98_2, J_iconst, c32_0, am_go dc_98_3, J_istore, st1_0, st1_1, st1_s, J_iload, K_il, ld_4, am_go dc_98_7, J_aload_0, K_al, ld_0, am_go dc_98_8, J_getfield, gf_r, fk_1_44_1, am_go dc_98_11, J_icmp_ge, am_go dc_98_14, J_lload_2, K_ll, ld_2, am_go dc_98_15, am_go dc_98_16, J_iload_1, ld_1, am_go dc_98_17, am_go dc_98_19, cv_1_128_1 own_98, JR_v, JR_0, JR_ite, ci1_r, am_go dc_98_22, J_i2l, am_go dc_98_23, J_lmul, am_go dc_98_24, am_go dc_98_25, J_iinc, pinc_go, c32_1, am_go dc_98_28, J_goto, am_go dc_98_31, am_go dc_98_32, J_ret_l ret_98, tg_1, hT.c0, hT.c1, hT.c2, hT.c3, hT.c4, hT.c5, hT.c6, hT.c7, zI_add, zI_mul, zI_lt, zI_le, zI_eq, zI_neg, zI_pos, zI_ne0, zI_gt0, zB_0, lg_cmp_ge, lg_cmp_le, lg_cmp_gt, lg_cmp_lt, lg_cmp_eq, ail_r, abl_r, all_r, ais_r, abs_r, als_r, aal_r, aal_q, aln_r, vrf_s, vrf_n, z32, hsz, List.length_cons, List.length_nil, Nat.reduceAdd, Nat.reduceLT, Nat.reduceLeDiff, Nat.reduceEqDiff, ↓reduceIte, bind_s, if_true, if_false, not_true_eq_false, not_false_eq_true, Nat.zero_add]
    rw [if_pos (by omega)]
    rfl
  | succ k ih =>
    intro i v hi
    have ih' := fun v => ih (i + 1) v (by omega)
    have hop := fun d => c_tog (X := X) (d := d) (z := z) (b := i) hS hd (by omega)
    rw [am_go dc_98_5]
    simp (disch := first | omega | exact Nat.le_of_ble_eq_true rfl | exact hT.ci) only [own_98, am_go dc_98_0, J_lconst, i64_1, am_go dc_98_1, J_lstore_2, st2_0, st2_1, st2_s, kl_i, kl_l, kl_r, kl_n, am_go dc_98_2, J_iconst, c32_0, am_go dc_98_3, J_istore, st1_0, st1_1, st1_s, J_iload, K_il, ld_4, am_go dc_98_7, J_aload_0, K_al, ld_0, am_go dc_98_8, J_getfield, gf_r, fk_1_44_1, am_go dc_98_11, J_icmp_ge, am_go dc_98_14, J_lload_2, K_ll, ld_2, am_go dc_98_15, am_go dc_98_16, J_iload_1, ld_1, am_go dc_98_17, am_go dc_98_19, cv_1_128_1 own_98, JR_v, JR_0, JR_ite, ci1_r, am_go dc_98_22, J_i2l, am_go dc_98_23, J_lmul, am_go dc_98_24, am_go dc_98_25, J_iinc, pinc_go, c32_1, am_go dc_98_28, J_goto, am_go dc_98_31, am_go dc_98_32, J_ret_l ret_98, tg_1, hT.c0, hT.c1, hT.c2, hT.c3, hT.c4, hT.c5, hT.c6, hT.c7, zI_add, zI_mul, zI_lt, zI_le, zI_eq, zI_neg, zI_pos, zI_ne0, zI_gt0, zB_0, lg_cmp_ge, lg_cmp_le, lg_cmp_gt, lg_cmp_lt, lg_cmp_eq, ail_r, abl_r, all_r, ais_r, abs_r, als_r, aal_r, aal_q, aln_r, vrf_s, vrf_n, z32, hsz, hop, List.length_cons, List.length_nil, Nat.reduceAdd, Nat.reduceLT, Nat.reduceLeDiff, Nat.reduceEqDiff, ↓reduceIte, bind_s, if_true, if_false, not_true_eq_false, not_false_eq_true, Nat.zero_add]
    rw [if_neg (by omega)]
    simp only [ih', fo, c_ms]
theorem c_mass (hS : tS C H t T S) (hd : dOk dg) : am_f X (d + 3) 98 [.ref t, .int (zI (pk dg))] (H, z) = some (.inl (some (.long (cMs S dg))), (H, z)) := by
  have hT := hS.iT
  have hsz := hS.sz
  have hm5 := hS.m5
  rw [fU_98]
  simp (disch := first | omega | exact Nat.le_of_ble_eq_true rfl | exact hT.ci) only [own_98, am_go dc_98_0, J_lconst, i64_1, am_go dc_98_1, J_lstore_2, st2_0, st2_1, st2_s, kl_i, kl_l, kl_r, kl_n, am_go dc_98_2, J_iconst, c32_0, am_go dc_98_3, J_istore, st1_0, st1_1, st1_s, J_iload, K_il, ld_4, am_go dc_98_7, J_aload_0, K_al, ld_0, am_go dc_98_8, J_getfield, gf_r, fk_1_44_1, am_go dc_98_11, J_icmp_ge, am_go dc_98_14, J_lload_2, K_ll, ld_2, am_go dc_98_15, am_go dc_98_16, J_iload_1, ld_1, am_go dc_98_17, am_go dc_98_19, cv_1_128_1 own_98, JR_v, JR_0, JR_ite, ci1_r, am_go dc_98_22, J_i2l, am_go dc_98_23, J_lmul, am_go dc_98_24, am_go dc_98_25, J_iinc, pinc_go, c32_1, am_go dc_98_28, J_goto, am_go dc_98_31, am_go dc_98_32, J_ret_l ret_98, tg_1, hT.c0, hT.c1, hT.c2, hT.c3, hT.c4, hT.c5, hT.c6, hT.c7, zI_add, zI_mul, zI_lt, zI_le, zI_eq, zI_neg, zI_pos, zI_ne0, zI_gt0, zB_0, lg_cmp_ge, lg_cmp_le, lg_cmp_gt, lg_cmp_lt, lg_cmp_eq, ail_r, abl_r, all_r, ais_r, abs_r, als_r, aal_r, aal_q, aln_r, vrf_s, vrf_n, z32, hsz, List.length_cons, List.length_nil, Nat.reduceAdd, Nat.reduceLT, Nat.reduceLeDiff, Nat.reduceEqDiff, ↓reduceIte, bind_s, if_true, if_false, not_true_eq_false, not_false_eq_true, Nat.zero_add]
  exact c_mass_l hS hd hT hsz hm5 _ 0 _ (Nat.zero_add _)
end TL
