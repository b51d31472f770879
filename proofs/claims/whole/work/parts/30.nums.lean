/-! small numbers as ints -/
def nI (n : Nat) : Int32 := Int32.ofNat n
theorem nI_toInt {n : Nat} (h : n < 2147483648) : (nI n).toInt = n := Int32.toInt_ofNat_of_lt h
theorem nI_nat {n : Nat} (h : n < 2147483648) : (nI n).toNatClampNeg = n := by
  show (nI n).toInt.toNat = n
  rw [nI_toInt h]
  rfl
theorem nI_lt {a b : Nat} (ha : a < 2147483648) (hb : b < 2147483648) : (nI a < nI b) = (a < b) := by
  rw [Int32.lt_iff_toInt_lt, nI_toInt ha, nI_toInt hb]
  exact propext Int.ofNat_lt
theorem nI_le {a b : Nat} (ha : a < 2147483648) (hb : b < 2147483648) : (nI a ≤ nI b) = (a ≤ b) := by
  rw [Int32.le_iff_toInt_le, nI_toInt ha, nI_toInt hb]
  exact propext Int.ofNat_le
theorem nI_eq {a b : Nat} (ha : a < 2147483648) (hb : b < 2147483648) : (nI a = nI b) = (a = b) := by
  refine propext ⟨fun h => ?_, fun h => by rw [h]⟩
  have := congrArg Int32.toInt h
  rw [nI_toInt ha, nI_toInt hb] at this
  exact Int.ofNat.inj this
theorem nI_in {n m : Nat} (h : n < m) (hm : m < 2147483648) : am_in (nI n) m = true := by
  have h1 : ¬ nI n < 0 := by
    rw [show (0 : Int32) = nI 0 from rfl, nI_lt (by omega) (by omega)]
    omega
  unfold am_in
  rw [nI_nat (by omega)]
  simp [h1, h]
theorem nI_add {a b : Nat} : nI a + nI b = nI (a + b) := (Int32.ofNat_add a b).symm
theorem nI_mul {a b : Nat} : nI a * nI b = nI (a * b) := (Int32.ofNat_mul a b).symm
theorem nI_sub {a b : Nat} (h : b ≤ a) : nI a - nI b = nI (a - b) := by
  have : nI a = nI (a - b) + nI b := by rw [nI_add, Nat.sub_add_cancel h]
  rw [this]
  simp
theorem nI_0 : nI 0 = 0 := rfl
theorem na1 {b : Nat} : nI b + 1 = nI (b + 1) := nI_add
theorem nm1 {b : Nat} : nI b + -1 = nI b - 1 := by rw [Int32.sub_eq_add_neg]
theorem ns1 {b : Nat} (h : 1 ≤ b) : nI b - 1 = nI (b - 1) := nI_sub h
theorem nl_18 {b : Nat} : 18 * nI b = nI (18 * b) := nI_mul
theorem nl_2 {b : Nat} : 2 * nI b = nI (2 * b) := nI_mul
theorem nl_4 {b : Nat} : 4 * nI b = nI (4 * b) := nI_mul
theorem nl_5 {b : Nat} : 5 * nI b = nI (5 * b) := nI_mul
theorem nl_120 {b : Nat} : 120 * nI b = nI (120 * b) := nI_mul
theorem nr_4 {b : Nat} : nI b * 4 = nI (b * 4) := nI_mul
theorem nr_5 {b : Nat} : nI b * 5 = nI (b * 5) := nI_mul
theorem na_3 {b : Nat} : 3 + nI b = nI (3 + b) := nI_add
theorem na_6 {b : Nat} : 6 + nI b = nI (6 + b) := nI_add
theorem na_10 {b : Nat} : 10 + nI b = nI (10 + b) := nI_add
theorem na_14 {b : Nat} : 14 + nI b = nI (14 + b) := nI_add
theorem na_90 {b : Nat} : 90 + nI b = nI (90 + b) := nI_add
theorem na_95 {b : Nat} : 95 + nI b = nI (95 + b) := nI_add
theorem l32_0 : (0 : Int32) = nI 0 := rfl
theorem l32_1 : (1 : Int32) = nI 1 := rfl
theorem l32_2 : (2 : Int32) = nI 2 := rfl
theorem l32_3 : (3 : Int32) = nI 3 := rfl
theorem l32_4 : (4 : Int32) = nI 4 := rfl
theorem l32_5 : (5 : Int32) = nI 5 := rfl
theorem lI_0 : nI 0 = (0 : Int32) := rfl
theorem nI_neg {a : Nat} (h : a < 2147483648) : (nI a < 0) = False := by
  rw [l32_0, nI_lt h (by omega)]
  simp
theorem nI_pos {a : Nat} (h : a < 2147483648) : (0 ≤ nI a) = True := by
  rw [l32_0, nI_le (by omega) h]
  simp
/-! array reads and writes within the array -/
theorem ail_r {n : Nat} {f : Nat → Int32} {x : Option (Nat × (Nat → Int32))} {i : Nat} (h : i < n) (hn : n < 2147483648) : am_ail (some (.inl (.int, n, .inl f))) x (nI i) = some (f i) := by
  show (if am_in (nI i) n then some (f (nI i).toNatClampNeg) else none) = _
  rw [nI_in h hn, nI_nat (by omega)]
  rfl
theorem abl_r {n : Nat} {f : Nat → Int32} {i : Nat} (h : i < n) (hn : n < 2147483648) : am_abl (some (.inl (.boolean, n, .inl f))) (nI i) = some (f i) := by
  show (if am_in (nI i) n then some (f (nI i).toNatClampNeg) else none) = _
  rw [nI_in h hn, nI_nat (by omega)]
  rfl
theorem all_r {n : Nat} {f : Nat → Int64} {i : Nat} (h : i < n) (hn : n < 2147483648) : am_all (some (.inl (.long, n, .inr (.inl f)))) (nI i) = some (f i) := by
  show (if am_in (nI i) n then some (f (nI i).toNatClampNeg) else none) = _
  rw [nI_in h hn, nI_nat (by omega)]
  rfl
theorem ais_r {n : Nat} {f : Nat → Int32} {i : Nat} {x : Int32} (h : i < n) (hn : n < 2147483648) : am_ais (some (.inl (.int, n, .inl f))) (nI i) x = some (.inl (.int, n, .inl (upd f i x))) := by
  show (if am_in (nI i) n then some (.inl (.int, n, .inl (upd f (nI i).toNatClampNeg x))) else none) = _
  rw [nI_in h hn, nI_nat (by omega)]
  rfl
theorem abs_r {n : Nat} {f : Nat → Int32} {i : Nat} {x : Int32} (h : i < n) (hn : n < 2147483648) (hx : x = 0 ∨ x = 1) : am_abs (some (.inl (.boolean, n, .inl f))) (nI i) x = some (.inl (.boolean, n, .inl (upd f i x))) := by
  show (if am_in (nI i) n && (x == 0 || x == 1) then some (.inl (.boolean, n, .inl (upd f (nI i).toNatClampNeg x))) else none) = _
  rw [nI_in h hn, nI_nat (by omega)]
  rcases hx with rfl | rfl <;> rfl
theorem als_r {n : Nat} {f : Nat → Int64} {i : Nat} {x : Int64} (h : i < n) (hn : n < 2147483648) : am_als (some (.inl (.long, n, .inr (.inl f)))) (nI i) x = some (.inl (.long, n, .inr (.inl (vp_updL f i x)))) := by
  show (if am_in (nI i) n then some (.inl (.long, n, .inr (.inl (vp_updL f (nI i).toNatClampNeg x)))) else none) = _
  rw [nI_in h hn, nI_nat (by omega)]
  rfl
theorem pf_r {ci j : Nat} {fs : List Value} {pk : Nat → Option (Nat × Bool × FieldType)} {v : Value} {ini fin : Bool} {ty : FieldType} (h : pk ci = some (j, fin, ty)) (hf : (!fin || ini) = true) (ht : am_okv ty v = true) (hj : j < fs.length) : am_pf (some (.inr (ci, fs))) pk ini v = some (.inr (ci, fs.set j v)) := by
  show (match pk ci with
    | some (j, fin, ty) => if ((!fin || ini) && am_okv ty v) && decide (j < fs.length) then some (.inr (ci, fs.set j v)) else none
    | none => none) = _
  rw [h]
  simp only [hf, ht, hj, decide_true, Bool.and_self, if_true]
theorem c32_0 : Int32.ofInt (0) = nI 0 := rfl
theorem c32_1 : Int32.ofInt (1) = nI 1 := rfl
theorem c32_2 : Int32.ofInt (2) = nI 2 := rfl
theorem c32_3 : Int32.ofInt (3) = nI 3 := rfl
theorem c32_4 : Int32.ofInt (4) = nI 4 := rfl
theorem c32_5 : Int32.ofInt (5) = nI 5 := rfl
theorem c32_6 : Int32.ofInt (6) = nI 6 := rfl
theorem c32_100 : Int32.ofInt (100) = nI 100 := rfl
theorem c8_6 : (Int8.ofInt (6)).toInt32 = nI 6 := rfl
theorem c8_7 : (Int8.ofInt (7)).toInt32 = nI 7 := rfl
theorem c8_8 : (Int8.ofInt (8)).toInt32 = nI 8 := rfl
theorem c8_9 : (Int8.ofInt (9)).toInt32 = nI 9 := rfl
theorem c8_10 : (Int8.ofInt (10)).toInt32 = nI 10 := rfl
theorem c8_14 : (Int8.ofInt (14)).toInt32 = nI 14 := rfl
theorem c8_15 : (Int8.ofInt (15)).toInt32 = nI 15 := rfl
theorem c8_18 : (Int8.ofInt (18)).toInt32 = nI 18 := rfl
theorem c8_20 : (Int8.ofInt (20)).toInt32 = nI 20 := rfl
theorem c8_21 : (Int8.ofInt (21)).toInt32 = nI 21 := rfl
theorem c8_30 : (Int8.ofInt (30)).toInt32 = nI 30 := rfl
theorem c8_32 : (Int8.ofInt (32)).toInt32 = nI 32 := rfl
theorem c8_33 : (Int8.ofInt (33)).toInt32 = nI 33 := rfl
theorem c8_47 : (Int8.ofInt (47)).toInt32 = nI 47 := rfl
theorem c8_48 : (Int8.ofInt (48)).toInt32 = nI 48 := rfl
theorem c8_57 : (Int8.ofInt (57)).toInt32 = nI 57 := rfl
theorem c8_59 : (Int8.ofInt (59)).toInt32 = nI 59 := rfl
theorem c8_60 : (Int8.ofInt (60)).toInt32 = nI 60 := rfl
theorem c8_62 : (Int8.ofInt (62)).toInt32 = nI 62 := rfl
theorem c8_63 : (Int8.ofInt (63)).toInt32 = nI 63 := rfl
theorem c8_64 : (Int8.ofInt (64)).toInt32 = nI 64 := rfl
theorem c8_90 : (Int8.ofInt (90)).toInt32 = nI 90 := rfl
theorem c8_95 : (Int8.ofInt (95)).toInt32 = nI 95 := rfl
theorem c8_98 : (Int8.ofInt (98)).toInt32 = nI 98 := rfl
theorem c8_99 : (Int8.ofInt (99)).toInt32 = nI 99 := rfl
theorem c8_100 : (Int8.ofInt (100)).toInt32 = nI 100 := rfl
theorem c8_108 : (Int8.ofInt (108)).toInt32 = nI 108 := rfl
theorem c8_115 : (Int8.ofInt (115)).toInt32 = nI 115 := rfl
theorem c8_116 : (Int8.ofInt (116)).toInt32 = nI 116 := rfl
theorem c8_117 : (Int8.ofInt (117)).toInt32 = nI 117 := rfl
theorem c8_118 : (Int8.ofInt (118)).toInt32 = nI 118 := rfl
theorem c8_120 : (Int8.ofInt (120)).toInt32 = nI 120 := rfl
theorem c16_128 : (Int16.ofInt (128)).toInt32 = nI 128 := rfl
theorem c16_162 : (Int16.ofInt (162)).toInt32 = nI 162 := rfl
theorem c16_900 : (Int16.ofInt (900)).toInt32 = nI 900 := rfl
theorem c16_960 : (Int16.ofInt (960)).toInt32 = nI 960 := rfl
theorem c16_999 : (Int16.ofInt (999)).toInt32 = nI 999 := rfl
theorem c16_1000 : (Int16.ofInt (1000)).toInt32 = nI 1000 := rfl
theorem c16_12345 : (Int16.ofInt (12345)).toInt32 = nI 12345 := rfl
theorem c16_16807 : (Int16.ofInt (16807)).toInt32 = nI 16807 := rfl
section GO
variable {X : am_X} {rec : am_O} {t pc nx tg : Nat} {lv : am_L} {st : List Value} {σ : am_S}
theorem am_go {q : Instr × Nat × Nat} (h : am_dc t pc = some q) : am_I X rec t pc lv st σ = am_J X rec t (some q) pc lv st σ := by rw [am_I_go, h]
theorem J_ret_z0 (h : am_ret t = some .boolean) : am_J X rec t (some (.ireturn, nx, tg)) pc lv [.int (nI 0)] σ = some (.inl (some (.int (nI 0))), σ) := J_ret_z h (Or.inl rfl)
theorem J_ret_z1 (h : am_ret t = some .boolean) : am_J X rec t (some (.ireturn, nx, tg)) pc lv [.int (nI 1)] σ = some (.inl (some (.int (nI 1))), σ) := J_ret_z h (Or.inr rfl)
def bI (p : Prop) [Decidable p] : Int32 := if p then nI 1 else nI 0
theorem J_ret_zb {p : Prop} [Decidable p] (h : am_ret t = some .boolean) : am_J X rec t (some (.ireturn, nx, tg)) pc lv [.int (bI p)] σ = some (.inl (some (.int (bI p))), σ) := J_ret_z h (by unfold bI; split; exact Or.inr rfl; exact Or.inl rfl)
theorem bI_0 {p : Prop} [Decidable p] : (bI p = 0) = ¬ p := by
  unfold bI
  split
  · rename_i h; simp only [h, not_true_eq_false, eq_iff_iff, iff_false]; decide
  · rename_i h; simp only [h, not_false_eq_true, eq_iff_iff, iff_true]; rfl
def fo {α : Type} (f : Nat → α → α) : Nat → Nat → α → α
  | _, 0, a => a
  | i, k + 1, a => fo f (i + 1) k (f i a)
end GO
theorem ck_4_248 : am_ci 4 248 = some (1103515245) := by decide +kernel
theorem ck_4_255 : am_ci 4 255 = some (2147483647) := by decide +kernel
theorem ck_4_256 : am_ci 4 256 = some (65536) := by decide +kernel
theorem ck_12_303 : am_ci 12 303 = some (1103515245) := by decide +kernel
theorem ck_12_304 : am_ci 12 304 = some (2147483647) := by decide +kernel
theorem ck_12_305 : am_ci 12 305 = some (65536) := by decide +kernel
theorem cj_1_131 : am_cj 1 131 = some (-100) := by decide +kernel
theorem cj_0_185 : am_cj 0 185 = some (-4611686018427387904) := by decide +kernel
theorem cj_4_161 : am_cj 4 161 = some (100) := by decide +kernel
theorem cj_0_217 : am_cj 0 217 = some (-1) := by decide +kernel
theorem cj_4_241 : am_cj 4 241 = some (1000) := by decide +kernel
theorem cj_5_50 : am_cj 5 50 = some (-9223372036854775808) := by decide +kernel
theorem cj_12_77 : am_cj 12 77 = some (7) := by decide +kernel
theorem cj_12_96 : am_cj 12 96 = some (48) := by decide +kernel
theorem cj_12_98 : am_cj 12 98 = some (57) := by decide +kernel
theorem cj_12_132 : am_cj 12 132 = some (4) := by decide +kernel
theorem cj_12_134 : am_cj 12 134 = some (100) := by decide +kernel
theorem cj_12_152 : am_cj 12 152 = some (99) := by decide +kernel
theorem cj_12_174 : am_cj 12 174 = some (5) := by decide +kernel
theorem cj_12_176 : am_cj 12 176 = some (2) := by decide +kernel
theorem cj_12_178 : am_cj 12 178 = some (999) := by decide +kernel
theorem cj_12_230 : am_cj 12 230 = some (-4611686018427387904) := by decide +kernel
theorem cj_12_217 : am_cj 12 217 = some (-100) := by decide +kernel
theorem cj_12_274 : am_cj 12 274 = some (-1) := by decide +kernel
