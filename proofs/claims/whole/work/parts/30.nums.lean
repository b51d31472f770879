/-! small numbers as ints -/
def zI (n : Nat) : Int32 := Int32.ofNat n
theorem zI_toInt {n : Nat} (h : n < 2147483648) : (zI n).toInt = n := Int32.toInt_ofNat_of_lt h
theorem zI_nat {n : Nat} (h : n < 2147483648) : (zI n).toNatClampNeg = n := by
  show (zI n).toInt.toNat = n
  rw [zI_toInt h]
  rfl
theorem zI_lt {a b : Nat} (ha : a < 2147483648) (hb : b < 2147483648) : (zI a < zI b) = (a < b) := by
  rw [Int32.lt_iff_toInt_lt, zI_toInt ha, zI_toInt hb]
  exact propext Int.ofNat_lt
theorem zI_le {a b : Nat} (ha : a < 2147483648) (hb : b < 2147483648) : (zI a ≤ zI b) = (a ≤ b) := by
  rw [Int32.le_iff_toInt_le, zI_toInt ha, zI_toInt hb]
  exact propext Int.ofNat_le
theorem zI_eq {a b : Nat} (ha : a < 2147483648) (hb : b < 2147483648) : (zI a = zI b) = (a = b) := by
  refine propext ⟨fun h => ?_, fun h => by rw [h]⟩
  have := congrArg Int32.toInt h
  rw [zI_toInt ha, zI_toInt hb] at this
  exact Int.ofNat.inj this
theorem zI_in {n m : Nat} (h : n < m) (hm : m < 2147483648) : am_in (zI n) m = true := by
  have h1 : ¬ zI n < 0 := by
    rw [show (0 : Int32) = zI 0 from rfl, zI_lt (by omega) (by omega)]
    omega
  unfold am_in
  rw [zI_nat (by omega)]
  simp [h1, h]
theorem zI_add {a b : Nat} : zI a + zI b = zI (a + b) := (Int32.ofNat_add a b).symm
theorem zI_mul {a b : Nat} : zI a * zI b = zI (a * b) := (Int32.ofNat_mul a b).symm
theorem zI_sub {a b : Nat} (h : b ≤ a) : zI a - zI b = zI (a - b) := by
  have : zI a = zI (a - b) + zI b := by rw [zI_add, Nat.sub_add_cancel h]
  rw [this]
  simp
theorem zI_0 : zI 0 = 0 := rfl
theorem l32_0 : (0 : Int32) = zI 0 := rfl
theorem zI_neg {a : Nat} (h : a < 2147483648) : (zI a < 0) = False := by
  rw [l32_0, zI_lt h (by omega)]
  simp
theorem zI_pos {a : Nat} (h : a < 2147483648) : (0 ≤ zI a) = True := by
  rw [l32_0, zI_le (by omega) h]
  simp
/-! array reads and writes within the array -/
theorem ail_r {n : Nat} {f : Nat → Int32} {x : Option (Nat × (Nat → Int32))} {i : Nat} (h : i < n) (hn : n < 2147483648) : am_ail (some (.inl (.int, n, .inl f))) x (zI i) = some (f i) := by
  show (if am_in (zI i) n then some (f (zI i).toNatClampNeg) else none) = _
  rw [zI_in h hn, zI_nat (by omega)]
  rfl
theorem abl_r {n : Nat} {f : Nat → Int32} {i : Nat} (h : i < n) (hn : n < 2147483648) : am_abl (some (.inl (.boolean, n, .inl f))) (zI i) = some (f i) := by
  show (if am_in (zI i) n then some (f (zI i).toNatClampNeg) else none) = _
  rw [zI_in h hn, zI_nat (by omega)]
  rfl
theorem all_r {n : Nat} {f : Nat → Int64} {i : Nat} (h : i < n) (hn : n < 2147483648) : am_all (some (.inl (.long, n, .inr (.inl f)))) (zI i) = some (f i) := by
  show (if am_in (zI i) n then some (f (zI i).toNatClampNeg) else none) = _
  rw [zI_in h hn, zI_nat (by omega)]
  rfl
theorem ais_r {n : Nat} {f : Nat → Int32} {i : Nat} {x : Int32} (h : i < n) (hn : n < 2147483648) : am_ais (some (.inl (.int, n, .inl f))) (zI i) x = some (.inl (.int, n, .inl (upd f i x))) := by
  show (if am_in (zI i) n then (some (.inl (.int, n, .inl (upd f (zI i).toNatClampNeg x))) : Option am_E) else none) = _
  rw [zI_in h hn, zI_nat (by omega)]
  rfl
theorem abs_r {n : Nat} {f : Nat → Int32} {i : Nat} {x : Int32} (h : i < n) (hn : n < 2147483648) (hx : x = 0 ∨ x = 1) : am_abs (some (.inl (.boolean, n, .inl f))) (zI i) x = some (.inl (.boolean, n, .inl (upd f i x))) := by
  show (if am_in (zI i) n && (x == 0 || x == 1) then (some (.inl (.boolean, n, .inl (upd f (zI i).toNatClampNeg x))) : Option am_E) else none) = _
  rw [zI_in h hn, zI_nat (by omega)]
  rcases hx with rfl | rfl <;> rfl
theorem als_r {n : Nat} {f : Nat → Int64} {i : Nat} {x : Int64} (h : i < n) (hn : n < 2147483648) : am_als (some (.inl (.long, n, .inr (.inl f)))) (zI i) x = some (.inl (.long, n, .inr (.inl (vp_updL f i x)))) := by
  show (if am_in (zI i) n then (some (.inl (.long, n, .inr (.inl (vp_updL f (zI i).toNatClampNeg x)))) : Option am_E) else none) = _
  rw [zI_in h hn, zI_nat (by omega)]
  rfl
theorem pf_r {ci j : Nat} {fs : List Value} {pk : Nat → Option (Nat × Bool × FieldType)} {v : Value} {ini fin : Bool} {ty : FieldType} (h : pk ci = some (j, fin, ty)) (hf : (!fin || ini) = true) (ht : am_okv ty v = true) (hj : j < fs.length) : am_pf (some (.inr (ci, fs))) pk ini v = some (.inr (ci, fs.set j v)) := by
  show (match pk ci with
    | some (j, fin, ty) => if ((!fin || ini) && am_okv ty v) && decide (j < fs.length) then (some (.inr (ci, fs.set j v)) : Option am_E) else none
    | none => none) = _
  rw [h]
  simp only [hf, ht, hj, decide_true, Bool.and_self, if_true]
theorem c32_0 : Int32.ofInt (0) = zI 0 := rfl
theorem c32_1 : Int32.ofInt (1) = zI 1 := rfl
theorem c32_2 : Int32.ofInt (2) = zI 2 := rfl
theorem c32_3 : Int32.ofInt (3) = zI 3 := rfl
theorem c32_4 : Int32.ofInt (4) = zI 4 := rfl
theorem c32_5 : Int32.ofInt (5) = zI 5 := rfl
theorem c32_6 : Int32.ofInt (6) = zI 6 := rfl
theorem c32_100 : Int32.ofInt (100) = zI 100 := rfl
theorem c8_6 : (Int8.ofInt (6)).toInt32 = zI 6 := rfl
theorem c8_7 : (Int8.ofInt (7)).toInt32 = zI 7 := rfl
theorem c8_8 : (Int8.ofInt (8)).toInt32 = zI 8 := rfl
theorem c8_9 : (Int8.ofInt (9)).toInt32 = zI 9 := rfl
theorem c8_10 : (Int8.ofInt (10)).toInt32 = zI 10 := rfl
theorem c8_14 : (Int8.ofInt (14)).toInt32 = zI 14 := rfl
theorem c8_15 : (Int8.ofInt (15)).toInt32 = zI 15 := rfl
theorem c8_18 : (Int8.ofInt (18)).toInt32 = zI 18 := rfl
theorem c8_20 : (Int8.ofInt (20)).toInt32 = zI 20 := rfl
theorem c8_21 : (Int8.ofInt (21)).toInt32 = zI 21 := rfl
theorem c8_30 : (Int8.ofInt (30)).toInt32 = zI 30 := rfl
theorem c8_32 : (Int8.ofInt (32)).toInt32 = zI 32 := rfl
theorem c8_33 : (Int8.ofInt (33)).toInt32 = zI 33 := rfl
theorem c8_47 : (Int8.ofInt (47)).toInt32 = zI 47 := rfl
theorem c8_48 : (Int8.ofInt (48)).toInt32 = zI 48 := rfl
theorem c8_57 : (Int8.ofInt (57)).toInt32 = zI 57 := rfl
theorem c8_59 : (Int8.ofInt (59)).toInt32 = zI 59 := rfl
theorem c8_60 : (Int8.ofInt (60)).toInt32 = zI 60 := rfl
theorem c8_62 : (Int8.ofInt (62)).toInt32 = zI 62 := rfl
theorem c8_63 : (Int8.ofInt (63)).toInt32 = zI 63 := rfl
theorem c8_64 : (Int8.ofInt (64)).toInt32 = zI 64 := rfl
theorem c8_90 : (Int8.ofInt (90)).toInt32 = zI 90 := rfl
theorem c8_95 : (Int8.ofInt (95)).toInt32 = zI 95 := rfl
theorem c8_98 : (Int8.ofInt (98)).toInt32 = zI 98 := rfl
theorem c8_99 : (Int8.ofInt (99)).toInt32 = zI 99 := rfl
theorem c8_100 : (Int8.ofInt (100)).toInt32 = zI 100 := rfl
theorem c8_108 : (Int8.ofInt (108)).toInt32 = zI 108 := rfl
theorem c8_115 : (Int8.ofInt (115)).toInt32 = zI 115 := rfl
theorem c8_116 : (Int8.ofInt (116)).toInt32 = zI 116 := rfl
theorem c8_117 : (Int8.ofInt (117)).toInt32 = zI 117 := rfl
theorem c8_118 : (Int8.ofInt (118)).toInt32 = zI 118 := rfl
theorem c8_120 : (Int8.ofInt (120)).toInt32 = zI 120 := rfl
theorem c16_128 : (Int16.ofInt (128)).toInt32 = zI 128 := rfl
theorem c16_162 : (Int16.ofInt (162)).toInt32 = zI 162 := rfl
theorem c16_900 : (Int16.ofInt (900)).toInt32 = zI 900 := rfl
theorem c16_960 : (Int16.ofInt (960)).toInt32 = zI 960 := rfl
theorem c16_999 : (Int16.ofInt (999)).toInt32 = zI 999 := rfl
theorem c16_1000 : (Int16.ofInt (1000)).toInt32 = zI 1000 := rfl
theorem c16_12345 : (Int16.ofInt (12345)).toInt32 = zI 12345 := rfl
theorem c16_16807 : (Int16.ofInt (16807)).toInt32 = zI 16807 := rfl
section GO
variable {X : am_X} {rec : am_O} {t pc nx tg : Nat} {lv : am_L} {st : List Value} {σ : am_S}
theorem am_go {q : Instr × Nat × Nat} (h : am_dc t pc = some q) : am_I X rec t pc lv st σ = am_J X rec t (some q) pc lv st σ := by rw [am_I_go, h]
theorem J_ret_z0 (h : am_ret t = some .boolean) : am_J X rec t (some (.ireturn, nx, tg)) pc lv [.int (zI 0)] σ = some (.inl (some (.int (zI 0))), σ) := J_ret_z h (Or.inl rfl)
theorem J_ret_z1 (h : am_ret t = some .boolean) : am_J X rec t (some (.ireturn, nx, tg)) pc lv [.int (zI 1)] σ = some (.inl (some (.int (zI 1))), σ) := J_ret_z h (Or.inr rfl)
def zB (b : Bool) : Int32 := if b then zI 1 else zI 0
theorem J_ret_zB {b : Bool} (h : am_ret t = some .boolean) : am_J X rec t (some (.ireturn, nx, tg)) pc lv [.int (zB b)] σ = some (.inl (some (.int (zB b))), σ) := J_ret_z h (by cases b; exact Or.inl rfl; exact Or.inr rfl)
theorem zB_0 {b : Bool} : (zB b = 0) = (b = false) := by
  cases b
  · simp only [zB, if_false, Bool.false_eq_true, eq_iff_iff, iff_true]; rfl
  · simp only [zB, if_true, eq_iff_iff, reduceCtorEq, iff_false]; decide
theorem zB_t : zB true = zI 1 := rfl
theorem zB_f : zB false = zI 0 := rfl
theorem zI_dec {n : Nat} : zI (n + 1) + -1 = zI n := by
  rw [← zI_add]
  show zI n + zI 1 + -1 = zI n
  rw [Int32.add_assoc, show zI 1 + -1 = 0 from rfl, Int32.add_zero]
theorem zI_d0 : zI 0 + -1 = -1 := rfl
theorem neg1_lt : ((-1 : Int32) < 0) = True := by decide
theorem zI_ne0 {n : Nat} (h : n < 2147483648) : (zI n = 0) = (n = 0) := zI_eq (b := 0) h (by omega)
theorem zI_gt0 {n : Nat} (h : n < 2147483648) : (0 < zI n) = (0 < n) := zI_lt (a := 0) (by omega) h
def wN (x : Int32) : Nat := x.toNatClampNeg
theorem wN_zI {n : Nat} (h : n < 2147483648) : wN (zI n) = n := zI_nat h
theorem zI_ofNN {x : Int32} (h : 0 ≤ x) : x = zI (wN x) := by
  have h0 : (0 : Int) ≤ x.toInt := by simpa using Int32.le_iff_toInt_le.mp h
  have hlt : wN x < 2147483648 := by
    have := x.toInt_lt
    show x.toInt.toNat < 2147483648
    omega
  apply Int32.toInt_inj.mp
  rw [zI_toInt hlt]
  show x.toInt = ((x.toInt.toNat : Nat) : Int)
  omega
theorem l64_lt0 {x : Int32} : (x.toInt64 < 0) = (x < 0) := by
  rw [Int64.lt_iff_toInt_lt, Int32.lt_iff_toInt_lt, Int32.toInt_toInt64]
  rfl
theorem l64_lt {x y : Int32} : (x.toInt64 < y.toInt64) = (x < y) := by
  rw [Int64.lt_iff_toInt_lt, Int32.lt_iff_toInt_lt, Int32.toInt_toInt64, Int32.toInt_toInt64]
theorem l64_0 : (0 : Int64) = (zI 0).toInt64 := rfl
def fo {α : Type} (f : Nat → α → α) : Nat → Nat → α → α
  | _, 0, a => a
  | i, k + 1, a => fo f (i + 1) k (f i a)
end GO
theorem ck_4_248 : am_ci 4 248 = some (1103515245) := by decide +kernel
theorem ck_4_255 : am_ci 4 255 = some (2147483647) := by decide +kernel
theorem ck_4_256 : am_ci 4 256 = some (65536) := by decide +kernel
theorem ck_12_303 : am_ci 12 303 = some (1103515245) := by decide +kernel
theorem ck_12_304 : am_ci 12 304 = some (2147483647) := by decide +kernel
theorem ck_12_305 : am_ci 12 305 = some (65536) := by decide +kernel
theorem cj_1_131 : am_cj 1 131 = some (-100) := by decide +kernel
theorem cj_0_185 : am_cj 0 185 = some (-4611686018427387904) := by decide +kernel
theorem cj_4_161 : am_cj 4 161 = some (100) := by decide +kernel
theorem cj_0_217 : am_cj 0 217 = some (-1) := by decide +kernel
theorem cj_4_241 : am_cj 4 241 = some (1000) := by decide +kernel
theorem cj_5_50 : am_cj 5 50 = some (-9223372036854775808) := by decide +kernel
theorem cj_12_77 : am_cj 12 77 = some (7) := by decide +kernel
theorem cj_12_96 : am_cj 12 96 = some (48) := by decide +kernel
theorem cj_12_98 : am_cj 12 98 = some (57) := by decide +kernel
theorem cj_12_132 : am_cj 12 132 = some (4) := by decide +kernel
theorem cj_12_134 : am_cj 12 134 = some (100) := by decide +kernel
theorem cj_12_152 : am_cj 12 152 = some (99) := by decide +kernel
theorem cj_12_174 : am_cj 12 174 = some (5) := by decide +kernel
theorem cj_12_176 : am_cj 12 176 = some (2) := by decide +kernel
theorem cj_12_178 : am_cj 12 178 = some (999) := by decide +kernel
theorem cj_12_230 : am_cj 12 230 = some (-4611686018427387904) := by decide +kernel
theorem cj_12_217 : am_cj 12 217 = some (-100) := by decide +kernel
theorem cj_12_274 : am_cj 12 274 = some (-1) := by decide +kernel
theorem pf_i {ci j : Nat} {fs : List Value} {pk : Nat → Option (Nat × Bool × FieldType)} {x : Int32} {ini fin : Bool} (h : pk ci = some (j, fin, .int)) (hf : (!fin || ini) = true) (hj : j < fs.length) : am_pf (some (.inr (ci, fs))) pk ini (.int x) = some (.inr (ci, fs.set j (.int x))) := pf_r h hf rfl hj
theorem pf_l {ci j : Nat} {fs : List Value} {pk : Nat → Option (Nat × Bool × FieldType)} {x : Int64} {ini fin : Bool} (h : pk ci = some (j, fin, .long)) (hf : (!fin || ini) = true) (hj : j < fs.length) : am_pf (some (.inr (ci, fs))) pk ini (.long x) = some (.inr (ci, fs.set j (.long x))) := pf_r h hf rfl hj
theorem pf_z0 {ci j : Nat} {fs : List Value} {pk : Nat → Option (Nat × Bool × FieldType)} {ini fin : Bool} (h : pk ci = some (j, fin, .boolean)) (hf : (!fin || ini) = true) (hj : j < fs.length) : am_pf (some (.inr (ci, fs))) pk ini (.int (zI 0)) = some (.inr (ci, fs.set j (.int (zI 0)))) := pf_r h hf rfl hj
theorem pf_z1 {ci j : Nat} {fs : List Value} {pk : Nat → Option (Nat × Bool × FieldType)} {ini fin : Bool} (h : pk ci = some (j, fin, .boolean)) (hf : (!fin || ini) = true) (hj : j < fs.length) : am_pf (some (.inr (ci, fs))) pk ini (.int (zI 1)) = some (.inr (ci, fs.set j (.int (zI 1)))) := pf_r h hf rfl hj
theorem pf_zB {ci j : Nat} {fs : List Value} {pk : Nat → Option (Nat × Bool × FieldType)} {ini fin b : Bool} (h : pk ci = some (j, fin, .boolean)) (hf : (!fin || ini) = true) (hj : j < fs.length) : am_pf (some (.inr (ci, fs))) pk ini (.int (zB b)) = some (.inr (ci, fs.set j (.int (zB b)))) := pf_r h hf (by cases b <;> rfl) hj
theorem pf_o {ci j x : Nat} {fs : List Value} {pk : Nat → Option (Nat × Bool × FieldType)} {ini fin : Bool} {c : String} (h : pk ci = some (j, fin, .object c)) (hf : (!fin || ini) = true) (hj : j < fs.length) : am_pf (some (.inr (ci, fs))) pk ini (.ref x) = some (.inr (ci, fs.set j (.ref x))) := pf_r h hf rfl hj
theorem pf_a {ci j x : Nat} {fs : List Value} {pk : Nat → Option (Nat × Bool × FieldType)} {ini fin : Bool} {c : FieldType} (h : pk ci = some (j, fin, .array c)) (hf : (!fin || ini) = true) (hj : j < fs.length) : am_pf (some (.inr (ci, fs))) pk ini (.ref x) = some (.inr (ci, fs.set j (.ref x))) := pf_r h hf rfl hj
