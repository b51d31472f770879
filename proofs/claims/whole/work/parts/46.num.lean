/-! longs as whole numbers -/
def jI (n : Int) : Int64 := Int64.ofInt n
theorem jI_t {n : Int} (h1 : -9223372036854775808 ≤ n) (h2 : n < 9223372036854775808) : (jI n).toInt = n := Int64.toInt_ofInt_of_le (by omega) (by omega)
theorem jI_of (x : Int64) : x = jI x.toInt := (Int64.ofInt_toInt x).symm
theorem jI_add {a b : Int} : jI a + jI b = jI (a + b) := (Int64.ofInt_add a b).symm
theorem jI_sub {a b : Int} : jI a - jI b = jI (a - b) := (Int64.ofInt_sub a b).symm
theorem jI_mul {a b : Int} : jI a * jI b = jI (a * b) := (Int64.ofInt_mul a b).symm
theorem jI_neg {a : Int} : -jI a = jI (-a) := (Int64.ofInt_neg a).symm
theorem jI_lt {a b : Int} (h1 : -9223372036854775808 ≤ a) (h2 : a < 9223372036854775808) (h3 : -9223372036854775808 ≤ b) (h4 : b < 9223372036854775808) : (jI a < jI b) = (a < b) := by
  rw [Int64.lt_iff_toInt_lt, jI_t h1 h2, jI_t h3 h4]
theorem jI_le {a b : Int} (h1 : -9223372036854775808 ≤ a) (h2 : a < 9223372036854775808) (h3 : -9223372036854775808 ≤ b) (h4 : b < 9223372036854775808) : (jI a ≤ jI b) = (a ≤ b) := by
  rw [Int64.le_iff_toInt_le, jI_t h1 h2, jI_t h3 h4]
theorem jI_eq {a b : Int} (h1 : -9223372036854775808 ≤ a) (h2 : a < 9223372036854775808) (h3 : -9223372036854775808 ≤ b) (h4 : b < 9223372036854775808) : (jI a = jI b) = (a = b) := by
  rw [← Int64.toInt_inj, jI_t h1 h2, jI_t h3 h4]
theorem jI_0 : (0 : Int64) = jI 0 := rfl
theorem jI_1 : (1 : Int64) = jI 1 := rfl
theorem jI_z {n : Nat} (h : n < 2147483648) : (zI n).toInt64 = jI n := by
  apply Int64.toInt_inj.mp
  rw [Int32.toInt_toInt64, zI_toInt h, jI_t (by omega) (by omega)]
theorem jI_div {a b : Int} (h1 : 0 ≤ a) (h2 : a < 9223372036854775808) (h3 : 0 < b) (h4 : b < 9223372036854775808) : jI a / jI b = jI (a / b) := by
  apply Int64.toInt_inj.mp
  have hb : jI b ≠ -1 := by
    intro e
    have := congrArg Int64.toInt e
    rw [jI_t (by omega) h4] at this
    have h5 : (-1 : Int64).toInt = -1 := rfl
    omega
  have hle : a / b ≤ a := Int.ediv_le_self b h1
  have h0 : 0 ≤ a / b := Int.ediv_nonneg h1 (by omega)
  rw [Int64.toInt_div_of_ne_right _ _ hb, jI_t (by omega) h2, jI_t (by omega) h4, jI_t (by omega) (by omega), Int.tdiv_eq_ediv_of_nonneg h1]
theorem jI_rem {a b : Int} (h1 : 0 ≤ a) (h2 : a < 9223372036854775808) (h3 : 0 < b) (h4 : b < 9223372036854775808) : jI a - jI a / jI b * jI b = jI (a % b) := by
  rw [jI_div h1 h2 h3 h4, jI_mul, jI_sub, Int.emod_def, Int.mul_comm]
/-! Euclid -/
def eu : Nat → Int64 → Int64 → Int64
  | 0, x, _ => x
  | n + 1, x, y => if y = 0 then x else eu n y (x - x / y * y)
theorem eu_pos : ∀ (n : Nat) (a b : Int), 0 ≤ a → a < 4611686018427387904 → 0 ≤ b → b < n → b < 4611686018427387904 → 0 < a ∨ 0 < b → ∃ g : Int, eu n (jI a) (jI b) = jI g ∧ 0 < g ∧ g < 4611686018427387904
  | 0, a, b, _, _, h3, h4, _, _ => by omega
  | n + 1, a, b, h1, h2, h3, h4, h5, h6 => by
    unfold eu
    by_cases e : b = 0
    · subst e
      rw [if_pos (show jI 0 = 0 from rfl)]
      exact ⟨a, rfl, by omega, h2⟩
    · have hb : 0 < b := by omega
      rw [if_neg, jI_rem h1 (by omega) hb (by omega)]
      · have h7 := Int.emod_nonneg a e
        have h8 := Int.emod_lt_of_pos a hb
        exact eu_pos n b (a % b) h3 h5 h7 (by omega) (by omega) (Or.inl hb)
      · rw [jI_0, jI_eq (by omega) (by omega) (by omega) (by omega)]
        exact e
/-! numbers -/
def q_nb (ch w : Nat → Int32) (i : Nat) (s : Int64 × Int64 × Int64 × Int64) : Int64 × Int64 × Int64 × Int64 :=
  if s.2.1 + (ch i).toInt64 = 0 then (s.1 + (ch i).toInt64 * (w i).toInt64, s.2.1 + (ch i).toInt64, s.2.2)
  else if s.2.2.2 ≤ 0 then (s.1 + (ch i).toInt64 * (w i).toInt64, s.2.1 + (ch i).toInt64, s.1 + (ch i).toInt64 * (w i).toInt64, s.2.1 + (ch i).toInt64)
  else if s.2.2.1 * (s.2.1 + (ch i).toInt64) < (s.1 + (ch i).toInt64 * (w i).toInt64) * s.2.2.2 then (s.1 + (ch i).toInt64 * (w i).toInt64, s.2.1 + (ch i).toInt64, s.1 + (ch i).toInt64 * (w i).toInt64, s.2.1 + (ch i).toInt64)
  else (s.1 + (ch i).toInt64 * (w i).toInt64, s.2.1 + (ch i).toInt64, s.2.2)
def nbR (p : Int32) (n : Nat) (ch w : Nat → Int32) : Int64 × Int64 × Int64 × Int64 := fo (q_nb ch w) 0 n ((-100) * p.toInt64, 0, 0, 0)
def nbC (p : Int32) (n : Nat) (ch w : Nat → Int32) : Int64 := eu 128 (if 0 ≤ (nbR p n ch w).2.2.1 then (nbR p n ch w).2.2.1 else -(nbR p n ch w).2.2.1) (nbR p n ch w).2.2.2
def nbT (p : Int32) (n : Nat) (ch w : Nat → Int32) : Int64 := (nbR p n ch w).2.2.1 / nbC p n ch w
def nbF (p : Int32) (n : Nat) (ch w : Nat → Int32) : Int64 := (nbR p n ch w).2.2.2 / nbC p n ch w
theorem fo_succ {α : Type} (f : Nat → α → α) : ∀ (k i : Nat) (a : α), fo f i (k + 1) a = f (i + k) (fo f i k a)
  | 0, i, a => rfl
  | k + 1, i, a => by
    show fo f (i + 1) (k + 1) (f i a) = f (i + (k + 1)) (fo f (i + 1) k (f i a))
    rw [fo_succ f k (i + 1)]
    congr 1
    omega
theorem fo_congr {α : Type} {f g : Nat → α → α} : ∀ (k i : Nat) (a : α), (∀ j, i ≤ j → j < i + k → ∀ a, f j a = g j a) → fo f i k a = fo g i k a
  | 0, _, _, _ => rfl
  | k + 1, i, a, h => by
    show fo f (i + 1) k (f i a) = fo g (i + 1) k (g i a)
    rw [h i (by omega) (by omega), fo_congr k (i + 1) _ (fun j h1 h2 => h j (by omega) (by omega))]
theorem fo_inv {α : Type} {f : Nat → α → α} (P : Nat → α → Prop) : ∀ (k i : Nat) (a : α), P i a → (∀ j a, i ≤ j → j < i + k → P j a → P (j + 1) (f j a)) → P (i + k) (fo f i k a)
  | 0, _, _, h, _ => h
  | k + 1, i, a, h, hs => by
    have := fo_inv P k (i + 1) (f i a) (hs i a (by omega) (by omega) h) (fun j a h1 h2 => hs j a (by omega) (by omega))
    rw [show i + (k + 1) = i + 1 + k by omega]
    exact this
theorem nbR_ok {p : Int32} {n : Nat} {ch w : Nat → Int32} {P : Nat} {c v : Nat → Nat} (hp : p = zI P) (hP : P ≤ 999) (hn : n ≤ 4) (hc : ∀ i, i < n → ch i = zI (c i) ∧ c i ≤ 100) (hw : ∀ i, i < n → w i = zI (v i) ∧ v i ≤ 999) :
    ∃ A B U V : Int, nbR p n ch w = (jI A, jI B, jI U, jI V) ∧ (-99900 ≤ A ∧ A ≤ 99900 * n) ∧ (0 ≤ B ∧ B ≤ 100 * n) ∧ (-99900 ≤ U ∧ U ≤ 99900 * n) ∧ (0 ≤ V ∧ V ≤ 100 * n) ∧ (0 < B → 0 < V) ∧ V ≤ B ∧ B = fo (fun i x => x + (c i : Int)) 0 n 0 := by
  have key := fo_inv (f := fun i (s : (Int64 × Int64 × Int64 × Int64) × Int) => (q_nb ch w i s.1, s.2 + (c i : Int)))
    (fun k s => ∃ A B U V : Int, s.1 = (jI A, jI B, jI U, jI V) ∧ (-99900 ≤ A ∧ A ≤ 99900 * k) ∧ (0 ≤ B ∧ B ≤ 100 * k) ∧ (-99900 ≤ U ∧ U ≤ 99900 * k) ∧ (0 ≤ V ∧ V ≤ 100 * k) ∧ (0 < B → 0 < V) ∧ V ≤ B ∧ B = s.2) n 0 (((-100) * p.toInt64, 0, 0, 0), 0)
    ⟨-100 * P, 0, 0, 0, by rw [hp, jI_z (by omega), show (-100 : Int64) = jI (-100) from rfl, jI_mul]; rfl, by omega, by omega, by omega, by omega, by omega, by omega, rfl⟩
    (by
      rintro j ⟨s, x⟩ hj1 hj2 ⟨A, B, U, V, rfl, hA, hB, hU, hV, hBV, hVB, hx⟩
      obtain ⟨hc1, hc2⟩ := hc j (by omega)
      obtain ⟨hw1, hw2⟩ := hw j (by omega)
      have hm0 : 0 ≤ (c j : Int) * (v j : Int) := Int.mul_nonneg (by omega) (by omega)
      have hm1 : (c j : Int) * (v j : Int) ≤ 100 * 999 := Int.mul_le_mul (by omega) (by omega) (by omega) (by omega)
      have hUB : -(99900 * 404 * 10) ≤ U * (B + c j) ∧ U * (B + c j) ≤ 99900 * 404 * 10 := by
        constructor
        · have : -(99900 : Int) * 500 ≤ U * (B + c j) := by
            have h1 : (-99900) * (B + c j) ≤ U * (B + c j) := Int.mul_le_mul_of_nonneg_right (by omega) (by omega)
            have h2 : (B + c j) ≤ 500 := by omega
            omega
          omega
        · have h1 : U * (B + c j) ≤ 399600 * (B + c j) := Int.mul_le_mul_of_nonneg_right (by omega) (by omega)
          omega
      have hAV : -(99900 * 500) ≤ (A + c j * v j) * V ∧ (A + c j * v j) * V ≤ 99900 * 404 * 10 := by
        constructor
        · have h1 : (-99900) * V ≤ (A + c j * v j) * V := Int.mul_le_mul_of_nonneg_right (by omega) (by omega)
          omega
        · have h1 : (A + c j * v j) * V ≤ 399600 * V := Int.mul_le_mul_of_nonneg_right (by omega) (by omega)
          omega
      show ∃ A' B' U' V' : Int, q_nb ch w j (jI A, jI B, jI U, jI V) = _ ∧ _
      unfold q_nb
      simp only [hc1, hw1, jI_z (show c j < 2147483648 by omega), jI_z (show v j < 2147483648 by omega), jI_mul, jI_add]
      have q1 : (jI (B + c j) = 0) = (B + c j = 0) := jI_eq (b := 0) (by omega) (by omega) (by omega) (by omega)
      have q2 : (jI V ≤ 0) = (V ≤ 0) := jI_le (b := 0) (by omega) (by omega) (by omega) (by omega)
      have q3 : (jI (U * (B + c j)) < jI ((A + c j * v j) * V)) = (U * (B + c j) < (A + c j * v j) * V) := jI_lt (by omega) (by omega) (by omega) (by omega)
      simp only [q1, q2, q3]
      split
      · exact ⟨_, _, _, _, rfl, by omega, by omega, by omega, by omega, by omega, by omega, by rw [hx]⟩
      · split
        · exact ⟨_, _, _, _, rfl, by omega, by omega, by omega, by omega, by omega, by omega, by rw [hx]⟩
        · split
          · exact ⟨_, _, _, _, rfl, by omega, by omega, by omega, by omega, by omega, by omega, by rw [hx]⟩
          · exact ⟨_, _, _, _, rfl, by omega, by omega, by omega, by omega, by omega, by omega, by rw [hx]⟩)
  have split2 : ∀ (k i : Nat) (s : Int64 × Int64 × Int64 × Int64) (x : Int), fo (fun i (s : (Int64 × Int64 × Int64 × Int64) × Int) => (q_nb ch w i s.1, s.2 + (c i : Int))) i k (s, x) = (fo (q_nb ch w) i k s, fo (fun i x => x + (c i : Int)) i k x) := by
    intro k
    induction k with
    | zero => intros; rfl
    | succ k ih => intro i s x; exact ih (i + 1) _ _
  rw [split2, Nat.zero_add] at key
  exact key
theorem nbC_ok {p : Int32} {n : Nat} {ch w : Nat → Int32} {P : Nat} {c v : Nat → Nat} (hp : p = zI P) (hP : P ≤ 999) (hn : n ≤ 4) (hc : ∀ i, i < n → ch i = zI (c i) ∧ c i ≤ 100) (hw : ∀ i, i < n → w i = zI (v i) ∧ v i ≤ 999) (hs : fo (fun i x => x + (c i : Int)) 0 n 0 = 100) : ∃ A B U V : Int, nbR p n ch w = (jI A, jI B, jI U, jI V) ∧ (-99900 ≤ U ∧ U ≤ 399600) ∧ (0 < V ∧ V ≤ 100) ∧ ∃ g : Int, nbC p n ch w = jI g ∧ 0 < g ∧ g < 4611686018427387904 := by
  obtain ⟨A, B, U, V, hR, hA, hB, hU, hV, hBV, hVB, hBs⟩ := nbR_ok hp hP hn hc hw
  rw [hs] at hBs
  refine ⟨A, B, U, V, hR, by omega, by omega, ?_⟩
  unfold nbC
  rw [hR]
  simp only
  have q1 : (0 ≤ jI U) = (0 ≤ U) := jI_le (a := 0) (by omega) (by omega) (by omega) (by omega)
  simp only [q1, jI_neg]
  split
  · exact eu_pos 128 U V (by omega) (by omega) (by omega) (by omega) (by omega) (Or.inr (by omega))
  · exact eu_pos 128 (-U) V (by omega) (by omega) (by omega) (by omega) (by omega) (Or.inr (by omega))
/-! the reference's numbers -/
section M8
variable {X : am_X} {h : am_H} {o d : Nat} {u : mU} {z : Nat × Nat}
theorem mJ_c {v w : Int64} : mJ (mJ u 26 v) 25 w = mJ (mJ u 25 w) 26 v := by
  unfold mJ
  congr 3
  funext j
  by_cases e1 : j = 25
  · simp [e1]
  · by_cases e2 : j = 26 <;> simp [e1, e2]
theorem r_common_l {σ : am_S} {x0 x2 : Int64} {d : Nat} : ∀ (n : Nat) (a b : Int) (v8 v9 : Option Value), 0 ≤ a → a < 4611686018427387904 → 0 ≤ b → b < n → b < 4611686018427387904 → am_I X (am_f X d) 236 17 [some (.long x0), none, some (.long x2), none, some (.long (jI a)), none, some (.long (jI b)), none, v8, v9] [] σ = some (.inl (some (.long (eu n (jI a) (jI b)))), σ) := by
  intro n
  induction n with
  | zero =>
    intro a b v8 v9 h1 h2 h3 h4 h5
    omega
  | succ n ih =>
    intro a b v8 v9 h1 h2 h3 h4 h5
    have q1 : (jI b = 0) = (b = 0) := jI_eq (b := 0) (by omega) (by omega) (by omega) (by omega)
    rw [am_go dc_236_17]
    simp (disch := first | omega | exact ci_m | exact Nat.le_of_ble_eq_true rfl | (refine mF_lt ?_; omega)) only [own_236, am_go dc_236_0, J_lload_0, K_ll, ld_0, am_go dc_236_1, J_lconst, i64_0, am_go dc_236_2, J_lcmp, am_go dc_236_3, J_if_ge, am_go dc_236_6, am_go dc_236_7, J_lneg, am_go dc_236_8, J_goto, am_go dc_236_11, am_go dc_236_12, J_lstore, st2_0, st2_1, st2_s, kl_i, kl_l, kl_r, kl_n, am_go dc_236_14, J_lload_2, ld_2, am_go dc_236_15, J_lload, ld_6, am_go dc_236_19, am_go dc_236_20, am_go dc_236_21, J_if_eq, am_go dc_236_24, ld_4, am_go dc_236_26, am_go dc_236_28, J_lrem, am_go dc_236_29, am_go dc_236_31, am_go dc_236_33, am_go dc_236_35, ld_8, am_go dc_236_37, am_go dc_236_39, am_go dc_236_42, am_go dc_236_44, J_ret_l ret_236, mH_o, zI_add, zI_mul, zI_lt, zI_le, zI_eq, zI_neg, zI_pos, zI_ne0, zI_gt0, zB_0, lg_cmp_ge, lg_cmp_le, lg_cmp_gt, lg_cmp_lt, lg_cmp_eq, ail_r, abl_r, all_r, ais_r, abs_r, als_r, mF_len, List.length_cons, List.length_nil, Nat.reduceAdd, Nat.reduceLT, Nat.reduceLeDiff, Nat.reduceEqDiff, ↓reduceIte, bind_s, if_true, if_false, not_true_eq_false, not_false_eq_true, Nat.zero_add]
    unfold eu
    by_cases e : b = 0
    · subst e
      rw [if_pos (show jI 0 = 0 from rfl), if_pos (show jI 0 = 0 from rfl)]
    · have hb : 0 < b := by omega
      have h7 := Int.emod_nonneg a e
      have h8 := Int.emod_lt_of_pos a hb
      simp only [q1, e, if_false]
      rw [jI_rem h1 (by omega) hb (by omega)]
      exact ih b (a % b) _ _ h3 h5 h7 (by omega) (by omega)
theorem r_common {σ : am_S} {a b : Int} (h1 : -4611686018427387904 < a) (h2 : a < 4611686018427387904) (h3 : 0 ≤ b) (h4 : b < 128) : am_f X (d + 1) 236 [.long (jI a), .long (jI b)] σ = some (.inl (some (.long (eu 128 (if 0 ≤ jI a then jI a else -jI a) (jI b)))), σ) := by
  have q1 : (0 ≤ jI a) = (0 ≤ a) := jI_le (a := 0) (by omega) (by omega) (by omega) (by omega)
  have q2 : (jI a < 0) = (a < 0) := jI_lt (b := 0) (by omega) (by omega) (by omega) (by omega)
  rw [fU_236]
  simp (disch := first | omega | exact ci_m | exact Nat.le_of_ble_eq_true rfl | (refine mF_lt ?_; omega)) only [own_236, am_go dc_236_0, J_lload_0, K_ll, ld_0, am_go dc_236_1, J_lconst, i64_0, am_go dc_236_2, J_lcmp, am_go dc_236_3, J_if_ge, am_go dc_236_6, am_go dc_236_7, J_lneg, am_go dc_236_8, J_goto, am_go dc_236_11, am_go dc_236_12, J_lstore, st2_0, st2_1, st2_s, kl_i, kl_l, kl_r, kl_n, am_go dc_236_14, J_lload_2, ld_2, am_go dc_236_15, J_lload, ld_6, am_go dc_236_19, am_go dc_236_20, am_go dc_236_21, J_if_eq, am_go dc_236_24, ld_4, am_go dc_236_26, am_go dc_236_28, J_lrem, am_go dc_236_29, am_go dc_236_31, am_go dc_236_33, am_go dc_236_35, ld_8, am_go dc_236_37, am_go dc_236_39, am_go dc_236_42, am_go dc_236_44, J_ret_l ret_236, mH_o, zI_add, zI_mul, zI_lt, zI_le, zI_eq, zI_neg, zI_pos, zI_ne0, zI_gt0, zB_0, lg_cmp_ge, lg_cmp_le, lg_cmp_gt, lg_cmp_lt, lg_cmp_eq, ail_r, abl_r, all_r, ais_r, abs_r, als_r, mF_len, List.length_cons, List.length_nil, Nat.reduceAdd, Nat.reduceLT, Nat.reduceLeDiff, Nat.reduceEqDiff, ↓reduceIte, bind_s, if_true, if_false, not_true_eq_false, not_false_eq_true, Nat.zero_add]
  simp only [q1, jI_neg]
  by_cases e : 0 ≤ a
  · simp only [e, if_true]
    exact r_common_l 128 a b _ _ e h2 h3 (by omega) (by omega)
  · simp only [e, if_false]
    exact r_common_l 128 (-a) b _ _ (by omega) (by omega) h3 (by omega) (by omega)
end M8
