/-! Plan: breach -/
theorem ail_x {n i : Nat} {f : Nat → Int32} (h : i < n) (hn : n < 2147483648) : am_ail none (some (n, f)) (zI i) = some (f i) := by
  show (if am_in (zI i) n then some (f (zI i).toNatClampNeg) else none) = _
  rw [zI_in h hn, zI_nat (by omega)]
  rfl
theorem J_gs {X : am_X} {rec : am_O} {nx tg pc : Nat} {lv : am_L} {st : List Value} {σ : am_S} : am_J X rec 129 (some (.getstatic 209, nx, tg)) pc lv st σ = am_I X rec 129 nx lv (.ref X.2 :: st) σ := by
  rw [J_getstatic, own_129]
  rfl
def d5 (w : Nat) : Nat := if w ≤ 4 then w else 4
def N5 (S : Nat → Int32) : Nat := d5 (hw S 0) + 5 * d5 (hw S 1) + 25 * d5 (hw S 2) + 125 * d5 (hw S 3) + 625 * d5 (hw S 4)
theorem d5_le (w : Nat) : d5 w ≤ 4 := by
  unfold d5
  split <;> omega
theorem N5_lt (S : Nat → Int32) : N5 S < 3125 := by
  have h0 := d5_le (hw S 0)
  have h1 := d5_le (hw S 1)
  have h2 := d5_le (hw S 2)
  have h3 := d5_le (hw S 3)
  have h4 := d5_le (hw S 4)
  unfold N5
  omega
theorem qD5_v {S : Nat → Int32} {b : Nat} (h : qHw S) (hb : b < 5) : qD5 (S (90 + b)) = zI (d5 (hw S b)) := by
  obtain ⟨h1, h2⟩ := (h b hb).z (by omega)
  have h1' : S (90 + b) = zI (hw S b) := h1
  have h2' : hw S b ≤ 6 := h2
  rw [h1']
  unfold qD5 d5
  simp only [zI_le (show hw S b < 2147483648 by omega) (show 4 < 2147483648 by omega)]
  split <;> rfl
theorem q5_v {S : Nat → Int32} (h : qHw S) : q5 S 5 (zI 0) = zI (N5 S) := by
  show zI 5 * (zI 5 * (zI 5 * (zI 5 * (zI 5 * zI 0 + qD5 (S (90 + 4))) + qD5 (S (90 + 3))) + qD5 (S (90 + 2))) + qD5 (S (90 + 1))) + qD5 (S (90 + 0)) = _
  rw [qD5_v h (by omega), qD5_v h (by omega), qD5_v h (by omega), qD5_v h (by omega), qD5_v h (by omega)]
  simp only [zI_mul, zI_add]
  unfold N5
  congr 1
  omega
theorem N5_up {S : Nat → Int32} {b i : Nat} (hb : b < 5) (hi : i < 4) (ho : hw S b ≤ 2) : N5 (upd S (90 + b) (zI (3 + i))) = N5 S + ((if i = 0 then 3 else 4) - hw S b) * 5 ^ b := by
  have e1 : d5 (hw S b) = hw S b := if_pos (by omega)
  have e2 : d5 (hw (upd S (90 + b) (zI (3 + i))) b) = if i = 0 then 3 else 4 := by
    rw [hw_up (by omega)]
    unfold d5
    by_cases c : i = 0
    · rw [if_pos (by omega), if_pos c]; omega
    · rw [if_neg c]
      split <;> omega
  have e3 : ∀ c, c ≠ b → hw (upd S (90 + b) (zI (3 + i))) c = hw S c := fun c hc => hw_uo hc
  generalize (if i = 0 then 3 else 4) = x at *
  have hx : hw S b ≤ x := by
    have := d5_le (hw (upd S (90 + b) (zI (3 + i))) b)
    have h3 : 3 ≤ d5 (hw (upd S (90 + b) (zI (3 + i))) b) := by
      rw [hw_up (by omega)]
      unfold d5
      split <;> omega
    omega
  unfold N5
  rcases (by omega : b = 0 ∨ b = 1 ∨ b = 2 ∨ b = 3 ∨ b = 4) with rfl | rfl | rfl | rfl | rfl
  · rw [e3 1 (by omega), e3 2 (by omega), e3 3 (by omega), e3 4 (by omega), e1, e2]; omega
  · rw [e3 0 (by omega), e3 2 (by omega), e3 3 (by omega), e3 4 (by omega), e1, e2]; omega
  · rw [e3 0 (by omega), e3 1 (by omega), e3 3 (by omega), e3 4 (by omega), e1, e2]; omega
  · rw [e3 0 (by omega), e3 1 (by omega), e3 2 (by omega), e3 4 (by omega), e1, e2]; omega
  · rw [e3 0 (by omega), e3 1 (by omega), e3 2 (by omega), e3 3 (by omega), e1, e2]; omega
theorem m4_ge : ((0 : Int32) ≤ -4) = False := by decide
theorem five_v : ∀ b, b < 5 → am_five b = zI (5 ^ b) := by decide +kernel
theorem qBrL_nn {F : (Nat → Int32) → Int32} {S : Nat → Int32} {b : Nat} {f : Int32} (h : ¬ f < 0) : ∀ k i, qBrL F S b k i f = f
  | 0, _ => rfl
  | k + 1, i => if_neg h
def bV (x : Int32) : Prop := x = -4 ∨ ¬ x < 0
theorem qBrL_v {F : (Nat → Int32) → Int32} {S : Nat → Int32} {b : Nat} : ∀ (k i : Nat) (f : Int32), bV f → (∀ j, j < i + k → bV (F (upd S (90 + b) (zI (3 + j))))) → bV (qBrL F S b k i f)
  | 0, _, f, h, _ => h
  | k + 1, i, f, h, hF => by
    unfold qBrL
    split
    · split
      · exact qBrL_v k (i + 1) f h (fun j hj => hF j (by omega))
      · exact qBrL_v k (i + 1) _ (hF i (by omega)) (fun j hj => hF j (by omega))
    · exact h
theorem qBr_v : ∀ (n : Nat) (S : Nat → Int32), qHw S → qNn S → bV (qBr n S)
  | 0, S, _, _ => Or.inr (by show ¬ (0 : Int32) < 0; decide)
  | n + 1, S, hw, hn => by
    have h5 : bV (q5 S 5 (zI 0)) := by
      rw [q5_v hw]
      refine Or.inr ?_
      rw [zI_neg (by have := N5_lt S; omega)]
      exact id
    show bV (qBrS (qBr n) S)
    unfold qBrS
    split
    · split
      · exact h5
      · exact Or.inl rfl
    · split
      · exact h5
      · rename_i hc _
        rcases qRl_inv hn with q | ⟨b, b1, b2, b3, b4⟩
        · rw [q] at hc
          exact absurd m4_neg hc
        · have := hn.1
          have h4 := hn.2 b b1
          rw [b4]
          exact qBrL_v _ _ _ (Or.inl rfl) (fun j hj => qBr_v n _ (hw.up (by omega)) (hn.up (by omega)))
theorem lFr.tr {u u' u'' : mU} (h1 : lFr u u') (h2 : lFr u' u'') : lFr u u'' := ⟨h2.1.trans h1.1, h2.2.1.trans h1.2.1, h2.2.2.1.trans h1.2.2.1, h2.2.2.2.trans h1.2.2.2⟩
theorem lFr.kn {R : Nat → Int32} {T : mU × (Nat → Option Nat)} {Q N : Nat} {u u' : mU} (h : lFr u u') (hk : plKn R T Q u N) : plKn R T Q u' N := by
  obtain ⟨h1, h2, h3, h4⟩ := h
  obtain ⟨k1, k2, k3, k4⟩ := hk
  refine ⟨by rw [h4]; exact k1, ?_, by rw [h1]; exact k3, k4⟩
  unfold tabOk
  rw [h1, h2, h3]
  exact k2
section PB
variable {X : am_X} {C : Nat → Prop} {h : am_H} {l t m a N d r Q : Nat} {T : mU × (Nat → Option Nat)} {S R : Nat → Int32} {z : Nat × Nat} {u : mU}
theorem kn_at (hr : rOk T R Q) (hG : qG R) (hk : plKn R T Q u N) (hR : qRw R S) (hL : qPl S) : u.2.1 3 (ix R (qDg S) (rkN T S)) = (qB S).1 ∧ u.1 4 (ix R (qDg S) (rkN T S)) = (qB S).2 ∧ ix R (qDg S) (rkN T S) < N := by
  have e := tab_q hr hG hk.2.1 hk.2.2.1 11 S hR hL (by have := meas_le S; omega)
  obtain ⟨-, e1, -, -⟩ := lk_rk hr hG hR hL
  have hQ := hr.2.2.1
  exact ⟨congrArg Prod.fst e, congrArg Prod.snd e, idx_lt (lk_in hR) hG.m.2 (by omega) hk.2.2.2⟩
theorem lk_opn {b : Nat} (hr : rOk T R Q) (hG : qG R) (hk : plKn R T Q u N) (hR : qRw R S) (hL : qPl S) (hb : b < wN (R 116)) (hm : qMay S b = true) : cOpn R T (u.1 1) (tV R (u.2.1 3)) (qDg S) (rkN T S) b = qOpn S (fun S => (qB S).1) b := by
  have h5 := hG.m.2
  have hn4 := (hG.n hb).2.2
  have ho := qMay_le hL (by omega) hm
  unfold cOpn qOpn
  rw [hk.2.2.1 b hb, lk_ms hG hR hL, hR.r (by omega) (by omega), hR.r (by omega) (by omega)]
  refine fo_congr _ _ _ (fun j _ hj w => ?_)
  unfold oSt q_opn
  simp only
  rw [lk_ch hG hR hL hb (by omega) ho, lk_ao hR hL hb h5 (by omega) ho, ← lk_mx hr hG hR hL (hL.op hR hG hb (by omega)) hb (by omega) ho]
  have := (kn_at hr hG hk (hR.up (show b < 5 by omega)) (hL.op hR hG hb (show j < wN (R (18 * b + 3)) by omega))).1
  unfold ix at this
  unfold tV
  rw [this]
  by_cases q : qShows S b j = 0
  · rw [if_pos q, q, show (0 : Int32).toInt64 = 0 from rfl, Int64.zero_mul, Int64.add_zero]
  · rw [if_neg q]
theorem l_br_l {b k0 : Nat} {x6 : Int64} (hX : X.1 X.2 = some (5, am_five)) (hXn : ∀ u, lH h l (u, (t, m, a, N)) X.2 = none) (hG : qG R) (hr : rOk T R Q) (hS : ∀ u, tS C (lH h l (u, (t, m, a, N))) t T R) (hR : qRw R S) (hL : qPl S) (hb : b < wN (R 116)) (ho : hw S b ≤ 2) (hk0 : k0 < 5) (ih : ∀ i u, i < wN (R (18 * b + 3)) → plKn R T Q u N → ∃ u', am_f X (d + 4) 129 [.ref l, .int (zI (pk (qDg (upd S (90 + b) (zI (3 + i)))))), .int (zI (rkN T (upd S (90 + b) (zI (3 + i))))), .int (zI (N5 (upd S (90 + b) (zI (3 + i))))), .int (zI (k0 + 1))] (lH h l (u, (t, m, a, N)), z) = some (.inl (some (.int (qBf (upd S (90 + b) (zI (3 + i)))))), (lH h l (u', (t, m, a, N)), z)) ∧ lFr u u') : ∀ (k i : Nat) (u : mU) (v9 v10 : Option Value), i + k = wN (R (18 * b + 3)) → plKn R T Q u N → ∃ u', am_I X (am_f X (d + 4)) 129 74 [some (.ref l), some (.int (zI (pk (qDg S)))), some (.int (zI (rkN T S))), some (.int (zI (N5 S))), some (.int (zI k0)), some (.int (zI b)), some (.long x6), none, some (.int (zI i)), v9, v10] [] (lH h l (u, (t, m, a, N)), z) = some (.inl (some (.int (qBrL qBf S b k i (-4)))), (lH h l (u', (t, m, a, N)), z)) ∧ lFr u u' := by
  have t0 := fun u => (hS u).iT.c0
  have t1 := fun u => (hS u).iT.c1
  have t3 := fun u => (hS u).iT.c3
  have t4 := fun u => (hS u).iT.c4
  have t6 := fun u => (hS u).iT.c6
  have t7 := fun u => (hS u).iT.c7
  have hm5 := hG.m.2
  have hn4 := (hG.n hb).2.2
  have hn3 : wN (qRow R b 3) = wN (R (18 * b + 3)) := rfl
  have hQ := hr.2.2.1
  obtain ⟨-, r1, -, -⟩ := lk_rk hr hG hR hL
  have h5 := five_v b (by omega)
  intro k
  induction k with
  | zero =>
    intro i u v9 v10 hi hk
    obtain ⟨a', bb, ha, hB⟩ := (hS u).box hb
    have hi' : wN (R (18 * b + 3)) ≤ i := by omega
    refine ⟨u, ?_, rfl, rfl, rfl, rfl⟩
    rw [am_go dc_129_74]
    simp (disch := first | omega | exact Nat.le_of_ble_eq_true rfl | exact lH_ci | (refine lF_lt ?_; omega) | exact (hS _).iT.ci) only [own_129, am_go dc_129_0, J_aload_0, K_al, ld_0, am_go dc_129_1, J_iload_1, K_il, ld_1, am_go dc_129_2, J_iload_2, ld_2, am_go dc_129_3, cv_4_192_4 own_129, JR_v, JR_0, JR_ite, ci1_r, am_go dc_129_6, J_istore, st1_0, st1_1, st1_s, kl_i, kl_l, kl_r, kl_n, am_go dc_129_8, am_go dc_129_9, am_go dc_129_10, cv_4_77_4 own_129, am_go dc_129_13, J_iload, ld_5, am_go dc_129_15, J_if_ge, am_go dc_129_18, am_go dc_129_19, am_go dc_129_20, cv_4_137_4 own_129, am_go dc_129_23, J_goto, am_go dc_129_26, am_go dc_129_27, am_go dc_129_29, am_go dc_129_30, cv_4_140_4 own_129, am_go dc_129_33, J_lstore, st2_0, st2_1, st2_s, am_go dc_129_35, J_lload, K_ll, ld_6, am_go dc_129_37, am_go dc_129_38, J_getfield, gf_r, fk_4_15_4, am_go dc_129_41, am_go dc_129_42, fk_4_38_4, am_go dc_129_45, am_go dc_129_46, am_go dc_129_47, cv_4_150_1 own_129, am_go dc_129_50, J_laload, am_go dc_129_51, J_lcmp, am_go dc_129_52, am_go dc_129_55, J_iload_3, ld_3, am_go dc_129_56, J_ret_i ret_129, am_go dc_129_57, am_go dc_129_59, J_if_lt, am_go dc_129_62, ld_4, am_go dc_129_64, J_iconst, c32_5, am_go dc_129_65, J_icmp_lt, am_go dc_129_68, J_bipush, i8_m4, am_go dc_129_70, am_go dc_129_71, c32_0, am_go dc_129_72, ld_8, am_go dc_129_76, am_go dc_129_77, am_go dc_129_80, fk_4_56_1, am_go dc_129_83, am_go dc_129_85, J_aaload, am_go dc_129_86, am_go dc_129_89, J_icmp_ge, am_go dc_129_92, am_go dc_129_93, am_go dc_129_96, am_go dc_129_97, am_go dc_129_99, am_go dc_129_101, cv_4_120_1 own_129, am_go dc_129_104, J_if_le, am_go dc_129_107, am_go dc_129_109, J_if_ne, am_go dc_129_112, c32_3, am_go dc_129_113, am_go dc_129_116, c32_4, am_go dc_129_117, am_go dc_129_119, am_go dc_129_120, am_go dc_129_121, am_go dc_129_124, am_go dc_129_125, am_go dc_129_127, am_go dc_129_129, cv_4_124_1 own_129, am_go dc_129_132, am_go dc_129_133, am_go dc_129_134, am_go dc_129_137, am_go dc_129_139, am_go dc_129_141, cv_4_195_1 own_129, am_go dc_129_144, cm_4_198 own_129, mth_0, am_go dc_129_147, am_go dc_129_148, ld_9, am_go dc_129_150, am_go dc_129_151, am_go dc_129_153, cs_4_154 own_129, am_go dc_129_156, J_isub, am_go dc_129_157, J_getstatic, am_go dc_129_160, am_go dc_129_162, J_iaload, am_go dc_129_163, J_imul, am_go dc_129_164, J_iadd, am_go dc_129_165, am_go dc_129_167, c32_1, am_go dc_129_168, am_go dc_129_169, cv_4_203_4 own_129, am_go dc_129_174, ld_10, am_go dc_129_176, am_go dc_129_178, J_icmp_eq, am_go dc_129_181, am_go dc_129_183, am_go dc_129_184, J_iinc, pinc_go, am_go dc_129_187, am_go dc_129_190, am_go dc_129_192, lg_3, lg_0, tg_0, lH_0, lH_1, lH_4, lH_5, lH_6, lH_7, lH_8, lw_1, lw_4, lw_5, lw_6, lw_7, lw_8, zI_add, zI_mul, zI_lt, zI_le, zI_eq, zI_neg, zI_pos, zI_ne0, zI_gt0, zB_0, lg_cmp_ge, lg_cmp_le, lg_cmp_gt, lg_cmp_lt, lg_cmp_eq, ail_r, abl_r, all_r, ais_r, abs_r, als_r, aal_r, aal_q, aln_r, vrf_s, vrf_n, z32, t0, t1, t3, t4, t6, t7, ha, vx_4_117 own_129 hB, hn3, hi', List.length_cons, List.length_nil, Nat.reduceAdd, Nat.reduceLT, Nat.reduceLeDiff, Nat.reduceEqDiff, ↓reduceIte, bind_s, if_true, if_false, not_true_eq_false, not_false_eq_true, Nat.zero_add]
    all_goals rfl
  | succ k ihk =>
    intro i u v9 v10 hi hk
    obtain ⟨a', bb, ha, hB⟩ := (hS u).box hb
    have hii : i < wN (R (18 * b + 3)) := by omega
    have hlt : ¬ wN (R (18 * b + 3)) ≤ i := by omega
    have kch : am_f X (d + 4) 85 [.ref t, .int (zI (pk (qDg S))), .int (zI b), .int (zI i)] (lH h l (u, (t, m, a, N)), z) = _ := c_chanceAt (X := X) (d := d + 2) (z := z) (hS u) qDg_ok hb hii
    rw [lk_ch hG hR hL hb (by omega) ho] at kch
    obtain ⟨c, c1, c2⟩ := sh_v hG hR hb hii
    have hq : qBrL qBf S b (k + 1) i (-4) = if qShows S b i = 0 then qBrL qBf S b k (i + 1) (-4) else qBrL qBf S b k (i + 1) (qBf (upd S (90 + b) (zI (3 + i)))) := if_pos m4_neg
    rw [hq]
    rw [c1] at kch ⊢
    have ez : (zI c = 0) = (c = 0) := zI_ne0 (by omega)
    simp only [ez]
    by_cases c0 : c = 0
    · have cle : c ≤ 0 := by omega
      simp only [if_pos c0]
      obtain ⟨u', w1, w2⟩ := ihk (i + 1) u v9 v10 (by omega) hk
      refine ⟨u', Eq.trans ?_ w1, w2⟩
      rw [am_go dc_129_74]
      simp (disch := first | omega | exact Nat.le_of_ble_eq_true rfl | exact lH_ci | (refine lF_lt ?_; omega) | exact (hS _).iT.ci) only [own_129, am_go dc_129_0, J_aload_0, K_al, ld_0, am_go dc_129_1, J_iload_1, K_il, ld_1, am_go dc_129_2, J_iload_2, ld_2, am_go dc_129_3, cv_4_192_4 own_129, JR_v, JR_0, JR_ite, ci1_r, am_go dc_129_6, J_istore, st1_0, st1_1, st1_s, kl_i, kl_l, kl_r, kl_n, am_go dc_129_8, am_go dc_129_9, am_go dc_129_10, cv_4_77_4 own_129, am_go dc_129_13, J_iload, ld_5, am_go dc_129_15, J_if_ge, am_go dc_129_18, am_go dc_129_19, am_go dc_129_20, cv_4_137_4 own_129, am_go dc_129_23, J_goto, am_go dc_129_26, am_go dc_129_27, am_go dc_129_29, am_go dc_129_30, cv_4_140_4 own_129, am_go dc_129_33, J_lstore, st2_0, st2_1, st2_s, am_go dc_129_35, J_lload, K_ll, ld_6, am_go dc_129_37, am_go dc_129_38, J_getfield, gf_r, fk_4_15_4, am_go dc_129_41, am_go dc_129_42, fk_4_38_4, am_go dc_129_45, am_go dc_129_46, am_go dc_129_47, cv_4_150_1 own_129, am_go dc_129_50, J_laload, am_go dc_129_51, J_lcmp, am_go dc_129_52, am_go dc_129_55, J_iload_3, ld_3, am_go dc_129_56, J_ret_i ret_129, am_go dc_129_57, am_go dc_129_59, J_if_lt, am_go dc_129_62, ld_4, am_go dc_129_64, J_iconst, c32_5, am_go dc_129_65, J_icmp_lt, am_go dc_129_68, J_bipush, i8_m4, am_go dc_129_70, am_go dc_129_71, c32_0, am_go dc_129_72, ld_8, am_go dc_129_76, am_go dc_129_77, am_go dc_129_80, fk_4_56_1, am_go dc_129_83, am_go dc_129_85, J_aaload, am_go dc_129_86, am_go dc_129_89, J_icmp_ge, am_go dc_129_92, am_go dc_129_93, am_go dc_129_96, am_go dc_129_97, am_go dc_129_99, am_go dc_129_101, cv_4_120_1 own_129, am_go dc_129_104, J_if_le, am_go dc_129_107, am_go dc_129_109, J_if_ne, am_go dc_129_112, c32_3, am_go dc_129_113, am_go dc_129_116, c32_4, am_go dc_129_117, am_go dc_129_119, am_go dc_129_120, am_go dc_129_121, am_go dc_129_124, am_go dc_129_125, am_go dc_129_127, am_go dc_129_129, cv_4_124_1 own_129, am_go dc_129_132, am_go dc_129_133, am_go dc_129_134, am_go dc_129_137, am_go dc_129_139, am_go dc_129_141, cv_4_195_1 own_129, am_go dc_129_144, cm_4_198 own_129, mth_0, am_go dc_129_147, am_go dc_129_148, ld_9, am_go dc_129_150, am_go dc_129_151, am_go dc_129_153, cs_4_154 own_129, am_go dc_129_156, J_isub, am_go dc_129_157, J_getstatic, am_go dc_129_160, am_go dc_129_162, J_iaload, am_go dc_129_163, J_imul, am_go dc_129_164, J_iadd, am_go dc_129_165, am_go dc_129_167, c32_1, am_go dc_129_168, am_go dc_129_169, cv_4_203_4 own_129, am_go dc_129_174, ld_10, am_go dc_129_176, am_go dc_129_178, J_icmp_eq, am_go dc_129_181, am_go dc_129_183, am_go dc_129_184, J_iinc, pinc_go, am_go dc_129_187, am_go dc_129_190, am_go dc_129_192, lg_3, lg_0, tg_0, lH_0, lH_1, lH_4, lH_5, lH_6, lH_7, lH_8, lw_1, lw_4, lw_5, lw_6, lw_7, lw_8, zI_add, zI_mul, zI_lt, zI_le, zI_eq, zI_neg, zI_pos, zI_ne0, zI_gt0, zB_0, lg_cmp_ge, lg_cmp_le, lg_cmp_gt, lg_cmp_lt, lg_cmp_eq, ail_r, abl_r, all_r, ais_r, abs_r, als_r, aal_r, aal_q, aln_r, vrf_s, vrf_n, z32, t0, t1, t3, t4, t6, t7, ha, vx_4_117 own_129 hB, hn3, hlt, kch, zI_le0, cle, List.length_cons, List.length_nil, Nat.reduceAdd, Nat.reduceLT, Nat.reduceLeDiff, Nat.reduceEqDiff, ↓reduceIte, bind_s, if_true, if_false, not_true_eq_false, not_false_eq_true, Nat.zero_add]
    · have cle : ¬ c ≤ 0 := by omega
      simp only [if_neg c0]
      have kao : am_f X (d + 4) 73 [.ref t, .int (zI (pk (qDg S))), .int (zI b), .int (zI i)] (lH h l (u, (t, m, a, N)), z) = _ := c_afterOpening (X := X) (d := d + 3) (z := z) (hS u) qDg_ok hb (by omega)
      rw [lk_ao hR hL hb hm5 (by omega) ho] at kao
      have ksr : am_f X (d + 4) 91 [.ref t, .int (zI b), .int (zI i)] (lH h l (u, (t, m, a, N)), z) = _ := c_stepRank (X := X) (d := d + 3) (z := z) (hS u).iT (show b < 5 by omega) (show i < 4 by omega)
      obtain ⟨s1, s2, -⟩ := hr.sr hb hii
      rw [s1] at ksr
      have kdg : am_f X (d + 4) 86 [.int (zI (pk (qDg S))), .int (zI b)] (lH h l (u, (t, m, a, N)), z) = _ := c_digit (X := X) (d := d + 3) (z := z) qDg_ok (show b < 5 by omega)
      have edg : qDg S b = hw S b := by rw [dg_v hR hb hm5, if_pos ho]
      rw [edg] at kdg
      have hmx := lk_mx hr hG hR hL (hL.op hR hG hb hii) hb hii ho
      obtain ⟨u1, kr, kf⟩ := ih i u hii hk
      rw [hmx] at kr
      have hcond : (if zI (rkN T S) < zI (wN (T.1.1 6 (4 * b + i))) then zI (wN (T.1.1 6 (4 * b + i))) else zI (rkN T S)) = zI (rMx T (rkN T S) (4 * b + i)) := by
        unfold rMx
        simp only [zI_lt (show rkN T S < 2147483648 by omega) (show wN (T.1.1 6 (4 * b + i)) < 2147483648 by omega)]
        split <;> rfl
      have hN5 := N5_up (show b < 5 by omega) (show i < 4 by omega) ho
      have hXu := hXn u
      have hbv : bV (qBf (upd S (90 + b) (zI (3 + i)))) := qBr_v 11 _ (qHw.up (fun c hc => (hL c hc).1) (by omega)) ((qG_R hG hR).nn.up (by omega))
      obtain ⟨x9, hst⟩ : ∃ x9, am_I X (am_f X (d + 4)) 129 74 [some (.ref l), some (.int (zI (pk (qDg S)))), some (.int (zI (rkN T S))), some (.int (zI (N5 S))), some (.int (zI k0)), some (.int (zI b)), some (.long x6), none, some (.int (zI i)), v9, v10] [] (lH h l (u, (t, m, a, N)), z) = am_I X (am_f X (d + 4)) 129 172 [some (.ref l), some (.int (zI (pk (qDg S)))), some (.int (zI (rkN T S))), some (.int (zI (N5 S))), some (.int (zI k0)), some (.int (zI b)), some (.long x6), none, some (.int (zI i)), some (.int x9), v10] [.int (qBf (upd S (90 + b) (zI (3 + i))))] (lH h l (u1, (t, m, a, N)), z) := by
        generalize hq1 : rMx T (rkN T S) (4 * b + i) = q1 at *
        generalize wN (T.1.1 6 (4 * b + i)) = q2 at *
        by_cases i0 : i = 0
        · rw [if_pos i0] at hN5
          have e5 : zI (N5 S) + (zI 3 - zI (hw S b)) * am_five b = zI (N5 (upd S (90 + b) (zI (3 + i)))) := by
            rw [h5, hN5, zI_sub (by omega), zI_mul, zI_add]
          refine ⟨zI 3, ?_⟩
          generalize N5 (upd S (90 + b) (zI (3 + i))) = q5' at *
          generalize rkN T S = q3 at *
          have i1 : (i = 0) = True := eq_true i0
          rw [am_go dc_129_74]
          simp (disch := first | omega | exact Nat.le_of_ble_eq_true rfl | exact lH_ci | (refine lF_lt ?_; omega) | exact (hS _).iT.ci) only [own_129, am_go dc_129_0, J_aload_0, K_al, ld_0, am_go dc_129_1, J_iload_1, K_il, ld_1, am_go dc_129_2, J_iload_2, ld_2, am_go dc_129_3, cv_4_192_4 own_129, JR_v, JR_0, JR_ite, ci1_r, am_go dc_129_6, J_istore, st1_0, st1_1, st1_s, kl_i, kl_l, kl_r, kl_n, am_go dc_129_8, am_go dc_129_9, am_go dc_129_10, cv_4_77_4 own_129, am_go dc_129_13, J_iload, ld_5, am_go dc_129_15, J_if_ge, am_go dc_129_18, am_go dc_129_19, am_go dc_129_20, cv_4_137_4 own_129, am_go dc_129_23, J_goto, am_go dc_129_26, am_go dc_129_27, am_go dc_129_29, am_go dc_129_30, cv_4_140_4 own_129, am_go dc_129_33, J_lstore, st2_0, st2_1, st2_s, am_go dc_129_35, J_lload, K_ll, ld_6, am_go dc_129_37, am_go dc_129_38, J_getfield, gf_r, fk_4_15_4, am_go dc_129_41, am_go dc_129_42, fk_4_38_4, am_go dc_129_45, am_go dc_129_46, am_go dc_129_47, cv_4_150_1 own_129, am_go dc_129_50, J_laload, am_go dc_129_51, J_lcmp, am_go dc_129_52, am_go dc_129_55, J_iload_3, ld_3, am_go dc_129_56, J_ret_i ret_129, am_go dc_129_57, am_go dc_129_59, J_if_lt, am_go dc_129_62, ld_4, am_go dc_129_64, J_iconst, c32_5, am_go dc_129_65, J_icmp_lt, am_go dc_129_68, J_bipush, i8_m4, am_go dc_129_70, am_go dc_129_71, c32_0, am_go dc_129_72, ld_8, am_go dc_129_76, am_go dc_129_77, am_go dc_129_80, fk_4_56_1, am_go dc_129_83, am_go dc_129_85, J_aaload, am_go dc_129_86, am_go dc_129_89, J_icmp_ge, am_go dc_129_92, am_go dc_129_93, am_go dc_129_96, am_go dc_129_97, am_go dc_129_99, am_go dc_129_101, cv_4_120_1 own_129, am_go dc_129_104, J_if_le, am_go dc_129_107, am_go dc_129_109, J_if_ne, am_go dc_129_112, c32_3, am_go dc_129_113, am_go dc_129_116, c32_4, am_go dc_129_117, am_go dc_129_119, am_go dc_129_120, am_go dc_129_121, am_go dc_129_124, am_go dc_129_125, am_go dc_129_127, am_go dc_129_129, cv_4_124_1 own_129, am_go dc_129_132, am_go dc_129_133, am_go dc_129_134, am_go dc_129_137, am_go dc_129_139, am_go dc_129_141, cv_4_195_1 own_129, am_go dc_129_144, cm_4_198 own_129, mth_0, am_go dc_129_147, am_go dc_129_148, ld_9, am_go dc_129_150, am_go dc_129_151, am_go dc_129_153, cs_4_154 own_129, am_go dc_129_156, J_isub, am_go dc_129_157, am_go dc_129_160, am_go dc_129_162, J_iaload, am_go dc_129_163, J_imul, am_go dc_129_164, J_iadd, am_go dc_129_165, am_go dc_129_167, c32_1, am_go dc_129_168, am_go dc_129_169, cv_4_203_4 own_129, am_go dc_129_174, ld_10, am_go dc_129_176, am_go dc_129_178, J_icmp_eq, am_go dc_129_181, am_go dc_129_183, am_go dc_129_184, J_iinc, pinc_go, am_go dc_129_187, am_go dc_129_190, am_go dc_129_192, lg_3, lg_0, tg_0, lH_0, lH_1, lH_4, lH_5, lH_6, lH_7, lH_8, lw_1, lw_4, lw_5, lw_6, lw_7, lw_8, zI_add, zI_mul, zI_le, zI_eq, zI_neg, zI_pos, zI_ne0, zI_gt0, zB_0, lg_cmp_ge, lg_cmp_le, lg_cmp_gt, lg_cmp_lt, lg_cmp_eq, ail_r, abl_r, all_r, ais_r, abs_r, als_r, aal_r, aal_q, aln_r, vrf_s, vrf_n, z32, t0, t1, t3, t4, t6, t7, ha, vx_4_117 own_129 hB, hn3, hlt, kch, zI_le0, cle, kao, ksr, kdg, kr, hcond, J_gs, hXu, hX, ail_x, e5, i1, List.length_cons, List.length_nil, Nat.reduceAdd, Nat.reduceLT, Nat.reduceLeDiff, Nat.reduceEqDiff, ↓reduceIte, bind_s, if_true, if_false, not_true_eq_false, not_false_eq_true, Nat.zero_add]
        · rw [if_neg i0] at hN5
          have e5 : zI (N5 S) + (zI 4 - zI (hw S b)) * am_five b = zI (N5 (upd S (90 + b) (zI (3 + i)))) := by
            rw [h5, hN5, zI_sub (by omega), zI_mul, zI_add]
          refine ⟨zI 4, ?_⟩
          generalize N5 (upd S (90 + b) (zI (3 + i))) = q5' at *
          generalize rkN T S = q3 at *
          have i1 : (i = 0) = False := eq_false i0
          rw [am_go dc_129_74]
          simp (disch := first | omega | exact Nat.le_of_ble_eq_true rfl | exact lH_ci | (refine lF_lt ?_; omega) | exact (hS _).iT.ci) only [own_129, am_go dc_129_0, J_aload_0, K_al, ld_0, am_go dc_129_1, J_iload_1, K_il, ld_1, am_go dc_129_2, J_iload_2, ld_2, am_go dc_129_3, cv_4_192_4 own_129, JR_v, JR_0, JR_ite, ci1_r, am_go dc_129_6, J_istore, st1_0, st1_1, st1_s, kl_i, kl_l, kl_r, kl_n, am_go dc_129_8, am_go dc_129_9, am_go dc_129_10, cv_4_77_4 own_129, am_go dc_129_13, J_iload, ld_5, am_go dc_129_15, J_if_ge, am_go dc_129_18, am_go dc_129_19, am_go dc_129_20, cv_4_137_4 own_129, am_go dc_129_23, J_goto, am_go dc_129_26, am_go dc_129_27, am_go dc_129_29, am_go dc_129_30, cv_4_140_4 own_129, am_go dc_129_33, J_lstore, st2_0, st2_1, st2_s, am_go dc_129_35, J_lload, K_ll, ld_6, am_go dc_129_37, am_go dc_129_38, J_getfield, gf_r, fk_4_15_4, am_go dc_129_41, am_go dc_129_42, fk_4_38_4, am_go dc_129_45, am_go dc_129_46, am_go dc_129_47, cv_4_150_1 own_129, am_go dc_129_50, J_laload, am_go dc_129_51, J_lcmp, am_go dc_129_52, am_go dc_129_55, J_iload_3, ld_3, am_go dc_129_56, J_ret_i ret_129, am_go dc_129_57, am_go dc_129_59, J_if_lt, am_go dc_129_62, ld_4, am_go dc_129_64, J_iconst, c32_5, am_go dc_129_65, J_icmp_lt, am_go dc_129_68, J_bipush, i8_m4, am_go dc_129_70, am_go dc_129_71, c32_0, am_go dc_129_72, ld_8, am_go dc_129_76, am_go dc_129_77, am_go dc_129_80, fk_4_56_1, am_go dc_129_83, am_go dc_129_85, J_aaload, am_go dc_129_86, am_go dc_129_89, J_icmp_ge, am_go dc_129_92, am_go dc_129_93, am_go dc_129_96, am_go dc_129_97, am_go dc_129_99, am_go dc_129_101, cv_4_120_1 own_129, am_go dc_129_104, J_if_le, am_go dc_129_107, am_go dc_129_109, J_if_ne, am_go dc_129_112, c32_3, am_go dc_129_113, am_go dc_129_116, c32_4, am_go dc_129_117, am_go dc_129_119, am_go dc_129_120, am_go dc_129_121, am_go dc_129_124, am_go dc_129_125, am_go dc_129_127, am_go dc_129_129, cv_4_124_1 own_129, am_go dc_129_132, am_go dc_129_133, am_go dc_129_134, am_go dc_129_137, am_go dc_129_139, am_go dc_129_141, cv_4_195_1 own_129, am_go dc_129_144, cm_4_198 own_129, mth_0, am_go dc_129_147, am_go dc_129_148, ld_9, am_go dc_129_150, am_go dc_129_151, am_go dc_129_153, cs_4_154 own_129, am_go dc_129_156, J_isub, am_go dc_129_157, am_go dc_129_160, am_go dc_129_162, J_iaload, am_go dc_129_163, J_imul, am_go dc_129_164, J_iadd, am_go dc_129_165, am_go dc_129_167, c32_1, am_go dc_129_168, am_go dc_129_169, cv_4_203_4 own_129, am_go dc_129_174, ld_10, am_go dc_129_176, am_go dc_129_178, J_icmp_eq, am_go dc_129_181, am_go dc_129_183, am_go dc_129_184, J_iinc, pinc_go, am_go dc_129_187, am_go dc_129_190, am_go dc_129_192, lg_3, lg_0, tg_0, lH_0, lH_1, lH_4, lH_5, lH_6, lH_7, lH_8, lw_1, lw_4, lw_5, lw_6, lw_7, lw_8, zI_add, zI_mul, zI_le, zI_eq, zI_neg, zI_pos, zI_ne0, zI_gt0, zB_0, lg_cmp_ge, lg_cmp_le, lg_cmp_gt, lg_cmp_lt, lg_cmp_eq, ail_r, abl_r, all_r, ais_r, abs_r, als_r, aal_r, aal_q, aln_r, vrf_s, vrf_n, z32, t0, t1, t3, t4, t6, t7, ha, vx_4_117 own_129 hB, hn3, hlt, kch, zI_le0, cle, kao, ksr, kdg, kr, hcond, J_gs, hXu, hX, ail_x, e5, i1, List.length_cons, List.length_nil, Nat.reduceAdd, Nat.reduceLT, Nat.reduceLeDiff, Nat.reduceEqDiff, ↓reduceIte, bind_s, if_true, if_false, not_true_eq_false, not_false_eq_true, Nat.zero_add]
      rcases hbv with q | q
      · rw [q] at hst ⊢
        obtain ⟨u', w1, w2⟩ := ihk (i + 1) u1 (some (.int x9)) (some (.int (-4))) (by omega) (kf.kn hk)
        refine ⟨u', hst.trans (Eq.trans ?_ w1), kf.tr w2⟩
        rw [am_go dc_129_172]
        simp (disch := first | omega | exact Nat.le_of_ble_eq_true rfl | exact lH_ci | (refine lF_lt ?_; omega) | exact (hS _).iT.ci) only [own_129, am_go dc_129_0, J_aload_0, K_al, ld_0, am_go dc_129_1, J_iload_1, K_il, ld_1, am_go dc_129_2, J_iload_2, ld_2, am_go dc_129_3, cv_4_192_4 own_129, JR_v, JR_0, JR_ite, ci1_r, am_go dc_129_6, J_istore, st1_0, st1_1, st1_s, kl_i, kl_l, kl_r, kl_n, am_go dc_129_8, am_go dc_129_9, am_go dc_129_10, cv_4_77_4 own_129, am_go dc_129_13, J_iload, ld_5, am_go dc_129_15, J_if_ge, am_go dc_129_18, am_go dc_129_19, am_go dc_129_20, cv_4_137_4 own_129, am_go dc_129_23, J_goto, am_go dc_129_26, am_go dc_129_27, am_go dc_129_29, am_go dc_129_30, cv_4_140_4 own_129, am_go dc_129_33, J_lstore, st2_0, st2_1, st2_s, am_go dc_129_35, J_lload, K_ll, ld_6, am_go dc_129_37, am_go dc_129_38, J_getfield, gf_r, fk_4_15_4, am_go dc_129_41, am_go dc_129_42, fk_4_38_4, am_go dc_129_45, am_go dc_129_46, am_go dc_129_47, cv_4_150_1 own_129, am_go dc_129_50, J_laload, am_go dc_129_51, J_lcmp, am_go dc_129_52, am_go dc_129_55, J_iload_3, ld_3, am_go dc_129_56, J_ret_i ret_129, am_go dc_129_57, am_go dc_129_59, J_if_lt, am_go dc_129_62, ld_4, am_go dc_129_64, J_iconst, c32_5, am_go dc_129_65, J_icmp_lt, am_go dc_129_68, J_bipush, i8_m4, am_go dc_129_70, am_go dc_129_71, c32_0, am_go dc_129_72, ld_8, am_go dc_129_76, am_go dc_129_77, am_go dc_129_80, fk_4_56_1, am_go dc_129_83, am_go dc_129_85, J_aaload, am_go dc_129_86, am_go dc_129_89, J_icmp_ge, am_go dc_129_92, am_go dc_129_93, am_go dc_129_96, am_go dc_129_97, am_go dc_129_99, am_go dc_129_101, cv_4_120_1 own_129, am_go dc_129_104, J_if_le, am_go dc_129_107, am_go dc_129_109, J_if_ne, am_go dc_129_112, c32_3, am_go dc_129_113, am_go dc_129_116, c32_4, am_go dc_129_117, am_go dc_129_119, am_go dc_129_120, am_go dc_129_121, am_go dc_129_124, am_go dc_129_125, am_go dc_129_127, am_go dc_129_129, cv_4_124_1 own_129, am_go dc_129_132, am_go dc_129_133, am_go dc_129_134, am_go dc_129_137, am_go dc_129_139, am_go dc_129_141, cv_4_195_1 own_129, am_go dc_129_144, cm_4_198 own_129, mth_0, am_go dc_129_147, am_go dc_129_148, ld_9, am_go dc_129_150, am_go dc_129_151, am_go dc_129_153, cs_4_154 own_129, am_go dc_129_156, J_isub, am_go dc_129_157, J_getstatic, am_go dc_129_160, am_go dc_129_162, J_iaload, am_go dc_129_163, J_imul, am_go dc_129_164, J_iadd, am_go dc_129_165, am_go dc_129_167, c32_1, am_go dc_129_168, am_go dc_129_169, cv_4_203_4 own_129, am_go dc_129_174, ld_10, am_go dc_129_176, am_go dc_129_178, J_icmp_eq, am_go dc_129_181, am_go dc_129_183, am_go dc_129_184, J_iinc, pinc_go, am_go dc_129_187, am_go dc_129_190, am_go dc_129_192, lg_3, lg_0, tg_0, lH_0, lH_1, lH_4, lH_5, lH_6, lH_7, lH_8, lw_1, lw_4, lw_5, lw_6, lw_7, lw_8, zI_add, zI_mul, zI_lt, zI_le, zI_eq, zI_neg, zI_pos, zI_ne0, zI_gt0, zB_0, lg_cmp_ge, lg_cmp_le, lg_cmp_gt, lg_cmp_lt, lg_cmp_eq, ail_r, abl_r, all_r, ais_r, abs_r, als_r, aal_r, aal_q, aln_r, vrf_s, vrf_n, z32, t0, t1, t3, t4, t6, t7, List.length_cons, List.length_nil, Nat.reduceAdd, Nat.reduceLT, Nat.reduceLeDiff, Nat.reduceEqDiff, ↓reduceIte, bind_s, if_true, if_false, not_true_eq_false, not_false_eq_true, Nat.zero_add]
      · rw [qBrL_nn q]
        refine ⟨u1, hst.trans ?_, kf⟩
        have qn : ¬ qBf (upd S (90 + b) (zI (3 + i))) = -4 := fun e => q (by rw [e]; exact m4_neg)
        rw [am_go dc_129_172]
        simp (disch := first | omega | exact Nat.le_of_ble_eq_true rfl | exact lH_ci | (refine lF_lt ?_; omega) | exact (hS _).iT.ci) only [own_129, am_go dc_129_0, J_aload_0, K_al, ld_0, am_go dc_129_1, J_iload_1, K_il, ld_1, am_go dc_129_2, J_iload_2, ld_2, am_go dc_129_3, cv_4_192_4 own_129, JR_v, JR_0, JR_ite, ci1_r, am_go dc_129_6, J_istore, st1_0, st1_1, st1_s, kl_i, kl_l, kl_r, kl_n, am_go dc_129_8, am_go dc_129_9, am_go dc_129_10, cv_4_77_4 own_129, am_go dc_129_13, J_iload, ld_5, am_go dc_129_15, J_if_ge, am_go dc_129_18, am_go dc_129_19, am_go dc_129_20, cv_4_137_4 own_129, am_go dc_129_23, J_goto, am_go dc_129_26, am_go dc_129_27, am_go dc_129_29, am_go dc_129_30, cv_4_140_4 own_129, am_go dc_129_33, J_lstore, st2_0, st2_1, st2_s, am_go dc_129_35, J_lload, K_ll, ld_6, am_go dc_129_37, am_go dc_129_38, J_getfield, gf_r, fk_4_15_4, am_go dc_129_41, am_go dc_129_42, fk_4_38_4, am_go dc_129_45, am_go dc_129_46, am_go dc_129_47, cv_4_150_1 own_129, am_go dc_129_50, J_laload, am_go dc_129_51, J_lcmp, am_go dc_129_52, am_go dc_129_55, J_iload_3, ld_3, am_go dc_129_56, J_ret_i ret_129, am_go dc_129_57, am_go dc_129_59, J_if_lt, am_go dc_129_62, ld_4, am_go dc_129_64, J_iconst, c32_5, am_go dc_129_65, J_icmp_lt, am_go dc_129_68, J_bipush, i8_m4, am_go dc_129_70, am_go dc_129_71, c32_0, am_go dc_129_72, ld_8, am_go dc_129_76, am_go dc_129_77, am_go dc_129_80, fk_4_56_1, am_go dc_129_83, am_go dc_129_85, J_aaload, am_go dc_129_86, am_go dc_129_89, J_icmp_ge, am_go dc_129_92, am_go dc_129_93, am_go dc_129_96, am_go dc_129_97, am_go dc_129_99, am_go dc_129_101, cv_4_120_1 own_129, am_go dc_129_104, J_if_le, am_go dc_129_107, am_go dc_129_109, J_if_ne, am_go dc_129_112, c32_3, am_go dc_129_113, am_go dc_129_116, c32_4, am_go dc_129_117, am_go dc_129_119, am_go dc_129_120, am_go dc_129_121, am_go dc_129_124, am_go dc_129_125, am_go dc_129_127, am_go dc_129_129, cv_4_124_1 own_129, am_go dc_129_132, am_go dc_129_133, am_go dc_129_134, am_go dc_129_137, am_go dc_129_139, am_go dc_129_141, cv_4_195_1 own_129, am_go dc_129_144, cm_4_198 own_129, mth_0, am_go dc_129_147, am_go dc_129_148, ld_9, am_go dc_129_150, am_go dc_129_151, am_go dc_129_153, cs_4_154 own_129, am_go dc_129_156, J_isub, am_go dc_129_157, J_getstatic, am_go dc_129_160, am_go dc_129_162, J_iaload, am_go dc_129_163, J_imul, am_go dc_129_164, J_iadd, am_go dc_129_165, am_go dc_129_167, c32_1, am_go dc_129_168, am_go dc_129_169, cv_4_203_4 own_129, am_go dc_129_174, ld_10, am_go dc_129_176, am_go dc_129_178, J_icmp_eq, am_go dc_129_181, am_go dc_129_183, am_go dc_129_184, J_iinc, pinc_go, am_go dc_129_187, am_go dc_129_190, am_go dc_129_192, lg_3, lg_0, tg_0, lH_0, lH_1, lH_4, lH_5, lH_6, lH_7, lH_8, lw_1, lw_4, lw_5, lw_6, lw_7, lw_8, zI_add, zI_mul, zI_lt, zI_le, zI_eq, zI_neg, zI_pos, zI_ne0, zI_gt0, zB_0, lg_cmp_ge, lg_cmp_le, lg_cmp_gt, lg_cmp_lt, lg_cmp_eq, ail_r, abl_r, all_r, ais_r, abs_r, als_r, aal_r, aal_q, aln_r, vrf_s, vrf_n, z32, t0, t1, t3, t4, t6, t7, qn, List.length_cons, List.length_nil, Nat.reduceAdd, Nat.reduceLT, Nat.reduceLeDiff, Nat.reduceEqDiff, ↓reduceIte, bind_s, if_true, if_false, not_true_eq_false, not_false_eq_true, Nat.zero_add]
theorem l_br (hX : X.1 X.2 = some (5, am_five)) (hXn : ∀ u, lH h l (u, (t, m, a, N)) X.2 = none) (hG : qG R) (hr : rOk T R Q) (hN : tNm T R) (hS : ∀ u, tS C (lH h l (u, (t, m, a, N))) t T R) (hO : lOkk l (t, m, a, N)) (hN2 : N < 1000000) : ∀ (n : Nat) (S : Nat → Int32) (k0 : Nat) (u : mU), qRw R S → qPl S → uo S ≤ n → k0 + uo S ≤ 5 → plKn R T Q u N → ∃ u', am_f X (d + n + 5) 129 [.ref l, .int (zI (pk (qDg S))), .int (zI (rkN T S)), .int (zI (N5 S)), .int (zI k0)] (lH h l (u, (t, m, a, N)), z) = some (.inl (some (.int (qBf S))), (lH h l (u', (t, m, a, N)), z)) ∧ lFr u u' := by
  have t0 := fun u => (hS u).iT.c0
  have t1 := fun u => (hS u).iT.c1
  have t3 := fun u => (hS u).iT.c3
  have t4 := fun u => (hS u).iT.c4
  have t6 := fun u => (hS u).iT.c6
  have t7 := fun u => (hS u).iT.c7
  have hm5 := hG.m.2
  have hQ := hr.2.2.1
  intro n
  induction n with
  | zero =>
    intro S k0 u hR hL hu hk0 hk
    obtain ⟨-, r1, e3, -⟩ := lk_rk hr hG hR hL
    have krl : am_f X (d + 4) 103 [.ref l, .int (zI (pk (qDg S))), .int (zI (rkN T S))] (lH h l (u, (t, m, a, N)), z) = _ := l_ruleAt (X := X) (d := d) (z := z) (u := u) hS qDg_ok (show rkN T S < 21 by omega)
    rw [lk_rl hr hG hR hL hN] at krl
    obtain ⟨u1, g1, g2, g3⟩ := l_look (X := X) (d := d) (z := z) (u := u) (dg := qDg S) hS qDg_ok
    have hk1 := g3.kn hk
    obtain ⟨a1, a2, a3⟩ := kn_at hr hG hk1 hR hL
    have kst : am_f X (d + 4) 120 [.ref l, .int (zI (rkN T S))] (lH h l (u1, (t, m, a, N)), z) = _ := l_stop (X := X) (d := d + 3) (z := z) (u := u1) hS (show rkN T S < 21 by omega)
    rw [g2.2.1, e3, lk_ms hG hR hL] at kst
    have hix : am_f X (d + 4) 122 [.ref t, .int (zI (pk (qDg S))), .int (zI (rkN T S))] (lH h l (u1, (t, m, a, N)), z) = some (.inl (some (.int (zI (ix R (qDg S) (rkN T S))))), (lH h l (u1, (t, m, a, N)), z)) := c_index (X := X) (d := d + 3) (z := z) (dg := qDg S) (hS u1) (by omega)
    have hM := lM (h := h) (u := u1) hO
    have hnn : qNn S := (qG_R hG hR).nn
    have hhw : qHw S := fun c hc => (hL c hc).1
    rw [qBf_step hhw hnn]
    unfold qBrS
    rcases qRl_inv hnn with q | ⟨b, b1, b2, b3, b4⟩
    · rw [q] at krl ⊢
      rw [if_pos m4_neg, q5_v hhw]
      refine ⟨u1, ?_, g3⟩
      show am_f X (d + 4 + 1) 129 _ _ = _
      by_cases c : (qHas S).toInt64 * qMass S < (qB S).1
      · rw [if_pos c]
        have c' : ¬ (qB S).1 ≤ (qHas S).toInt64 * qMass S := Int64.not_le.mpr c
        rw [fU_129]
        simp (disch := first | omega | exact Nat.le_of_ble_eq_true rfl | exact lH_ci | (refine lF_lt ?_; omega) | exact (hS _).iT.ci) only [own_129, am_go dc_129_0, J_aload_0, K_al, ld_0, am_go dc_129_1, J_iload_1, K_il, ld_1, am_go dc_129_2, J_iload_2, ld_2, am_go dc_129_3, cv_4_192_4 own_129, JR_v, JR_0, JR_ite, ci1_r, am_go dc_129_6, J_istore, st1_0, st1_1, st1_s, kl_i, kl_l, kl_r, kl_n, am_go dc_129_8, am_go dc_129_9, am_go dc_129_10, cv_4_77_4 own_129, am_go dc_129_13, J_iload, ld_5, am_go dc_129_15, J_if_ge, am_go dc_129_18, am_go dc_129_19, am_go dc_129_20, cv_4_137_4 own_129, am_go dc_129_23, J_goto, am_go dc_129_26, am_go dc_129_27, am_go dc_129_29, am_go dc_129_30, cv_4_140_4 own_129, am_go dc_129_33, J_lstore, st2_0, st2_1, st2_s, am_go dc_129_35, J_lload, K_ll, ld_6, am_go dc_129_37, am_go dc_129_38, J_getfield, gf_r, fk_4_15_4, am_go dc_129_41, am_go dc_129_42, fk_4_38_4, am_go dc_129_45, am_go dc_129_46, am_go dc_129_47, cv_4_150_1 own_129, am_go dc_129_50, J_laload, am_go dc_129_51, J_lcmp, am_go dc_129_52, am_go dc_129_55, J_iload_3, ld_3, am_go dc_129_56, J_ret_i ret_129, am_go dc_129_57, am_go dc_129_59, J_if_lt, am_go dc_129_62, ld_4, am_go dc_129_64, J_iconst, c32_5, am_go dc_129_65, J_icmp_lt, am_go dc_129_68, J_bipush, i8_m4, am_go dc_129_70, am_go dc_129_71, c32_0, am_go dc_129_72, ld_8, am_go dc_129_76, am_go dc_129_77, am_go dc_129_80, fk_4_56_1, am_go dc_129_83, am_go dc_129_85, J_aaload, am_go dc_129_86, am_go dc_129_89, J_icmp_ge, am_go dc_129_92, am_go dc_129_93, am_go dc_129_96, am_go dc_129_97, am_go dc_129_99, am_go dc_129_101, cv_4_120_1 own_129, am_go dc_129_104, J_if_le, am_go dc_129_107, am_go dc_129_109, J_if_ne, am_go dc_129_112, c32_3, am_go dc_129_113, am_go dc_129_116, c32_4, am_go dc_129_117, am_go dc_129_119, am_go dc_129_120, am_go dc_129_121, am_go dc_129_124, am_go dc_129_125, am_go dc_129_127, am_go dc_129_129, cv_4_124_1 own_129, am_go dc_129_132, am_go dc_129_133, am_go dc_129_134, am_go dc_129_137, am_go dc_129_139, am_go dc_129_141, cv_4_195_1 own_129, am_go dc_129_144, cm_4_198 own_129, mth_0, am_go dc_129_147, am_go dc_129_148, ld_9, am_go dc_129_150, am_go dc_129_151, am_go dc_129_153, cs_4_154 own_129, am_go dc_129_156, J_isub, am_go dc_129_157, J_getstatic, am_go dc_129_160, am_go dc_129_162, J_iaload, am_go dc_129_163, J_imul, am_go dc_129_164, J_iadd, am_go dc_129_165, am_go dc_129_167, c32_1, am_go dc_129_168, am_go dc_129_169, cv_4_203_4 own_129, am_go dc_129_174, ld_10, am_go dc_129_176, am_go dc_129_178, J_icmp_eq, am_go dc_129_181, am_go dc_129_183, am_go dc_129_184, J_iinc, pinc_go, am_go dc_129_187, am_go dc_129_190, am_go dc_129_192, lg_3, lg_0, tg_0, lH_0, lH_1, lH_4, lH_5, lH_6, lH_7, lH_8, lw_1, lw_4, lw_5, lw_6, lw_7, lw_8, zI_add, zI_mul, zI_lt, zI_le, zI_eq, zI_neg, zI_pos, zI_ne0, zI_gt0, zB_0, lg_cmp_ge, lg_cmp_le, lg_cmp_gt, lg_cmp_lt, lg_cmp_eq, ail_r, abl_r, all_r, ais_r, abs_r, als_r, aal_r, aal_q, aln_r, vrf_s, vrf_n, z32, t0, t1, t3, t4, t6, t7, krl, g1, kst, hix, hM, a1, c', m4_lt, m4_ge, List.length_cons, List.length_nil, Nat.reduceAdd, Nat.reduceLT, Nat.reduceLeDiff, Nat.reduceEqDiff, ↓reduceIte, bind_s, if_true, if_false, not_true_eq_false, not_false_eq_true, Nat.zero_add]
      · rw [if_neg c]
        have c' : (qB S).1 ≤ (qHas S).toInt64 * qMass S := Int64.not_lt.mp c
        rw [fU_129]
        simp (disch := first | omega | exact Nat.le_of_ble_eq_true rfl | exact lH_ci | (refine lF_lt ?_; omega) | exact (hS _).iT.ci) only [own_129, am_go dc_129_0, J_aload_0, K_al, ld_0, am_go dc_129_1, J_iload_1, K_il, ld_1, am_go dc_129_2, J_iload_2, ld_2, am_go dc_129_3, cv_4_192_4 own_129, JR_v, JR_0, JR_ite, ci1_r, am_go dc_129_6, J_istore, st1_0, st1_1, st1_s, kl_i, kl_l, kl_r, kl_n, am_go dc_129_8, am_go dc_129_9, am_go dc_129_10, cv_4_77_4 own_129, am_go dc_129_13, J_iload, ld_5, am_go dc_129_15, J_if_ge, am_go dc_129_18, am_go dc_129_19, am_go dc_129_20, cv_4_137_4 own_129, am_go dc_129_23, J_goto, am_go dc_129_26, am_go dc_129_27, am_go dc_129_29, am_go dc_129_30, cv_4_140_4 own_129, am_go dc_129_33, J_lstore, st2_0, st2_1, st2_s, am_go dc_129_35, J_lload, K_ll, ld_6, am_go dc_129_37, am_go dc_129_38, J_getfield, gf_r, fk_4_15_4, am_go dc_129_41, am_go dc_129_42, fk_4_38_4, am_go dc_129_45, am_go dc_129_46, am_go dc_129_47, cv_4_150_1 own_129, am_go dc_129_50, J_laload, am_go dc_129_51, J_lcmp, am_go dc_129_52, am_go dc_129_55, J_iload_3, ld_3, am_go dc_129_56, J_ret_i ret_129, am_go dc_129_57, am_go dc_129_59, J_if_lt, am_go dc_129_62, ld_4, am_go dc_129_64, J_iconst, c32_5, am_go dc_129_65, J_icmp_lt, am_go dc_129_68, J_bipush, i8_m4, am_go dc_129_70, am_go dc_129_71, c32_0, am_go dc_129_72, ld_8, am_go dc_129_76, am_go dc_129_77, am_go dc_129_80, fk_4_56_1, am_go dc_129_83, am_go dc_129_85, J_aaload, am_go dc_129_86, am_go dc_129_89, J_icmp_ge, am_go dc_129_92, am_go dc_129_93, am_go dc_129_96, am_go dc_129_97, am_go dc_129_99, am_go dc_129_101, cv_4_120_1 own_129, am_go dc_129_104, J_if_le, am_go dc_129_107, am_go dc_129_109, J_if_ne, am_go dc_129_112, c32_3, am_go dc_129_113, am_go dc_129_116, c32_4, am_go dc_129_117, am_go dc_129_119, am_go dc_129_120, am_go dc_129_121, am_go dc_129_124, am_go dc_129_125, am_go dc_129_127, am_go dc_129_129, cv_4_124_1 own_129, am_go dc_129_132, am_go dc_129_133, am_go dc_129_134, am_go dc_129_137, am_go dc_129_139, am_go dc_129_141, cv_4_195_1 own_129, am_go dc_129_144, cm_4_198 own_129, mth_0, am_go dc_129_147, am_go dc_129_148, ld_9, am_go dc_129_150, am_go dc_129_151, am_go dc_129_153, cs_4_154 own_129, am_go dc_129_156, J_isub, am_go dc_129_157, J_getstatic, am_go dc_129_160, am_go dc_129_162, J_iaload, am_go dc_129_163, J_imul, am_go dc_129_164, J_iadd, am_go dc_129_165, am_go dc_129_167, c32_1, am_go dc_129_168, am_go dc_129_169, cv_4_203_4 own_129, am_go dc_129_174, ld_10, am_go dc_129_176, am_go dc_129_178, J_icmp_eq, am_go dc_129_181, am_go dc_129_183, am_go dc_129_184, J_iinc, pinc_go, am_go dc_129_187, am_go dc_129_190, am_go dc_129_192, lg_3, lg_0, tg_0, lH_0, lH_1, lH_4, lH_5, lH_6, lH_7, lH_8, lw_1, lw_4, lw_5, lw_6, lw_7, lw_8, zI_add, zI_mul, zI_lt, zI_le, zI_eq, zI_neg, zI_pos, zI_ne0, zI_gt0, zB_0, lg_cmp_ge, lg_cmp_le, lg_cmp_gt, lg_cmp_lt, lg_cmp_eq, ail_r, abl_r, all_r, ais_r, abs_r, als_r, aal_r, aal_q, aln_r, vrf_s, vrf_n, z32, t0, t1, t3, t4, t6, t7, krl, g1, kst, hix, hM, a1, c', m4_lt, m4_ge, List.length_cons, List.length_nil, Nat.reduceAdd, Nat.reduceLT, Nat.reduceLeDiff, Nat.reduceEqDiff, ↓reduceIte, bind_s, if_true, if_false, not_true_eq_false, not_false_eq_true, Nat.zero_add]
    · have := uo_pos (b := b) (show b < 5 by rw [hR.m] at b1; omega) (qMay_le hL (by rw [hR.m] at b1; omega) b3)
      omega
  | succ n ih =>
    intro S k0 u hR hL hu hk0 hk
    obtain ⟨-, r1, e3, -⟩ := lk_rk hr hG hR hL
    have krl : am_f X (d + n + 1 + 4) 103 [.ref l, .int (zI (pk (qDg S))), .int (zI (rkN T S))] (lH h l (u, (t, m, a, N)), z) = _ := l_ruleAt (X := X) (d := d + n + 1) (z := z) (u := u) hS qDg_ok (show rkN T S < 21 by omega)
    rw [lk_rl hr hG hR hL hN] at krl
    obtain ⟨u1, g1, g2, g3⟩ := l_look (X := X) (d := d + n + 1) (z := z) (u := u) (dg := qDg S) hS qDg_ok
    have hk1 := g3.kn hk
    obtain ⟨a1, a2, a3⟩ := kn_at hr hG hk1 hR hL
    have kst : am_f X (d + n + 1 + 4) 120 [.ref l, .int (zI (rkN T S))] (lH h l (u1, (t, m, a, N)), z) = _ := l_stop (X := X) (d := d + n + 4) (z := z) (u := u1) hS (show rkN T S < 21 by omega)
    rw [g2.2.1, e3, lk_ms hG hR hL] at kst
    have hix : am_f X (d + n + 1 + 4) 122 [.ref t, .int (zI (pk (qDg S))), .int (zI (rkN T S))] (lH h l (u1, (t, m, a, N)), z) = some (.inl (some (.int (zI (ix R (qDg S) (rkN T S))))), (lH h l (u1, (t, m, a, N)), z)) := c_index (X := X) (d := d + n + 4) (z := z) (dg := qDg S) (hS u1) (by omega)
    have hM := lM (h := h) (u := u1) hO
    have hnn : qNn S := (qG_R hG hR).nn
    have hhw : qHw S := fun c hc => (hL c hc).1
    rw [qBf_step hhw hnn]
    unfold qBrS
    rcases qRl_inv hnn with q | ⟨b, b1, b2, b3, b4⟩
    · rw [q] at krl ⊢
      rw [if_pos m4_neg, q5_v hhw]
      refine ⟨u1, ?_, g3⟩
      show am_f X (d + n + 1 + 4 + 1) 129 _ _ = _
      by_cases c : (qHas S).toInt64 * qMass S < (qB S).1
      · rw [if_pos c]
        have c' : ¬ (qB S).1 ≤ (qHas S).toInt64 * qMass S := Int64.not_le.mpr c
        rw [fU_129]
        simp (disch := first | omega | exact Nat.le_of_ble_eq_true rfl | exact lH_ci | (refine lF_lt ?_; omega) | exact (hS _).iT.ci) only [own_129, am_go dc_129_0, J_aload_0, K_al, ld_0, am_go dc_129_1, J_iload_1, K_il, ld_1, am_go dc_129_2, J_iload_2, ld_2, am_go dc_129_3, cv_4_192_4 own_129, JR_v, JR_0, JR_ite, ci1_r, am_go dc_129_6, J_istore, st1_0, st1_1, st1_s, kl_i, kl_l, kl_r, kl_n, am_go dc_129_8, am_go dc_129_9, am_go dc_129_10, cv_4_77_4 own_129, am_go dc_129_13, J_iload, ld_5, am_go dc_129_15, J_if_ge, am_go dc_129_18, am_go dc_129_19, am_go dc_129_20, cv_4_137_4 own_129, am_go dc_129_23, J_goto, am_go dc_129_26, am_go dc_129_27, am_go dc_129_29, am_go dc_129_30, cv_4_140_4 own_129, am_go dc_129_33, J_lstore, st2_0, st2_1, st2_s, am_go dc_129_35, J_lload, K_ll, ld_6, am_go dc_129_37, am_go dc_129_38, J_getfield, gf_r, fk_4_15_4, am_go dc_129_41, am_go dc_129_42, fk_4_38_4, am_go dc_129_45, am_go dc_129_46, am_go dc_129_47, cv_4_150_1 own_129, am_go dc_129_50, J_laload, am_go dc_129_51, J_lcmp, am_go dc_129_52, am_go dc_129_55, J_iload_3, ld_3, am_go dc_129_56, J_ret_i ret_129, am_go dc_129_57, am_go dc_129_59, J_if_lt, am_go dc_129_62, ld_4, am_go dc_129_64, J_iconst, c32_5, am_go dc_129_65, J_icmp_lt, am_go dc_129_68, J_bipush, i8_m4, am_go dc_129_70, am_go dc_129_71, c32_0, am_go dc_129_72, ld_8, am_go dc_129_76, am_go dc_129_77, am_go dc_129_80, fk_4_56_1, am_go dc_129_83, am_go dc_129_85, J_aaload, am_go dc_129_86, am_go dc_129_89, J_icmp_ge, am_go dc_129_92, am_go dc_129_93, am_go dc_129_96, am_go dc_129_97, am_go dc_129_99, am_go dc_129_101, cv_4_120_1 own_129, am_go dc_129_104, J_if_le, am_go dc_129_107, am_go dc_129_109, J_if_ne, am_go dc_129_112, c32_3, am_go dc_129_113, am_go dc_129_116, c32_4, am_go dc_129_117, am_go dc_129_119, am_go dc_129_120, am_go dc_129_121, am_go dc_129_124, am_go dc_129_125, am_go dc_129_127, am_go dc_129_129, cv_4_124_1 own_129, am_go dc_129_132, am_go dc_129_133, am_go dc_129_134, am_go dc_129_137, am_go dc_129_139, am_go dc_129_141, cv_4_195_1 own_129, am_go dc_129_144, cm_4_198 own_129, mth_0, am_go dc_129_147, am_go dc_129_148, ld_9, am_go dc_129_150, am_go dc_129_151, am_go dc_129_153, cs_4_154 own_129, am_go dc_129_156, J_isub, am_go dc_129_157, J_getstatic, am_go dc_129_160, am_go dc_129_162, J_iaload, am_go dc_129_163, J_imul, am_go dc_129_164, J_iadd, am_go dc_129_165, am_go dc_129_167, c32_1, am_go dc_129_168, am_go dc_129_169, cv_4_203_4 own_129, am_go dc_129_174, ld_10, am_go dc_129_176, am_go dc_129_178, J_icmp_eq, am_go dc_129_181, am_go dc_129_183, am_go dc_129_184, J_iinc, pinc_go, am_go dc_129_187, am_go dc_129_190, am_go dc_129_192, lg_3, lg_0, tg_0, lH_0, lH_1, lH_4, lH_5, lH_6, lH_7, lH_8, lw_1, lw_4, lw_5, lw_6, lw_7, lw_8, zI_add, zI_mul, zI_lt, zI_le, zI_eq, zI_neg, zI_pos, zI_ne0, zI_gt0, zB_0, lg_cmp_ge, lg_cmp_le, lg_cmp_gt, lg_cmp_lt, lg_cmp_eq, ail_r, abl_r, all_r, ais_r, abs_r, als_r, aal_r, aal_q, aln_r, vrf_s, vrf_n, z32, t0, t1, t3, t4, t6, t7, krl, g1, kst, hix, hM, a1, c', m4_lt, m4_ge, List.length_cons, List.length_nil, Nat.reduceAdd, Nat.reduceLT, Nat.reduceLeDiff, Nat.reduceEqDiff, ↓reduceIte, bind_s, if_true, if_false, not_true_eq_false, not_false_eq_true, Nat.zero_add]
      · rw [if_neg c]
        have c' : (qB S).1 ≤ (qHas S).toInt64 * qMass S := Int64.not_lt.mp c
        rw [fU_129]
        simp (disch := first | omega | exact Nat.le_of_ble_eq_true rfl | exact lH_ci | (refine lF_lt ?_; omega) | exact (hS _).iT.ci) only [own_129, am_go dc_129_0, J_aload_0, K_al, ld_0, am_go dc_129_1, J_iload_1, K_il, ld_1, am_go dc_129_2, J_iload_2, ld_2, am_go dc_129_3, cv_4_192_4 own_129, JR_v, JR_0, JR_ite, ci1_r, am_go dc_129_6, J_istore, st1_0, st1_1, st1_s, kl_i, kl_l, kl_r, kl_n, am_go dc_129_8, am_go dc_129_9, am_go dc_129_10, cv_4_77_4 own_129, am_go dc_129_13, J_iload, ld_5, am_go dc_129_15, J_if_ge, am_go dc_129_18, am_go dc_129_19, am_go dc_129_20, cv_4_137_4 own_129, am_go dc_129_23, J_goto, am_go dc_129_26, am_go dc_129_27, am_go dc_129_29, am_go dc_129_30, cv_4_140_4 own_129, am_go dc_129_33, J_lstore, st2_0, st2_1, st2_s, am_go dc_129_35, J_lload, K_ll, ld_6, am_go dc_129_37, am_go dc_129_38, J_getfield, gf_r, fk_4_15_4, am_go dc_129_41, am_go dc_129_42, fk_4_38_4, am_go dc_129_45, am_go dc_129_46, am_go dc_129_47, cv_4_150_1 own_129, am_go dc_129_50, J_laload, am_go dc_129_51, J_lcmp, am_go dc_129_52, am_go dc_129_55, J_iload_3, ld_3, am_go dc_129_56, J_ret_i ret_129, am_go dc_129_57, am_go dc_129_59, J_if_lt, am_go dc_129_62, ld_4, am_go dc_129_64, J_iconst, c32_5, am_go dc_129_65, J_icmp_lt, am_go dc_129_68, J_bipush, i8_m4, am_go dc_129_70, am_go dc_129_71, c32_0, am_go dc_129_72, ld_8, am_go dc_129_76, am_go dc_129_77, am_go dc_129_80, fk_4_56_1, am_go dc_129_83, am_go dc_129_85, J_aaload, am_go dc_129_86, am_go dc_129_89, J_icmp_ge, am_go dc_129_92, am_go dc_129_93, am_go dc_129_96, am_go dc_129_97, am_go dc_129_99, am_go dc_129_101, cv_4_120_1 own_129, am_go dc_129_104, J_if_le, am_go dc_129_107, am_go dc_129_109, J_if_ne, am_go dc_129_112, c32_3, am_go dc_129_113, am_go dc_129_116, c32_4, am_go dc_129_117, am_go dc_129_119, am_go dc_129_120, am_go dc_129_121, am_go dc_129_124, am_go dc_129_125, am_go dc_129_127, am_go dc_129_129, cv_4_124_1 own_129, am_go dc_129_132, am_go dc_129_133, am_go dc_129_134, am_go dc_129_137, am_go dc_129_139, am_go dc_129_141, cv_4_195_1 own_129, am_go dc_129_144, cm_4_198 own_129, mth_0, am_go dc_129_147, am_go dc_129_148, ld_9, am_go dc_129_150, am_go dc_129_151, am_go dc_129_153, cs_4_154 own_129, am_go dc_129_156, J_isub, am_go dc_129_157, J_getstatic, am_go dc_129_160, am_go dc_129_162, J_iaload, am_go dc_129_163, J_imul, am_go dc_129_164, J_iadd, am_go dc_129_165, am_go dc_129_167, c32_1, am_go dc_129_168, am_go dc_129_169, cv_4_203_4 own_129, am_go dc_129_174, ld_10, am_go dc_129_176, am_go dc_129_178, J_icmp_eq, am_go dc_129_181, am_go dc_129_183, am_go dc_129_184, J_iinc, pinc_go, am_go dc_129_187, am_go dc_129_190, am_go dc_129_192, lg_3, lg_0, tg_0, lH_0, lH_1, lH_4, lH_5, lH_6, lH_7, lH_8, lw_1, lw_4, lw_5, lw_6, lw_7, lw_8, zI_add, zI_mul, zI_lt, zI_le, zI_eq, zI_neg, zI_pos, zI_ne0, zI_gt0, zB_0, lg_cmp_ge, lg_cmp_le, lg_cmp_gt, lg_cmp_lt, lg_cmp_eq, ail_r, abl_r, all_r, ais_r, abs_r, als_r, aal_r, aal_q, aln_r, vrf_s, vrf_n, z32, t0, t1, t3, t4, t6, t7, krl, g1, kst, hix, hM, a1, c', m4_lt, m4_ge, List.length_cons, List.length_nil, Nat.reduceAdd, Nat.reduceLT, Nat.reduceLeDiff, Nat.reduceEqDiff, ↓reduceIte, bind_s, if_true, if_false, not_true_eq_false, not_false_eq_true, Nat.zero_add]
    · rw [hR.m] at b1
      have hb5 : b < 5 := by omega
      have ho := qMay_le hL hb5 b3
      have hup := uo_pos hb5 ho
      rw [b2] at krl
      have hneg : ¬ zI b < 0 := by rw [zI_neg (by omega)]; exact id
      rw [b2, if_neg hneg, wN_zI (by omega), q5_v hhw, hR.r hb5 (by omega)]
      have kop := l_open (X := X) (d := d + n + 3) (z := z) (u := u1) (r := rkN T S) hS hO hk.2.2.2 hN2 (lk_in hR) g2 b1 (by omega)
      rw [lk_opn hr hG hk1 hR hL b1 b3] at kop
      have hk5 : k0 < 5 := by omega
      have hn4 := (hG.n b1).2.2
      by_cases c : qOpn S (fun S => (qB S).1) b < (qB S).1
      · refine ⟨u1, ?_, g3⟩
        show am_f X (d + n + 1 + 4 + 1) 129 _ _ = _
        rw [if_pos c]
        have c' : ¬ (qB S).1 ≤ qOpn S (fun S => (qB S).1) b := Int64.not_le.mpr c
        generalize qOpn S (fun S => (qB S).1) b = qo at *
        rw [fU_129]
        simp (disch := first | omega | exact Nat.le_of_ble_eq_true rfl | exact lH_ci | (refine lF_lt ?_; omega) | exact (hS _).iT.ci) only [own_129, am_go dc_129_0, J_aload_0, K_al, ld_0, am_go dc_129_1, J_iload_1, K_il, ld_1, am_go dc_129_2, J_iload_2, ld_2, am_go dc_129_3, cv_4_192_4 own_129, JR_v, JR_0, JR_ite, ci1_r, am_go dc_129_6, J_istore, st1_0, st1_1, st1_s, kl_i, kl_l, kl_r, kl_n, am_go dc_129_8, am_go dc_129_9, am_go dc_129_10, cv_4_77_4 own_129, am_go dc_129_13, J_iload, ld_5, am_go dc_129_15, J_if_ge, am_go dc_129_18, am_go dc_129_19, am_go dc_129_20, cv_4_137_4 own_129, am_go dc_129_23, J_goto, am_go dc_129_26, am_go dc_129_27, am_go dc_129_29, am_go dc_129_30, cv_4_140_4 own_129, am_go dc_129_33, J_lstore, st2_0, st2_1, st2_s, am_go dc_129_35, J_lload, K_ll, ld_6, am_go dc_129_37, am_go dc_129_38, J_getfield, gf_r, fk_4_15_4, am_go dc_129_41, am_go dc_129_42, fk_4_38_4, am_go dc_129_45, am_go dc_129_46, am_go dc_129_47, cv_4_150_1 own_129, am_go dc_129_50, J_laload, am_go dc_129_51, J_lcmp, am_go dc_129_52, am_go dc_129_55, J_iload_3, ld_3, am_go dc_129_56, J_ret_i ret_129, am_go dc_129_57, am_go dc_129_59, J_if_lt, am_go dc_129_62, ld_4, am_go dc_129_64, J_iconst, c32_5, am_go dc_129_65, J_icmp_lt, am_go dc_129_68, J_bipush, i8_m4, am_go dc_129_70, am_go dc_129_71, c32_0, am_go dc_129_72, ld_8, am_go dc_129_76, am_go dc_129_77, am_go dc_129_80, fk_4_56_1, am_go dc_129_83, am_go dc_129_85, J_aaload, am_go dc_129_86, am_go dc_129_89, J_icmp_ge, am_go dc_129_92, am_go dc_129_93, am_go dc_129_96, am_go dc_129_97, am_go dc_129_99, am_go dc_129_101, cv_4_120_1 own_129, am_go dc_129_104, J_if_le, am_go dc_129_107, am_go dc_129_109, J_if_ne, am_go dc_129_112, c32_3, am_go dc_129_113, am_go dc_129_116, c32_4, am_go dc_129_117, am_go dc_129_119, am_go dc_129_120, am_go dc_129_121, am_go dc_129_124, am_go dc_129_125, am_go dc_129_127, am_go dc_129_129, cv_4_124_1 own_129, am_go dc_129_132, am_go dc_129_133, am_go dc_129_134, am_go dc_129_137, am_go dc_129_139, am_go dc_129_141, cv_4_195_1 own_129, am_go dc_129_144, cm_4_198 own_129, mth_0, am_go dc_129_147, am_go dc_129_148, ld_9, am_go dc_129_150, am_go dc_129_151, am_go dc_129_153, cs_4_154 own_129, am_go dc_129_156, J_isub, am_go dc_129_157, J_getstatic, am_go dc_129_160, am_go dc_129_162, J_iaload, am_go dc_129_163, J_imul, am_go dc_129_164, J_iadd, am_go dc_129_165, am_go dc_129_167, c32_1, am_go dc_129_168, am_go dc_129_169, cv_4_203_4 own_129, am_go dc_129_174, ld_10, am_go dc_129_176, am_go dc_129_178, J_icmp_eq, am_go dc_129_181, am_go dc_129_183, am_go dc_129_184, J_iinc, pinc_go, am_go dc_129_187, am_go dc_129_190, am_go dc_129_192, lg_3, lg_0, tg_0, lH_0, lH_1, lH_4, lH_5, lH_6, lH_7, lH_8, lw_1, lw_4, lw_5, lw_6, lw_7, lw_8, zI_add, zI_mul, zI_lt, zI_le, zI_eq, zI_neg, zI_pos, zI_ne0, zI_gt0, zB_0, lg_cmp_ge, lg_cmp_le, lg_cmp_gt, lg_cmp_lt, lg_cmp_eq, ail_r, abl_r, all_r, ais_r, abs_r, als_r, aal_r, aal_q, aln_r, vrf_s, vrf_n, z32, t0, t1, t3, t4, t6, t7, krl, g1, kop, hix, hM, a1, c', hneg, hk5, List.length_cons, List.length_nil, Nat.reduceAdd, Nat.reduceLT, Nat.reduceLeDiff, Nat.reduceEqDiff, ↓reduceIte, bind_s, if_true, if_false, not_true_eq_false, not_false_eq_true, Nat.zero_add]
      · have c' : (qB S).1 ≤ qOpn S (fun S => (qB S).1) b := Int64.not_lt.mp c
        obtain ⟨u', w1, w2⟩ := l_br_l (X := X) (d := d + n + 1) (z := z) (x6 := qOpn S (fun S => (qB S).1) b) hX hXn hG hr hS hR hL b1 ho hk5 (fun i u2 hi hk2 => by
          have e := uo_up hb5 (show i < 4 by omega) ho
          exact ih (upd S (90 + b) (zI (3 + i))) (k0 + 1) u2 (hR.up hb5) (hL.op hR hG b1 hi) (by omega) (by omega) hk2) (wN (R (18 * b + 3))) 0 u1 none none (Nat.zero_add _) hk1
        refine ⟨u', ?_, g3.tr w2⟩
        show am_f X (d + n + 1 + 4 + 1) 129 _ _ = _
        rw [if_neg c]
        refine Eq.trans ?_ w1
        generalize qOpn S (fun S => (qB S).1) b = qo at *
        rw [fU_129]
        simp (disch := first | omega | exact Nat.le_of_ble_eq_true rfl | exact lH_ci | (refine lF_lt ?_; omega) | exact (hS _).iT.ci) only [own_129, am_go dc_129_0, J_aload_0, K_al, ld_0, am_go dc_129_1, J_iload_1, K_il, ld_1, am_go dc_129_2, J_iload_2, ld_2, am_go dc_129_3, cv_4_192_4 own_129, JR_v, JR_0, JR_ite, ci1_r, am_go dc_129_6, J_istore, st1_0, st1_1, st1_s, kl_i, kl_l, kl_r, kl_n, am_go dc_129_8, am_go dc_129_9, am_go dc_129_10, cv_4_77_4 own_129, am_go dc_129_13, J_iload, ld_5, am_go dc_129_15, J_if_ge, am_go dc_129_18, am_go dc_129_19, am_go dc_129_20, cv_4_137_4 own_129, am_go dc_129_23, J_goto, am_go dc_129_26, am_go dc_129_27, am_go dc_129_29, am_go dc_129_30, cv_4_140_4 own_129, am_go dc_129_33, J_lstore, st2_0, st2_1, st2_s, am_go dc_129_35, J_lload, K_ll, ld_6, am_go dc_129_37, am_go dc_129_38, J_getfield, gf_r, fk_4_15_4, am_go dc_129_41, am_go dc_129_42, fk_4_38_4, am_go dc_129_45, am_go dc_129_46, am_go dc_129_47, cv_4_150_1 own_129, am_go dc_129_50, J_laload, am_go dc_129_51, J_lcmp, am_go dc_129_52, am_go dc_129_55, J_iload_3, ld_3, am_go dc_129_56, J_ret_i ret_129, am_go dc_129_57, am_go dc_129_59, J_if_lt, am_go dc_129_62, ld_4, am_go dc_129_64, J_iconst, c32_5, am_go dc_129_65, J_icmp_lt, am_go dc_129_68, J_bipush, i8_m4, am_go dc_129_70, am_go dc_129_71, c32_0, am_go dc_129_72, ld_8, am_go dc_129_76, am_go dc_129_77, am_go dc_129_80, fk_4_56_1, am_go dc_129_83, am_go dc_129_85, J_aaload, am_go dc_129_86, am_go dc_129_89, J_icmp_ge, am_go dc_129_92, am_go dc_129_93, am_go dc_129_96, am_go dc_129_97, am_go dc_129_99, am_go dc_129_101, cv_4_120_1 own_129, am_go dc_129_104, J_if_le, am_go dc_129_107, am_go dc_129_109, J_if_ne, am_go dc_129_112, c32_3, am_go dc_129_113, am_go dc_129_116, c32_4, am_go dc_129_117, am_go dc_129_119, am_go dc_129_120, am_go dc_129_121, am_go dc_129_124, am_go dc_129_125, am_go dc_129_127, am_go dc_129_129, cv_4_124_1 own_129, am_go dc_129_132, am_go dc_129_133, am_go dc_129_134, am_go dc_129_137, am_go dc_129_139, am_go dc_129_141, cv_4_195_1 own_129, am_go dc_129_144, cm_4_198 own_129, mth_0, am_go dc_129_147, am_go dc_129_148, ld_9, am_go dc_129_150, am_go dc_129_151, am_go dc_129_153, cs_4_154 own_129, am_go dc_129_156, J_isub, am_go dc_129_157, J_getstatic, am_go dc_129_160, am_go dc_129_162, J_iaload, am_go dc_129_163, J_imul, am_go dc_129_164, J_iadd, am_go dc_129_165, am_go dc_129_167, c32_1, am_go dc_129_168, am_go dc_129_169, cv_4_203_4 own_129, am_go dc_129_174, ld_10, am_go dc_129_176, am_go dc_129_178, J_icmp_eq, am_go dc_129_181, am_go dc_129_183, am_go dc_129_184, J_iinc, pinc_go, am_go dc_129_187, am_go dc_129_190, am_go dc_129_192, lg_3, lg_0, tg_0, lH_0, lH_1, lH_4, lH_5, lH_6, lH_7, lH_8, lw_1, lw_4, lw_5, lw_6, lw_7, lw_8, zI_add, zI_mul, zI_lt, zI_le, zI_eq, zI_neg, zI_pos, zI_ne0, zI_gt0, zB_0, lg_cmp_ge, lg_cmp_le, lg_cmp_gt, lg_cmp_lt, lg_cmp_eq, ail_r, abl_r, all_r, ais_r, abs_r, als_r, aal_r, aal_q, aln_r, vrf_s, vrf_n, z32, t0, t1, t3, t4, t6, t7, krl, g1, kop, hix, hM, a1, c', hneg, hk5, List.length_cons, List.length_nil, Nat.reduceAdd, Nat.reduceLT, Nat.reduceLeDiff, Nat.reduceEqDiff, ↓reduceIte, bind_s, if_true, if_false, not_true_eq_false, not_false_eq_true, Nat.zero_add]
theorem l_breach (hX : X.1 X.2 = some (5, am_five)) (hXz : X.2 < z.1) (hXl : lK l X.2 ∧ X.2 ≠ m ∧ X.2 ≠ a) (hXn : lH h l (u, (t, m, a, N)) X.2 = none) (hP : plOk C h l t m a N T S u z) (hr : rOk T S Q) (hN : tNm T S) (hk : u.2.2.1 2 = zI 0 ∨ plKn S T Q u N) (hL : qPl S) : ∃ h' u' m' a' N' z', am_f X (d + 11) 128 [.ref l, .int (zI (pk (qDg S))), .int (zI (rkN T S)), .int (zI (N5 S))] (lH h l (u, (t, m, a, N)), z) = some (.inl (some (.int (qBf S))), (lH h' l (u', (t, m', a', N')), z')) ∧ plOk C h' l t m' a' N' T S u' z' ∧ plKn S T Q u' N' ∧ (∀ x, x < z.1 → lK l x → x ≠ m → x ≠ a → lH h' l (u', (t, m', a', N')) x = lH h l (u, (t, m, a, N)) x) ∧ plGr S N N' m m' a a' z z' := by
  obtain ⟨h', u1, m', a', N', z', e1, e2, e3, e4, e5, e6⟩ := l_knows (X := X) (d := d + 3) hP hr hk
  have hXn' : ∀ u, lH h' l (u, (t, m', a', N')) X.2 = none := fun u' => by
    have q := e5 X.2 hXz hXl.1 hXl.2.1 hXl.2.2
    rw [hXn] at q
    have hm' : X.2 ≠ m' ∧ X.2 ≠ a' := by
      rcases e6 with w | w
      · rw [w.2.2.1, w.2.2.2]
        exact hXl.2
      · rw [w.2.2.2.1, w.2.2.2.2]
        omega
    rw [lX hXl.1 hm'.1 hm'.2] at q ⊢
    exact q
  obtain ⟨u', f1, f2⟩ := l_br (X := X) (d := d) (z := z') hX hXn' e2.1.2.1 hr hN e2.st e2.2.2.1 e2.2.2.2.1 5 S 0 u1 qRw.rf hL (uo_le S) (by have := uo_le S; omega) e3
  have e2' : plOk C h' l t m' a' N' T S u' z' := e2.uu
  refine ⟨h', u', m', a', N', z', ?_, e2', f2.kn e3, fun x x1 x2 x3 x4 => ?_, e6⟩
  · rw [fU_128]
    simp (disch := first | omega | exact Nat.le_of_ble_eq_true rfl | exact lH_ci) only [own_128, am_go dc_128_0, J_aload_0, K_al, ld_0, am_go dc_128_1, cv_4_173_4 own_128, JR_v, JR_0, JR_ite, ci1_r, am_go dc_128_4, am_go dc_128_5, J_iload_1, K_il, ld_1, am_go dc_128_6, J_iload_2, ld_2, am_go dc_128_7, J_iload_3, ld_3, am_go dc_128_8, J_iconst, c32_0, am_go dc_128_9, cv_4_203_4 own_128, am_go dc_128_12, J_ret_i ret_128, lH_0, lH_1, lH_4, lH_5, lH_6, lH_7, lH_8, lw_1, lw_4, lw_5, lw_6, lw_7, lw_8, zI_add, zI_mul, zI_lt, zI_le, zI_eq, zI_neg, zI_pos, zI_ne0, zI_gt0, zB_0, lg_cmp_ge, lg_cmp_le, lg_cmp_gt, lg_cmp_lt, lg_cmp_eq, ail_r, abl_r, all_r, ais_r, abs_r, als_r, aal_r, aal_q, aln_r, vrf_s, vrf_n, z32, e1, f1, List.length_cons, List.length_nil, Nat.reduceAdd, Nat.reduceLT, Nat.reduceLeDiff, Nat.reduceEqDiff, ↓reduceIte, bind_s, if_true, if_false, not_true_eq_false, not_false_eq_true, Nat.zero_add]
  · rw [← e5 x x1 x2 x3 x4]
    have hm' : x ≠ m' ∧ x ≠ a' := by
      rcases e6 with w | w
      · rw [w.2.2.1, w.2.2.2]
        exact ⟨x3, x4⟩
      · rw [w.2.2.2.1, w.2.2.2.2]
        omega
    rw [lX x2 hm'.1 hm'.2, lX x2 hm'.1 hm'.2]
end PB
