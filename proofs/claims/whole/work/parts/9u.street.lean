/-! Street: means -/
section SX
variable {h : am_H} {w t sA sN mA mN : Nat} {u : mU}
theorem wSp (hW : wOkk w (t, sA, sN, mA, mN)) : wH h w (u, (t, sA, sN, mA, mN)) sA = some (.inl (.int, sN, .inl (u.1 3))) := wH_s (D := (u, (t, sA, sN, mA, mN))) hW
theorem wMn (hW : wOkk w (t, sA, sN, mA, mN)) : wH h w (u, (t, sA, sN, mA, mN)) mA = some (.inl (.long, mN, .inr (.inl (u.2.1 4)))) := wH_m (D := (u, (t, sA, sN, mA, mN))) hW
theorem wSw {f : Nat → Int32} (hW : wOkk w (t, sA, sN, mA, mN)) : am_up (wH h w (u, (t, sA, sN, mA, mN))) sA (.inl (.int, sN, .inl f)) = wH h w (mS u 3 f, (t, sA, sN, mA, mN)) := ww_s (D := (u, (t, sA, sN, mA, mN))) hW
theorem wMw {f : Nat → Int64} (hW : wOkk w (t, sA, sN, mA, mN)) : am_up (wH h w (u, (t, sA, sN, mA, mN))) mA (.inl (.long, mN, .inr (.inl f))) = wH h w (mL u 4 f, (t, sA, sN, mA, mN)) := ww_m (D := (u, (t, sA, sN, mA, mN))) hW
end SX
/-- the mean in a layer -/
def wTt (sp : Nat → Int32) (M : Nat → Int64) (n L : Nat) (dg : Nat → Nat) (r : Nat) : Int64 := M (L * (21 * n) + (r * n + wN (sp (pk dg))))
def wSh (S : Nat → Int32) (T : mU × (Nat → Option Nat)) (sp : Nat → Int32) (M : Nat → Int64) (n L b : Nat) (dg : Nat → Nat) (r i : Nat) (v : Int64) : Int64 := v + (cCh S dg b i).toInt64 * wTt sp M n L (cAo S dg b i) (rMx T r (4 * b + i))
def wMe (S : Nat → Int32) (T : mU × (Nat → Option Nat)) (sp : Nat → Int32) (M : Nat → Int64) (n L b : Nat) (dg : Nat → Nat) (r : Nat) : Int64 := if cMay S dg b = true then (if fo (wSh S T sp M n L b dg r) 0 (wN (S (18 * b + 3))) 0 - (S (18 * b + 1)).toInt64 * cMs S dg < wTt sp M n L dg r then wTt sp M n L dg r else fo (wSh S T sp M n L b dg r) 0 (wN (S (18 * b + 3))) 0 - (S (18 * b + 1)).toInt64 * cMs S dg) else wTt sp M n L dg r
section SY
variable {X : am_X} {C : Nat → Prop} {h : am_H} {w t sA sN mA mN d n L Q b r : Nat} {T : mU × (Nat → Option Nat)} {S : Nat → Int32} {z : Nat × Nat} {u : mU} {dg : Nat → Nat}
theorem w_spot {k : Nat} (hS : ∀ u, tS C (wH h w (u, (t, sA, sN, mA, mN))) t T S) (hW : wOkk w (t, sA, sN, mA, mN)) (hn : u.2.2.1 2 = zI n) (hd : pk dg < sN) (hd2 : sN < 1000000) (hk : u.1 3 (pk dg) = zI k) (hb1 : r * n < 1000000) (hb2 : k < 1000000) (hn2 : n < 1000000) (hr2 : r < 1000000) : am_f X (d + 1) 150 [.ref w, .int (zI (pk dg)), .int (zI r)] (wH h w (u, (t, sA, sN, mA, mN)), z) = some (.inl (some (.int (zI (r * n + k)))), (wH h w (u, (t, sA, sN, mA, mN)), z)) := by
  have hA := wSp (h := h) (u := u) hW
  rw [fU_150]
  simp (disch := first | omega | exact Nat.le_of_ble_eq_true rfl | exact wH_ci | (refine wF_lt ?_; omega) | exact (hS _).iT.ci) only [own_150, am_go dc_150_0, J_iload_2, K_il, ld_2, am_go dc_150_1, J_aload_0, K_al, ld_0, am_go dc_150_2, J_getfield, gf_r, fk_5_62_5, am_go dc_150_5, J_imul, am_go dc_150_6, am_go dc_150_7, fk_5_15_5, am_go dc_150_10, J_iload_1, ld_1, am_go dc_150_11, J_iaload, am_go dc_150_12, J_iadd, am_go dc_150_13, J_ret_i ret_150, wg_2, wg_3, wH_0, wH_1, ww_1, zI_add, zI_mul, zI_lt, zI_le, zI_eq, zI_neg, zI_pos, zI_ne0, zI_gt0, zB_0, lg_cmp_ge, lg_cmp_le, lg_cmp_gt, lg_cmp_lt, lg_cmp_eq, ail_r, abl_r, all_r, ais_r, abs_r, als_r, aal_r, aal_q, aln_r, vrf_s, vrf_n, z32, hA, hn, hk, List.length_cons, List.length_nil, Nat.reduceAdd, Nat.reduceLT, Nat.reduceLeDiff, Nat.reduceEqDiff, ↓reduceIte, bind_s, if_true, if_false, not_true_eq_false, not_false_eq_true, Nat.zero_add]
theorem w_shown_l (hS : ∀ u, tS C (wH h w (u, (t, sA, sN, mA, mN))) t T S) (hW : wOkk w (t, sA, sN, mA, mN)) (hn : u.2.2.1 2 = zI n) (hd : dIn S dg) (hm : mN < 1000000) (hn2 : n ≤ 162) (hr : rOk T S Q) (hrQ : r < Q) (hL : L ≤ 5) (hNm : L * (21 * n) + 21 * n ≤ mN) (hNs : 4 ^ wN (S 116) ≤ sN) (hNs2 : sN < 1000000) (hb : b < wN (S 116)) (hk : ∀ i, i < wN (S (18 * b + 3)) → ∃ k, k < n ∧ u.1 3 (pk (cAo S dg b i)) = zI k) : ∀ (k i : Nat) (v : Int64) (v8 : Option Value), i + k = wN (S (18 * b + 3)) → am_I X (am_f X (d + 2)) 153 6 [some (.ref w), some (.int (zI b)), some (.int (zI (L * (21 * n)))), some (.int (zI (pk dg))), some (.int (zI r)), some (.long v), none, some (.int (zI i)), v8] [] (wH h w (u, (t, sA, sN, mA, mN)), z) = some (.inl (some (.long (fo (wSh S T (u.1 3) (u.2.1 4) n L b dg r) i k v))), (wH h w (u, (t, sA, sN, mA, mN)), z)) := by
  have t0 := fun u => (hS u).iT.c0
  have t1 := fun u => (hS u).iT.c1
  have t3 := fun u => (hS u).iT.c3
  have t4 := fun u => (hS u).iT.c4
  have t6 := fun u => (hS u).iT.c6
  have hG := (hS u).2.1
  have hm5 := hG.m.2
  have hQ := hr.2.2.1
  have hn4 := (hG.n hb).2.2
  obtain ⟨a', bb, ha, hB⟩ := (hS u).box hb
  have hM := wMn (h := h) (u := u) hW
  have h3 : wN (qRow S b 3) = wN (S (18 * b + 3)) := rfl
  intro k
  induction k with
  | zero =>
    intro i v v8 hi
    have hi' : wN (S (18 * b + 3)) ≤ i := by omega
    rw [am_go dc_153_6]
    simp (disch := first | omega | exact Nat.le_of_ble_eq_true rfl | exact wH_ci | (refine wF_lt ?_; omega) | exact (hS _).iT.ci) only [own_153, am_go dc_153_0, J_lconst, i64_0, am_go dc_153_1, J_lstore, st2_0, st2_1, st2_s, kl_i, kl_l, kl_r, kl_n, am_go dc_153_3, J_iconst, c32_0, am_go dc_153_4, J_istore, st1_0, st1_1, st1_s, J_iload, K_il, ld_7, am_go dc_153_8, J_aload_0, K_al, ld_0, am_go dc_153_9, J_getfield, gf_r, fk_5_22_5, am_go dc_153_12, fk_5_102_1, am_go dc_153_15, J_iload_1, ld_1, am_go dc_153_16, J_aaload, am_go dc_153_17, JR_v, JR_0, JR_ite, ci1_r, am_go dc_153_20, J_icmp_ge, am_go dc_153_23, ld_4, am_go dc_153_25, am_go dc_153_26, am_go dc_153_29, am_go dc_153_30, am_go dc_153_32, cv_5_126_1 own_153, am_go dc_153_35, cm_5_129 own_153, mth_0, am_go dc_153_38, am_go dc_153_40, J_lload, K_ll, ld_5, am_go dc_153_42, am_go dc_153_43, am_go dc_153_46, J_iload_3, ld_3, am_go dc_153_47, am_go dc_153_48, am_go dc_153_50, cv_5_131_1 own_153, am_go dc_153_53, J_i2l, am_go dc_153_54, am_go dc_153_55, fk_5_18_5, am_go dc_153_58, J_iload_2, ld_2, am_go dc_153_59, am_go dc_153_60, am_go dc_153_61, am_go dc_153_64, am_go dc_153_65, am_go dc_153_66, am_go dc_153_68, cv_5_135_1 own_153, am_go dc_153_71, ld_8, am_go dc_153_73, cv_5_89_5 own_153, am_go dc_153_76, J_iadd, am_go dc_153_77, J_laload, am_go dc_153_78, J_lmul, am_go dc_153_79, J_ladd, am_go dc_153_80, am_go dc_153_82, J_iinc, pinc_go, c32_1, am_go dc_153_85, J_goto, am_go dc_153_88, am_go dc_153_90, J_ret_l ret_153, wg_0, tg_0, wg_4, wH_0, wH_1, ww_1, zI_add, zI_mul, zI_lt, zI_le, zI_eq, zI_neg, zI_pos, zI_ne0, zI_gt0, zB_0, lg_cmp_ge, lg_cmp_le, lg_cmp_gt, lg_cmp_lt, lg_cmp_eq, ail_r, abl_r, all_r, ais_r, abs_r, als_r, aal_r, aal_q, aln_r, vrf_s, vrf_n, z32, t0, t1, t3, t4, t6, ha, vx_5_123 own_153 hB, h3, hi', List.length_cons, List.length_nil, Nat.reduceAdd, Nat.reduceLT, Nat.reduceLeDiff, Nat.reduceEqDiff, ↓reduceIte, bind_s, if_true, if_false, not_true_eq_false, not_false_eq_true, Nat.zero_add]
    rfl
  | succ k ih =>
    intro i v v8 hi
    have hlt : ¬ wN (S (18 * b + 3)) ≤ i := by omega
    have hi4 : i < wN (S (18 * b + 3)) := by omega
    obtain ⟨ks, k1, k2⟩ := hk i hi4
    obtain ⟨q, q1, q2, -⟩ := hr.2.2.2.2.2 b i hb hi4
    have kr : am_f X (d + 1 + 1) 91 [.ref t, .int (zI b), .int (zI i)] (wH h w (u, (t, sA, sN, mA, mN)), z) = some (.inl (some (.int (zI q))), (wH h w (u, (t, sA, sN, mA, mN)), z)) := by
      rw [← q2]
      exact c_stepRank (X := X) (d := d + 1) (hS u).iT (by omega) (by omega)
    have kc : am_f X (d + 1 + 1) 85 [.ref t, .int (zI (pk dg)), .int (zI b), .int (zI i)] (wH h w (u, (t, sA, sN, mA, mN)), z) = some (.inl (some (.int (cCh S dg b i))), (wH h w (u, (t, sA, sN, mA, mN)), z)) := c_chanceAt (X := X) (d := d) (hS u) hd.1 hb hi4
    have ka : am_f X (d + 1 + 1) 73 [.ref t, .int (zI (pk dg)), .int (zI b), .int (zI i)] (wH h w (u, (t, sA, sN, mA, mN)), z) = some (.inl (some (.int (zI (pk (cAo S dg b i))))), (wH h w (u, (t, sA, sN, mA, mN)), z)) := c_afterOpening (X := X) (d := d + 1) (hS u) hd.1 hb (by omega)
    have hpk := pkm_lt (hd.ao (i := i) hm5 hb) hm5
    have hmx : (if r < q then zI q else zI r) = zI (rMx T r (4 * b + i)) := by
      unfold rMx
      rw [q2, wN_zI (by omega)]
      split <;> rfl
    have hrm : rMx T r (4 * b + i) < 21 := by
      unfold rMx
      rw [q2, wN_zI (by omega)]
      split <;> omega
    have hrn : rMx T r (4 * b + i) * n ≤ 20 * n := Nat.mul_le_mul_right n (by omega)
    have hLn : L * (21 * n) ≤ 5 * (21 * n) := Nat.mul_le_mul_right _ hL
    have ks' : am_f X (d + 1 + 1) 150 [.ref w, .int (zI (pk (cAo S dg b i))), .int (zI (rMx T r (4 * b + i)))] (wH h w (u, (t, sA, sN, mA, mN)), z) = _ := w_spot (X := X) (d := d + 1) (k := ks) hS hW hn (by omega) hNs2 k2 (by omega) (by omega) (by omega) (by omega)
    have e0 : fo (wSh S T (u.1 3) (u.2.1 4) n L b dg r) i (k + 1) v = fo (wSh S T (u.1 3) (u.2.1 4) n L b dg r) (i + 1) k (v + (cCh S dg b i).toInt64 * u.2.1 4 (L * (21 * n) + (rMx T r (4 * b + i) * n + ks))) := by
      show fo _ (i + 1) k (wSh S T (u.1 3) (u.2.1 4) n L b dg r i v) = _
      unfold wSh wTt
      rw [k2, wN_zI (by omega)]
    rw [e0, ← ih (i + 1) _ (some (.int (zI (rMx T r (4 * b + i))))) (by omega), am_go dc_153_6]
    simp (disch := first | omega | exact Nat.le_of_ble_eq_true rfl | exact wH_ci | (refine wF_lt ?_; omega) | exact (hS _).iT.ci) only [own_153, am_go dc_153_0, J_lconst, i64_0, am_go dc_153_1, J_lstore, st2_0, st2_1, st2_s, kl_i, kl_l, kl_r, kl_n, am_go dc_153_3, J_iconst, c32_0, am_go dc_153_4, J_istore, st1_0, st1_1, st1_s, J_iload, K_il, ld_7, am_go dc_153_8, J_aload_0, K_al, ld_0, am_go dc_153_9, J_getfield, gf_r, fk_5_22_5, am_go dc_153_12, fk_5_102_1, am_go dc_153_15, J_iload_1, ld_1, am_go dc_153_16, J_aaload, am_go dc_153_17, JR_v, JR_0, JR_ite, ci1_r, am_go dc_153_20, J_icmp_ge, am_go dc_153_23, ld_4, am_go dc_153_25, am_go dc_153_26, am_go dc_153_29, am_go dc_153_30, am_go dc_153_32, cv_5_126_1 own_153, am_go dc_153_35, cm_5_129 own_153, mth_0, am_go dc_153_38, am_go dc_153_40, J_lload, K_ll, ld_5, am_go dc_153_42, am_go dc_153_43, am_go dc_153_46, J_iload_3, ld_3, am_go dc_153_47, am_go dc_153_48, am_go dc_153_50, cv_5_131_1 own_153, am_go dc_153_53, J_i2l, am_go dc_153_54, am_go dc_153_55, fk_5_18_5, am_go dc_153_58, J_iload_2, ld_2, am_go dc_153_59, am_go dc_153_60, am_go dc_153_61, am_go dc_153_64, am_go dc_153_65, am_go dc_153_66, am_go dc_153_68, cv_5_135_1 own_153, am_go dc_153_71, ld_8, am_go dc_153_73, cv_5_89_5 own_153, am_go dc_153_76, J_iadd, am_go dc_153_77, J_laload, am_go dc_153_78, J_lmul, am_go dc_153_79, J_ladd, am_go dc_153_80, am_go dc_153_82, J_iinc, pinc_go, c32_1, am_go dc_153_85, J_goto, am_go dc_153_88, am_go dc_153_90, J_ret_l ret_153, wg_0, tg_0, wg_4, wH_0, wH_1, ww_1, zI_add, zI_mul, zI_lt, zI_le, zI_eq, zI_neg, zI_pos, zI_ne0, zI_gt0, zB_0, lg_cmp_ge, lg_cmp_le, lg_cmp_gt, lg_cmp_lt, lg_cmp_eq, ail_r, abl_r, all_r, ais_r, abs_r, als_r, aal_r, aal_q, aln_r, vrf_s, vrf_n, z32, t0, t1, t3, t4, t6, ha, vx_5_123 own_153 hB, h3, hlt, kr, kc, ka, hmx, ks', hM, List.length_cons, List.length_nil, Nat.reduceAdd, Nat.reduceLT, Nat.reduceLeDiff, Nat.reduceEqDiff, ↓reduceIte, bind_s, if_true, if_false, not_true_eq_false, not_false_eq_true, Nat.zero_add]
end SY
