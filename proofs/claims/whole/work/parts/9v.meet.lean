/-! Street: meet, putAhead, stopAt -/
/-- the codes found -/
def wCd (S : Nat → Int32) (n : Nat) (u : mU) : Prop := u.2.2.1 2 = zI n ∧ n ≤ 162 ∧ (∀ k, k < n → ∃ dg, wVd S dg ∧ u.1 1 k = zI (pk dg) ∧ u.1 3 (pk dg) = zI k) ∧ (∀ dg, wVd S dg → ∃ k, k < n ∧ u.1 1 k = zI (pk dg) ∧ u.1 3 (pk dg) = zI k) ∧ u.1 3 0 = zI 0
section SZ
variable {X : am_X} {C : Nat → Prop} {h : am_H} {w t sA sN mA mN d n L Q b r : Nat} {T : mU × (Nat → Option Nat)} {S : Nat → Int32} {z : Nat × Nat} {u : mU} {dg : Nat → Nat}
theorem wVd.ao {i : Nat} (h5 : wN (S 116) ≤ 5) (h : wVd S dg) (hb : b < wN (S 116)) : wVd S (cAo S dg b i) := by
  have hd := h.1.ao (i := i) h5 hb
  refine ⟨hd, (wVd_iff hd).mpr (fun c hc => ?_)⟩
  unfold cAo cOp
  by_cases e : c = b
  · subst e
    rw [dset_s]
    by_cases q : i = 0 ∧ S (18 * c) = zI 4
    · have h4 := h.1.1 c (by omega)
      have h0 := (wVd_iff h.1).mp h.2 c hc
      unfold cOp at h0
      simp only [Bool.or_eq_true, Bool.and_eq_true, decide_eq_true_eq] at h0
      rw [if_pos q]
      rcases (by omega : dg c = 0 ∨ dg c = 1 ∨ dg c = 3) with e | e | e
      · rw [e]
        simp [q.2]
      · rw [e]
        simp [q.2]
      · rw [e]
        simp
    · simp [q]
  · rw [dset_o e]
    have := (wVd_iff h.1).mp h.2 c hc
    unfold cOp at this
    exact this
theorem mLL {j : Nat} {f g : Nat → Int64} : mL (mL u j f) j g = mL u j g := by
  unfold mL
  congr 2
  funext k
  by_cases e : k = j <;> simp [e]
theorem wCd.mL {M : Nat → Int64} (h : wCd S n u) : wCd S n (mL u 4 M) := h
theorem wTt_cg {sp : Nat → Int32} {M M' : Nat → Int64} {k : Nat} (hk : sp (pk dg) = zI k) (hk2 : k < n) (hn : n ≤ 162) (hr : r < 21) (h : ∀ j, j < L * (21 * n) + 21 * n → M j = M' j) : wTt sp M n L dg r = wTt sp M' n L dg r := by
  unfold wTt
  rw [hk, wN_zI (by omega)]
  refine h _ ?_
  have : r * n ≤ 20 * n := Nat.mul_le_mul_right n (by omega)
  omega
theorem wMe_cg {M M' : Nat → Int64} (hcd : wCd S n u) (hr : rOk T S Q) (h5 : wN (S 116) ≤ 5) (hv : wVd S dg) (hb : b < wN (S 116)) (hr21 : r < Q) (h : ∀ j, j < L * (21 * n) + 21 * n → M j = M' j) : wMe S T (u.1 3) M n L b dg r = wMe S T (u.1 3) M' n L b dg r := by
  have hQ := hr.2.2.1
  obtain ⟨k, k1, -, k3⟩ := hcd.2.2.2.1 dg hv
  have e1 : wTt (u.1 3) M n L dg r = wTt (u.1 3) M' n L dg r := wTt_cg k3 k1 hcd.2.1 (by omega) h
  have e2 : fo (wSh S T (u.1 3) M n L b dg r) 0 (wN (S (18 * b + 3))) 0 = fo (wSh S T (u.1 3) M' n L b dg r) 0 (wN (S (18 * b + 3))) 0 := by
    refine fo_congr _ _ _ (fun i _ hi v => ?_)
    obtain ⟨k', k1', -, k3'⟩ := hcd.2.2.2.1 _ (hv.ao (i := i) h5 hb)
    obtain ⟨q, q1, q2, -⟩ := hr.2.2.2.2.2 b i hb (by omega)
    have hrm : rMx T r (4 * b + i) < 21 := by
      unfold rMx
      rw [q2, wN_zI (by omega)]
      split <;> omega
    unfold wSh
    rw [wTt_cg k3' k1' hcd.2.1 hrm h]
  unfold wMe
  rw [e1, e2]
theorem w_shown {M : Nat → Int64} (hS : ∀ u, tS C (wH h w (u, (t, sA, sN, mA, mN))) t T S) (hW : wOkk w (t, sA, sN, mA, mN)) (hcd : wCd S n u) (hly : u.2.2.1 5 = zI (21 * n)) (hm : mN < 1000000) (hr : rOk T S Q) (hNs : 4 ^ wN (S 116) ≤ sN) (hNs2 : sN < 1000000) (hv : wVd S dg) (hrQ : r < Q) (hL : L ≤ 5) (hNm : L * (21 * n) + 21 * n ≤ mN) (hb : b < wN (S 116)) : am_f X (d + 3) 153 [.ref w, .int (zI b), .int (zI (L * (21 * n))), .int (zI (pk dg)), .int (zI r)] (wH h w (mL u 4 M, (t, sA, sN, mA, mN)), z) = some (.inl (some (.long (fo (wSh S T (u.1 3) M n L b dg r) 0 (wN (S (18 * b + 3))) 0))), (wH h w (mL u 4 M, (t, sA, sN, mA, mN)), z)) := by
  have hm5 := (hS u).2.1.m.2
  have l1 := w_shown_l (X := X) (d := d) (z := z) (u := mL u 4 M) (n := n) (L := L) (r := r) hS hW hcd.1 hv.1 hm hcd.2.1 hr hrQ hL hNm hNs hNs2 hb (fun i hi => by
    obtain ⟨k', k1', -, k3'⟩ := hcd.2.2.2.1 _ (hv.ao (i := i) hm5 hb)
    exact ⟨k', k1', k3'⟩) (wN (S (18 * b + 3))) 0 0 none (Nat.zero_add _)
  rw [fU_153]
  refine Eq.trans ?_ l1
  simp (disch := first | omega | exact Nat.le_of_ble_eq_true rfl | exact wH_ci | (refine wF_lt ?_; omega) | exact (hS _).iT.ci) only [own_153, am_go dc_153_0, J_lconst, i64_0, am_go dc_153_1, J_lstore, st2_0, st2_1, st2_s, kl_i, kl_l, kl_r, kl_n, am_go dc_153_3, J_iconst, c32_0, am_go dc_153_4, J_istore, st1_0, st1_1, st1_s, J_iload, K_il, ld_7, am_go dc_153_8, J_aload_0, K_al, ld_0, am_go dc_153_9, J_getfield, gf_r, fk_5_22_5, am_go dc_153_12, fk_5_102_1, am_go dc_153_15, J_iload_1, ld_1, am_go dc_153_16, J_aaload, am_go dc_153_17, JR_v, JR_0, JR_ite, ci1_r, am_go dc_153_20, J_icmp_ge, am_go dc_153_23, ld_4, am_go dc_153_25, am_go dc_153_26, am_go dc_153_29, am_go dc_153_30, am_go dc_153_32, cv_5_126_1 own_153, am_go dc_153_35, cm_5_129 own_153, mth_0, am_go dc_153_38, am_go dc_153_40, J_lload, K_ll, ld_5, am_go dc_153_42, am_go dc_153_43, am_go dc_153_46, J_iload_3, ld_3, am_go dc_153_47, am_go dc_153_48, am_go dc_153_50, cv_5_131_1 own_153, am_go dc_153_53, J_i2l, am_go dc_153_54, am_go dc_153_55, fk_5_18_5, am_go dc_153_58, J_iload_2, ld_2, am_go dc_153_59, am_go dc_153_60, am_go dc_153_61, am_go dc_153_64, am_go dc_153_65, am_go dc_153_66, am_go dc_153_68, cv_5_135_1 own_153, am_go dc_153_71, ld_8, am_go dc_153_73, cv_5_89_5 own_153, am_go dc_153_76, J_iadd, am_go dc_153_77, J_laload, am_go dc_153_78, J_lmul, am_go dc_153_79, J_ladd, am_go dc_153_80, am_go dc_153_82, J_iinc, pinc_go, c32_1, am_go dc_153_85, J_goto, am_go dc_153_88, am_go dc_153_90, J_ret_l ret_153, wg_0, tg_0, wg_4, wH_0, wH_1, ww_1, zI_add, zI_mul, zI_lt, zI_le, zI_eq, zI_neg, zI_pos, zI_ne0, zI_gt0, zB_0, lg_cmp_ge, lg_cmp_le, lg_cmp_gt, lg_cmp_lt, lg_cmp_eq, ail_r, abl_r, all_r, ais_r, abs_r, als_r, aal_r, aal_q, aln_r, vrf_s, vrf_n, z32, List.length_cons, List.length_nil, Nat.reduceAdd, Nat.reduceLT, Nat.reduceLeDiff, Nat.reduceEqDiff, ↓reduceIte, bind_s, if_true, if_false, not_true_eq_false, not_false_eq_true, Nat.zero_add]
theorem w_meet_l {kk : Nat} (hS : ∀ u, tS C (wH h w (u, (t, sA, sN, mA, mN))) t T S) (hW : wOkk w (t, sA, sN, mA, mN)) (hcd : wCd S n u) (hly : u.2.2.1 5 = zI (21 * n)) (hm : mN < 1000000) (hr : rOk T S Q) (hNs : 4 ^ wN (S 116) ≤ sN) (hNs2 : sN < 1000000) (hv : wVd S dg) (hkk : u.1 3 (pk dg) = zI kk) (hkn : kk < n) (hL : L ≤ 4) (hNm : L * (21 * n) + 21 * n + 21 * n ≤ mN) (hb : b < wN (S 116)) : ∀ (k i : Nat) (M : Nat → Int64) (v9 v10 : Option Value), i + k = Q → ∃ f, am_I X (am_f X (d + 4)) 152 48 [some (.ref w), some (.int (zI b)), some (.int (zI (L * (21 * n)))), some (.int (zI (pk dg))), some (.int (zB (cMay S dg b))), some (.long ((S (18 * b + 1)).toInt64 * cMs S dg)), none, some (.int (cSeen T S dg)), some (.int (zI i)), v9, v10, none] [] (wH h w (mL u 4 M, (t, sA, sN, mA, mN)), z) = some (.inl none, (wH h w (mL u 4 f, (t, sA, sN, mA, mN)), z)) ∧ (∀ r, i ≤ r → r < Q → bt (cSeen T S dg) r = true → f (L * (21 * n) + (r * n + kk) + 21 * n) = wMe S T (u.1 3) M n L b dg r) ∧ (∀ j, (∀ r, i ≤ r → r < Q → j ≠ L * (21 * n) + (r * n + kk) + 21 * n) → f j = M j) := by
  have t0 := fun u => (hS u).iT.c0
  have t1 := fun u => (hS u).iT.c1
  have t3 := fun u => (hS u).iT.c3
  have t4 := fun u => (hS u).iT.c4
  have t6 := fun u => (hS u).iT.c6
  have hm5 := (hS u).2.1.m.2
  have hQ := hr.2.2.1
  have hQ2 := hr.1
  have hn2 := hcd.2.1
  have hn1 := hcd.1
  have hLn : L * (21 * n) ≤ 4 * (21 * n) := Nat.mul_le_mul_right _ hL
  intro k
  induction k with
  | zero =>
    intro i M v9 v10 hi
    have hi' : Q ≤ i := by omega
    refine ⟨M, ?_, fun r h1 h2 => by omega, fun _ _ => rfl⟩
    rw [am_go dc_152_48]
    simp (disch := first | omega | exact Nat.le_of_ble_eq_true rfl | exact wH_ci | (refine wF_lt ?_; omega) | exact (hS _).iT.ci) only [own_152, am_go dc_152_0, J_aload_0, K_al, ld_0, am_go dc_152_1, J_getfield, gf_r, fk_5_22_5, am_go dc_152_4, J_iload_3, K_il, ld_3, am_go dc_152_5, J_iload_1, ld_1, am_go dc_152_6, cv_5_98_1 own_152, JR_v, JR_0, JR_ite, ci1_r, am_go dc_152_9, J_istore, st1_0, st1_1, st1_s, kl_i, kl_l, kl_r, kl_n, am_go dc_152_11, am_go dc_152_12, am_go dc_152_15, fk_5_102_1, am_go dc_152_18, am_go dc_152_19, J_aaload, am_go dc_152_20, am_go dc_152_23, J_i2l, am_go dc_152_24, am_go dc_152_25, am_go dc_152_28, am_go dc_152_29, cv_5_82_1 own_152, am_go dc_152_32, J_lmul, am_go dc_152_33, J_lstore, st2_0, st2_1, st2_s, am_go dc_152_35, am_go dc_152_36, am_go dc_152_39, am_go dc_152_40, cv_5_111_1 own_152, am_go dc_152_43, am_go dc_152_45, J_iconst, c32_0, am_go dc_152_46, J_iload, ld_8, am_go dc_152_50, am_go dc_152_51, am_go dc_152_54, fk_5_86_1, am_go dc_152_57, J_icmp_ge, am_go dc_152_60, ld_7, am_go dc_152_62, c32_1, am_go dc_152_63, am_go dc_152_65, J_ishl, am_go dc_152_66, J_iand, am_go dc_152_67, J_if_eq, am_go dc_152_70, J_iload_2, ld_2, am_go dc_152_71, am_go dc_152_72, am_go dc_152_73, am_go dc_152_75, cv_5_89_5 own_152, am_go dc_152_78, J_iadd, am_go dc_152_79, am_go dc_152_81, am_go dc_152_82, fk_5_18_5, am_go dc_152_85, ld_9, am_go dc_152_87, J_laload, am_go dc_152_88, am_go dc_152_90, am_go dc_152_91, am_go dc_152_94, am_go dc_152_96, am_go dc_152_97, fk_5_45_5, am_go dc_152_100, am_go dc_152_101, ld_4, am_go dc_152_103, am_go dc_152_106, J_lload, K_ll, ld_10, am_go dc_152_108, am_go dc_152_109, am_go dc_152_110, am_go dc_152_111, am_go dc_152_112, am_go dc_152_114, cv_5_115_5 own_152, am_go dc_152_117, ld_5, am_go dc_152_119, J_lsub, am_go dc_152_120, cm_5_119 own_152, mth_2, am_go dc_152_123, J_goto, am_go dc_152_126, am_go dc_152_128, J_lastore, am_go dc_152_129, J_iinc, pinc_go, am_go dc_152_132, am_go dc_152_135, J_ret_v ret_152, wg_0, tg_0, tg_5, wg_4, wg_5, wH_0, wH_1, ww_1, zI_add, zI_mul, zI_lt, zI_le, zI_eq, zI_neg, zI_pos, zI_ne0, zI_gt0, zB_0, lg_cmp_ge, lg_cmp_le, lg_cmp_gt, lg_cmp_lt, lg_cmp_eq, ail_r, abl_r, all_r, ais_r, abs_r, als_r, aal_r, aal_q, aln_r, vrf_s, vrf_n, z32, t0, t1, t3, t4, t6, hQ2, hi', List.length_cons, List.length_nil, Nat.reduceAdd, Nat.reduceLT, Nat.reduceLeDiff, Nat.reduceEqDiff, ↓reduceIte, bind_s, if_true, if_false, not_true_eq_false, not_false_eq_true, Nat.zero_add]
  | succ k ih =>
    intro i M v9 v10 hi
    have hlt : ¬ Q ≤ i := by omega
    have hMn := wMn (h := h) (u := mL u 4 M) hW
    have hin : i * n ≤ 20 * n := Nat.mul_le_mul_right n (by omega)
    have ksp : am_f X (d + 4) 150 [.ref w, .int (zI (pk dg)), .int (zI i)] (wH h w (mL u 4 M, (t, sA, sN, mA, mN)), z) = _ := w_spot (X := X) (d := d + 3) (u := mL u 4 M) (n := n) (r := i) (k := kk) hS hW hn1 (by have := pkm_lt hv.1 hm5; omega) hNs2 hkk (by omega) (by omega) (by omega) (by omega)
    have inj : ∀ r, r ≠ i → L * (21 * n) + (r * n + kk) + 21 * n ≠ L * (21 * n) + (i * n + kk) + 21 * n := fun r hne e => by
      have : r * n = i * n := by omega
      exact hne (Nat.eq_of_mul_eq_mul_right (by omega) this)
    cases c : bt (cSeen T S dg) i with
    | true =>
      have e1 : wTt (u.1 3) M n L dg i = M (L * (21 * n) + (i * n + kk)) := by
        unfold wTt
        rw [hkk, wN_zI (by omega)]
      have cut : ∀ j x, j < L * (21 * n) + 21 * n → vp_updL M (L * (21 * n) + (i * n + kk) + 21 * n) x j = M j := fun j x hj => upL_o (by omega)
      have fin : ∀ x, x = wMe S T (u.1 3) M n L b dg i → ∀ v9' v10', ∃ f, am_I X (am_f X (d + 4)) 152 48 [some (.ref w), some (.int (zI b)), some (.int (zI (L * (21 * n)))), some (.int (zI (pk dg))), some (.int (zB (cMay S dg b))), some (.long ((S (18 * b + 1)).toInt64 * cMs S dg)), none, some (.int (cSeen T S dg)), some (.int (zI (i + 1))), v9', v10', none] [] (wH h w (mL u 4 (vp_updL M (L * (21 * n) + (i * n + kk) + 21 * n) x), (t, sA, sN, mA, mN)), z) = some (.inl none, (wH h w (mL u 4 f, (t, sA, sN, mA, mN)), z)) ∧ (∀ r, i ≤ r → r < Q → bt (cSeen T S dg) r = true → f (L * (21 * n) + (r * n + kk) + 21 * n) = wMe S T (u.1 3) M n L b dg r) ∧ (∀ j, (∀ r, i ≤ r → r < Q → j ≠ L * (21 * n) + (r * n + kk) + 21 * n) → f j = M j) := fun x hx v9' v10' => by
        obtain ⟨f, s1, s2, s3⟩ := ih (i + 1) (vp_updL M (L * (21 * n) + (i * n + kk) + 21 * n) x) v9' v10' (by omega)
        refine ⟨f, s1, fun r h1 h2 h3 => ?_, fun j hj => ?_⟩
        · by_cases e : r = i
          · subst e
            rw [s3 _ (fun r' h1' hr' e' => inj r' (by omega) e'.symm), upL_s, hx]
          · rw [s2 r (by omega) h2 h3]
            exact wMe_cg hcd hr hm5 hv hb (by omega) (fun j hj => cut j x hj)
        · rw [s3 j (fun r' h1' => hj r' (by omega)), upL_o (hj i (by omega) (by omega))]
      have e2 : zB false = zI 0 := rfl
      have e3 : zB true = zI 1 := rfl
      have hMw := fun f => wMw (h := h) (u := mL u 4 M) (f := f) hW
      by_cases my : cMay S dg b = true
      · obtain ⟨f, s1, s2, s3⟩ := fin (wMe S T (u.1 3) M n L b dg i) rfl (some (.int (zI (L * (21 * n) + (i * n + kk))))) (some (.long (M (L * (21 * n) + (i * n + kk)))))
        refine ⟨f, Eq.trans ?_ s1, s2, s3⟩
        have ksh : am_f X (d + 4) 153 [.ref w, .int (zI b), .int (zI (L * (21 * n))), .int (zI (pk dg)), .int (zI i)] (wH h w (mL u 4 M, (t, sA, sN, mA, mN)), z) = _ := w_shown (X := X) (d := d + 1) (z := z) (u := u) (M := M) (r := i) hS hW hcd hly hm hr hNs hNs2 hv (by omega) (by omega) (by omega) hb
        unfold wMe
        rw [if_pos my, e1]
        rw [my]
        rw [am_go dc_152_48]
        simp (disch := first | omega | exact Nat.le_of_ble_eq_true rfl | exact wH_ci | (refine wF_lt ?_; omega) | exact (hS _).iT.ci) only [own_152, am_go dc_152_0, J_aload_0, K_al, ld_0, am_go dc_152_1, J_getfield, gf_r, fk_5_22_5, am_go dc_152_4, J_iload_3, K_il, ld_3, am_go dc_152_5, J_iload_1, ld_1, am_go dc_152_6, cv_5_98_1 own_152, JR_v, JR_0, JR_ite, ci1_r, am_go dc_152_9, J_istore, st1_0, st1_1, st1_s, kl_i, kl_l, kl_r, kl_n, am_go dc_152_11, am_go dc_152_12, am_go dc_152_15, fk_5_102_1, am_go dc_152_18, am_go dc_152_19, J_aaload, am_go dc_152_20, am_go dc_152_23, J_i2l, am_go dc_152_24, am_go dc_152_25, am_go dc_152_28, am_go dc_152_29, cv_5_82_1 own_152, am_go dc_152_32, J_lmul, am_go dc_152_33, J_lstore, st2_0, st2_1, st2_s, am_go dc_152_35, am_go dc_152_36, am_go dc_152_39, am_go dc_152_40, cv_5_111_1 own_152, am_go dc_152_43, am_go dc_152_45, J_iconst, c32_0, am_go dc_152_46, J_iload, ld_8, am_go dc_152_50, am_go dc_152_51, am_go dc_152_54, fk_5_86_1, am_go dc_152_57, J_icmp_ge, am_go dc_152_60, ld_7, am_go dc_152_62, c32_1, am_go dc_152_63, am_go dc_152_65, J_ishl, am_go dc_152_66, J_iand, am_go dc_152_67, J_if_eq, am_go dc_152_70, J_iload_2, ld_2, am_go dc_152_71, am_go dc_152_72, am_go dc_152_73, am_go dc_152_75, cv_5_89_5 own_152, am_go dc_152_78, J_iadd, am_go dc_152_79, am_go dc_152_81, am_go dc_152_82, fk_5_18_5, am_go dc_152_85, ld_9, am_go dc_152_87, J_laload, am_go dc_152_88, am_go dc_152_90, am_go dc_152_91, am_go dc_152_94, am_go dc_152_96, am_go dc_152_97, fk_5_45_5, am_go dc_152_100, am_go dc_152_101, ld_4, am_go dc_152_103, am_go dc_152_106, J_lload, K_ll, ld_10, am_go dc_152_108, am_go dc_152_109, am_go dc_152_110, am_go dc_152_111, am_go dc_152_112, am_go dc_152_114, cv_5_115_5 own_152, am_go dc_152_117, ld_5, am_go dc_152_119, J_lsub, am_go dc_152_120, cm_5_119 own_152, mth_2, am_go dc_152_123, J_goto, am_go dc_152_126, am_go dc_152_128, J_lastore, am_go dc_152_129, J_iinc, pinc_go, am_go dc_152_132, am_go dc_152_135, J_ret_v ret_152, wg_0, tg_0, tg_5, wg_4, wg_5, wH_0, wH_1, ww_1, zI_add, zI_mul, zI_lt, zI_le, zI_eq, zI_neg, zI_pos, zI_ne0, zI_gt0, zB_0, lg_cmp_ge, lg_cmp_le, lg_cmp_gt, lg_cmp_lt, lg_cmp_eq, ail_r, abl_r, all_r, ais_r, abs_r, als_r, aal_r, aal_q, aln_r, vrf_s, vrf_n, z32, t0, t1, t3, t4, t6, hQ2, hlt, bt_0, c, hMn, ksp, hly, hMw, Bool.true_eq_false, mLL, mS_s, mS_o, mS_2, mI_1, mI_2, mI_s, mI_o, mI_3, mI_I, mS_S, mJ_1, mJ_2, mJ_3, mJ_s, mJ_o, mJ_J, mL_1, mL_2, mL_s, mL_o, e3, ksh, List.length_cons, List.length_nil, Nat.reduceAdd, Nat.reduceLT, Nat.reduceLeDiff, Nat.reduceEqDiff, ↓reduceIte, bind_s, if_true, if_false, not_true_eq_false, not_false_eq_true, Nat.zero_add]
      · have my' : cMay S dg b = false := by simpa using my
        obtain ⟨f, s1, s2, s3⟩ := fin (M (L * (21 * n) + (i * n + kk))) (by unfold wMe; rw [if_neg my, e1]) (some (.int (zI (L * (21 * n) + (i * n + kk))))) (some (.long (M (L * (21 * n) + (i * n + kk)))))
        refine ⟨f, Eq.trans ?_ s1, s2, s3⟩
        rw [my']
        rw [am_go dc_152_48]
        simp (disch := first | omega | exact Nat.le_of_ble_eq_true rfl | exact wH_ci | (refine wF_lt ?_; omega) | exact (hS _).iT.ci) only [own_152, am_go dc_152_0, J_aload_0, K_al, ld_0, am_go dc_152_1, J_getfield, gf_r, fk_5_22_5, am_go dc_152_4, J_iload_3, K_il, ld_3, am_go dc_152_5, J_iload_1, ld_1, am_go dc_152_6, cv_5_98_1 own_152, JR_v, JR_0, JR_ite, ci1_r, am_go dc_152_9, J_istore, st1_0, st1_1, st1_s, kl_i, kl_l, kl_r, kl_n, am_go dc_152_11, am_go dc_152_12, am_go dc_152_15, fk_5_102_1, am_go dc_152_18, am_go dc_152_19, J_aaload, am_go dc_152_20, am_go dc_152_23, J_i2l, am_go dc_152_24, am_go dc_152_25, am_go dc_152_28, am_go dc_152_29, cv_5_82_1 own_152, am_go dc_152_32, J_lmul, am_go dc_152_33, J_lstore, st2_0, st2_1, st2_s, am_go dc_152_35, am_go dc_152_36, am_go dc_152_39, am_go dc_152_40, cv_5_111_1 own_152, am_go dc_152_43, am_go dc_152_45, J_iconst, c32_0, am_go dc_152_46, J_iload, ld_8, am_go dc_152_50, am_go dc_152_51, am_go dc_152_54, fk_5_86_1, am_go dc_152_57, J_icmp_ge, am_go dc_152_60, ld_7, am_go dc_152_62, c32_1, am_go dc_152_63, am_go dc_152_65, J_ishl, am_go dc_152_66, J_iand, am_go dc_152_67, J_if_eq, am_go dc_152_70, J_iload_2, ld_2, am_go dc_152_71, am_go dc_152_72, am_go dc_152_73, am_go dc_152_75, cv_5_89_5 own_152, am_go dc_152_78, J_iadd, am_go dc_152_79, am_go dc_152_81, am_go dc_152_82, fk_5_18_5, am_go dc_152_85, ld_9, am_go dc_152_87, J_laload, am_go dc_152_88, am_go dc_152_90, am_go dc_152_91, am_go dc_152_94, am_go dc_152_96, am_go dc_152_97, fk_5_45_5, am_go dc_152_100, am_go dc_152_101, ld_4, am_go dc_152_103, am_go dc_152_106, J_lload, K_ll, ld_10, am_go dc_152_108, am_go dc_152_109, am_go dc_152_110, am_go dc_152_111, am_go dc_152_112, am_go dc_152_114, cv_5_115_5 own_152, am_go dc_152_117, ld_5, am_go dc_152_119, J_lsub, am_go dc_152_120, cm_5_119 own_152, mth_2, am_go dc_152_123, J_goto, am_go dc_152_126, am_go dc_152_128, J_lastore, am_go dc_152_129, J_iinc, pinc_go, am_go dc_152_132, am_go dc_152_135, J_ret_v ret_152, wg_0, tg_0, tg_5, wg_4, wg_5, wH_0, wH_1, ww_1, zI_add, zI_mul, zI_lt, zI_le, zI_eq, zI_neg, zI_pos, zI_ne0, zI_gt0, zB_0, lg_cmp_ge, lg_cmp_le, lg_cmp_gt, lg_cmp_lt, lg_cmp_eq, ail_r, abl_r, all_r, ais_r, abs_r, als_r, aal_r, aal_q, aln_r, vrf_s, vrf_n, z32, t0, t1, t3, t4, t6, hQ2, hlt, bt_0, c, hMn, ksp, hly, hMw, Bool.true_eq_false, mLL, mS_s, mS_o, mS_2, mI_1, mI_2, mI_s, mI_o, mI_3, mI_I, mS_S, mJ_1, mJ_2, mJ_3, mJ_s, mJ_o, mJ_J, mL_1, mL_2, mL_s, mL_o, e2, List.length_cons, List.length_nil, Nat.reduceAdd, Nat.reduceLT, Nat.reduceLeDiff, Nat.reduceEqDiff, ↓reduceIte, bind_s, if_true, if_false, not_true_eq_false, not_false_eq_true, Nat.zero_add]
    | false =>
      obtain ⟨f, s1, s2, s3⟩ := ih (i + 1) M v9 v10 (by omega)
      refine ⟨f, Eq.trans ?_ s1, fun r h1 h2 h3 => ?_, fun j hj => s3 j (fun r' h1' => hj r' (by omega))⟩
      · rw [am_go dc_152_48]
        simp (disch := first | omega | exact Nat.le_of_ble_eq_true rfl | exact wH_ci | (refine wF_lt ?_; omega) | exact (hS _).iT.ci) only [own_152, am_go dc_152_0, J_aload_0, K_al, ld_0, am_go dc_152_1, J_getfield, gf_r, fk_5_22_5, am_go dc_152_4, J_iload_3, K_il, ld_3, am_go dc_152_5, J_iload_1, ld_1, am_go dc_152_6, cv_5_98_1 own_152, JR_v, JR_0, JR_ite, ci1_r, am_go dc_152_9, J_istore, st1_0, st1_1, st1_s, kl_i, kl_l, kl_r, kl_n, am_go dc_152_11, am_go dc_152_12, am_go dc_152_15, fk_5_102_1, am_go dc_152_18, am_go dc_152_19, J_aaload, am_go dc_152_20, am_go dc_152_23, J_i2l, am_go dc_152_24, am_go dc_152_25, am_go dc_152_28, am_go dc_152_29, cv_5_82_1 own_152, am_go dc_152_32, J_lmul, am_go dc_152_33, J_lstore, st2_0, st2_1, st2_s, am_go dc_152_35, am_go dc_152_36, am_go dc_152_39, am_go dc_152_40, cv_5_111_1 own_152, am_go dc_152_43, am_go dc_152_45, J_iconst, c32_0, am_go dc_152_46, J_iload, ld_8, am_go dc_152_50, am_go dc_152_51, am_go dc_152_54, fk_5_86_1, am_go dc_152_57, J_icmp_ge, am_go dc_152_60, ld_7, am_go dc_152_62, c32_1, am_go dc_152_63, am_go dc_152_65, J_ishl, am_go dc_152_66, J_iand, am_go dc_152_67, J_if_eq, am_go dc_152_70, J_iload_2, ld_2, am_go dc_152_71, am_go dc_152_72, am_go dc_152_73, am_go dc_152_75, cv_5_89_5 own_152, am_go dc_152_78, J_iadd, am_go dc_152_79, am_go dc_152_81, am_go dc_152_82, fk_5_18_5, am_go dc_152_85, ld_9, am_go dc_152_87, J_laload, am_go dc_152_88, am_go dc_152_90, am_go dc_152_91, am_go dc_152_94, am_go dc_152_96, am_go dc_152_97, fk_5_45_5, am_go dc_152_100, am_go dc_152_101, ld_4, am_go dc_152_103, am_go dc_152_106, J_lload, K_ll, ld_10, am_go dc_152_108, am_go dc_152_109, am_go dc_152_110, am_go dc_152_111, am_go dc_152_112, am_go dc_152_114, cv_5_115_5 own_152, am_go dc_152_117, ld_5, am_go dc_152_119, J_lsub, am_go dc_152_120, cm_5_119 own_152, mth_2, am_go dc_152_123, J_goto, am_go dc_152_126, am_go dc_152_128, J_lastore, am_go dc_152_129, J_iinc, pinc_go, am_go dc_152_132, am_go dc_152_135, J_ret_v ret_152, wg_0, tg_0, tg_5, wg_4, wg_5, wH_0, wH_1, ww_1, zI_add, zI_mul, zI_lt, zI_le, zI_eq, zI_neg, zI_pos, zI_ne0, zI_gt0, zB_0, lg_cmp_ge, lg_cmp_le, lg_cmp_gt, lg_cmp_lt, lg_cmp_eq, ail_r, abl_r, all_r, ais_r, abs_r, als_r, aal_r, aal_q, aln_r, vrf_s, vrf_n, z32, t0, t1, t3, t4, t6, hQ2, hlt, bt_0, c, List.length_cons, List.length_nil, Nat.reduceAdd, Nat.reduceLT, Nat.reduceLeDiff, Nat.reduceEqDiff, ↓reduceIte, bind_s, if_true, if_false, not_true_eq_false, not_false_eq_true, Nat.zero_add]
      · refine s2 r ?_ h2 h3
        rcases Nat.lt_or_eq_of_le h1 with q | q
        · exact q
        · subst q
          rw [c] at h3
          cases h3
end SZ
