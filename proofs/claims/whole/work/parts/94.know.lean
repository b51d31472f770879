/-! Plan: know, tryCost -/
theorem cStep_c2 {S : Nat → Int32} {T : mU × (Nat → Option Nat)} {cs cs' : Nat → Int32} {V V' : (Nat → Nat) → Nat → Int64} {dg : Nat → Nat} {r : Nat} (hV : ∀ b i r', b < wN (S 116) → cMay S dg b = true → V (cAo S dg b i) r' = V' (cAo S dg b i) r') (hV2 : ∀ b g r', b < wN (S 116) → cMay S dg b = true → dg b = 0 → V (cAp dg b g) r' = V' (cAp dg b g) r') (hc : ∀ b, b < wN (S 116) → cMay S dg b = true → cs b = cs' b) : cStep S T cs V dg r = cStep S T cs' V' dg r := by
  unfold cStep
  have e1 : fo (c_ob S T cs V dg r) 0 (wN (S 116)) (cS0 S T dg r) = fo (c_ob S T cs' V' dg r) 0 (wN (S 116)) (cS0 S T dg r) := by
    refine fo_congr _ _ _ (fun b _ hb s => ?_)
    have hb' : b < wN (S 116) := by omega
    unfold c_ob
    by_cases c : cMay S dg b = true
    · have : cOpn S T cs V dg r b = cOpn S T cs' V' dg r b := by
        unfold cOpn
        rw [hc b hb' c]
        refine fo_congr _ _ _ (fun i _ _ v => ?_)
        unfold oSt
        rw [hV b i _ hb' c]
      rw [this]
    · rw [if_neg c, if_neg c]
  rw [e1]
  refine fo_congr _ _ _ (fun b _ hb s => ?_)
  have hb' : b < wN (S 116) := by omega
  unfold c_pb
  by_cases c : cMay S dg b = true ∧ dg b = 0 ∧ S (18 * b) = zI 1
  · have : cPee S V dg r b = cPee S V' dg r b := by
      unfold cPee
      rw [hV2 b true _ hb' c.1 c.2.1, hV2 b false _ hb' c.1 c.2.1]
    rw [this]
  · rw [if_neg c, if_neg c]
/-- the table is that of the costs -/
def tabOk (S : Nat → Int32) (T : mU × (Nat → Option Nat)) (R : Nat) (u : mU) : Prop := ∀ dg, dIn S dg → cCan S dg = true → ∀ r, r < R → bt (cSeen T S dg) r = true → (u.2.1 3 (ix S dg r), u.1 4 (ix S dg r)) = cStep S T (u.1 1) (tV S (u.2.1 3)) dg r
theorem fI.tab {S : Nat → Int32} {T : mU × (Nat → Option Nat)} {R : Nat} {u0 u : mU} (h : fI S T R none u0 u 0) : tabOk S T R u := fun dg hd hc r hr hb => h.2.1 dg hd (Nat.zero_le _) (by unfold sbW; rw [hc]; rfl) r hr hb
theorem cOp_ao {S : Nat → Int32} {dg : Nat → Nat} {b c i : Nat} (hne : c ≠ b) (ho : cOp S dg b = true) : cOp S (cAo S dg c i) b = true := by
  unfold cOp cAo at *
  rw [dset_o (fun e => hne e.symm)]
  exact ho
theorem cOp_ap {S : Nat → Int32} {dg : Nat → Nat} {b c : Nat} {g : Bool} (hne : c ≠ b) (ho : cOp S dg b = true) : cOp S (cAp dg c g) b = true := by
  unfold cOp cAp at *
  rw [dset_o (fun e => hne e.symm)]
  exact ho
theorem fI.tab2 {S : Nat → Int32} {T : mU × (Nat → Option Nat)} {R b : Nat} {x : Int32} {u u2 : mU} (h5 : wN (S 116) ≤ 5) (hb : b < wN (S 116)) (h0 : tabOk S T R u) (h : fI S T R (some b) (mS u 1 (upd (u.1 1) b x)) u2 0) : tabOk S T R u2 := fun dg hd hc r hr hs => by
  cases ho : cOp S dg b with
  | false => exact h.2.1 dg hd (Nat.zero_le _) (by unfold sbW; rw [hc]; simp [ho]) r hr hs
  | true =>
    have hw : ∀ dg', cOp S dg' b = true → sbW S (some b) dg' = false := fun dg' h' => by unfold sbW; simp [h']
    obtain ⟨q1, q2⟩ := h.2.2 dg r hd (Or.inr (Or.inl (hw dg ho)))
    have e0 := h0 dg hd hc r hr hs
    rw [q1, q2]
    refine Eq.trans e0 ?_
    have hne : ∀ c, c < wN (S 116) → cMay S dg c = true → c ≠ b := fun c hc' hm e => by
      subst e
      rw [cMay_op h5 hc' hm] at ho
      cases ho
    refine cStep_c2 (fun c i r' hc' hm => ?_) (fun c g r' hc' hm h0' => ?_) (fun c hc' hm => ?_)
    · exact (h.2.2 _ r' (hd.ao h5 hc') (Or.inr (Or.inl (hw _ (cOp_ao (hne c hc' hm) ho))))).1.symm
    · exact (h.2.2 _ r' (hd.ap h5 hc') (Or.inr (Or.inl (hw _ (cOp_ap (hne c hc' hm) ho))))).1.symm
    · rw [h.1.1, mS_s, upd_o (hne c hc' hm)]
section PV
variable {X : am_X} {C : Nat → Prop} {h : am_H} {l t m a N d R : Nat} {T : mU × (Nat → Option Nat)} {S : Nat → Int32} {z : Nat × Nat} {u : mU}
theorem l_try {b : Nat} {x : Int32} (hS : ∀ u, tS C (lH h l (u, (t, m, a, N))) t T S) (hL : lOkk l (t, m, a, N)) (hN : 21 * 4 ^ wN (S 116) ≤ N) (hN2 : N < 1000000) (hR : T.1.2.2.1 5 = zI R) (hR21 : R ≤ 21) (hb : b < wN (S 116)) (h0 : tabOk S T R u) : ∃ u', am_f X (d + 6) 140 [.ref l, .int (zI b), .int x] (lH h l (u, (t, m, a, N)), z) = some (.inl none, (lH h l (u', (t, m, a, N)), z)) ∧ tabOk S T R u' ∧ u'.1 1 = upd (u.1 1) b x ∧ (∀ j, j ≠ 3 → u'.2.1 j = u.2.1 j) ∧ u'.2.2.1 2 = u.2.2.1 2 := by
  have t0 := fun u => (hS u).iT.c0
  have t1 := fun u => (hS u).iT.c1
  have t3 := fun u => (hS u).iT.c3
  have t4 := fun u => (hS u).iT.c4
  have hsz := (hS u).sz
  have hm5 := (hS u).m5
  have hb5 : b < 5 := by omega
  by_cases c : u.1 1 b = x
  · refine ⟨u, ?_, h0, ?_, fun _ _ => rfl, rfl⟩
    · rw [fU_140]
      simp (disch := first | omega | exact Nat.le_of_ble_eq_true rfl | exact lH_ci | (refine lF_lt ?_; omega) | exact (hS _).iT.ci) only [own_140, am_go dc_140_0, J_aload_0, K_al, ld_0, am_go dc_140_1, J_getfield, gf_r, fk_4_9_4, am_go dc_140_4, J_iload_1, K_il, ld_1, am_go dc_140_5, J_iaload, am_go dc_140_6, J_iload_2, ld_2, am_go dc_140_7, J_icmp_eq, am_go dc_140_10, am_go dc_140_11, am_go dc_140_14, am_go dc_140_15, am_go dc_140_16, J_iastore, am_go dc_140_17, am_go dc_140_18, am_go dc_140_19, cv_4_65_4 own_140, JR_v, JR_0, JR_ite, ci1_r, am_go dc_140_22, J_ret_v ret_140, lg_1, lH_0, lH_1, lH_4, lH_5, lH_6, lH_7, lH_8, lw_1, lw_4, lw_5, lw_6, lw_7, lw_8, zI_add, zI_mul, zI_lt, zI_le, zI_eq, zI_neg, zI_pos, zI_ne0, zI_gt0, zB_0, lg_cmp_ge, lg_cmp_le, lg_cmp_gt, lg_cmp_lt, lg_cmp_eq, ail_r, abl_r, all_r, ais_r, abs_r, als_r, aal_r, aal_q, aln_r, vrf_s, vrf_n, z32, t0, t1, t3, t4, hsz, c, mS_s, mS_o, mS_2, mI_1, mI_2, mI_s, mI_o, mI_3, mI_I, mS_S, mJ_1, mJ_2, mJ_3, mJ_s, mJ_o, mJ_J, mL_1, mL_2, mL_s, mL_o, List.length_cons, List.length_nil, Nat.reduceAdd, Nat.reduceLT, Nat.reduceLeDiff, Nat.reduceEqDiff, ↓reduceIte, bind_s, if_true, if_false, not_true_eq_false, not_false_eq_true, Nat.zero_add]
    · funext j
      by_cases e : j = b
      · rw [e, upd_s, c]
      · rw [upd_o e]
  · obtain ⟨u2, f1, f2⟩ := l_fill (X := X) (d := d) (z := z) (sb := some b) (u := mS u 1 (upd (u.1 1) b x)) (fun b' e => by cases e; exact hb) hS hL hN hN2 hR hR21
    refine ⟨u2, ?_, f2.tab2 hm5 hb h0, f2.1.1.trans mS_s, fun j hj => f2.1.2.1 j hj, f2.1.2.2⟩
    have hv : sbV (some b) = zI b := rfl
    rw [hv] at f1
    rw [fU_140]
    simp (disch := first | omega | exact Nat.le_of_ble_eq_true rfl | exact lH_ci | (refine lF_lt ?_; omega) | exact (hS _).iT.ci) only [own_140, am_go dc_140_0, J_aload_0, K_al, ld_0, am_go dc_140_1, J_getfield, gf_r, fk_4_9_4, am_go dc_140_4, J_iload_1, K_il, ld_1, am_go dc_140_5, J_iaload, am_go dc_140_6, J_iload_2, ld_2, am_go dc_140_7, J_icmp_eq, am_go dc_140_10, am_go dc_140_11, am_go dc_140_14, am_go dc_140_15, am_go dc_140_16, J_iastore, am_go dc_140_17, am_go dc_140_18, am_go dc_140_19, cv_4_65_4 own_140, JR_v, JR_0, JR_ite, ci1_r, am_go dc_140_22, J_ret_v ret_140, lg_1, lH_0, lH_1, lH_4, lH_5, lH_6, lH_7, lH_8, lw_1, lw_4, lw_5, lw_6, lw_7, lw_8, zI_add, zI_mul, zI_lt, zI_le, zI_eq, zI_neg, zI_pos, zI_ne0, zI_gt0, zB_0, lg_cmp_ge, lg_cmp_le, lg_cmp_gt, lg_cmp_lt, lg_cmp_eq, ail_r, abl_r, all_r, ais_r, abs_r, als_r, aal_r, aal_q, aln_r, vrf_s, vrf_n, z32, t0, t1, t3, t4, hsz, c, f1, mS_s, mS_o, mS_2, mI_1, mI_2, mI_s, mI_o, mI_3, mI_I, mS_S, mJ_1, mJ_2, mJ_3, mJ_s, mJ_o, mJ_J, mL_1, mL_2, mL_s, mL_o, List.length_cons, List.length_nil, Nat.reduceAdd, Nat.reduceLT, Nat.reduceLeDiff, Nat.reduceEqDiff, ↓reduceIte, bind_s, if_true, if_false, not_true_eq_false, not_false_eq_true, Nat.zero_add]
theorem l_costs_l (hS : ∀ u, tS C (lH h l (u, (t, m, a, N))) t T S) {x1 : Int32} : ∀ (k i : Nat) (u : mU), i + k = wN (S 116) → ∃ u', am_I X (am_f X d) 109 44 [some (.ref l), some (.int x1), some (.int (zI i))] [] (lH h l (u, (t, m, a, N)), z) = am_I X (am_f X d) 109 79 [some (.ref l), some (.int x1), some (.int (zI (wN (S 116))))] [] (lH h l (u', (t, m, a, N)), z) ∧ (∀ j, i ≤ j → j < wN (S 116) → u'.1 1 j = S (18 * j + 1)) ∧ (∀ j, j < i → u'.1 1 j = u.1 1 j) ∧ (∀ j, j ≠ 1 → u'.1 j = u.1 j) ∧ u'.2 = u.2 := by
  have t0 := fun u => (hS u).iT.c0
  have t1 := fun u => (hS u).iT.c1
  have t3 := fun u => (hS u).iT.c3
  have t4 := fun u => (hS u).iT.c4
  intro k
  induction k with
  | zero =>
    intro i u hi
    have hsz := (hS u).sz
    have hm5 := (hS u).m5
    have hi' : i = wN (S 116) := by omega
    subst hi'
    refine ⟨u, ?_, fun j h1 h2 => by omega, fun _ _ => rfl, fun _ _ => rfl, rfl⟩
    rw [am_go dc_109_44]
    simp (disch := first | omega | exact Nat.le_of_ble_eq_true rfl | exact lH_ci | (refine lF_lt ?_; omega) | exact (hS _).iT.ci) only [own_109, am_go dc_109_0, J_aload_0, K_al, ld_0, am_go dc_109_1, J_getfield, gf_r, fk_4_42_4, am_go dc_109_4, J_if_eq, am_go dc_109_7, J_ret_v ret_109, am_go dc_109_8, J_bipush, c8_21, am_go dc_109_10, am_go dc_109_11, fk_4_38_4, am_go dc_109_14, cv_4_46_1 own_109, JR_v, JR_0, JR_ite, ci1_r, am_go dc_109_17, J_imul, am_go dc_109_18, J_istore_1, st1_0, st1_1, st1_s, kl_i, kl_l, kl_r, kl_n, am_go dc_109_19, am_go dc_109_20, fk_4_15_4, am_go dc_109_23, J_alen, am_go dc_109_24, J_iload_1, K_il, ld_1, am_go dc_109_25, J_icmp_ge, am_go dc_109_28, am_go dc_109_29, am_go dc_109_30, am_go dc_109_32, J_putfield_i, J_putfield_l, J_putfield_r, ini_109, pk_4_15_4, am_go dc_109_35, am_go dc_109_36, am_go dc_109_37, am_go dc_109_39, pk_4_19_4, J_iconst, c32_0, am_go dc_109_43, J_istore_2, J_iload_2, ld_2, am_go dc_109_45, am_go dc_109_46, am_go dc_109_49, fk_4_52_1, am_go dc_109_52, am_go dc_109_55, am_go dc_109_56, fk_4_9_4, am_go dc_109_59, am_go dc_109_60, am_go dc_109_61, am_go dc_109_64, fk_4_56_1, am_go dc_109_67, am_go dc_109_68, J_aaload, am_go dc_109_69, am_go dc_109_72, J_iastore, am_go dc_109_73, J_iinc, pinc_go, c32_1, am_go dc_109_76, J_goto, am_go dc_109_80, i8_m4, am_go dc_109_82, cv_4_65_4 own_109, am_go dc_109_85, am_go dc_109_86, am_go dc_109_87, pk_4_42_4, am_go dc_109_90, lg_2, lg_0, lg_3, pf_a pk_4_15_4 rfl, pf_a pk_4_19_4 rfl, tg_1, lg_1, tg_0, lp_2, pf_z0 pk_4_42_4 rfl, pf_z1 pk_4_42_4 rfl, pf_zB pk_4_42_4 rfl, lH_0, lH_1, lH_4, lH_5, lH_6, lH_7, lH_8, lw_1, lw_4, lw_5, lw_6, lw_7, lw_8, zI_add, zI_mul, zI_lt, zI_le, zI_eq, zI_neg, zI_pos, zI_ne0, zI_gt0, zB_0, lg_cmp_ge, lg_cmp_le, lg_cmp_gt, lg_cmp_lt, lg_cmp_eq, ail_r, abl_r, all_r, ais_r, abs_r, als_r, aal_r, aal_q, aln_r, vrf_s, vrf_n, z32, t0, t1, t3, t4, hsz, List.length_cons, List.length_nil, Nat.reduceAdd, Nat.reduceLT, Nat.reduceLeDiff, Nat.reduceEqDiff, ↓reduceIte, bind_s, if_true, if_false, not_true_eq_false, not_false_eq_true, Nat.zero_add]
    rw [if_pos (Nat.le_refl _)]
  | succ k ih =>
    intro i u hi
    have hsz := (hS u).sz
    have hm5 := (hS u).m5
    have hlt : ¬ wN (S 116) ≤ i := by omega
    obtain ⟨a', bb, ha, hB⟩ := (hS u).box (show i < wN (S 116) by omega)
    have h1 : qRow S i 1 = S (18 * i + 1) := rfl
    obtain ⟨u', s1, s2, s3, s4, s5⟩ := ih (i + 1) (mS u 1 (upd (u.1 1) i (S (18 * i + 1)))) (by omega)
    refine ⟨u', Eq.trans ?_ s1, fun j j1 j2 => ?_, fun j hj => by rw [s3 j (by omega), mS_s, upd_o (by omega)], fun j hj => by rw [s4 j hj, mS_o hj], s5⟩
    · rw [am_go dc_109_44]
      simp (disch := first | omega | exact Nat.le_of_ble_eq_true rfl | exact lH_ci | (refine lF_lt ?_; omega) | exact (hS _).iT.ci) only [own_109, am_go dc_109_0, J_aload_0, K_al, ld_0, am_go dc_109_1, J_getfield, gf_r, fk_4_42_4, am_go dc_109_4, J_if_eq, am_go dc_109_7, J_ret_v ret_109, am_go dc_109_8, J_bipush, c8_21, am_go dc_109_10, am_go dc_109_11, fk_4_38_4, am_go dc_109_14, cv_4_46_1 own_109, JR_v, JR_0, JR_ite, ci1_r, am_go dc_109_17, J_imul, am_go dc_109_18, J_istore_1, st1_0, st1_1, st1_s, kl_i, kl_l, kl_r, kl_n, am_go dc_109_19, am_go dc_109_20, fk_4_15_4, am_go dc_109_23, J_alen, am_go dc_109_24, J_iload_1, K_il, ld_1, am_go dc_109_25, J_icmp_ge, am_go dc_109_28, am_go dc_109_29, am_go dc_109_30, am_go dc_109_32, J_putfield_i, J_putfield_l, J_putfield_r, ini_109, pk_4_15_4, am_go dc_109_35, am_go dc_109_36, am_go dc_109_37, am_go dc_109_39, pk_4_19_4, J_iconst, c32_0, am_go dc_109_43, J_istore_2, J_iload_2, ld_2, am_go dc_109_45, am_go dc_109_46, am_go dc_109_49, fk_4_52_1, am_go dc_109_52, am_go dc_109_55, am_go dc_109_56, fk_4_9_4, am_go dc_109_59, am_go dc_109_60, am_go dc_109_61, am_go dc_109_64, fk_4_56_1, am_go dc_109_67, am_go dc_109_68, J_aaload, am_go dc_109_69, am_go dc_109_72, J_iastore, am_go dc_109_73, J_iinc, pinc_go, c32_1, am_go dc_109_76, J_goto, am_go dc_109_80, i8_m4, am_go dc_109_82, cv_4_65_4 own_109, am_go dc_109_85, am_go dc_109_86, am_go dc_109_87, pk_4_42_4, am_go dc_109_90, lg_2, lg_0, lg_3, pf_a pk_4_15_4 rfl, pf_a pk_4_19_4 rfl, tg_1, lg_1, tg_0, lp_2, pf_z0 pk_4_42_4 rfl, pf_z1 pk_4_42_4 rfl, pf_zB pk_4_42_4 rfl, lH_0, lH_1, lH_4, lH_5, lH_6, lH_7, lH_8, lw_1, lw_4, lw_5, lw_6, lw_7, lw_8, zI_add, zI_mul, zI_lt, zI_le, zI_eq, zI_neg, zI_pos, zI_ne0, zI_gt0, zB_0, lg_cmp_ge, lg_cmp_le, lg_cmp_gt, lg_cmp_lt, lg_cmp_eq, ail_r, abl_r, all_r, ais_r, abs_r, als_r, aal_r, aal_q, aln_r, vrf_s, vrf_n, z32, t0, t1, t3, t4, hsz, hlt, ha, bf_4_60 hB, h1, mS_s, mS_o, mS_2, mI_1, mI_2, mI_s, mI_o, mI_3, mI_I, mS_S, mJ_1, mJ_2, mJ_3, mJ_s, mJ_o, mJ_J, mL_1, mL_2, mL_s, mL_o, List.length_cons, List.length_nil, Nat.reduceAdd, Nat.reduceLT, Nat.reduceLeDiff, Nat.reduceEqDiff, ↓reduceIte, bind_s, if_true, if_false, not_true_eq_false, not_false_eq_true, Nat.zero_add]
    · by_cases e : j = i
      · subst e
        rw [s3 j (by omega), mS_s, upd_s]
      · exact s2 j (by omega) j2
/-- what a plan stands on: Told, the boxes, room for the tables -/
theorem lX {x : Nat} (hx : lK l x) (hm : x ≠ m) (ha : x ≠ a) : lH h l (u, (t, m, a, N)) x = h x := by
  rw [lH_b hx]
  unfold lB
  rw [up_x ha, up_x hm]
def lSe (C : Nat → Prop) (l t m a : Nat) : Prop := ∀ x, (t ≤ x ∧ x < t + 8) ∨ C x → lK l x ∧ x ≠ m ∧ x ≠ a
theorem lSe.tS (hs : lSe C l t m a) (hT : tS C h t T S) : ∀ u, tS C (lH h l (u, (t, m, a, N))) t T S := fun u => hT.fr (fun x h1 h2 => by
  obtain ⟨q1, q2, q3⟩ := hs x (Or.inl ⟨h1, h2⟩)
  exact lX q1 q2 q3) (fun x hx => by
  obtain ⟨q1, q2, q3⟩ := hs x (Or.inr hx)
  exact lX q1 q2 q3) (fun _ hx => hx)
theorem l_known (hk : u.2.2.1 2 = zI 1) : am_f X (d + 7) 109 [.ref l] (lH h l (u, (t, m, a, N)), z) = some (.inl none, (lH h l (u, (t, m, a, N)), z)) := by
  rw [fU_109]
  simp (disch := first | omega | exact Nat.le_of_ble_eq_true rfl | exact lH_ci) only [own_109, am_go dc_109_0, J_aload_0, K_al, ld_0, am_go dc_109_1, J_getfield, gf_r, fk_4_42_4, am_go dc_109_4, J_if_eq, am_go dc_109_7, J_ret_v ret_109, J_bipush, c8_21, am_go dc_109_10, am_go dc_109_11, fk_4_38_4, am_go dc_109_14, cv_4_46_1 own_109, JR_v, JR_0, JR_ite, ci1_r, am_go dc_109_17, J_imul, am_go dc_109_18, J_istore_1, st1_0, st1_1, st1_s, kl_i, kl_l, kl_r, kl_n, am_go dc_109_19, am_go dc_109_20, fk_4_15_4, am_go dc_109_23, J_alen, am_go dc_109_24, J_iload_1, K_il, ld_1, am_go dc_109_25, J_icmp_ge, am_go dc_109_28, am_go dc_109_29, am_go dc_109_30, am_go dc_109_32, J_putfield_i, J_putfield_l, J_putfield_r, ini_109, pk_4_15_4, am_go dc_109_35, am_go dc_109_36, am_go dc_109_37, am_go dc_109_39, pk_4_19_4, am_go dc_109_42, J_iconst, c32_0, am_go dc_109_43, J_istore_2, am_go dc_109_44, J_iload_2, ld_2, am_go dc_109_45, am_go dc_109_46, am_go dc_109_49, fk_4_52_1, am_go dc_109_52, am_go dc_109_55, am_go dc_109_56, fk_4_9_4, am_go dc_109_59, am_go dc_109_60, am_go dc_109_61, am_go dc_109_64, fk_4_56_1, am_go dc_109_67, am_go dc_109_68, J_aaload, am_go dc_109_69, am_go dc_109_72, J_iastore, am_go dc_109_73, J_iinc, pinc_go, c32_1, am_go dc_109_76, J_goto, am_go dc_109_79, am_go dc_109_80, i8_m4, am_go dc_109_82, cv_4_65_4 own_109, am_go dc_109_85, am_go dc_109_86, am_go dc_109_87, pk_4_42_4, am_go dc_109_90, lg_2, lg_0, lg_3, pf_a pk_4_15_4 rfl, pf_a pk_4_19_4 rfl, tg_1, lg_1, tg_0, lp_2, pf_z0 pk_4_42_4 rfl, pf_z1 pk_4_42_4 rfl, pf_zB pk_4_42_4 rfl, lH_0, lH_1, lH_4, lH_5, lH_6, lH_7, lH_8, lw_1, lw_4, lw_5, lw_6, lw_7, lw_8, zI_add, zI_mul, zI_lt, zI_le, zI_eq, zI_neg, zI_pos, zI_ne0, zI_gt0, zB_0, lg_cmp_ge, lg_cmp_le, lg_cmp_gt, lg_cmp_lt, lg_cmp_eq, ail_r, abl_r, all_r, ais_r, abs_r, als_r, aal_r, aal_q, aln_r, vrf_s, vrf_n, z32, hk, List.length_cons, List.length_nil, Nat.reduceAdd, Nat.reduceLT, Nat.reduceLeDiff, Nat.reduceEqDiff, ↓reduceIte, bind_s, if_true, if_false, not_true_eq_false, not_false_eq_true, Nat.zero_add]
theorem l_know_t (hS : ∀ u, tS C (lH h l (u, (t, m, a, N))) t T S) (hL : lOkk l (t, m, a, N)) (hN : 21 * 4 ^ wN (S 116) ≤ N) (hN2 : N < 1000000) (hR : T.1.2.2.1 5 = zI R) (hR21 : R ≤ 21) {x1 : Int32} {v2 : Option Value} : ∃ u', am_I X (am_f X (d + 6)) 109 42 [some (.ref l), some (.int x1), v2] [] (lH h l (u, (t, m, a, N)), z) = some (.inl none, (lH h l (u', (t, m, a, N)), z)) ∧ tabOk S T R u' ∧ (∀ j, j < wN (S 116) → u'.1 1 j = S (18 * j + 1)) ∧ (∀ j, j ≠ 3 → u'.2.1 j = u.2.1 j) ∧ u'.2.2.1 2 = zI 1 := by
  have t0 := fun u => (hS u).iT.c0
  have t1 := fun u => (hS u).iT.c1
  have t3 := fun u => (hS u).iT.c3
  have t4 := fun u => (hS u).iT.c4
  have hsz := (hS u).sz
  have hm5 := (hS u).m5
  obtain ⟨u1, s1, s2, s3, s4, s5⟩ := l_costs_l (X := X) (d := d + 6) (z := z) hS (x1 := x1) (wN (S 116)) 0 u (Nat.zero_add _)
  obtain ⟨u2, f1, f2⟩ := l_fill (X := X) (d := d + 1) (z := z) (sb := none) (u := u1) (fun b e => by cases e) hS hL hN hN2 hR hR21
  have hv : sbV none = -4 := rfl
  rw [hv] at f1
  refine ⟨mI u2 2 (zI 1), ?_, f2.tab, fun j hj => ?_, fun j hj => ?_, mI_s⟩
  · refine Eq.trans ?_ (Eq.trans s1 ?_)
    · rw [am_go dc_109_42]
      simp (disch := first | omega | exact Nat.le_of_ble_eq_true rfl | exact lH_ci | (refine lF_lt ?_; omega) | exact (hS _).iT.ci) only [own_109, J_iconst, c32_0, am_go dc_109_43, J_istore_2, st1_0, st1_1, st1_s, kl_i, kl_l, kl_r, kl_n, lg_2, lg_0, lg_3, pf_a pk_4_15_4 rfl, pf_a pk_4_19_4 rfl, tg_1, lg_1, tg_0, lp_2, pf_z0 pk_4_42_4 rfl, pf_z1 pk_4_42_4 rfl, pf_zB pk_4_42_4 rfl, lH_0, lH_1, lH_4, lH_5, lH_6, lH_7, lH_8, lw_1, lw_4, lw_5, lw_6, lw_7, lw_8, zI_add, zI_mul, zI_lt, zI_le, zI_eq, zI_neg, zI_pos, zI_ne0, zI_gt0, zB_0, lg_cmp_ge, lg_cmp_le, lg_cmp_gt, lg_cmp_lt, lg_cmp_eq, ail_r, abl_r, all_r, ais_r, abs_r, als_r, aal_r, aal_q, aln_r, vrf_s, vrf_n, z32, t0, t1, t3, t4, hsz, List.length_cons, List.length_nil, Nat.reduceAdd, Nat.reduceLT, Nat.reduceLeDiff, Nat.reduceEqDiff, ↓reduceIte, bind_s, if_true, if_false, not_true_eq_false, not_false_eq_true, Nat.zero_add]
    · rw [am_go dc_109_79]
      simp (disch := first | omega | exact Nat.le_of_ble_eq_true rfl | exact lH_ci | (refine lF_lt ?_; omega) | exact (hS _).iT.ci) only [own_109, am_go dc_109_0, J_aload_0, K_al, ld_0, am_go dc_109_1, J_getfield, gf_r, fk_4_42_4, am_go dc_109_4, J_if_eq, am_go dc_109_7, J_ret_v ret_109, am_go dc_109_8, J_bipush, c8_21, am_go dc_109_10, am_go dc_109_11, fk_4_38_4, am_go dc_109_14, cv_4_46_1 own_109, JR_v, JR_0, JR_ite, ci1_r, am_go dc_109_17, J_imul, am_go dc_109_18, J_istore_1, st1_0, st1_1, st1_s, kl_i, kl_l, kl_r, kl_n, am_go dc_109_19, am_go dc_109_20, fk_4_15_4, am_go dc_109_23, J_alen, am_go dc_109_24, J_iload_1, K_il, ld_1, am_go dc_109_25, J_icmp_ge, am_go dc_109_28, am_go dc_109_29, am_go dc_109_30, am_go dc_109_32, J_putfield_i, J_putfield_l, J_putfield_r, ini_109, pk_4_15_4, am_go dc_109_35, am_go dc_109_36, am_go dc_109_37, am_go dc_109_39, pk_4_19_4, J_iconst, c32_0, am_go dc_109_43, J_istore_2, J_iload_2, ld_2, am_go dc_109_45, am_go dc_109_46, am_go dc_109_49, fk_4_52_1, am_go dc_109_52, am_go dc_109_55, am_go dc_109_56, fk_4_9_4, am_go dc_109_59, am_go dc_109_60, am_go dc_109_61, am_go dc_109_64, fk_4_56_1, am_go dc_109_67, am_go dc_109_68, J_aaload, am_go dc_109_69, am_go dc_109_72, J_iastore, am_go dc_109_73, J_iinc, pinc_go, c32_1, am_go dc_109_76, J_goto, am_go dc_109_80, i8_m4, am_go dc_109_82, cv_4_65_4 own_109, am_go dc_109_85, am_go dc_109_86, am_go dc_109_87, pk_4_42_4, am_go dc_109_90, lg_2, lg_0, lg_3, pf_a pk_4_15_4 rfl, pf_a pk_4_19_4 rfl, tg_1, lg_1, tg_0, lp_2, pf_z0 pk_4_42_4 rfl, pf_z1 pk_4_42_4 rfl, pf_zB pk_4_42_4 rfl, lH_0, lH_1, lH_4, lH_5, lH_6, lH_7, lH_8, lw_1, lw_4, lw_5, lw_6, lw_7, lw_8, zI_add, zI_mul, zI_lt, zI_le, zI_eq, zI_neg, zI_pos, zI_ne0, zI_gt0, zB_0, lg_cmp_ge, lg_cmp_le, lg_cmp_gt, lg_cmp_lt, lg_cmp_eq, ail_r, abl_r, all_r, ais_r, abs_r, als_r, aal_r, aal_q, aln_r, vrf_s, vrf_n, z32, t0, t1, t3, t4, hsz, f1, mS_s, mS_o, mS_2, mI_1, mI_2, mI_s, mI_o, mI_3, mI_I, mS_S, mJ_1, mJ_2, mJ_3, mJ_s, mJ_o, mJ_J, mL_1, mL_2, mL_s, mL_o, List.length_cons, List.length_nil, Nat.reduceAdd, Nat.reduceLT, Nat.reduceLeDiff, Nat.reduceEqDiff, ↓reduceIte, bind_s, if_true, if_false, not_true_eq_false, not_false_eq_true, Nat.zero_add]
  · show u2.1 1 j = _
    rw [f2.1.1]
    exact s2 j (Nat.zero_le _) hj
  · show u2.2.1 j = _
    rw [f2.1.2.1 j hj, s5]
end PV
