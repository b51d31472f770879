/-! Plan: fill -/
def lFt (u u' : mU) : Prop := u'.1 1 = u.1 1 ∧ (∀ j, j ≠ 3 → u'.2.1 j = u.2.1 j) ∧ u'.2.2.1 2 = u.2.2.1 2
theorem lFt.tr {u u' u'' : mU} (h1 : lFt u u') (h2 : lFt u' u'') : lFt u u'' := ⟨h2.1.trans h1.1, fun j hj => (h2.2.1 j hj).trans (h1.2.1 j hj), h2.2.2.trans h1.2.2⟩
def ix (S : Nat → Int32) (dg : Nat → Nat) (r : Nat) : Nat := r * 4 ^ wN (S 116) + pk dg
def sbV (sb : Option Nat) : Int32 := match sb with
  | none => -4
  | some b => zI b
def sbW (S : Nat → Int32) (sb : Option Nat) (dg : Nat → Nat) : Bool := cCan S dg && (match sb with
  | none => true
  | some b => !cOp S dg b)
section PF2
variable {X : am_X} {C : Nat → Prop} {h : am_H} {l t m a N d R : Nat} {T : mU × (Nat → Option Nat)} {S : Nat → Int32} {z : Nat × Nat} {dg : Nat → Nat}
theorem lWr_k {u : mU} {r k : Nat} {v : Int64 × Int32} (hK : lkI S dg u k) : lkI S dg (lWr S dg r v u) k := hK
theorem l_ranks (hS : ∀ u, tS C (lH h l (u, (t, m, a, N))) t T S) (hL : lOkk l (t, m, a, N)) (hN : 21 * 4 ^ wN (S 116) ≤ N) (hN2 : N < 1000000) (hd : dIn S dg) (hR : T.1.2.2.1 5 = zI R) (hR21 : R ≤ 21) {x : Int32} {v3 : Option Value} : ∀ (k i : Nat) (u : mU), i + k = R → lkI S dg u (wN (S 116)) → ∃ u' v5, am_I X (am_f X (d + 4)) 111 69 [some (.ref l), some (.int x), some (.int (zI (pk dg))), v3, some (.int (cSeen T S dg)), some (.int (zI i))] [] (lH h l (u, (t, m, a, N)), z) = am_I X (am_f X (d + 4)) 111 103 [some (.ref l), some (.int x), some (.int (zI (pk dg))), v3, some (.int (cSeen T S dg)), v5] [] (lH h l (u', (t, m, a, N)), z) ∧ lFt u u' ∧ (∀ r, i ≤ r → r < R → bt (cSeen T S dg) r = true → (u'.2.1 3 (ix S dg r), u'.1 4 (ix S dg r)) = cStep S T (u.1 1) (tV S (u.2.1 3)) dg r) ∧ (∀ j, (∀ r, i ≤ r → r < R → bt (cSeen T S dg) r = true → j ≠ ix S dg r) → u'.2.1 3 j = u.2.1 3 j ∧ u'.1 4 j = u.1 4 j) := by
  have t0 := fun u => (hS u).iT.c0
  have t1 := fun u => (hS u).iT.c1
  have t3 := fun u => (hS u).iT.c3
  have t4 := fun u => (hS u).iT.c4
  have t0' := t0
  intro k
  induction k with
  | zero =>
    intro i u hi hK
    have hsz := (hS u).sz
    have hi' : R ≤ i := by omega
    refine ⟨u, some (.int (zI i)), ?_, ⟨rfl, fun _ _ => rfl, rfl⟩, fun r h1 h2 => by omega, fun j _ => ⟨rfl, rfl⟩⟩
    rw [am_go dc_111_69]
    simp (disch := first | omega | exact Nat.le_of_ble_eq_true rfl | exact lH_ci | (refine lF_lt ?_; omega) | exact (hS _).iT.ci) only [own_111, am_go dc_111_0, J_aload_0, K_al, ld_0, am_go dc_111_1, J_getfield, gf_r, fk_4_38_4, am_go dc_111_4, cv_4_46_1 own_111, JR_v, JR_0, JR_ite, ci1_r, am_go dc_111_7, J_iconst, c32_1, am_go dc_111_8, J_isub, am_go dc_111_9, J_istore_2, st1_0, st1_1, st1_s, kl_i, kl_l, kl_r, kl_n, J_iload_2, K_il, ld_2, am_go dc_111_11, J_if_lt, am_go dc_111_14, am_go dc_111_15, am_go dc_111_18, am_go dc_111_19, cv_4_69_1 own_111, am_go dc_111_22, J_if_eq, am_go dc_111_25, J_iload_1, ld_1, am_go dc_111_26, am_go dc_111_29, am_go dc_111_30, am_go dc_111_33, am_go dc_111_34, am_go dc_111_35, cv_4_73_1 own_111, am_go dc_111_38, J_if_ne, am_go dc_111_41, am_go dc_111_42, J_goto, am_go dc_111_45, c32_0, J_istore_3, am_go dc_111_47, J_iload_3, ld_3, am_go dc_111_48, am_go dc_111_51, am_go dc_111_52, am_go dc_111_53, cv_4_77_4 own_111, am_go dc_111_56, am_go dc_111_57, am_go dc_111_60, am_go dc_111_61, cv_4_80_1 own_111, am_go dc_111_64, J_istore, am_go dc_111_66, am_go dc_111_67, J_iload, ld_5, am_go dc_111_71, am_go dc_111_72, am_go dc_111_75, fk_4_84_1, am_go dc_111_78, J_icmp_ge, am_go dc_111_81, ld_4, am_go dc_111_83, am_go dc_111_84, am_go dc_111_86, J_ishl, am_go dc_111_87, J_iand, am_go dc_111_88, am_go dc_111_91, am_go dc_111_92, am_go dc_111_94, cv_4_87_4 own_111, am_go dc_111_97, J_iinc, pinc_go, am_go dc_111_100, i32_m1, am_go dc_111_106, am_go dc_111_109, J_ret_v ret_111, lg_0, tg_5, lH_0, lH_1, lH_4, lH_5, lH_6, lH_7, lH_8, lw_1, lw_4, lw_5, lw_6, lw_7, lw_8, zI_add, zI_mul, zI_lt, zI_le, zI_eq, zI_neg, zI_pos, zI_ne0, zI_gt0, zB_0, lg_cmp_ge, lg_cmp_le, lg_cmp_gt, lg_cmp_lt, lg_cmp_eq, ail_r, abl_r, all_r, ais_r, abs_r, als_r, aal_r, aal_q, aln_r, vrf_s, vrf_n, z32, t0, t1, t3, t4, hsz, hR, hi', List.length_cons, List.length_nil, Nat.reduceAdd, Nat.reduceLT, Nat.reduceLeDiff, Nat.reduceEqDiff, ↓reduceIte, bind_s, if_true, if_false, not_true_eq_false, not_false_eq_true, Nat.zero_add]
    all_goals rfl
  | succ k ih =>
    intro i u hi hK
    have hsz := (hS u).sz
    have hm5 := (hS u).m5
    have hlt : ¬ R ≤ i := by omega
    cases c : bt (cSeen T S dg) i with
    | true =>
      have kw := l_weigh (X := X) (d := d + 1) (z := z) hS hL hN hN2 hd hK (show i < 21 by omega)
      obtain ⟨u', v5, s1, s2, s3, s4⟩ := ih (i + 1) (lWr S dg i (cStep S T (u.1 1) (tV S (u.2.1 3)) dg i) u) (by omega) (lWr_k hK)
      have eM : ∀ j, j ≠ ix S dg i → (lWr S dg i (cStep S T (u.1 1) (tV S (u.2.1 3)) dg i) u).2.1 3 j = u.2.1 3 j ∧ (lWr S dg i (cStep S T (u.1 1) (tV S (u.2.1 3)) dg i) u).1 4 j = u.1 4 j := fun j hj => ⟨upL_o hj, upd_o hj⟩
      have ix_ne : ∀ r r', r ≠ r' → ix S dg r ≠ ix S dg r' := fun r r' hr e => hr (idx_inj hd hd hm5 e).1
      have hF : lFt u (lWr S dg i (cStep S T (u.1 1) (tV S (u.2.1 3)) dg i) u) := ⟨rfl, fun j hj => if_neg hj, rfl⟩
      refine ⟨u', v5, Eq.trans ?_ s1, hF.tr s2, fun r h1 h2 h3 => ?_, fun j hj => ?_⟩
      · rw [am_go dc_111_69]
        simp (disch := first | omega | exact Nat.le_of_ble_eq_true rfl | exact lH_ci | (refine lF_lt ?_; omega) | exact (hS _).iT.ci) only [own_111, am_go dc_111_0, J_aload_0, K_al, ld_0, am_go dc_111_1, J_getfield, gf_r, fk_4_38_4, am_go dc_111_4, cv_4_46_1 own_111, JR_v, JR_0, JR_ite, ci1_r, am_go dc_111_7, J_iconst, c32_1, am_go dc_111_8, J_isub, am_go dc_111_9, J_istore_2, st1_0, st1_1, st1_s, kl_i, kl_l, kl_r, kl_n, J_iload_2, K_il, ld_2, am_go dc_111_11, J_if_lt, am_go dc_111_14, am_go dc_111_15, am_go dc_111_18, am_go dc_111_19, cv_4_69_1 own_111, am_go dc_111_22, J_if_eq, am_go dc_111_25, J_iload_1, ld_1, am_go dc_111_26, am_go dc_111_29, am_go dc_111_30, am_go dc_111_33, am_go dc_111_34, am_go dc_111_35, cv_4_73_1 own_111, am_go dc_111_38, J_if_ne, am_go dc_111_41, am_go dc_111_42, J_goto, am_go dc_111_45, c32_0, J_istore_3, am_go dc_111_47, J_iload_3, ld_3, am_go dc_111_48, am_go dc_111_51, am_go dc_111_52, am_go dc_111_53, cv_4_77_4 own_111, am_go dc_111_56, am_go dc_111_57, am_go dc_111_60, am_go dc_111_61, cv_4_80_1 own_111, am_go dc_111_64, J_istore, am_go dc_111_66, am_go dc_111_67, J_iload, ld_5, am_go dc_111_71, am_go dc_111_72, am_go dc_111_75, fk_4_84_1, am_go dc_111_78, J_icmp_ge, am_go dc_111_81, ld_4, am_go dc_111_83, am_go dc_111_84, am_go dc_111_86, J_ishl, am_go dc_111_87, J_iand, am_go dc_111_88, am_go dc_111_91, am_go dc_111_92, am_go dc_111_94, cv_4_87_4 own_111, am_go dc_111_97, J_iinc, pinc_go, am_go dc_111_100, i32_m1, am_go dc_111_106, am_go dc_111_109, J_ret_v ret_111, lg_0, tg_5, lH_0, lH_1, lH_4, lH_5, lH_6, lH_7, lH_8, lw_1, lw_4, lw_5, lw_6, lw_7, lw_8, zI_add, zI_mul, zI_lt, zI_le, zI_eq, zI_neg, zI_pos, zI_ne0, zI_gt0, zB_0, lg_cmp_ge, lg_cmp_le, lg_cmp_gt, lg_cmp_lt, lg_cmp_eq, ail_r, abl_r, all_r, ais_r, abs_r, als_r, aal_r, aal_q, aln_r, vrf_s, vrf_n, z32, t0, t1, t3, t4, hsz, hR, hlt, bt_0, c, kw, Bool.true_eq_false, mS_s, mS_o, mS_2, mI_1, mI_2, mI_s, mI_o, mI_3, mI_I, mS_S, mJ_1, mJ_2, mJ_3, mJ_s, mJ_o, mJ_J, mL_1, mL_2, mL_s, mL_o, List.length_cons, List.length_nil, Nat.reduceAdd, Nat.reduceLT, Nat.reduceLeDiff, Nat.reduceEqDiff, ↓reduceIte, bind_s, if_true, if_false, not_true_eq_false, not_false_eq_true, Nat.zero_add]
      · by_cases e : r = i
        · subst e
          obtain ⟨q1, q2⟩ := s4 (ix S dg r) (fun r' h4 h5 _ => ix_ne _ _ (by omega))
          rw [q1, q2]
          refine Prod.ext ?_ ?_
          · exact upL_s
          · exact upd_s
        · rw [s3 r (by omega) h2 h3]
          refine cStep_cg hd hm5 (fun dg' r' h4 h5 => ?_) (fun b _ _ => rfl)
          exact (eM _ (fun e2 => by
            have := (idx_inj h4 hd hm5 e2).2
            omega)).1
      · obtain ⟨q1, q2⟩ := s4 j (fun r h1 h2 h3 => hj r (by omega) h2 h3)
        obtain ⟨q3, q4⟩ := eM j (hj i (Nat.le_refl _) (by omega) c)
        rw [q1, q2]
        exact ⟨q3, q4⟩
    | false =>
      obtain ⟨u', v5, s1, s2, s3, s4⟩ := ih (i + 1) u (by omega) hK
      refine ⟨u', v5, Eq.trans ?_ s1, s2, fun r h1 h2 h3 => ?_, fun j hj => s4 j (fun r h1 h2 h3 => hj r (by omega) h2 h3)⟩
      · rw [am_go dc_111_69]
        simp (disch := first | omega | exact Nat.le_of_ble_eq_true rfl | exact lH_ci | (refine lF_lt ?_; omega) | exact (hS _).iT.ci) only [own_111, am_go dc_111_0, J_aload_0, K_al, ld_0, am_go dc_111_1, J_getfield, gf_r, fk_4_38_4, am_go dc_111_4, cv_4_46_1 own_111, JR_v, JR_0, JR_ite, ci1_r, am_go dc_111_7, J_iconst, c32_1, am_go dc_111_8, J_isub, am_go dc_111_9, J_istore_2, st1_0, st1_1, st1_s, kl_i, kl_l, kl_r, kl_n, J_iload_2, K_il, ld_2, am_go dc_111_11, J_if_lt, am_go dc_111_14, am_go dc_111_15, am_go dc_111_18, am_go dc_111_19, cv_4_69_1 own_111, am_go dc_111_22, J_if_eq, am_go dc_111_25, J_iload_1, ld_1, am_go dc_111_26, am_go dc_111_29, am_go dc_111_30, am_go dc_111_33, am_go dc_111_34, am_go dc_111_35, cv_4_73_1 own_111, am_go dc_111_38, J_if_ne, am_go dc_111_41, am_go dc_111_42, J_goto, am_go dc_111_45, c32_0, J_istore_3, am_go dc_111_47, J_iload_3, ld_3, am_go dc_111_48, am_go dc_111_51, am_go dc_111_52, am_go dc_111_53, cv_4_77_4 own_111, am_go dc_111_56, am_go dc_111_57, am_go dc_111_60, am_go dc_111_61, cv_4_80_1 own_111, am_go dc_111_64, J_istore, am_go dc_111_66, am_go dc_111_67, J_iload, ld_5, am_go dc_111_71, am_go dc_111_72, am_go dc_111_75, fk_4_84_1, am_go dc_111_78, J_icmp_ge, am_go dc_111_81, ld_4, am_go dc_111_83, am_go dc_111_84, am_go dc_111_86, J_ishl, am_go dc_111_87, J_iand, am_go dc_111_88, am_go dc_111_91, am_go dc_111_92, am_go dc_111_94, cv_4_87_4 own_111, am_go dc_111_97, J_iinc, pinc_go, am_go dc_111_100, i32_m1, am_go dc_111_106, am_go dc_111_109, J_ret_v ret_111, lg_0, tg_5, lH_0, lH_1, lH_4, lH_5, lH_6, lH_7, lH_8, lw_1, lw_4, lw_5, lw_6, lw_7, lw_8, zI_add, zI_mul, zI_lt, zI_le, zI_eq, zI_neg, zI_pos, zI_ne0, zI_gt0, zB_0, lg_cmp_ge, lg_cmp_le, lg_cmp_gt, lg_cmp_lt, lg_cmp_eq, ail_r, abl_r, all_r, ais_r, abs_r, als_r, aal_r, aal_q, aln_r, vrf_s, vrf_n, z32, t0, t1, t3, t4, hsz, hR, hlt, bt_0, c, mS_s, mS_o, mS_2, mI_1, mI_2, mI_s, mI_o, mI_3, mI_I, mS_S, mJ_1, mJ_2, mJ_3, mJ_s, mJ_o, mJ_J, mL_1, mL_2, mL_s, mL_o, List.length_cons, List.length_nil, Nat.reduceAdd, Nat.reduceLT, Nat.reduceLeDiff, Nat.reduceEqDiff, ↓reduceIte, bind_s, if_true, if_false, not_true_eq_false, not_false_eq_true, Nat.zero_add]
      · by_cases e : r = i
        · subst e
          rw [c] at h3
          cases h3
        · exact s3 r (by omega) h2 h3
/-- the table, as far as codes k and above go -/
def fI (S : Nat → Int32) (T : mU × (Nat → Option Nat)) (R : Nat) (sb : Option Nat) (u0 u : mU) (k : Nat) : Prop := lFt u0 u ∧ (∀ dg, dIn S dg → k ≤ pk dg → sbW S sb dg = true → ∀ r, r < R → bt (cSeen T S dg) r = true → (u.2.1 3 (ix S dg r), u.1 4 (ix S dg r)) = cStep S T (u.1 1) (tV S (u.2.1 3)) dg r) ∧ (∀ dg r, dIn S dg → pk dg < k ∨ sbW S sb dg = false ∨ R ≤ r ∨ bt (cSeen T S dg) r = false → u.2.1 3 (ix S dg r) = u0.2.1 3 (ix S dg r) ∧ u.1 4 (ix S dg r) = u0.1 4 (ix S dg r))
theorem l_fill_l {sb : Option Nat} (hsb : ∀ b, sb = some b → b < wN (S 116)) (hS : ∀ u, tS C (lH h l (u, (t, m, a, N))) t T S) (hL : lOkk l (t, m, a, N)) (hN : 21 * 4 ^ wN (S 116) ≤ N) (hN2 : N < 1000000) (hR : T.1.2.2.1 5 = zI R) (hR21 : R ≤ 21) {u0 : mU} : ∀ (k : Nat) (u : mU) (v3 v4 v5 : Option Value), k ≤ 4 ^ wN (S 116) → fI S T R sb u0 u k → ∃ u', am_I X (am_f X (d + 4)) 111 10 [some (.ref l), some (.int (sbV sb)), some (.int (zI k + -1)), v3, v4, v5] [] (lH h l (u, (t, m, a, N)), z) = some (.inl none, (lH h l (u', (t, m, a, N)), z)) ∧ fI S T R sb u0 u' 0 := by
  have t0 := fun u => (hS u).iT.c0
  have t1 := fun u => (hS u).iT.c1
  have t3 := fun u => (hS u).iT.c3
  have t4 := fun u => (hS u).iT.c4
  intro k
  induction k with
  | zero =>
    intro u v3 v4 v5 _ hI
    have hsz := (hS u).sz
    refine ⟨u, ?_, hI⟩
    have c : zI 0 + (-1 : Int32) < 0 := by decide
    rw [am_go dc_111_10]
    simp (disch := first | omega | exact Nat.le_of_ble_eq_true rfl | exact lH_ci | (refine lF_lt ?_; omega) | exact (hS _).iT.ci) only [own_111, am_go dc_111_0, J_aload_0, K_al, ld_0, am_go dc_111_1, J_getfield, gf_r, fk_4_38_4, am_go dc_111_4, cv_4_46_1 own_111, JR_v, JR_0, JR_ite, ci1_r, am_go dc_111_7, J_iconst, c32_1, am_go dc_111_8, J_isub, am_go dc_111_9, J_istore_2, st1_0, st1_1, st1_s, kl_i, kl_l, kl_r, kl_n, J_iload_2, K_il, ld_2, am_go dc_111_11, J_if_lt, am_go dc_111_14, am_go dc_111_15, am_go dc_111_18, am_go dc_111_19, cv_4_69_1 own_111, am_go dc_111_22, J_if_eq, am_go dc_111_25, J_iload_1, ld_1, am_go dc_111_26, am_go dc_111_29, am_go dc_111_30, am_go dc_111_33, am_go dc_111_34, am_go dc_111_35, cv_4_73_1 own_111, am_go dc_111_38, J_if_ne, am_go dc_111_41, am_go dc_111_42, J_goto, am_go dc_111_45, c32_0, J_istore_3, am_go dc_111_47, J_iload_3, ld_3, am_go dc_111_48, am_go dc_111_51, am_go dc_111_52, am_go dc_111_53, cv_4_77_4 own_111, am_go dc_111_56, am_go dc_111_57, am_go dc_111_60, am_go dc_111_61, cv_4_80_1 own_111, am_go dc_111_64, J_istore, am_go dc_111_66, am_go dc_111_67, J_iload, ld_5, am_go dc_111_71, am_go dc_111_72, am_go dc_111_75, fk_4_84_1, am_go dc_111_78, J_icmp_ge, am_go dc_111_81, ld_4, am_go dc_111_83, am_go dc_111_84, am_go dc_111_86, J_ishl, am_go dc_111_87, J_iand, am_go dc_111_88, am_go dc_111_91, am_go dc_111_92, am_go dc_111_94, cv_4_87_4 own_111, am_go dc_111_97, J_iinc, pinc_go, am_go dc_111_100, i32_m1, am_go dc_111_106, am_go dc_111_109, J_ret_v ret_111, lg_0, tg_5, lH_0, lH_1, lH_4, lH_5, lH_6, lH_7, lH_8, lw_1, lw_4, lw_5, lw_6, lw_7, lw_8, zI_add, zI_mul, zI_lt, zI_le, zI_eq, zI_neg, zI_pos, zI_ne0, zI_gt0, zB_0, lg_cmp_ge, lg_cmp_le, lg_cmp_gt, lg_cmp_lt, lg_cmp_eq, ail_r, abl_r, all_r, ais_r, abs_r, als_r, aal_r, aal_q, aln_r, vrf_s, vrf_n, z32, t0, t1, t3, t4, hsz, c, List.length_cons, List.length_nil, Nat.reduceAdd, Nat.reduceLT, Nat.reduceLeDiff, Nat.reduceEqDiff, ↓reduceIte, bind_s, if_true, if_false, not_true_eq_false, not_false_eq_true, Nat.zero_add]
  | succ k ih =>
    intro u v3 v4 v5 hk hI
    have hsz := (hS u).sz
    have hm5 := (hS u).m5
    have h1024 := four_le hm5
    have hd : dIn S (dgc k) := dgc_in (by omega)
    have hpk : pk (dgc k) = k := pk_dgc (by omega)
    have kc : am_f X (d + 4) 112 [.ref t, .int (zI (pk (dgc k)))] (lH h l (u, (t, m, a, N)), z) = _ := c_canBe (X := X) (d := d + 2) (z := z) (hS u) hd.1
    have hko : ∀ b, b < wN (S 116) → am_f X (d + 4) 77 [.ref t, .int (zI (pk (dgc k))), .int (zI b)] (lH h l (u, (t, m, a, N)), z) = some (.inl (some (.int (zB (cOp S (dgc k) b)))), (lH h l (u, (t, m, a, N)), z)) := fun b hb => c_isOpen (X := X) (d := d + 3) (z := z) (hS u) hd.1 hb
    rw [hpk] at kc
    have hnn : ¬ zI k < 0 := by rw [zI_neg (by omega)]; exact id
    rw [zI_dec]
    -- whether the place is wanted
    have g0 : am_I X (am_f X (d + 4)) 111 10 [some (.ref l), some (.int (sbV sb)), some (.int (zI k)), v3, v4, v5] [] (lH h l (u, (t, m, a, N)), z) = am_I X (am_f X (d + 4)) 111 46 [some (.ref l), some (.int (sbV sb)), some (.int (zI k)), v3, v4, v5] [.int (zB (sbW S sb (dgc k)))] (lH h l (u, (t, m, a, N)), z) := by
      unfold sbW
      rw [am_go dc_111_10]
      cases hcn : cCan S (dgc k) with
      | false =>
        rw [hcn] at kc
        rw [Bool.false_and]
        simp (disch := first | omega | exact Nat.le_of_ble_eq_true rfl | exact lH_ci | (refine lF_lt ?_; omega) | exact (hS _).iT.ci) only [own_111, am_go dc_111_0, J_aload_0, K_al, ld_0, am_go dc_111_1, J_getfield, gf_r, fk_4_38_4, am_go dc_111_4, cv_4_46_1 own_111, JR_v, JR_0, JR_ite, ci1_r, am_go dc_111_7, J_iconst, c32_1, am_go dc_111_8, J_isub, am_go dc_111_9, J_istore_2, st1_0, st1_1, st1_s, kl_i, kl_l, kl_r, kl_n, J_iload_2, K_il, ld_2, am_go dc_111_11, J_if_lt, am_go dc_111_14, am_go dc_111_15, am_go dc_111_18, am_go dc_111_19, cv_4_69_1 own_111, am_go dc_111_22, J_if_eq, am_go dc_111_25, J_iload_1, ld_1, am_go dc_111_26, am_go dc_111_29, am_go dc_111_30, am_go dc_111_33, am_go dc_111_34, am_go dc_111_35, cv_4_73_1 own_111, am_go dc_111_38, J_if_ne, am_go dc_111_41, am_go dc_111_42, J_goto, am_go dc_111_45, c32_0, J_istore_3, am_go dc_111_47, J_iload_3, ld_3, am_go dc_111_48, am_go dc_111_51, am_go dc_111_52, am_go dc_111_53, cv_4_77_4 own_111, am_go dc_111_56, am_go dc_111_57, am_go dc_111_60, am_go dc_111_61, cv_4_80_1 own_111, am_go dc_111_64, J_istore, am_go dc_111_66, am_go dc_111_67, J_iload, ld_5, am_go dc_111_71, am_go dc_111_72, am_go dc_111_75, fk_4_84_1, am_go dc_111_78, J_icmp_ge, am_go dc_111_81, ld_4, am_go dc_111_83, am_go dc_111_84, am_go dc_111_86, J_ishl, am_go dc_111_87, J_iand, am_go dc_111_88, am_go dc_111_91, am_go dc_111_92, am_go dc_111_94, cv_4_87_4 own_111, am_go dc_111_97, J_iinc, pinc_go, am_go dc_111_100, i32_m1, am_go dc_111_106, am_go dc_111_109, J_ret_v ret_111, lg_0, tg_5, lH_0, lH_1, lH_4, lH_5, lH_6, lH_7, lH_8, lw_1, lw_4, lw_5, lw_6, lw_7, lw_8, zI_add, zI_mul, zI_lt, zI_le, zI_eq, zI_neg, zI_pos, zI_ne0, zI_gt0, zB_0, lg_cmp_ge, lg_cmp_le, lg_cmp_gt, lg_cmp_lt, lg_cmp_eq, ail_r, abl_r, all_r, ais_r, abs_r, als_r, aal_r, aal_q, aln_r, vrf_s, vrf_n, z32, t0, t1, t3, t4, hsz, kc, hnn, zB_t, zB_f, m4_lt, List.length_cons, List.length_nil, Nat.reduceAdd, Nat.reduceLT, Nat.reduceLeDiff, Nat.reduceEqDiff, ↓reduceIte, bind_s, if_true, if_false, not_true_eq_false, not_false_eq_true, Nat.zero_add]
      | true =>
        rw [hcn] at kc
        rw [Bool.true_and]
        cases sb with
        | none =>
          have hv : sbV none = -4 := rfl
          rw [hv]
          simp (disch := first | omega | exact Nat.le_of_ble_eq_true rfl | exact lH_ci | (refine lF_lt ?_; omega) | exact (hS _).iT.ci) only [own_111, am_go dc_111_0, J_aload_0, K_al, ld_0, am_go dc_111_1, J_getfield, gf_r, fk_4_38_4, am_go dc_111_4, cv_4_46_1 own_111, JR_v, JR_0, JR_ite, ci1_r, am_go dc_111_7, J_iconst, c32_1, am_go dc_111_8, J_isub, am_go dc_111_9, J_istore_2, st1_0, st1_1, st1_s, kl_i, kl_l, kl_r, kl_n, J_iload_2, K_il, ld_2, am_go dc_111_11, J_if_lt, am_go dc_111_14, am_go dc_111_15, am_go dc_111_18, am_go dc_111_19, cv_4_69_1 own_111, am_go dc_111_22, J_if_eq, am_go dc_111_25, J_iload_1, ld_1, am_go dc_111_26, am_go dc_111_29, am_go dc_111_30, am_go dc_111_33, am_go dc_111_34, am_go dc_111_35, cv_4_73_1 own_111, am_go dc_111_38, J_if_ne, am_go dc_111_41, am_go dc_111_42, J_goto, am_go dc_111_45, c32_0, J_istore_3, am_go dc_111_47, J_iload_3, ld_3, am_go dc_111_48, am_go dc_111_51, am_go dc_111_52, am_go dc_111_53, cv_4_77_4 own_111, am_go dc_111_56, am_go dc_111_57, am_go dc_111_60, am_go dc_111_61, cv_4_80_1 own_111, am_go dc_111_64, J_istore, am_go dc_111_66, am_go dc_111_67, J_iload, ld_5, am_go dc_111_71, am_go dc_111_72, am_go dc_111_75, fk_4_84_1, am_go dc_111_78, J_icmp_ge, am_go dc_111_81, ld_4, am_go dc_111_83, am_go dc_111_84, am_go dc_111_86, J_ishl, am_go dc_111_87, J_iand, am_go dc_111_88, am_go dc_111_91, am_go dc_111_92, am_go dc_111_94, cv_4_87_4 own_111, am_go dc_111_97, J_iinc, pinc_go, am_go dc_111_100, i32_m1, am_go dc_111_106, am_go dc_111_109, J_ret_v ret_111, lg_0, tg_5, lH_0, lH_1, lH_4, lH_5, lH_6, lH_7, lH_8, lw_1, lw_4, lw_5, lw_6, lw_7, lw_8, zI_add, zI_mul, zI_lt, zI_le, zI_eq, zI_neg, zI_pos, zI_ne0, zI_gt0, zB_0, lg_cmp_ge, lg_cmp_le, lg_cmp_gt, lg_cmp_lt, lg_cmp_eq, ail_r, abl_r, all_r, ais_r, abs_r, als_r, aal_r, aal_q, aln_r, vrf_s, vrf_n, z32, t0, t1, t3, t4, hsz, kc, hnn, zB_t, zB_f, m4_lt, List.length_cons, List.length_nil, Nat.reduceAdd, Nat.reduceLT, Nat.reduceLeDiff, Nat.reduceEqDiff, ↓reduceIte, bind_s, if_true, if_false, not_true_eq_false, not_false_eq_true, Nat.zero_add]
        | some b =>
          have hv : sbV (some b) = zI b := rfl
          have hb := hsb b rfl
          have ko := hko b hb
          rw [hpk] at ko
          rw [hv]
          cases hop : cOp S (dgc k) b with
          | false =>
            rw [hop] at ko
            simp (disch := first | omega | exact Nat.le_of_ble_eq_true rfl | exact lH_ci | (refine lF_lt ?_; omega) | exact (hS _).iT.ci) only [own_111, am_go dc_111_0, J_aload_0, K_al, ld_0, am_go dc_111_1, J_getfield, gf_r, fk_4_38_4, am_go dc_111_4, cv_4_46_1 own_111, JR_v, JR_0, JR_ite, ci1_r, am_go dc_111_7, J_iconst, c32_1, am_go dc_111_8, J_isub, am_go dc_111_9, J_istore_2, st1_0, st1_1, st1_s, kl_i, kl_l, kl_r, kl_n, J_iload_2, K_il, ld_2, am_go dc_111_11, J_if_lt, am_go dc_111_14, am_go dc_111_15, am_go dc_111_18, am_go dc_111_19, cv_4_69_1 own_111, am_go dc_111_22, J_if_eq, am_go dc_111_25, J_iload_1, ld_1, am_go dc_111_26, am_go dc_111_29, am_go dc_111_30, am_go dc_111_33, am_go dc_111_34, am_go dc_111_35, cv_4_73_1 own_111, am_go dc_111_38, J_if_ne, am_go dc_111_41, am_go dc_111_42, J_goto, am_go dc_111_45, c32_0, J_istore_3, am_go dc_111_47, J_iload_3, ld_3, am_go dc_111_48, am_go dc_111_51, am_go dc_111_52, am_go dc_111_53, cv_4_77_4 own_111, am_go dc_111_56, am_go dc_111_57, am_go dc_111_60, am_go dc_111_61, cv_4_80_1 own_111, am_go dc_111_64, J_istore, am_go dc_111_66, am_go dc_111_67, J_iload, ld_5, am_go dc_111_71, am_go dc_111_72, am_go dc_111_75, fk_4_84_1, am_go dc_111_78, J_icmp_ge, am_go dc_111_81, ld_4, am_go dc_111_83, am_go dc_111_84, am_go dc_111_86, J_ishl, am_go dc_111_87, J_iand, am_go dc_111_88, am_go dc_111_91, am_go dc_111_92, am_go dc_111_94, cv_4_87_4 own_111, am_go dc_111_97, J_iinc, pinc_go, am_go dc_111_100, i32_m1, am_go dc_111_106, am_go dc_111_109, J_ret_v ret_111, lg_0, tg_5, lH_0, lH_1, lH_4, lH_5, lH_6, lH_7, lH_8, lw_1, lw_4, lw_5, lw_6, lw_7, lw_8, zI_add, zI_mul, zI_lt, zI_le, zI_eq, zI_neg, zI_pos, zI_ne0, zI_gt0, zB_0, lg_cmp_ge, lg_cmp_le, lg_cmp_gt, lg_cmp_lt, lg_cmp_eq, ail_r, abl_r, all_r, ais_r, abs_r, als_r, aal_r, aal_q, aln_r, vrf_s, vrf_n, z32, t0, t1, t3, t4, hsz, kc, hnn, zB_t, zB_f, m4_lt, ko, hop, Bool.not_false, Bool.not_true, List.length_cons, List.length_nil, Nat.reduceAdd, Nat.reduceLT, Nat.reduceLeDiff, Nat.reduceEqDiff, ↓reduceIte, bind_s, if_true, if_false, not_true_eq_false, not_false_eq_true, Nat.zero_add]
          | true =>
            rw [hop] at ko
            simp (disch := first | omega | exact Nat.le_of_ble_eq_true rfl | exact lH_ci | (refine lF_lt ?_; omega) | exact (hS _).iT.ci) only [own_111, am_go dc_111_0, J_aload_0, K_al, ld_0, am_go dc_111_1, J_getfield, gf_r, fk_4_38_4, am_go dc_111_4, cv_4_46_1 own_111, JR_v, JR_0, JR_ite, ci1_r, am_go dc_111_7, J_iconst, c32_1, am_go dc_111_8, J_isub, am_go dc_111_9, J_istore_2, st1_0, st1_1, st1_s, kl_i, kl_l, kl_r, kl_n, J_iload_2, K_il, ld_2, am_go dc_111_11, J_if_lt, am_go dc_111_14, am_go dc_111_15, am_go dc_111_18, am_go dc_111_19, cv_4_69_1 own_111, am_go dc_111_22, J_if_eq, am_go dc_111_25, J_iload_1, ld_1, am_go dc_111_26, am_go dc_111_29, am_go dc_111_30, am_go dc_111_33, am_go dc_111_34, am_go dc_111_35, cv_4_73_1 own_111, am_go dc_111_38, J_if_ne, am_go dc_111_41, am_go dc_111_42, J_goto, am_go dc_111_45, c32_0, J_istore_3, am_go dc_111_47, J_iload_3, ld_3, am_go dc_111_48, am_go dc_111_51, am_go dc_111_52, am_go dc_111_53, cv_4_77_4 own_111, am_go dc_111_56, am_go dc_111_57, am_go dc_111_60, am_go dc_111_61, cv_4_80_1 own_111, am_go dc_111_64, J_istore, am_go dc_111_66, am_go dc_111_67, J_iload, ld_5, am_go dc_111_71, am_go dc_111_72, am_go dc_111_75, fk_4_84_1, am_go dc_111_78, J_icmp_ge, am_go dc_111_81, ld_4, am_go dc_111_83, am_go dc_111_84, am_go dc_111_86, J_ishl, am_go dc_111_87, J_iand, am_go dc_111_88, am_go dc_111_91, am_go dc_111_92, am_go dc_111_94, cv_4_87_4 own_111, am_go dc_111_97, J_iinc, pinc_go, am_go dc_111_100, i32_m1, am_go dc_111_106, am_go dc_111_109, J_ret_v ret_111, lg_0, tg_5, lH_0, lH_1, lH_4, lH_5, lH_6, lH_7, lH_8, lw_1, lw_4, lw_5, lw_6, lw_7, lw_8, zI_add, zI_mul, zI_lt, zI_le, zI_eq, zI_neg, zI_pos, zI_ne0, zI_gt0, zB_0, lg_cmp_ge, lg_cmp_le, lg_cmp_gt, lg_cmp_lt, lg_cmp_eq, ail_r, abl_r, all_r, ais_r, abs_r, als_r, aal_r, aal_q, aln_r, vrf_s, vrf_n, z32, t0, t1, t3, t4, hsz, kc, hnn, zB_t, zB_f, m4_lt, ko, hop, Bool.not_false, Bool.not_true, List.length_cons, List.length_nil, Nat.reduceAdd, Nat.reduceLT, Nat.reduceLeDiff, Nat.reduceEqDiff, ↓reduceIte, bind_s, if_true, if_false, not_true_eq_false, not_false_eq_true, Nat.zero_add]
    cases hW : sbW S sb (dgc k) with
    | false =>
      have hI' : fI S T R sb u0 u k := by
        refine ⟨hI.1, fun dg hdg h1 h2 => ?_, fun dg r hdg h1 => hI.2.2 dg r hdg ?_⟩
        · by_cases e : pk dg = k
          · have : dg = dgc k := hdg.inj hd hm5 (by rw [e, hpk])
            rw [this, hW] at h2
            cases h2
          · exact hI.2.1 dg hdg (by omega) h2
        · rcases h1 with h1 | h1
          · exact Or.inl (by omega)
          · exact Or.inr h1
      obtain ⟨u', w1, w2⟩ := ih u (some (.int (zI 0))) v4 v5 (by omega) hI'
      refine ⟨u', Eq.trans g0 (Eq.trans ?_ w1), w2⟩
      rw [hW, zB_f, am_go dc_111_46]
      simp (disch := first | omega | exact Nat.le_of_ble_eq_true rfl | exact lH_ci | (refine lF_lt ?_; omega) | exact (hS _).iT.ci) only [own_111, J_istore_3, st1_0, st1_1, st1_s, kl_i, kl_l, kl_r, kl_n, am_go dc_111_47, J_iload_3, K_il, ld_3, am_go dc_111_48, J_if_eq, am_go dc_111_103, J_iinc, pinc_go, ld_2, i32_m1, am_go dc_111_106, J_goto, lg_0, tg_5, lH_0, lH_1, lH_4, lH_5, lH_6, lH_7, lH_8, lw_1, lw_4, lw_5, lw_6, lw_7, lw_8, zI_add, zI_mul, zI_lt, zI_le, zI_eq, zI_neg, zI_pos, zI_ne0, zI_gt0, zB_0, lg_cmp_ge, lg_cmp_le, lg_cmp_gt, lg_cmp_lt, lg_cmp_eq, ail_r, abl_r, all_r, ais_r, abs_r, als_r, aal_r, aal_q, aln_r, vrf_s, vrf_n, z32, t0, t1, t3, t4, hsz, List.length_cons, List.length_nil, Nat.reduceAdd, Nat.reduceLT, Nat.reduceLeDiff, Nat.reduceEqDiff, ↓reduceIte, bind_s, if_true, if_false, not_true_eq_false, not_false_eq_true, Nat.zero_add]
    | true =>
      obtain ⟨u1, l1, l2, l3⟩ := l_look (X := X) (d := d) (z := z) (u := u) hS hd.1
      rw [hpk] at l1
      have hsn : ∀ u, am_f X (d + 4) 118 [.ref t, .int (zI (pk (dgc k)))] (lH h l (u, (t, m, a, N)), z) = some (.inl (some (.int (cSeen T S (dgc k)))), (lH h l (u, (t, m, a, N)), z)) := fun u => c_seenRanks (X := X) (d := d + 2) (z := z) (hS u) hd.1
      rw [hpk] at hsn
      obtain ⟨u2, v5', s1, s2, s3, s4⟩ := l_ranks (X := X) (d := d) (z := z) (x := sbV sb) (v3 := some (.int (zI 1))) hS hL hN hN2 hd hR hR21 R 0 u1 (Nat.zero_add _) l2
      rw [hpk] at s1
      have ht : lFt u u1 := ⟨l3.1, fun j _ => by rw [l3.2.2.1], l3.2.2.2⟩
      have eM : u1.2.1 3 = u.2.1 3 := by rw [l3.2.2.1]
      have hfar : ∀ dg r, dIn S dg → k < pk dg → u2.2.1 3 (ix S dg r) = u.2.1 3 (ix S dg r) ∧ u2.1 4 (ix S dg r) = u.1 4 (ix S dg r) := fun dg r hdg h1 => by
        obtain ⟨q1, q2⟩ := s4 (ix S dg r) (fun r' _ _ _ e => by
          have := (idx_inj hdg hd hm5 e).2
          omega)
        rw [q1, q2, eM, l3.2.1]
        exact ⟨rfl, rfl⟩
      have hI' : fI S T R sb u0 u2 k := by
        refine ⟨(hI.1.tr ht).tr s2, fun dg hdg h1 h2 r hr hb => ?_, fun dg r hdg h1 => ?_⟩
        · have ecs : u2.1 1 = u.1 1 := s2.1.trans l3.1
          by_cases e : pk dg = k
          · have : dg = dgc k := hdg.inj hd hm5 (by rw [e, hpk])
            subst this
            rw [s3 r (by omega) hr hb, l3.1, ecs]
            refine cStep_cg hd hm5 (fun dg' r' h4 h5 => ?_) (fun b _ _ => rfl)
            exact ((hfar dg' r' h4 (by omega)).1.trans (by rw [← eM]; rfl)).symm
          · obtain ⟨q1, q2⟩ := hfar dg r hdg (by omega)
            rw [q1, q2, hI.2.1 dg hdg (by omega) h2 r hr hb, ecs]
            refine cStep_cg hdg hm5 (fun dg' r' h4 h5 => ?_) (fun b _ _ => rfl)
            exact (hfar dg' r' h4 (by omega)).1.symm
        · have h0 : u.2.1 3 (ix S dg r) = u0.2.1 3 (ix S dg r) ∧ u.1 4 (ix S dg r) = u0.1 4 (ix S dg r) := hI.2.2 dg r hdg (by
            rcases h1 with h1 | h1
            · exact Or.inl (by omega)
            · exact Or.inr h1)
          have hs4 := s4 (ix S dg r) (fun r' _ h7 h8 e => by
            obtain ⟨e1, e2⟩ := idx_inj hdg hd hm5 e
            have e3 : dg = dgc k := hdg.inj hd hm5 e2
            subst e1
            rcases h1 with h1 | h1 | h1 | h1
            · omega
            · rw [e3, hW] at h1
              cases h1
            · omega
            · rw [e3, h8] at h1
              cases h1)
          rw [hs4.1, hs4.2, eM, l3.2.1]
          exact h0
      obtain ⟨u', w1, w2⟩ := ih u2 (some (.int (zI 1))) (some (.int (cSeen T S (dgc k)))) v5' (by omega) hI'
      refine ⟨u', Eq.trans g0 (Eq.trans ?_ (Eq.trans s1 (Eq.trans ?_ w1))), w2⟩
      · rw [hW, zB_t, am_go dc_111_46]
        simp (disch := first | omega | exact Nat.le_of_ble_eq_true rfl | exact lH_ci | (refine lF_lt ?_; omega) | exact (hS _).iT.ci) only [own_111, am_go dc_111_0, J_aload_0, K_al, ld_0, am_go dc_111_1, J_getfield, gf_r, fk_4_38_4, am_go dc_111_4, cv_4_46_1 own_111, JR_v, JR_0, JR_ite, ci1_r, am_go dc_111_7, J_iconst, c32_1, am_go dc_111_8, J_isub, am_go dc_111_9, J_istore_2, st1_0, st1_1, st1_s, kl_i, kl_l, kl_r, kl_n, J_iload_2, K_il, ld_2, am_go dc_111_11, J_if_lt, am_go dc_111_14, am_go dc_111_15, am_go dc_111_18, am_go dc_111_19, cv_4_69_1 own_111, am_go dc_111_22, J_if_eq, am_go dc_111_25, J_iload_1, ld_1, am_go dc_111_26, am_go dc_111_29, am_go dc_111_30, am_go dc_111_33, am_go dc_111_34, am_go dc_111_35, cv_4_73_1 own_111, am_go dc_111_38, J_if_ne, am_go dc_111_41, am_go dc_111_42, J_goto, am_go dc_111_45, c32_0, J_istore_3, am_go dc_111_47, J_iload_3, ld_3, am_go dc_111_48, am_go dc_111_51, am_go dc_111_52, am_go dc_111_53, cv_4_77_4 own_111, am_go dc_111_56, am_go dc_111_57, am_go dc_111_60, am_go dc_111_61, cv_4_80_1 own_111, am_go dc_111_64, J_istore, am_go dc_111_66, am_go dc_111_67, J_iload, ld_5, am_go dc_111_71, am_go dc_111_72, am_go dc_111_75, fk_4_84_1, am_go dc_111_78, J_icmp_ge, am_go dc_111_81, ld_4, am_go dc_111_83, am_go dc_111_84, am_go dc_111_86, J_ishl, am_go dc_111_87, J_iand, am_go dc_111_88, am_go dc_111_91, am_go dc_111_92, am_go dc_111_94, cv_4_87_4 own_111, am_go dc_111_97, J_iinc, pinc_go, am_go dc_111_100, i32_m1, am_go dc_111_106, am_go dc_111_109, J_ret_v ret_111, lg_0, tg_5, lH_0, lH_1, lH_4, lH_5, lH_6, lH_7, lH_8, lw_1, lw_4, lw_5, lw_6, lw_7, lw_8, zI_add, zI_mul, zI_lt, zI_le, zI_eq, zI_neg, zI_pos, zI_ne0, zI_gt0, zB_0, lg_cmp_ge, lg_cmp_le, lg_cmp_gt, lg_cmp_lt, lg_cmp_eq, ail_r, abl_r, all_r, ais_r, abs_r, als_r, aal_r, aal_q, aln_r, vrf_s, vrf_n, z32, t0, t1, t3, t4, hsz, l1, hsn, hpk, List.length_cons, List.length_nil, Nat.reduceAdd, Nat.reduceLT, Nat.reduceLeDiff, Nat.reduceEqDiff, ↓reduceIte, bind_s, if_true, if_false, not_true_eq_false, not_false_eq_true, Nat.zero_add]
      · rw [am_go dc_111_103]
        simp (disch := first | omega | exact Nat.le_of_ble_eq_true rfl | exact lH_ci | (refine lF_lt ?_; omega) | exact (hS _).iT.ci) only [own_111, J_iinc, pinc_go, ld_2, i32_m1, st1_0, st1_1, st1_s, kl_i, kl_l, kl_r, kl_n, am_go dc_111_106, J_goto, lg_0, tg_5, lH_0, lH_1, lH_4, lH_5, lH_6, lH_7, lH_8, lw_1, lw_4, lw_5, lw_6, lw_7, lw_8, zI_add, zI_mul, zI_lt, zI_le, zI_eq, zI_neg, zI_pos, zI_ne0, zI_gt0, zB_0, lg_cmp_ge, lg_cmp_le, lg_cmp_gt, lg_cmp_lt, lg_cmp_eq, ail_r, abl_r, all_r, ais_r, abs_r, als_r, aal_r, aal_q, aln_r, vrf_s, vrf_n, z32, t0, t1, t3, t4, hsz, List.length_cons, List.length_nil, Nat.reduceAdd, Nat.reduceLT, Nat.reduceLeDiff, Nat.reduceEqDiff, ↓reduceIte, bind_s, if_true, if_false, not_true_eq_false, not_false_eq_true, Nat.zero_add]
theorem l_fill {sb : Option Nat} {u : mU} (hsb : ∀ b, sb = some b → b < wN (S 116)) (hS : ∀ u, tS C (lH h l (u, (t, m, a, N))) t T S) (hL : lOkk l (t, m, a, N)) (hN : 21 * 4 ^ wN (S 116) ≤ N) (hN2 : N < 1000000) (hR : T.1.2.2.1 5 = zI R) (hR21 : R ≤ 21) : ∃ u', am_f X (d + 5) 111 [.ref l, .int (sbV sb)] (lH h l (u, (t, m, a, N)), z) = some (.inl none, (lH h l (u', (t, m, a, N)), z)) ∧ fI S T R sb u u' 0 := by
  have t0 := fun u => (hS u).iT.c0
  have t1 := fun u => (hS u).iT.c1
  have t3 := fun u => (hS u).iT.c3
  have t4 := fun u => (hS u).iT.c4
  have hsz := (hS u).sz
  have hm5 := (hS u).m5
  have kc : am_f X (d + 4) 110 [.ref t] (lH h l (u, (t, m, a, N)), z) = _ := c_codes (X := X) (d := d + 3) (z := z) (hS u)
  have hsub : zI (4 ^ wN (S 116)) - zI 1 = zI (4 ^ wN (S 116)) + -1 := Int32.sub_eq_add_neg _ _
  obtain ⟨u', w1, w2⟩ := l_fill_l (X := X) (d := d) (z := z) (u0 := u) hsb hS hL hN hN2 hR hR21 (4 ^ wN (S 116)) u none none none (Nat.le_refl _) ⟨⟨rfl, fun _ _ => rfl, rfl⟩, fun dg hdg h1 => by
    have := pkm_lt hdg hm5
    omega, fun dg r _ _ => ⟨rfl, rfl⟩⟩
  refine ⟨u', Eq.trans ?_ w1, w2⟩
  rw [fU_111]
  simp (disch := first | omega | exact Nat.le_of_ble_eq_true rfl | exact lH_ci | (refine lF_lt ?_; omega) | exact (hS _).iT.ci) only [own_111, am_go dc_111_0, J_aload_0, K_al, ld_0, am_go dc_111_1, J_getfield, gf_r, fk_4_38_4, am_go dc_111_4, cv_4_46_1 own_111, JR_v, JR_0, JR_ite, ci1_r, am_go dc_111_7, J_iconst, c32_1, am_go dc_111_8, J_isub, am_go dc_111_9, J_istore_2, st1_0, st1_1, st1_s, kl_i, kl_l, kl_r, kl_n, J_iload_2, K_il, ld_2, am_go dc_111_11, J_if_lt, am_go dc_111_14, am_go dc_111_15, am_go dc_111_18, am_go dc_111_19, cv_4_69_1 own_111, am_go dc_111_22, J_if_eq, am_go dc_111_25, J_iload_1, ld_1, am_go dc_111_26, am_go dc_111_29, am_go dc_111_30, am_go dc_111_33, am_go dc_111_34, am_go dc_111_35, cv_4_73_1 own_111, am_go dc_111_38, J_if_ne, am_go dc_111_41, am_go dc_111_42, J_goto, am_go dc_111_45, c32_0, J_istore_3, am_go dc_111_47, J_iload_3, ld_3, am_go dc_111_48, am_go dc_111_51, am_go dc_111_52, am_go dc_111_53, cv_4_77_4 own_111, am_go dc_111_56, am_go dc_111_57, am_go dc_111_60, am_go dc_111_61, cv_4_80_1 own_111, am_go dc_111_64, J_istore, am_go dc_111_66, am_go dc_111_67, J_iload, ld_5, am_go dc_111_71, am_go dc_111_72, am_go dc_111_75, fk_4_84_1, am_go dc_111_78, J_icmp_ge, am_go dc_111_81, ld_4, am_go dc_111_83, am_go dc_111_84, am_go dc_111_86, J_ishl, am_go dc_111_87, J_iand, am_go dc_111_88, am_go dc_111_91, am_go dc_111_92, am_go dc_111_94, cv_4_87_4 own_111, am_go dc_111_97, J_iinc, pinc_go, am_go dc_111_100, i32_m1, am_go dc_111_106, am_go dc_111_109, J_ret_v ret_111, lg_0, tg_5, lH_0, lH_1, lH_4, lH_5, lH_6, lH_7, lH_8, lw_1, lw_4, lw_5, lw_6, lw_7, lw_8, zI_add, zI_mul, zI_lt, zI_le, zI_eq, zI_neg, zI_pos, zI_ne0, zI_gt0, zB_0, lg_cmp_ge, lg_cmp_le, lg_cmp_gt, lg_cmp_lt, lg_cmp_eq, ail_r, abl_r, all_r, ais_r, abs_r, als_r, aal_r, aal_q, aln_r, vrf_s, vrf_n, z32, t0, t1, t3, t4, hsz, kc, hsub, List.length_cons, List.length_nil, Nat.reduceAdd, Nat.reduceLT, Nat.reduceLeDiff, Nat.reduceEqDiff, ↓reduceIte, bind_s, if_true, if_false, not_true_eq_false, not_false_eq_true, Nat.zero_add]
end PF2
