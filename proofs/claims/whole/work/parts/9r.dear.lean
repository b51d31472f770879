/-! all shut -/
section PZ
variable {S : Nat → Int32} {b c Q : Nat} {T : mU × (Nat → Option Nat)}
theorem hw_Z (hc : c < 5) : hw (qZ S) c = 0 := by
  unfold hw
  rw [qZ_h hc]
  rfl
theorem qRw_Z : qRw S (qZ S) := fun j hj => qZ_o (by omega)
theorem qPl_Z : qPl (qZ S) := fun c hc => ⟨⟨0, qZ_h hc, by omega⟩, fun _ => qZ_h hc, fun _ => by
  rw [qZ_h hc]
  refine ⟨fun e => ?_, fun e => ?_⟩
  · rcases e with e | e
    · exact absurd e (by decide)
    · exact absurd e (by decide)
  · rw [show wN (zI 0) = 0 from rfl] at e
    omega⟩
theorem dg_Z (h5 : wN (S 116) ≤ 5) : pk (qDg (qZ S)) = 0 := by
  have : ∀ c, qDg (qZ S) c = 0 := fun c => by
    unfold qDg
    rw [show qZ S 116 = S 116 from qZ_o (by omega)]
    by_cases e : wN (S 116) ≤ c
    · rw [if_pos e]
    · rw [if_neg e, qZ_h (by omega)]
      rfl
  unfold pk
  rw [this, this, this, this, this]
theorem rk_Z (hr : rOk T S Q) (hG : qG S) : rkN T (qZ S) = 0 := by
  have h5 := hG.m.2
  obtain ⟨-, -, -, e⟩ := lk_rk hr hG qRw_Z qPl_Z
  rw [e]
  refine fo_inv (f := mxf (rkB T (qZ S))) (fun _ v => v = 0) (wN (S 116)) 0 0 rfl (fun j v h1 h2 h3 => ?_)
  have : rkB T (qZ S) j = 0 := by
    unfold rkB
    rw [hw_Z (by omega), if_neg (by omega)]
  unfold mxf
  rw [this, if_neg (by omega)]
  exact h3
theorem hd_Z (h5 : wN (S 116) ≤ 5) : hdV T (qZ S) (wN (S 116)) = -4 := by
  have : lsN (shB T (qZ S)) 0 (wN (S 116)) = wN (S 116) := lsN_u (Nat.le_refl _) (fun c hc => by
    unfold shB
    rw [hw_Z (by omega), decide_eq_false (by omega)]
    rfl) (fun h => by omega)
  unfold hdV
  rw [this, if_neg (by omega)]
end PZ
section PD
variable {X : am_X} {C : Nat → Prop} {h : am_H} {l t m a N d Q b : Nat} {T : mU × (Nat → Option Nat)} {S : Nat → Int32} {z : Nat × Nat} {u : mU}
theorem lFo.t2 {u' : mU} (h : lFo u u') (hk : lTr S T Q b u N) : lTr S T Q b u' N := by
  obtain ⟨h1, h2, h3⟩ := h
  obtain ⟨k1, k2, k3, k4⟩ := hk
  refine ⟨by rw [h3]; exact k1, fun dg hd hc r hr hb => ?_, fun j h4 h5 => by rw [h1]; exact k3 j h4 h5, k4⟩
  rw [h1, h2 3 (by omega) (by omega)]
  exact k2 dg hd hc r hr hb
theorem l_dear_l (hG : qG S) (hr : rOk T S Q) (hS : ∀ u, tS C (lH h l (u, (t, m, a, N))) t T S) (hO : lOkk l (t, m, a, N)) (hN2 : N < 1000000) (hb : b < wN (S 116)) : ∀ (k j : Nat) (s : Int32 × Int64) (u : mU) (v6 : Option Value), j + k = 10 → 1 ≤ j → lTr S T Q b u N → ¬ s.2 < 0 → (0 < u.2.1 12 b ∨ ¬ 0 < u.2.1 12 b ∧ ∀ i, j ≤ i → i < 10 → qLf b false (qPr (qZ S) b (100 * i)) = 0) → ∃ u', am_I X (am_f X (d + 17)) 142 19 [some (.ref l), some (.int (zI b)), some (.int s.1), some (.long s.2), none, some (.int (zI (100 * j))), v6, none] [] (lH h l (u, (t, m, a, N)), z) = some (.inl (some (.int (fo (q_sp (qZ S) b) j k s).1)), (lH h l (u', (t, m, a, N)), z)) ∧ plKn S T Q u' N := by
  have t0 := fun u => (hS u).iT.c0
  have t1 := fun u => (hS u).iT.c1
  have t3 := fun u => (hS u).iT.c3
  have t4 := fun u => (hS u).iT.c4
  have hm5 := hG.m.2
  have hb5 : b < 5 := by omega
  have c900 : (900 : Int16).toInt32 = zI 900 := rfl
  have tr : ∀ (u : mU), lTr S T Q b u N → ∃ u', am_f X (d + 17) 140 [.ref l, .int (zI b), .int (zI (wN (S (18 * b + 1))))] (lH h l (u, (t, m, a, N)), z) = some (.inl none, (lH h l (u', (t, m, a, N)), z)) ∧ plKn S T Q u' N := fun u hk => by
    obtain ⟨u', e1, e2, e3⟩ := l_try2 (X := X) (d := d + 11) (z := z) (p := wN (S (18 * b + 1))) hG hr hS hO hN2 hb hk
    rw [idp hG hb] at e3
    exact ⟨u', e1, e3⟩
  have hq1 : qRow S b 1 = zI (wN (S (18 * b + 1))) := (hG.p1 hb).1
  intro k
  induction k with
  | zero =>
    intro j s u v6 hj h1 hk hs hc
    have : j = 10 := by omega
    subst this
    obtain ⟨a', bb, ha, hB⟩ := (hS u).box hb
    obtain ⟨u', e1, e2⟩ := tr u hk
    refine ⟨u', ?_, e2⟩
    rw [am_go dc_142_19]
    simp (disch := first | omega | exact Nat.le_of_ble_eq_true rfl | exact lH_ci | (refine lF_lt ?_; omega) | exact (hS _).iT.ci) only [own_142, am_go dc_142_0, J_aload_0, K_al, ld_0, am_go dc_142_1, cv_4_173_4 own_142, JR_v, JR_0, JR_ite, ci1_r, am_go dc_142_4, J_iconst, c32_0, am_go dc_142_5, J_istore_2, st1_0, st1_1, st1_s, kl_i, kl_l, kl_r, kl_n, am_go dc_142_6, J_lconst, i64_0, am_go dc_142_7, J_lstore_3, st2_0, st2_1, st2_s, am_go dc_142_8, am_go dc_142_9, J_getfield, gf_r, fk_4_32_4, am_go dc_142_12, J_iload_1, K_il, ld_1, am_go dc_142_13, i64_1, am_go dc_142_14, J_lastore, am_go dc_142_15, J_bipush, c8_100, am_go dc_142_17, J_istore, J_iload, ld_5, am_go dc_142_21, J_sipush, c16_900, am_go dc_142_24, J_icmp_gt, am_go dc_142_27, am_go dc_142_28, am_go dc_142_31, am_go dc_142_32, J_laload, am_go dc_142_33, am_go dc_142_34, J_lcmp, am_go dc_142_35, J_if_le, am_go dc_142_38, am_go dc_142_39, am_go dc_142_40, am_go dc_142_42, cv_4_234_4 own_142, am_go dc_142_45, am_go dc_142_46, am_go dc_142_47, am_go dc_142_48, i8_m4, am_go dc_142_50, cv_4_212_4 own_142, am_go dc_142_53, am_go dc_142_55, J_i2l, am_go dc_142_56, am_go dc_142_57, am_go dc_142_60, am_go dc_142_61, am_go dc_142_62, J_lmul, am_go dc_142_63, J_lstore, am_go dc_142_65, J_lload, K_ll, ld_6, am_go dc_142_67, J_lload_3, ld_3, am_go dc_142_68, am_go dc_142_69, am_go dc_142_72, am_go dc_142_74, am_go dc_142_75, am_go dc_142_77, am_go dc_142_78, J_iinc, pinc_go, c32_100, am_go dc_142_81, J_goto, am_go dc_142_84, am_go dc_142_85, am_go dc_142_86, am_go dc_142_87, fk_4_38_4, am_go dc_142_90, fk_4_56_1, am_go dc_142_93, am_go dc_142_94, J_aaload, am_go dc_142_95, am_go dc_142_98, am_go dc_142_101, J_iload_2, ld_2, am_go dc_142_102, J_ret_i ret_142, lg_12, lg_0, tg_0, lH_0, lH_1, lH_4, lH_5, lH_6, lH_7, lH_8, lw_1, lw_4, lw_5, lw_6, lw_7, lw_8, zI_add, zI_mul, zI_lt, zI_le, zI_eq, zI_neg, zI_pos, zI_ne0, zI_gt0, zB_0, lg_cmp_ge, lg_cmp_le, lg_cmp_gt, lg_cmp_lt, lg_cmp_eq, ail_r, abl_r, all_r, ais_r, abs_r, als_r, aal_r, aal_q, aln_r, vrf_s, vrf_n, z32, t0, t1, t3, t4, e1, c900, ha, bf_4_60 hB, hq1, List.length_cons, List.length_nil, Nat.reduceAdd, Nat.reduceLT, Nat.reduceLeDiff, Nat.reduceEqDiff, ↓reduceIte, bind_s, if_true, if_false, not_true_eq_false, not_false_eq_true, Nat.zero_add]
    rfl
  | succ k ih =>
    intro j s u v6 hj h1 hk hs hc
    have hj9 : ¬ 900 < 100 * j := by omega
    rcases hc with hc | ⟨hc, hz⟩
    · have hc' : ¬ u.2.1 12 b ≤ 0 := Int64.not_le.mpr hc
      obtain ⟨u1, e1, e2, e3⟩ := l_try2 (X := X) (d := d + 11) (z := z) (p := 100 * j) hG hr hS hO hN2 hb hk
      obtain ⟨u2, f1, f2, f3⟩ := l_followA (X := X) (d := d) (z := z) (u := u1) (hG.pr hb (show 100 * j ≤ 999 by omega)) (cg_rOk (qC.pr hb5) hG hr) hS (qC.pr hb5) hO hN2 qRw_Z qPl_Z e3
      have p5 : wN (qPr S b (100 * j) 116) ≤ 5 := by rw [pr_m hb5]; exact hm5
      rw [dg_Z p5, rk_Z (cg_rOk (qC.pr hb5) hG hr) (hG.pr hb (show 100 * j ≤ 999 by omega)), hd_Z p5] at f1
      have g := (f3 b (by rw [pr_m hb5]; exact hb)).1
      rw [← qPr_Z hb5] at g
      have hk2 := f2.t2 e2
      have hGz : qG (qPr (qZ S) b (100 * j)) := (qG_Z hG).pr (by rw [show qZ S 116 = S 116 from qZ_o (by omega)]; exact hb) (by omega)
      have hnn := lI_b (b := b) hGz qRw.rf (qPl_Z.pr (b := b) (x := 100 * j) hb5)
      have hle := MM_le hGz qRw.rf (qPl_Z.pr (b := b) (x := 100 * j) hb5)
      have nx : 0 < u2.2.1 12 b ∨ ¬ 0 < u2.2.1 12 b ∧ ∀ i, j + 1 ≤ i → i < 10 → qLf b false (qPr (qZ S) b (100 * i)) = 0 := by
        rw [g]
        by_cases q : 0 < qLf b false (qPr (qZ S) b (100 * j))
        · exact Or.inl q
        · refine Or.inr ⟨q, fun i i1 i2 => ?_⟩
          have q0 : qLf b false (qPr (qZ S) b (100 * j)) = 0 := by
            rw [lI_j, jI_0, jI_lt (by omega) (by omega) (by omega) (by omega)] at q
            rw [lI_j, show lI b (qPr (qZ S) b (100 * j)) = 0 by omega]
            rfl
          exact L0_p (p := 100 * j) (q := 100 * i) hr hG hb (by omega) (by omega) qRw_Z qPl_Z q0
      by_cases c : s.2 < (zI (100 * j)).toInt64 * qLf b false (qPr (qZ S) b (100 * j))
      · have c' : ¬ (zI (100 * j)).toInt64 * qLf b false (qPr (qZ S) b (100 * j)) ≤ s.2 := Int64.not_le.mpr c
        obtain ⟨u', w1, w2⟩ := ih (j + 1) (zI (100 * j), (zI (100 * j)).toInt64 * qLf b false (qPr (qZ S) b (100 * j))) u2 (some (.long ((zI (100 * j)).toInt64 * qLf b false (qPr (qZ S) b (100 * j))))) (by omega) (by omega) hk2 (fun q => hs (Int64.lt_trans c q)) nx
        have e0 : fo (q_sp (qZ S) b) j (k + 1) s = fo (q_sp (qZ S) b) (j + 1) k (zI (100 * j), (zI (100 * j)).toInt64 * qLf b false (qPr (qZ S) b (100 * j))) := by
          show fo _ (j + 1) k (q_sp (qZ S) b j s) = _
          unfold q_sp
          rw [if_pos c]
        refine ⟨u', ?_, w2⟩
        rw [e0, ← w1, am_go dc_142_19]
        simp (disch := first | omega | exact Nat.le_of_ble_eq_true rfl | exact lH_ci | (refine lF_lt ?_; omega) | exact (hS _).iT.ci) only [own_142, am_go dc_142_0, J_aload_0, K_al, ld_0, am_go dc_142_1, cv_4_173_4 own_142, JR_v, JR_0, JR_ite, ci1_r, am_go dc_142_4, J_iconst, c32_0, am_go dc_142_5, J_istore_2, st1_0, st1_1, st1_s, kl_i, kl_l, kl_r, kl_n, am_go dc_142_6, J_lconst, i64_0, am_go dc_142_7, J_lstore_3, st2_0, st2_1, st2_s, am_go dc_142_8, am_go dc_142_9, J_getfield, gf_r, fk_4_32_4, am_go dc_142_12, J_iload_1, K_il, ld_1, am_go dc_142_13, i64_1, am_go dc_142_14, J_lastore, am_go dc_142_15, J_bipush, c8_100, am_go dc_142_17, J_istore, J_iload, ld_5, am_go dc_142_21, J_sipush, c16_900, am_go dc_142_24, J_icmp_gt, am_go dc_142_27, am_go dc_142_28, am_go dc_142_31, am_go dc_142_32, J_laload, am_go dc_142_33, am_go dc_142_34, J_lcmp, am_go dc_142_35, J_if_le, am_go dc_142_38, am_go dc_142_39, am_go dc_142_40, am_go dc_142_42, cv_4_234_4 own_142, am_go dc_142_45, am_go dc_142_46, am_go dc_142_47, am_go dc_142_48, i8_m4, am_go dc_142_50, cv_4_212_4 own_142, am_go dc_142_53, am_go dc_142_55, J_i2l, am_go dc_142_56, am_go dc_142_57, am_go dc_142_60, am_go dc_142_61, am_go dc_142_62, J_lmul, am_go dc_142_63, J_lstore, am_go dc_142_65, J_lload, K_ll, ld_6, am_go dc_142_67, J_lload_3, ld_3, am_go dc_142_68, am_go dc_142_69, am_go dc_142_72, am_go dc_142_74, am_go dc_142_75, am_go dc_142_77, am_go dc_142_78, J_iinc, pinc_go, c32_100, am_go dc_142_81, J_goto, am_go dc_142_84, am_go dc_142_85, am_go dc_142_86, am_go dc_142_87, fk_4_38_4, am_go dc_142_90, fk_4_56_1, am_go dc_142_93, am_go dc_142_94, J_aaload, am_go dc_142_95, am_go dc_142_98, am_go dc_142_101, J_iload_2, ld_2, am_go dc_142_102, J_ret_i ret_142, lg_12, lg_0, tg_0, lH_0, lH_1, lH_4, lH_5, lH_6, lH_7, lH_8, lw_1, lw_4, lw_5, lw_6, lw_7, lw_8, zI_add, zI_mul, zI_lt, zI_le, zI_eq, zI_neg, zI_pos, zI_ne0, zI_gt0, zB_0, lg_cmp_ge, lg_cmp_le, lg_cmp_gt, lg_cmp_lt, lg_cmp_eq, ail_r, abl_r, all_r, ais_r, abs_r, als_r, aal_r, aal_q, aln_r, vrf_s, vrf_n, z32, t0, t1, t3, t4, e1, c900, hj9, hc', f1, g, c, c', Nat.mul_add, List.length_cons, List.length_nil, Nat.reduceAdd, Nat.reduceLT, Nat.reduceLeDiff, Nat.reduceEqDiff, ↓reduceIte, bind_s, if_true, if_false, not_true_eq_false, not_false_eq_true, Nat.zero_add]
      · have c' : (zI (100 * j)).toInt64 * qLf b false (qPr (qZ S) b (100 * j)) ≤ s.2 := Int64.not_lt.mp c
        obtain ⟨u', w1, w2⟩ := ih (j + 1) s u2 (some (.long ((zI (100 * j)).toInt64 * qLf b false (qPr (qZ S) b (100 * j))))) (by omega) (by omega) hk2 hs nx
        have e0 : fo (q_sp (qZ S) b) j (k + 1) s = fo (q_sp (qZ S) b) (j + 1) k s := by
          show fo _ (j + 1) k (q_sp (qZ S) b j s) = _
          unfold q_sp
          rw [if_neg c]
        refine ⟨u', ?_, w2⟩
        rw [e0, ← w1, am_go dc_142_19]
        simp (disch := first | omega | exact Nat.le_of_ble_eq_true rfl | exact lH_ci | (refine lF_lt ?_; omega) | exact (hS _).iT.ci) only [own_142, am_go dc_142_0, J_aload_0, K_al, ld_0, am_go dc_142_1, cv_4_173_4 own_142, JR_v, JR_0, JR_ite, ci1_r, am_go dc_142_4, J_iconst, c32_0, am_go dc_142_5, J_istore_2, st1_0, st1_1, st1_s, kl_i, kl_l, kl_r, kl_n, am_go dc_142_6, J_lconst, i64_0, am_go dc_142_7, J_lstore_3, st2_0, st2_1, st2_s, am_go dc_142_8, am_go dc_142_9, J_getfield, gf_r, fk_4_32_4, am_go dc_142_12, J_iload_1, K_il, ld_1, am_go dc_142_13, i64_1, am_go dc_142_14, J_lastore, am_go dc_142_15, J_bipush, c8_100, am_go dc_142_17, J_istore, J_iload, ld_5, am_go dc_142_21, J_sipush, c16_900, am_go dc_142_24, J_icmp_gt, am_go dc_142_27, am_go dc_142_28, am_go dc_142_31, am_go dc_142_32, J_laload, am_go dc_142_33, am_go dc_142_34, J_lcmp, am_go dc_142_35, J_if_le, am_go dc_142_38, am_go dc_142_39, am_go dc_142_40, am_go dc_142_42, cv_4_234_4 own_142, am_go dc_142_45, am_go dc_142_46, am_go dc_142_47, am_go dc_142_48, i8_m4, am_go dc_142_50, cv_4_212_4 own_142, am_go dc_142_53, am_go dc_142_55, J_i2l, am_go dc_142_56, am_go dc_142_57, am_go dc_142_60, am_go dc_142_61, am_go dc_142_62, J_lmul, am_go dc_142_63, J_lstore, am_go dc_142_65, J_lload, K_ll, ld_6, am_go dc_142_67, J_lload_3, ld_3, am_go dc_142_68, am_go dc_142_69, am_go dc_142_72, am_go dc_142_74, am_go dc_142_75, am_go dc_142_77, am_go dc_142_78, J_iinc, pinc_go, c32_100, am_go dc_142_81, J_goto, am_go dc_142_84, am_go dc_142_85, am_go dc_142_86, am_go dc_142_87, fk_4_38_4, am_go dc_142_90, fk_4_56_1, am_go dc_142_93, am_go dc_142_94, J_aaload, am_go dc_142_95, am_go dc_142_98, am_go dc_142_101, J_iload_2, ld_2, am_go dc_142_102, J_ret_i ret_142, lg_12, lg_0, tg_0, lH_0, lH_1, lH_4, lH_5, lH_6, lH_7, lH_8, lw_1, lw_4, lw_5, lw_6, lw_7, lw_8, zI_add, zI_mul, zI_lt, zI_le, zI_eq, zI_neg, zI_pos, zI_ne0, zI_gt0, zB_0, lg_cmp_ge, lg_cmp_le, lg_cmp_gt, lg_cmp_lt, lg_cmp_eq, ail_r, abl_r, all_r, ais_r, abs_r, als_r, aal_r, aal_q, aln_r, vrf_s, vrf_n, z32, t0, t1, t3, t4, e1, c900, hj9, hc', f1, g, c, c', Nat.mul_add, List.length_cons, List.length_nil, Nat.reduceAdd, Nat.reduceLT, Nat.reduceLeDiff, Nat.reduceEqDiff, ↓reduceIte, bind_s, if_true, if_false, not_true_eq_false, not_false_eq_true, Nat.zero_add]
    · have hc' : u.2.1 12 b ≤ 0 := Int64.not_lt.mp hc
      obtain ⟨a', bb, ha, hB⟩ := (hS u).box hb
      obtain ⟨u', e1, e2⟩ := tr u hk
      have e0 : fo (q_sp (qZ S) b) j (k + 1) s = s := by
        refine fo_inv (f := q_sp (qZ S) b) (fun _ v => v = s) (k + 1) j s rfl (fun i v i1 i2 i3 => ?_)
        unfold q_sp
        rw [hz i i1 (by omega), i3, show (zI (100 * i)).toInt64 * 0 = 0 from Int64.mul_zero, if_neg hs]
      refine ⟨u', ?_, e2⟩
      rw [e0, am_go dc_142_19]
      simp (disch := first | omega | exact Nat.le_of_ble_eq_true rfl | exact lH_ci | (refine lF_lt ?_; omega) | exact (hS _).iT.ci) only [own_142, am_go dc_142_0, J_aload_0, K_al, ld_0, am_go dc_142_1, cv_4_173_4 own_142, JR_v, JR_0, JR_ite, ci1_r, am_go dc_142_4, J_iconst, c32_0, am_go dc_142_5, J_istore_2, st1_0, st1_1, st1_s, kl_i, kl_l, kl_r, kl_n, am_go dc_142_6, J_lconst, i64_0, am_go dc_142_7, J_lstore_3, st2_0, st2_1, st2_s, am_go dc_142_8, am_go dc_142_9, J_getfield, gf_r, fk_4_32_4, am_go dc_142_12, J_iload_1, K_il, ld_1, am_go dc_142_13, i64_1, am_go dc_142_14, J_lastore, am_go dc_142_15, J_bipush, c8_100, am_go dc_142_17, J_istore, J_iload, ld_5, am_go dc_142_21, J_sipush, c16_900, am_go dc_142_24, J_icmp_gt, am_go dc_142_27, am_go dc_142_28, am_go dc_142_31, am_go dc_142_32, J_laload, am_go dc_142_33, am_go dc_142_34, J_lcmp, am_go dc_142_35, J_if_le, am_go dc_142_38, am_go dc_142_39, am_go dc_142_40, am_go dc_142_42, cv_4_234_4 own_142, am_go dc_142_45, am_go dc_142_46, am_go dc_142_47, am_go dc_142_48, i8_m4, am_go dc_142_50, cv_4_212_4 own_142, am_go dc_142_53, am_go dc_142_55, J_i2l, am_go dc_142_56, am_go dc_142_57, am_go dc_142_60, am_go dc_142_61, am_go dc_142_62, J_lmul, am_go dc_142_63, J_lstore, am_go dc_142_65, J_lload, K_ll, ld_6, am_go dc_142_67, J_lload_3, ld_3, am_go dc_142_68, am_go dc_142_69, am_go dc_142_72, am_go dc_142_74, am_go dc_142_75, am_go dc_142_77, am_go dc_142_78, J_iinc, pinc_go, c32_100, am_go dc_142_81, J_goto, am_go dc_142_84, am_go dc_142_85, am_go dc_142_86, am_go dc_142_87, fk_4_38_4, am_go dc_142_90, fk_4_56_1, am_go dc_142_93, am_go dc_142_94, J_aaload, am_go dc_142_95, am_go dc_142_98, am_go dc_142_101, J_iload_2, ld_2, am_go dc_142_102, J_ret_i ret_142, lg_12, lg_0, tg_0, lH_0, lH_1, lH_4, lH_5, lH_6, lH_7, lH_8, lw_1, lw_4, lw_5, lw_6, lw_7, lw_8, zI_add, zI_mul, zI_lt, zI_le, zI_eq, zI_neg, zI_pos, zI_ne0, zI_gt0, zB_0, lg_cmp_ge, lg_cmp_le, lg_cmp_gt, lg_cmp_lt, lg_cmp_eq, ail_r, abl_r, all_r, ais_r, abs_r, als_r, aal_r, aal_q, aln_r, vrf_s, vrf_n, z32, t0, t1, t3, t4, e1, c900, hj9, hc', ha, bf_4_60 hB, hq1, List.length_cons, List.length_nil, Nat.reduceAdd, Nat.reduceLT, Nat.reduceLeDiff, Nat.reduceEqDiff, ↓reduceIte, bind_s, if_true, if_false, not_true_eq_false, not_false_eq_true, Nat.zero_add]
theorem l_dearest (hP : plOk C h l t m a N T S u z) (hr : rOk T S Q) (hk : u.2.2.1 2 = zI 0 ∨ plKn S T Q u N) (hb : b < wN (S 116)) : ∃ h' u' m' a' N' z', am_f X (d + 18) 142 [.ref l, .int (zI b)] (lH h l (u, (t, m, a, N)), z) = some (.inl (some (.int (qSp S b))), (lH h' l (u', (t, m', a', N')), z')) ∧ plOk C h' l t m' a' N' T S u' z' ∧ plKn S T Q u' N' ∧ (∀ x, x < z.1 → lK l x → x ≠ m → x ≠ a → lH h' l (u', (t, m', a', N')) x = lH h l (u, (t, m, a, N)) x) ∧ plGr S N N' m m' a a' z z' := by
  obtain ⟨h', u1, m', a', N', z', e1, e2, e3, e4, e5, e6⟩ := l_knows (X := X) (d := d + 10) hP hr hk
  have hG := e2.1.2.1
  have hm5 := hG.m.2
  have hb5 : b < 5 := by omega
  have hS := e2.st
  have t0 := fun u => (hS u).iT.c0
  have t1 := fun u => (hS u).iT.c1
  have t3 := fun u => (hS u).iT.c3
  have t4 := fun u => (hS u).iT.c4
  have hO := e2.2.2.1
  have hN2 := e2.2.2.2.1
  have fr2 : ∀ u', ∀ x, x < z.1 → lK l x → x ≠ m → x ≠ a → lH h' l (u', (t, m', a', N')) x = lH h l (u, (t, m, a, N)) x := fun u' x h1 h2 h3 h4 => by
    rw [← e5 x h1 h2 h3 h4]
    have : x ≠ m' ∧ x ≠ a' := by
      rcases e6 with q | q
      · exact ⟨by rw [q.2.2.1]; exact h3, by rw [q.2.2.2]; exact h4⟩
      · have := q.2.2.2
        omega
    rw [lX h2 this.1 this.2, lX h2 this.1 this.2]
  have hF : lFo u1 (mL u1 12 (vp_updL (u1.2.1 12) b 1)) := lFo_o
  have hk1 := hF.t2 (b := b) e3.tr
  have h12 : (mL u1 12 (vp_updL (u1.2.1 12) b 1)).2.1 12 b = 1 := by
    rw [mL_s]
    exact if_pos rfl
  obtain ⟨u', w1, w2⟩ := l_dear_l (X := X) (d := d) (z := z') hG hr hS hO hN2 hb 9 1 (zI 0, 0) (mL u1 12 (vp_updL (u1.2.1 12) b 1)) none (by omega) (by omega) hk1 (by decide) (Or.inl (by rw [h12]; decide))
  refine ⟨h', u', m', a', N', z', ?_, e2.uu, w2, fr2 u', e6⟩
  unfold qSp
  rw [← w1, fU_142]
  simp (disch := first | omega | exact Nat.le_of_ble_eq_true rfl | exact lH_ci | (refine lF_lt ?_; omega) | exact (hS _).iT.ci) only [own_142, am_go dc_142_0, J_aload_0, K_al, ld_0, am_go dc_142_1, cv_4_173_4 own_142, JR_v, JR_0, JR_ite, ci1_r, am_go dc_142_4, J_iconst, c32_0, am_go dc_142_5, J_istore_2, st1_0, st1_1, st1_s, kl_i, kl_l, kl_r, kl_n, am_go dc_142_6, J_lconst, i64_0, am_go dc_142_7, J_lstore_3, st2_0, st2_1, st2_s, am_go dc_142_8, am_go dc_142_9, J_getfield, gf_r, fk_4_32_4, am_go dc_142_12, J_iload_1, K_il, ld_1, am_go dc_142_13, i64_1, am_go dc_142_14, J_lastore, am_go dc_142_15, J_bipush, c8_100, am_go dc_142_17, J_istore, J_iload, ld_5, am_go dc_142_21, J_sipush, c16_900, am_go dc_142_24, J_icmp_gt, am_go dc_142_27, am_go dc_142_28, am_go dc_142_31, am_go dc_142_32, J_laload, am_go dc_142_33, am_go dc_142_34, J_lcmp, am_go dc_142_35, J_if_le, am_go dc_142_38, am_go dc_142_39, am_go dc_142_40, am_go dc_142_42, cv_4_234_4 own_142, am_go dc_142_45, am_go dc_142_46, am_go dc_142_47, am_go dc_142_48, i8_m4, am_go dc_142_50, cv_4_212_4 own_142, am_go dc_142_53, am_go dc_142_55, J_i2l, am_go dc_142_56, am_go dc_142_57, am_go dc_142_60, am_go dc_142_61, am_go dc_142_62, J_lmul, am_go dc_142_63, J_lstore, am_go dc_142_65, J_lload, K_ll, ld_6, am_go dc_142_67, J_lload_3, ld_3, am_go dc_142_68, am_go dc_142_69, am_go dc_142_72, am_go dc_142_74, am_go dc_142_75, am_go dc_142_77, am_go dc_142_78, J_iinc, pinc_go, c32_100, am_go dc_142_81, J_goto, am_go dc_142_84, am_go dc_142_85, am_go dc_142_86, am_go dc_142_87, fk_4_38_4, am_go dc_142_90, fk_4_56_1, am_go dc_142_93, am_go dc_142_94, J_aaload, am_go dc_142_95, am_go dc_142_98, am_go dc_142_101, J_iload_2, ld_2, am_go dc_142_102, J_ret_i ret_142, lg_12, lg_0, tg_0, lH_0, lH_1, lH_4, lH_5, lH_6, lH_7, lH_8, lw_1, lw_4, lw_5, lw_6, lw_7, lw_8, zI_add, zI_mul, zI_lt, zI_le, zI_eq, zI_neg, zI_pos, zI_ne0, zI_gt0, zB_0, lg_cmp_ge, lg_cmp_le, lg_cmp_gt, lg_cmp_lt, lg_cmp_eq, ail_r, abl_r, all_r, ais_r, abs_r, als_r, aal_r, aal_q, aln_r, vrf_s, vrf_n, z32, t0, t1, t3, t4, e1, mS_s, mS_o, mS_2, mI_1, mI_2, mI_s, mI_o, mI_3, mI_I, mS_S, mJ_1, mJ_2, mJ_3, mJ_s, mJ_o, mJ_J, mL_1, mL_2, mL_s, mL_o, List.length_cons, List.length_nil, Nat.reduceAdd, Nat.reduceLT, Nat.reduceLeDiff, Nat.reduceEqDiff, ↓reduceIte, bind_s, if_true, if_false, not_true_eq_false, not_false_eq_true, Nat.zero_add]
end PD
