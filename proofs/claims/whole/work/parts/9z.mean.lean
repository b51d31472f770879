/-! streets -/
section SD
variable {X : am_X} {C : Nat → Prop} {h : am_H} {w t sA sN mA mN d n L Q b r : Nat} {T : mU × (Nat → Option Nat)} {S : Nat → Int32} {z : Nat × Nat} {u : mU} {dg : Nat → Nat}
theorem L64 {a b : Int64} : (a < b) = (a.toInt < b.toInt) := propext Int64.lt_iff_toInt_lt
theorem qSt_ge {ord : Nat → Nat} : ∀ (r k : Nat) (S : Nat → Int32), ¬ qSt ord r k S < (qHas S).toInt64 * qMass S
  | 0, _, _ => Int64.lt_irrefl
  | r + 1, k, S => by
    unfold qSt
    generalize (qHas S).toInt64 * qMass S = st
    generalize qSt ord r (k + 1) S = ps
    generalize qOpn S (qSt ord r (k + 1)) (ord k) = op
    simp only [L64]
    repeat' split
    all_goals omega
theorem fo_plus {g : Nat → Int64} : ∀ (k i : Nat) (a : Int64), fo (fun i v => v + g i) i k a = a + fo (fun i v => v + g i) i k 0
  | 0, _, a => (Int64.add_zero a).symm
  | k + 1, i, a => by
    show fo (fun i v => v + g i) (i + 1) k (a + g i) = a + fo (fun i v => v + g i) (i + 1) k (0 + g i)
    rw [fo_plus k (i + 1) (a + g i), fo_plus k (i + 1) (0 + g i), Int64.zero_add, Int64.add_assoc]
theorem w_layer {ord : Nat → Nat} {wd : Nat → Nat} {sp : Nat → Int32} {f M : Nat → Int64} {i k : Nat} (hr : rOk T S Q) (hG : qG S) (hb : ord k < wN (S 116)) (hwb : wd (ord k) ≠ 3)
    (hV : ∀ S', qRw S S' → qPl S' → qNp S' → (∀ b, b < 5 → wd b = 3 → hw S' b = 0) → wTt sp M n i (qDg S') (rkN T S') = qSt ord i (k + 1) S')
    (hf : ∀ dg, wVd S dg → (∀ b', b' < 5 → dset wd (ord k) 3 b' = 3 → dg b' = 0) → ∀ r, r < Q → bt (cSeen T S dg) r = true → wTt sp f n (i + 1) dg r = wMe S T sp M n i (ord k) dg r) :
    ∀ S', qRw S S' → qPl S' → qNp S' → (∀ b, b < 5 → dset wd (ord k) 3 b = 3 → hw S' b = 0) → wTt sp f n (i + 1) (qDg S') (rkN T S') = qSt ord (i + 1) k S' := by
  intro S' hR hL hp hw'
  have h5 := hG.m.2
  obtain ⟨-, r1, e3, -⟩ := lk_rk hr hG hR hL
  have h0 : hw S' (ord k) = 0 := hw' (ord k) (by omega) dset_s
  have hsub : ∀ b, b < 5 → wd b = 3 → hw S' b = 0 := fun b hb' q => hw' b hb' (by
    by_cases e : b = ord k
    · rw [e]
      exact dset_s
    · rw [dset_o e]
      exact q)
  have hpass := hV S' hR hL hp hsub
  rw [hf (qDg S') (wVd_q hG hR hL hp) (fun b' hb' q => ?_) _ r1 (lk_seen hr hG hR hL)]
  · have ge := qSt_ge (ord := ord) i (k + 1) S'
    have hn4 := (hG.n hb).2.2
    obtain ⟨c1, c2⟩ := hG.p1 hb
    have hop : fo (wSh S T sp M n i (ord k) (qDg S') (rkN T S')) 0 (wN (S (18 * ord k + 3))) 0 - (S (18 * ord k + 1)).toInt64 * cMs S (qDg S') = qOpn S' (qSt ord i (k + 1)) (ord k) := by
      unfold qOpn
      rw [hR.r (b := ord k) (k := 3) (by omega) (by omega), hR.r (b := ord k) (k := 1) (by omega) (by omega), lk_ms hG hR hL]
      have e1 : fo (wSh S T sp M n i (ord k) (qDg S') (rkN T S')) 0 (wN (S (18 * ord k + 3))) 0 = fo (fun j v => v + (qShows S' (ord k) j).toInt64 * qSt ord i (k + 1) (upd S' (90 + ord k) (zI (3 + j)))) 0 (wN (S (18 * ord k + 3))) 0 := by
        refine fo_congr _ _ _ (fun j _ hj v => ?_)
        have hL' := hL.op hR hG hb (show j < wN (S (18 * ord k + 3)) by omega)
        unfold wSh
        rw [lk_ch hG hR hL hb (by omega) (by omega), lk_ao hR hL hb h5 (by omega) (by omega), ← lk_mx hr hG hR hL hL' hb (by omega) (by omega), hV _ (hR.up (by omega)) hL' (hp.up (by omega)) (fun b' hb' q => by
          have hne : b' ≠ ord k := fun e => hwb (by rw [← e]; exact q)
          rw [hw_uo hne]
          exact hsub b' hb' q)]
      have e2 : ∀ a, fo (q_opn S' (qSt ord i (k + 1)) (ord k)) 0 (wN (S (18 * ord k + 3))) a = fo (fun j v => v + (qShows S' (ord k) j).toInt64 * qSt ord i (k + 1) (upd S' (90 + ord k) (zI (3 + j)))) 0 (wN (S (18 * ord k + 3))) a := fun a => by
        refine fo_congr _ _ _ (fun j _ hj v => ?_)
        unfold q_opn
        by_cases q : qShows S' (ord k) j = 0
        · rw [if_pos q, q, show (0 : Int32).toInt64 = 0 from rfl, Int64.zero_mul, Int64.add_zero]
        · rw [if_neg q]
      rw [e1, e2, fo_plus _ _ ((-S (18 * ord k + 1)).toInt64 * qMass S')]
      have e4 : (-S (18 * ord k + 1)).toInt64 = -(S (18 * ord k + 1)).toInt64 := by
        rw [c1, neg_z _ (by omega), jI_z (by omega), jI_neg]
      rw [e4, Int64.neg_mul, Int64.sub_eq_add_neg, Int64.add_comm]
    have hmay := lk_may hG hR hL hb
    unfold wMe
    rw [hop, hmay, hpass]
    show _ = (if qMay S' (ord k) = true then _ else _)
    generalize (qHas S').toInt64 * qMass S' = st at *
    generalize qSt ord i (k + 1) S' = ps at *
    generalize qOpn S' (qSt ord i (k + 1)) (ord k) = op at *
    have ebase : (if st < ps then ps else st) = ps := by
      by_cases q : st < ps
      · rw [if_pos q]
      · rw [if_neg q]
        exact Int64.le_antisymm (Int64.not_lt.mp ge) (Int64.not_lt.mp q)
    rw [ebase]
    by_cases q : qMay S' (ord k) = true
    · rw [if_pos q, if_pos q]
      by_cases q1 : op < ps
      · rw [if_pos q1, if_neg (fun q2 => Int64.lt_irrefl (Int64.lt_trans q1 q2))]
      · rw [if_neg q1]
        by_cases q2 : ps < op
        · rw [if_pos q2]
        · rw [if_neg q2]
          exact Int64.le_antisymm (Int64.not_lt.mp q2) (Int64.not_lt.mp q1)
    · rw [if_neg q, if_neg q]
  · have := hw' b' hb' q
    unfold qDg
    split
    · rfl
    · show (if hw S' b' ≤ 2 then hw S' b' else _) = 0
      rw [this]
      rfl
/-- the layer of a street's end -/
theorem w_layer0 {ord : Nat → Nat} {k : Nat} {sp : Nat → Int32} {M : Nat → Int64} (hr : rOk T S Q) (hG : qG S) (h0 : ∀ dg r, wVd S dg → r < Q → wTt sp M n 0 dg r = (T.1.1 4 r).toInt64 * cMs S dg) : ∀ S', qRw S S' → qPl S' → qNp S' → wTt sp M n 0 (qDg S') (rkN T S') = qSt ord 0 k S' := by
  intro S' hR hL hp
  obtain ⟨-, r1, e3, -⟩ := lk_rk hr hG hR hL
  rw [h0 _ _ (wVd_q hG hR hL hp) r1, e3, lk_ms hG hR hL]
  rfl
theorem w_mean_l {ra LN len : Nat} {el : Nat → Int32} {ord : Nat → Nat} (hS : ∀ u, tS C (wH h w (u, (t, sA, sN, mA, mN))) t T S) (hW : wOkk w (t, sA, sN, mA, mN)) (hcd : wCd S n u) (hly : u.2.2.1 5 = zI (21 * n)) (hm : mN < 1000000) (hr : rOk T S Q) (hNs : 4 ^ wN (S 116) ≤ sN) (hNs2 : sN < 1000000) (hNm : 21 * n * (wN (S 116) + 1) ≤ mN) (hA : ∀ u, wH h w (u, (t, sA, sN, mA, mN)) ra = some (.inl (.int, LN, .inl el))) (hLN : LN < 1000000) (hlen : len ≤ LN) (hlm : len ≤ wN (S 116)) (hel : ∀ j, j < len → el j = zI (ord j) ∧ ord j < wN (S 116)) (hinj : ∀ j j', j < len → j' < len → ord j = ord j' → j = j') : ∀ (k i : Nat) (wd : Nat → Nat) (M : Nat → Int64) (v5 : Option Value), i + k = len → wMs wd → (∀ b, wd b = 3 → ∃ j, len - i ≤ j ∧ j < len ∧ ord j = b) → (∀ S', qRw S S' → qPl S' → qNp S' → (∀ b, b < 5 → wd b = 3 → hw S' b = 0) → wTt (u.1 3) M n i (qDg S') (rkN T S') = qSt ord i (len - i) S') → ∃ f, am_I X (am_f X (d + 6)) 145 9 [some (.ref w), some (.ref ra), some (.int (zI len)), some (.int (zI (pk wd))), some (.int (zI i)), v5] [] (wH h w (mL u 4 M, (t, sA, sN, mA, mN)), z) = some (.inl (some (.long (qSt ord len 0 (qZ S)))), (wH h w (mL u 4 f, (t, sA, sN, mA, mN)), z)) := by
  have t0 := fun u => (hS u).iT.c0
  have t1 := fun u => (hS u).iT.c1
  have t3 := fun u => (hS u).iT.c3
  have t4 := fun u => (hS u).iT.c4
  have t6 := fun u => (hS u).iT.c6
  have hG := (hS u).2.1
  have hm5 := hG.m.2
  have hsz := (hS u).sz
  have hn2 := hcd.2.1
  have hmul : ∀ i, i ≤ wN (S 116) → i * (21 * n) + 21 * n ≤ mN := fun i hi => by
    have : 21 * n * (i + 1) ≤ 21 * n * (wN (S 116) + 1) := Nat.mul_le_mul_left _ (by omega)
    rw [Nat.mul_add, Nat.mul_one, Nat.mul_comm (21 * n) i] at this
    omega
  intro k
  induction k with
  | zero =>
    intro i wd M v5 hi hwd hset hV
    have hi' : i = len := by omega
    subst hi'
    refine ⟨M, ?_⟩
    have hMn := wMn (h := h) (u := mL u 4 M) hW
    have e := hV (qZ S) qRw_Z qPl_Z qNp_Z (fun b hb _ => hw_Z hb)
    rw [rk_Z hr hG] at e
    unfold wTt at e
    rw [dg_Z hm5, hcd.2.2.2.2, show wN (zI 0) = 0 from rfl, Nat.zero_mul, Nat.sub_self] at e
    rw [← e]
    have hb := hmul i hlm
    have hmn : (if zI (wN (S 116)) < zI i then zI (wN (S 116)) else zI i) = zI i := by
      rw [if_neg]
      rw [zI_lt (by omega) (by omega)]
      omega
    have hn0 : 0 < n := by
      obtain ⟨k0, k1, -⟩ := hcd.2.2.2.1 _ (wVd_q (S := qZ S) hG qRw_Z qPl_Z qNp_Z)
      omega
    have hmn2 : ¬ wN (S 116) < i := by omega
    rw [am_go dc_145_9]
    simp (disch := first | omega | exact Nat.le_of_ble_eq_true rfl | exact wH_ci | (refine wF_lt ?_; omega) | exact (hS _).iT.ci) only [own_145, am_go dc_145_0, J_aload_0, K_al, ld_0, am_go dc_145_1, cv_5_26_5 own_145, JR_v, JR_0, JR_ite, ci1_r, am_go dc_145_4, J_iconst, c32_0, am_go dc_145_5, J_istore_3, st1_0, st1_1, st1_s, kl_i, kl_l, kl_r, kl_n, am_go dc_145_6, am_go dc_145_7, J_istore, J_iload, K_il, ld_4, am_go dc_145_11, J_iload_2, ld_2, am_go dc_145_12, J_icmp_ge, am_go dc_145_15, am_go dc_145_17, am_go dc_145_18, J_getfield, gf_r, fk_5_22_5, am_go dc_145_21, fk_5_29_1, am_go dc_145_24, am_go dc_145_27, J_aload_1, ld_1, am_go dc_145_28, am_go dc_145_29, c32_1, am_go dc_145_30, J_isub, am_go dc_145_31, am_go dc_145_33, am_go dc_145_34, J_iaload, am_go dc_145_35, am_go dc_145_37, J_iload_3, ld_3, am_go dc_145_38, c32_3, am_go dc_145_39, c32_2, am_go dc_145_40, ld_5, am_go dc_145_42, J_imul, am_go dc_145_43, J_ishl, am_go dc_145_44, J_ior, am_go dc_145_45, am_go dc_145_46, am_go dc_145_47, am_go dc_145_49, am_go dc_145_51, am_go dc_145_52, cv_5_35_5 own_145, am_go dc_145_55, J_iinc, pinc_go, am_go dc_145_58, J_goto, am_go dc_145_61, am_go dc_145_62, fk_5_18_5, am_go dc_145_65, am_go dc_145_66, am_go dc_145_67, am_go dc_145_70, am_go dc_145_73, cm_5_39 own_145, mth_1, am_go dc_145_76, am_go dc_145_77, fk_5_45_5, am_go dc_145_80, am_go dc_145_81, J_laload, am_go dc_145_82, J_ret_l ret_145, wg_0, tg_1, wg_4, wg_5, wH_0, wH_1, ww_1, zI_add, zI_mul, zI_lt, zI_le, zI_eq, zI_neg, zI_pos, zI_ne0, zI_gt0, zB_0, lg_cmp_ge, lg_cmp_le, lg_cmp_gt, lg_cmp_lt, lg_cmp_eq, ail_r, abl_r, all_r, ais_r, abs_r, als_r, aal_r, aal_q, aln_r, vrf_s, vrf_n, z32, t0, t1, t3, t4, t6, hsz, hMn, hly, hmn, hmn2, hcd.1, Nat.le_refl, Nat.add_zero, mS_s, mS_o, mS_2, mI_1, mI_2, mI_s, mI_o, mI_3, mI_I, mS_S, mJ_1, mJ_2, mJ_3, mJ_s, mJ_o, mJ_J, mL_1, mL_2, mL_s, mL_o, List.length_cons, List.length_nil, Nat.reduceAdd, Nat.reduceLT, Nat.reduceLeDiff, Nat.reduceEqDiff, ↓reduceIte, bind_s, if_true, if_false, not_true_eq_false, not_false_eq_true, Nat.zero_add]
  | succ k ih =>
    intro i wd M v5 hi hwd hset hV
    have hlt : ¬ len ≤ i := by omega
    have hlt2 : ¬ wN (S 116) ≤ i := by omega
    obtain ⟨q1, q2⟩ := hel (len - 1 - i) (by omega)
    have hb5 : ord (len - 1 - i) < 5 := by omega
    obtain ⟨m1, m2⟩ := hwd.set hb5
    have hwb : wd (ord (len - 1 - i)) ≠ 3 := fun q => by
      obtain ⟨j, j1, j2, j3⟩ := hset _ q
      have := hinj j (len - 1 - i) j2 (by omega) j3
      omega
    obtain ⟨f, g1, g2, g3⟩ := w_put (X := X) (d := d) (z := z) (u := u) (n := n) (L := i) (M := M) (b := ord (len - 1 - i)) hS hW hcd hly hm hr hNs hNs2 m2 (by omega) (by
      have := hmul (i + 1) (by omega)
      rw [Nat.succ_mul] at this
      omega) q2
    have hk1 : len - 1 - i + 1 = len - i := by omega
    have hlay := w_layer (n := n) (ord := ord) (wd := wd) (sp := u.1 3) (f := f) (M := M) (i := i) (k := len - 1 - i) hr hG q2 hwb (by rw [hk1]; exact hV) g2
    obtain ⟨f', s1⟩ := ih (i + 1) (dset wd (ord (len - 1 - i)) 3) f (some (.int (zI (ord (len - 1 - i))))) (by omega) m2 (fun b q => by
      by_cases e : b = ord (len - 1 - i)
      · exact ⟨len - 1 - i, by omega, by omega, e.symm⟩
      · rw [dset_o e] at q
        obtain ⟨j, j1, j2, j3⟩ := hset b q
        exact ⟨j, by omega, j2, j3⟩) (by rw [show len - (i + 1) = len - 1 - i by omega]; exact hlay)
    refine ⟨f', Eq.trans ?_ s1⟩
    have d1 : zI len - zI 1 = zI (len - 1) := zI_sub (by omega)
    have d2 : zI (len - 1) - zI i = zI (len - 1 - i) := zI_sub (by omega)
    rw [am_go dc_145_9]
    simp (disch := first | omega | exact Nat.le_of_ble_eq_true rfl | exact wH_ci | (refine wF_lt ?_; omega) | exact (hS _).iT.ci) only [own_145, am_go dc_145_0, J_aload_0, K_al, ld_0, am_go dc_145_1, cv_5_26_5 own_145, JR_v, JR_0, JR_ite, ci1_r, am_go dc_145_4, J_iconst, c32_0, am_go dc_145_5, J_istore_3, st1_0, st1_1, st1_s, kl_i, kl_l, kl_r, kl_n, am_go dc_145_6, am_go dc_145_7, J_istore, J_iload, K_il, ld_4, am_go dc_145_11, J_iload_2, ld_2, am_go dc_145_12, J_icmp_ge, am_go dc_145_15, am_go dc_145_17, am_go dc_145_18, J_getfield, gf_r, fk_5_22_5, am_go dc_145_21, fk_5_29_1, am_go dc_145_24, am_go dc_145_27, J_aload_1, ld_1, am_go dc_145_28, am_go dc_145_29, c32_1, am_go dc_145_30, J_isub, am_go dc_145_31, am_go dc_145_33, am_go dc_145_34, J_iaload, am_go dc_145_35, am_go dc_145_37, J_iload_3, ld_3, am_go dc_145_38, c32_3, am_go dc_145_39, c32_2, am_go dc_145_40, ld_5, am_go dc_145_42, J_imul, am_go dc_145_43, J_ishl, am_go dc_145_44, J_ior, am_go dc_145_45, am_go dc_145_46, am_go dc_145_47, am_go dc_145_49, am_go dc_145_51, am_go dc_145_52, cv_5_35_5 own_145, am_go dc_145_55, J_iinc, pinc_go, am_go dc_145_58, J_goto, am_go dc_145_61, am_go dc_145_62, fk_5_18_5, am_go dc_145_65, am_go dc_145_66, am_go dc_145_67, am_go dc_145_70, am_go dc_145_73, cm_5_39 own_145, mth_1, am_go dc_145_76, am_go dc_145_77, fk_5_45_5, am_go dc_145_80, am_go dc_145_81, J_laload, am_go dc_145_82, J_ret_l ret_145, wg_0, tg_1, wg_4, wg_5, wH_0, wH_1, ww_1, zI_add, zI_mul, zI_lt, zI_le, zI_eq, zI_neg, zI_pos, zI_ne0, zI_gt0, zB_0, lg_cmp_ge, lg_cmp_le, lg_cmp_gt, lg_cmp_lt, lg_cmp_eq, ail_r, abl_r, all_r, ais_r, abs_r, als_r, aal_r, aal_q, aln_r, vrf_s, vrf_n, z32, t0, t1, t3, t4, t6, hsz, hA, hlt, hlt2, d1, d2, q1, m1, g1, List.length_cons, List.length_nil, Nat.reduceAdd, Nat.reduceLT, Nat.reduceLeDiff, Nat.reduceEqDiff, ↓reduceIte, bind_s, if_true, if_false, not_true_eq_false, not_false_eq_true, Nat.zero_add]
end SD
