/-! Told written -/
theorem tC_lt {t k : Nat} {D : mU × (Nat → Option Nat)} {e : am_E} (h : tC t D k = some e) : k < 8 := by
  match k, h with
  | 0, _ => omega
  | 1, _ => omega
  | 2, _ => omega
  | 3, _ => omega
  | 4, _ => omega
  | 5, _ => omega
  | 6, _ => omega
  | 7, _ => omega
  | k + 8, h => exact absurd (show (none : Option am_E) = some e from h) (by simp)
theorem isT.fr {H H' : am_H} {t : Nat} {D : mU × (Nat → Option Nat)} (hO : isT H t D) (hH : ∀ x, t ≤ x → x < t + 8 → H' x = H x) : isT H' t D := fun k e hc => by
  have := tC_lt hc
  rw [hH _ (by omega) (by omega)]
  exact hO k e hc
theorem isT.sep {h : am_H} {q t : Nat} {T Q : mU × (Nat → Option Nat)} (hQ : isT h q Q) (hd : q + 8 ≤ t ∨ t + 8 ≤ q) : isT (tH h t T) q Q := hQ.fr (fun _ _ _ => tH_x (by omega))
theorem isB.bx {H : am_H} {a on : Nat} {b : Nat × Nat × Nat × Nat} {id : Int32} {f g : Nat → Int32} (hB : isB H a b id f on g) : am_box (H a) = true := by
  have h5 := hB.1.1
  rw [hB.at]
  show (decide (6 ≤ 6 + b.1) && decide (6 + b.1 ≤ 11)) = true
  rw [decide_eq_true (by omega), decide_eq_true (by omega)]
  rfl
theorem isB.cg {H : am_H} {a on : Nat} {b : Nat × Nat × Nat × Nat} {id : Int32} {f f' g g' : Nat → Int32} (hB : isB H a b id f on g) (hf : ∀ j, j < 14 → j ≠ 5 → f' j = f j) (hg : b.1 = 4 → ∀ i, i < on → g' i = g i) : isB H a b id f' on g' := by
  obtain ⟨h1, h2, h3, h4, ⟨w, h5, h6⟩, ⟨c, h7, h8⟩, h9⟩ := hB
  have e0 := hf 0 (by omega) (by omega)
  have e1 := hf 1 (by omega) (by omega)
  have e2 := hf 2 (by omega) (by omega)
  have e3 := hf 3 (by omega) (by omega)
  have e4 := hf 4 (by omega) (by omega)
  have eb : bF b id f' = bF b id f := by unfold bF; rw [e1, e2, e4]
  unfold isB
  rw [e0, e3, e4, eb]
  refine ⟨h1, h2, h3, h4, ⟨w, h5, fun i hi => by rw [hf _ (by omega) (by omega)]; exact h6 i hi⟩, ⟨c, h7, fun i hi => by rw [hf _ (by omega) (by omega)]; exact h8 i hi⟩, fun e => ?_⟩
  obtain ⟨k1, e', k2, k3⟩ := h9 e
  exact ⟨k1, e', k2, fun i hi => by rw [hg e i hi]; exact k3 i hi⟩
def tNl (T : mU × (Nat → Option Nat)) (S : Nat → Int32) : Prop := ∀ b, wN (S 116) ≤ b → b < 5 → T.2 b = none
def tSN (C : Nat → Prop) (H : am_H) (t : Nat) (T : mU × (Nat → Option Nat)) (S : Nat → Int32) : Prop := tS C H t T S ∧ tNm T S ∧ tNl T S
theorem tS.fr {C C' : Nat → Prop} {H H' : am_H} {t : Nat} {T : mU × (Nat → Option Nat)} {S : Nat → Int32} (hS : tS C H t T S) (hT : ∀ x, t ≤ x → x < t + 8 → H' x = H x) (hC : ∀ x, C x → H' x = H x) (hm : ∀ x, C x → C' x) : tS C' H' t T S := by
  obtain ⟨h1, h2, ⟨h3, h4, h5⟩, h6⟩ := hS
  refine ⟨h1.fr hT, h2, ⟨h3, h4, fun b hb => ?_⟩, h6⟩
  obtain ⟨a, bb, g1, g2, g3⟩ := h5 b hb
  exact ⟨a, bb, g1, ⟨hm _ g2.1, hm _ g2.2.1, hm _ g2.2.2.1, fun e => hm _ (g2.2.2.2 e)⟩, g3.fr (hC _ g2.1) (hC _ g2.2.1) (hC _ g2.2.2.1) (fun e => hC _ (g2.2.2.2 e))⟩
theorem tSN.fr {C C' : Nat → Prop} {H H' : am_H} {t : Nat} {T : mU × (Nat → Option Nat)} {S : Nat → Int32} (hS : tSN C H t T S) (hT : ∀ x, t ≤ x → x < t + 8 → H' x = H x) (hC : ∀ x, C x → H' x = H x) (hm : ∀ x, C x → C' x) : tSN C' H' t T S := ⟨hS.1.fr hT hC hm, hS.2⟩
section TX
variable {X : am_X} {rec : am_O} {C : Nat → Prop} {h : am_H} {t d q pc nx tg : Nat} {T Q : mU × (Nat → Option Nat)} {z : Nat × Nat} {S : Nat → Int32} {lv : am_L} {st : List Value} {σ : am_S}
theorem J_aas {t : Nat} {v : Option Nat} {i : Int32} {a : Nat} (hv : ∀ b, v = some b → am_box (σ.1 b) = true) : am_J X rec t (some (.aastore, nx, tg)) pc lv (va_rf v :: .int i :: .ref a :: st) σ = (am_aas (σ.1 a) i v).bind (fun v => am_I X rec t nx lv st (am_up σ.1 a v, σ.2)) := by
  match v, hv with
  | none, _ =>
    show am_K X rec t ((am_aas (σ.1 a) i none).map _) = _
    cases am_aas (σ.1 a) i none <;> rfl
  | some b, hv =>
    show am_K X rec t (if am_box (σ.1 b) then (am_aas (σ.1 a) i (some b)).map _ else none) = _
    rw [if_pos (hv b rfl)]
    cases am_aas (σ.1 a) i (some b) <;> rfl
theorem J_aasr {t b : Nat} {i : Int32} {a : Nat} (hv : am_box (σ.1 b) = true) : am_J X rec t (some (.aastore, nx, tg)) pc lv (.ref b :: .int i :: .ref a :: st) σ = (am_aas (σ.1 a) i (some b)).bind (fun v => am_I X rec t nx lv st (am_up σ.1 a v, σ.2)) := J_aas (v := some b) (fun b' e => by
  cases e
  exact hv)
theorem aas_r {n i : Nat} {f : Nat → Option Nat} {v : Option Nat} (h : i < n) (hn : n < 2147483648) : am_aas (some (.inl (.object "BoxSearch$Box", n, .inr (.inr (.inr (.inr f)))))) (zI i) v = some (.inl (.object "BoxSearch$Box", n, .inr (.inr (.inr (.inr (va_up f i v)))))) := by
  show (if am_in (zI i) n then (some (.inl (.object "BoxSearch$Box", n, .inr (.inr (.inr (.inr (va_up f (zI i).toNatClampNeg v)))))) : Option am_E) else none) = _
  rw [zI_in h hn, zI_nat (by omega)]
  rfl
theorem c_take_l {D : mU} (hQ : isT h q Q) (hd : q + 8 ≤ t ∨ t + 8 ≤ q) (hv : ∀ b a, b < 5 → Q.2 b = some a → ∀ T', am_box (tH h t T' a) = true) : ∀ (k i : Nat) (f : Nat → Option Nat), i + k = 5 → am_I X (am_f X d) 19 2 [some (.ref t), some (.ref q), some (.int (zI i))] [] (tH h t (D, f), z) = am_I X (am_f X d) 19 25 [some (.ref t), some (.ref q), some (.int (zI 5))] [] (tH h t (D, fun b => if i ≤ b ∧ b < 5 then Q.2 b else f b), z) := by
  have q0 := fun (T : mU × (Nat → Option Nat)) => (hQ.sep (T := T) hd).c0
  have q1 := fun (T : mU × (Nat → Option Nat)) => (hQ.sep (T := T) hd).c1
  intro k
  induction k with
  | zero =>
    intro i f hi
    have hi' : i = 5 := by omega
    subst hi'
    have e : (fun b => if 5 ≤ b ∧ b < 5 then Q.2 b else f b) = f := by
      funext b
      exact if_neg (by omega)
    rw [e]
    conv => lhs; rw [am_go dc_19_2]
    simp (disch := first | omega | exact Nat.le_of_ble_eq_true rfl | exact tH_ci | (refine tF_lt ?_; omega)) only [own_19, am_go dc_19_0, J_iconst, c32_0, am_go dc_19_1, J_istore_2, st1_0, st1_1, st1_s, kl_i, kl_l, kl_r, kl_n, J_iload_2, K_il, ld_2, am_go dc_19_3, c32_5, am_go dc_19_4, J_icmp_ge, am_go dc_19_7, J_aload_0, K_al, ld_0, am_go dc_19_8, J_getfield, gf_r, fk_1_11_1, am_go dc_19_11, am_go dc_19_12, J_aload_1, ld_1, am_go dc_19_13, am_go dc_19_16, am_go dc_19_17, J_aaload, am_go dc_19_18, am_go dc_19_19, J_iinc, pinc_go, c32_1, am_go dc_19_22, J_goto, am_go dc_19_26, am_go dc_19_27, fk_1_44_1, am_go dc_19_30, J_putfield_i, J_putfield_l, J_putfield_r, ini_19, pk_1_44_1, am_go dc_19_33, am_go dc_19_34, am_go dc_19_35, fk_1_17_1, am_go dc_19_38, pk_1_17_1, am_go dc_19_41, am_go dc_19_42, cv_1_47_1 own_19, JR_v, JR_0, JR_ite, ci1_r, am_go dc_19_45, J_ret_v ret_19, tg_0, tg_1, tp_1, pf_i pk_1_44_1 rfl, tg_2, tp_2, pf_i pk_1_17_1 rfl, tH_0, tH_1, tH_2, tH_3, tH_4, tH_5, tH_6, tH_7, tw_1, tw_2, tw_3, tw_4, tw_5, tw_6, tw_7, zI_add, zI_mul, zI_lt, zI_le, zI_eq, zI_neg, zI_pos, zI_ne0, zI_gt0, zB_0, lg_cmp_ge, lg_cmp_le, lg_cmp_gt, lg_cmp_lt, lg_cmp_eq, ail_r, abl_r, all_r, ais_r, abs_r, als_r, aal_r, aal_q, aln_r, vrf_s, vrf_n, z32, List.length_cons, List.length_nil, Nat.reduceAdd, Nat.reduceLT, Nat.reduceLeDiff, Nat.reduceEqDiff, ↓reduceIte, bind_s, if_true, if_false, not_true_eq_false, not_false_eq_true, Nat.zero_add]
  | succ k ih =>
    intro i f hi
    have hi5 : i < 5 := by omega
    have hlt : ¬ 5 ≤ i := by omega
    have e : (fun b => if i + 1 ≤ b ∧ b < 5 then Q.2 b else va_up f i (Q.2 i) b) = (fun b => if i ≤ b ∧ b < 5 then Q.2 b else f b) := by
      funext b
      by_cases c : b = i
      · subst c
        rw [if_neg (by omega), if_pos (by omega), va_up_self]
      · rw [va_up_ne _ _ c]
        by_cases c2 : i ≤ b ∧ b < 5
        · rw [if_pos (by omega), if_pos c2]
        · rw [if_neg (by omega), if_neg c2]
    have ih' := ih (i + 1) (va_up f i (Q.2 i)) (by omega)
    rw [e] at ih'
    refine Eq.trans ?_ ih'
    conv => lhs; rw [am_go dc_19_2]
    simp (disch := first | omega | exact Nat.le_of_ble_eq_true rfl | exact tH_ci | (refine tF_lt ?_; omega) | (intro b hb; exact hv _ _ hi5 hb _)) only [own_19, am_go dc_19_0, J_iconst, c32_0, am_go dc_19_1, J_istore_2, st1_0, st1_1, st1_s, kl_i, kl_l, kl_r, kl_n, J_iload_2, K_il, ld_2, am_go dc_19_3, c32_5, am_go dc_19_4, J_icmp_ge, am_go dc_19_7, J_aload_0, K_al, ld_0, am_go dc_19_8, J_getfield, gf_r, fk_1_11_1, am_go dc_19_11, am_go dc_19_12, J_aload_1, ld_1, am_go dc_19_13, am_go dc_19_16, am_go dc_19_17, J_aaload, am_go dc_19_18, am_go dc_19_19, J_iinc, pinc_go, c32_1, am_go dc_19_22, J_goto, am_go dc_19_26, am_go dc_19_27, fk_1_44_1, am_go dc_19_30, J_putfield_i, J_putfield_l, J_putfield_r, ini_19, pk_1_44_1, am_go dc_19_33, am_go dc_19_34, am_go dc_19_35, fk_1_17_1, am_go dc_19_38, pk_1_17_1, am_go dc_19_41, am_go dc_19_42, cv_1_47_1 own_19, JR_v, JR_0, JR_ite, ci1_r, am_go dc_19_45, J_ret_v ret_19, tg_0, tg_1, tp_1, pf_i pk_1_44_1 rfl, tg_2, tp_2, pf_i pk_1_17_1 rfl, tH_0, tH_1, tH_2, tH_3, tH_4, tH_5, tH_6, tH_7, tw_1, tw_2, tw_3, tw_4, tw_5, tw_6, tw_7, zI_add, zI_mul, zI_lt, zI_le, zI_eq, zI_neg, zI_pos, zI_ne0, zI_gt0, zB_0, lg_cmp_ge, lg_cmp_le, lg_cmp_gt, lg_cmp_lt, lg_cmp_eq, ail_r, abl_r, all_r, ais_r, abs_r, als_r, aal_r, aal_q, aln_r, vrf_s, vrf_n, z32, q0, q1, hlt, J_aas, aas_r, if_false, List.length_cons, List.length_nil, Nat.reduceAdd, Nat.reduceLT, Nat.reduceLeDiff, Nat.reduceEqDiff, ↓reduceIte, bind_s, if_true, not_true_eq_false, not_false_eq_true, Nat.zero_add]
theorem tSN_mk {T' : mU × (Nat → Option Nat)} (hG : qG S) (h2 : T'.2 = T.2) (hC : ∀ x, C x → x < t ∨ t + 8 ≤ x) (hs : T'.1.2.2.1 1 = S 116) (hl : T'.1.2.2.1 2 = S 117) (hb : ∀ b, b < wN (S 116) → ∃ a bb, T.2 b = some a ∧ bIn C a bb ∧ isB h a bb (zI b) (qRow S b) (qON S b) (qOG S b)) (hk : tKn T' S) (hr : tRk T' S) (hn : tNm T' S) (hnl : tNl T S) : tSN C (tH h t T') t T' S := by
  refine ⟨⟨tH_is, hG, ⟨hs, hl, fun b hb' => ?_⟩, hk, hr⟩, hn, fun b h1 h3 => by rw [h2]; exact hnl b h1 h3⟩
  obtain ⟨a, bb, g1, g2, g3⟩ := hb b hb'
  exact ⟨a, bb, by rw [h2]; exact g1, g2, g3.sepT hC g2⟩
theorem c_take (hQ : tSN C h q Q S) (hd : q + 8 ≤ t ∨ t + 8 ≤ q) (hC : ∀ x, C x → x < t ∨ t + 8 ≤ x) (hw0 : T.1.1 4 0 = 0) : ∃ T', am_f X (d + 4) 19 [.ref t, .ref q] (tH h t T, z) = some (.inl none, (tH h t T', z)) ∧ tSN C (tH h t T') t T' S := by
  obtain ⟨⟨hQ1, hG, ⟨hQ2, hQ3, hQ4⟩, -, -⟩, -, hQ5⟩ := hQ
  have hm := hG.m
  have q0 := fun (T : mU × (Nat → Option Nat)) => (hQ1.sep (T := T) hd).c0
  have hv : ∀ b a, b < 5 → Q.2 b = some a → ∀ T', am_box (tH h t T' a) = true := fun b a hb ha T' => by
    by_cases c : b < wN (S 116)
    · obtain ⟨a', bb, g1, g2, g3⟩ := hQ4 b c
      rw [ha] at g1
      cases g1
      exact (g3.sepT hC g2).bx
    · rw [hQ5 b (by omega) hb] at ha
      exact absurd ha (by simp)
  have hl := c_take_l (X := X) (d := d + 3) (z := z) (D := T.1) hQ1 hd hv 5 0 T.2 (by omega)
  have hb : ∀ b, b < wN (S 116) → ∃ a bb, (fun b => if 0 ≤ b ∧ b < 5 then Q.2 b else T.2 b) b = some a ∧ bIn C a bb ∧ isB h a bb (zI b) (qRow S b) (qON S b) (qOG S b) := fun b hb => by
    obtain ⟨a, bb, g1, g2, g3⟩ := hQ4 b hb
    exact ⟨a, bb, (if_pos (by omega)).trans g1, g2, g3⟩
  obtain ⟨T', s1, s2, s3, s4, s5, s6, s7⟩ := c_settle (X := X) (h := h) (t := t) (d := d) (z := z) (S := S) (T := (mI (mI T.1 1 (Q.1.2.2.1 1)) 2 (Q.1.2.2.1 2), fun b => if 0 ≤ b ∧ b < 5 then Q.2 b else T.2 b)) hG (fun b hb' => by
    obtain ⟨a, bb, g1, g2, g3⟩ := hb b hb'
    exact ⟨a, bb, g1, fun T' => g3.sepT hC g2⟩) (by simp only [mI_o (show 1 ≠ 2 by decide), mI_s]; exact hQ2) hw0
  refine ⟨T', ?_, tSN_mk (T := (mI (mI T.1 1 (Q.1.2.2.1 1)) 2 (Q.1.2.2.1 2), fun b => if 0 ≤ b ∧ b < 5 then Q.2 b else T.2 b)) hG s2 hC (by rw [s3]; simp only [mI_o (show 1 ≠ 2 by decide), mI_s]; exact hQ2) (by rw [s4]; simp only [mI_s]; exact hQ3) hb s5 s6 s7 (fun b h1 h2 => (if_pos (by omega)).trans (hQ5 b h1 h2))⟩
  rw [fU_19]
  simp (disch := first | omega | exact Nat.le_of_ble_eq_true rfl | exact tH_ci | (refine tF_lt ?_; omega)) only [own_19, am_go dc_19_0, J_iconst, c32_0, am_go dc_19_1, J_istore_2, st1_0, st1_1, st1_s, kl_i, kl_l, kl_r, kl_n, tg_0, tg_1, tp_1, pf_i pk_1_44_1 rfl, tg_2, tp_2, pf_i pk_1_17_1 rfl, tH_0, tH_1, tH_2, tH_3, tH_4, tH_5, tH_6, tH_7, tw_1, tw_2, tw_3, tw_4, tw_5, tw_6, tw_7, zI_add, zI_mul, zI_lt, zI_le, zI_eq, zI_neg, zI_pos, zI_ne0, zI_gt0, zB_0, lg_cmp_ge, lg_cmp_le, lg_cmp_gt, lg_cmp_lt, lg_cmp_eq, ail_r, abl_r, all_r, ais_r, abs_r, als_r, aal_r, aal_q, aln_r, vrf_s, vrf_n, z32, List.length_cons, List.length_nil, Nat.reduceAdd, Nat.reduceLT, Nat.reduceLeDiff, Nat.reduceEqDiff, ↓reduceIte, bind_s, if_true, if_false, not_true_eq_false, not_false_eq_true, Nat.zero_add]
  refine Eq.trans hl ?_
  rw [am_go dc_19_25]
  simp (disch := first | omega | exact Nat.le_of_ble_eq_true rfl | exact tH_ci | (refine tF_lt ?_; omega)) only [own_19, am_go dc_19_0, J_iconst, c32_0, am_go dc_19_1, J_istore_2, st1_0, st1_1, st1_s, kl_i, kl_l, kl_r, kl_n, J_iload_2, K_il, ld_2, am_go dc_19_3, c32_5, am_go dc_19_4, J_icmp_ge, am_go dc_19_7, J_aload_0, K_al, ld_0, am_go dc_19_8, J_getfield, gf_r, fk_1_11_1, am_go dc_19_11, am_go dc_19_12, J_aload_1, ld_1, am_go dc_19_13, am_go dc_19_16, am_go dc_19_17, J_aaload, am_go dc_19_18, am_go dc_19_19, J_iinc, pinc_go, c32_1, am_go dc_19_22, J_goto, am_go dc_19_26, am_go dc_19_27, fk_1_44_1, am_go dc_19_30, J_putfield_i, J_putfield_l, J_putfield_r, ini_19, pk_1_44_1, am_go dc_19_33, am_go dc_19_34, am_go dc_19_35, fk_1_17_1, am_go dc_19_38, pk_1_17_1, am_go dc_19_41, am_go dc_19_42, cv_1_47_1 own_19, JR_v, JR_0, JR_ite, ci1_r, am_go dc_19_45, J_ret_v ret_19, tg_0, tg_1, tp_1, pf_i pk_1_44_1 rfl, tg_2, tp_2, pf_i pk_1_17_1 rfl, tH_0, tH_1, tH_2, tH_3, tH_4, tH_5, tH_6, tH_7, tw_1, tw_2, tw_3, tw_4, tw_5, tw_6, tw_7, zI_add, zI_mul, zI_lt, zI_le, zI_eq, zI_neg, zI_pos, zI_ne0, zI_gt0, zB_0, lg_cmp_ge, lg_cmp_le, lg_cmp_gt, lg_cmp_lt, lg_cmp_eq, ail_r, abl_r, all_r, ais_r, abs_r, als_r, aal_r, aal_q, aln_r, vrf_s, vrf_n, z32, q0, s1, List.length_cons, List.length_nil, Nat.reduceAdd, Nat.reduceLT, Nat.reduceLeDiff, Nat.reduceEqDiff, ↓reduceIte, bind_s, if_true, if_false, not_true_eq_false, not_false_eq_true, Nat.zero_add]
theorem c_add {a m : Nat} (hG : qG S) (hm : S 116 = zI (m + 1)) (hm5 : m < 5) (hsz : T.1.2.2.1 1 = zI m) (hbl : T.1.2.2.1 2 = S 117) (hw0 : T.1.1 4 0 = 0) (hC : ∀ x, C x → x < t ∨ t + 8 ≤ x) (hb : ∀ b, b < m + 1 → ∃ a' bb, va_up T.2 m (some a) b = some a' ∧ bIn C a' bb ∧ isB h a' bb (zI b) (qRow S b) (qON S b) (qOG S b)) (hnl : ∀ b, m ≤ b → b < 5 → T.2 b = none) : ∃ T', am_f X (d + 4) 44 [.ref t, .ref a] (tH h t T, z) = some (.inl none, (tH h t T', z)) ∧ tSN C (tH h t T') t T' S := by
  have hmN : wN (S 116) = m + 1 := by rw [hm, wN_zI (by omega)]
  have hbx : am_box (tH h t T a) = true := by
    obtain ⟨a', bb, g1, g2, g3⟩ := hb m (by omega)
    rw [va_up_self] at g1
    cases g1
    exact (g3.sepT hC g2).bx
  have hlt : ¬ 5 ≤ m := by omega
  rw [← hmN] at hb
  obtain ⟨T', s1, s2, s3, s4, s5, s6, s7⟩ := c_settle (X := X) (h := h) (t := t) (d := d) (z := z) (S := S) (T := (mI T.1 1 (zI (m + 1)), va_up T.2 m (some a))) hG (fun b hb' => by
    obtain ⟨a, bb, g1, g2, g3⟩ := hb b hb'
    exact ⟨a, bb, g1, fun T' => g3.sepT hC g2⟩) (by simp only [mI_s]; exact hm.symm) hw0
  refine ⟨T', ?_, tSN_mk (T := (mI T.1 1 (zI (m + 1)), va_up T.2 m (some a))) hG s2 hC (by rw [s3]; simp only [mI_s]; exact hm.symm) (by rw [s4]; simp only [mI_o (show 2 ≠ 1 by decide)]; exact hbl) hb s5 s6 s7 (fun b h1 h2 => (va_up_ne _ _ (by omega)).trans (hnl b (by omega) h2))⟩
  rw [fU_44]
  simp (disch := first | omega | exact Nat.le_of_ble_eq_true rfl | exact tH_ci | (refine tF_lt ?_; omega) | exact hbx) only [own_44, am_go dc_44_0, J_aload_0, K_al, ld_0, am_go dc_44_1, J_getfield, gf_r, fk_1_44_1, am_go dc_44_4, J_iconst, c32_5, am_go dc_44_5, J_icmp_ge, am_go dc_44_8, am_go dc_44_9, fk_1_11_1, am_go dc_44_12, am_go dc_44_13, am_go dc_44_16, J_aload_1, ld_1, am_go dc_44_17, am_go dc_44_18, am_go dc_44_19, J_dup_i, J_dup_r, am_go dc_44_20, am_go dc_44_23, c32_1, am_go dc_44_24, J_iadd, am_go dc_44_25, J_putfield_i, J_putfield_l, J_putfield_r, ini_44, pk_1_44_1, am_go dc_44_28, am_go dc_44_29, cv_1_47_1 own_44, JR_v, JR_0, JR_ite, ci1_r, am_go dc_44_32, J_ret_v ret_44, tg_1, tg_0, tp_1, pf_i pk_1_44_1 rfl, tH_0, tH_1, tH_2, tH_3, tH_4, tH_5, tH_6, tH_7, tw_1, tw_2, tw_3, tw_4, tw_5, tw_6, tw_7, zI_add, zI_mul, zI_lt, zI_le, zI_eq, zI_neg, zI_pos, zI_ne0, zI_gt0, zB_0, lg_cmp_ge, lg_cmp_le, lg_cmp_gt, lg_cmp_lt, lg_cmp_eq, ail_r, abl_r, all_r, ais_r, abs_r, als_r, aal_r, aal_q, aln_r, vrf_s, vrf_n, z32, hsz, hlt, J_aasr, aas_r, s1, List.length_cons, List.length_nil, Nat.reduceAdd, Nat.reduceLT, Nat.reduceLeDiff, Nat.reduceEqDiff, ↓reduceIte, bind_s, if_true, if_false, not_true_eq_false, not_false_eq_true, Nat.zero_add]
theorem ov_out {a k : Nat} {c : Nat → Option am_E} {e : am_E} {h : am_H} {n : Nat} (hn : ov h a c n = none) (hc : c k = some e) : n ≠ a + k := fun e' => by
  rw [e', ov_r hc] at hn
  exact absurd hn (by simp)
theorem tH_out {n : Nat} (hn : tH h t T n = none) : (n < t ∨ t + 8 ≤ n) ∧ h n = none := by
  have h0 := ov_out (k := 0) hn rfl
  have h1 := ov_out (k := 1) hn rfl
  have h2 := ov_out (k := 2) hn rfl
  have h3 := ov_out (k := 3) hn rfl
  have h4 := ov_out (k := 4) hn rfl
  have h5 := ov_out (k := 5) hn rfl
  have h6 := ov_out (k := 6) hn rfl
  have h7 := ov_out (k := 7) hn rfl
  have ho : n < t ∨ t + 8 ≤ n := by omega
  exact ⟨ho, by rw [← tH_x (h := h) (t := t) (T := T) ho]; exact hn⟩
theorem tH_up {n : Nat} {e : am_E} (hn : n < t ∨ t + 8 ≤ n) : am_up (tH h t T) n e = tH (am_up h n e) t T := ov_up (fun k hk => by
  match k, hk with
  | 0, _ => omega
  | 1, _ => omega
  | 2, _ => omega
  | 3, _ => omega
  | 4, _ => omega
  | 5, _ => omega
  | 6, _ => omega
  | 7, _ => omega
  | k + 8, _ => rfl)
theorem tS.nC {H : am_H} {n : Nat} (hS : tS C H t T S) (hn : H n = none) : isT H t T → n < t ∨ t + 8 ≤ n := fun hT => by
  have h0 : n ≠ t := fun e => by rw [e, hT.c0] at hn; exact absurd hn (by simp)
  have h1 : n ≠ t + 1 := fun e => by rw [e, hT.c1] at hn; exact absurd hn (by simp)
  have h2 : n ≠ t + 2 := fun e => by rw [e, hT.c2] at hn; exact absurd hn (by simp)
  have h3 : n ≠ t + 3 := fun e => by rw [e, hT.c3] at hn; exact absurd hn (by simp)
  have h4 : n ≠ t + 4 := fun e => by rw [e, hT.c4] at hn; exact absurd hn (by simp)
  have h5 : n ≠ t + 5 := fun e => by rw [e, hT.c5] at hn; exact absurd hn (by simp)
  have h6 : n ≠ t + 6 := fun e => by rw [e, hT.c6] at hn; exact absurd hn (by simp)
  have h7 : n ≠ t + 7 := fun e => by rw [e, hT.c7] at hn; exact absurd hn (by simp)
  omega
/-- the price of a box set: a new box at z.1 -/
theorem c_reprice {b P : Nat} (hS : tSN C (tH h t T) t T S) (hC : ∀ x, C x → x < t ∨ t + 8 ≤ x) (hb : b < wN (S 116)) (hP : P ≤ 999) (hz : tH h t T z.1 = none) : ∃ T' e n, am_f X (d + 5) 61 [.ref t, .int (zI b), .int (zI P)] (tH h t T, z) = some (.inl none, (tH (am_up h z.1 e) t T', (z.1 + 1, z.2 + n))) ∧ n ≤ 7 ∧ tSN (fun x => C x ∨ x = z.1) (tH (am_up h z.1 e) t T') t T' (qPr S b P) := by
  obtain ⟨⟨hT, hG, ⟨hS2, hS3, hS4⟩, -, hRk⟩, -, hS5⟩ := hS
  have hw0 : T.1.1 4 0 = 0 := by
    obtain ⟨R, -, -, -, r, -⟩ := hRk
    exact r
  have hm := hG.m
  obtain ⟨hz1, hz2⟩ := tH_out hz
  have hG' : qG (qPr S b P) := hG.pr hb hP
  have hb5 : b < 5 := by omega
  have hPj : ∀ j, j ≠ 18 * b + 1 → qPr S b P j = S j := fun j hj => upd_o hj
  have hm' : qPr S b P 116 = S 116 := hPj _ (by omega)
  obtain ⟨a, bb, ha, hi, hB⟩ := hS4 b hb
  have hpr := hB.pr (x := zI P) hz
  have hvx : ∀ {pc nx tg : Nat} {lv : am_L} {rest : List Value}, rest.length ≤ 8 → am_J X (am_f X (d + 4)) 61 (some (.invokevirtual 50, nx, tg)) pc lv (.int (zI P) :: .ref a :: rest) (tH h t T, z) = am_I X (am_f X (d + 4)) 61 nx lv (.ref z.1 :: rest) (tH (am_up h z.1 (.inr (6 + bb.1, bF bb (zI b) (upd (qRow S b) 1 (zI P))))) t T, (z.1 + 1, z.2 + (am_df (6 + bb.1)).length)) := fun hr => by
    rw [vx_1_50 own_61 hB hz hr, tH_up hz1]
  have hk := hB.k
  have hlen : (am_df (6 + bb.1)).length ≤ 7 := by
    rcases hk with e | e | e | e | e | e <;> (rw [e]; decide)
  rw [tH_up hz1] at hpr
  generalize hE : (Sum.inr (6 + bb.1, bF bb (zI b) (upd (qRow S b) 1 (zI P))) : am_E) = E at hvx hpr
  have hCn : ∀ x, C x ∨ x = z.1 → x < t ∨ t + 8 ≤ x := fun x hx => by
    rcases hx with hx | hx
    · exact hC x hx
    · rw [hx]; exact hz1
  have nC : ∀ x e, h x = some e → am_up h z.1 E x = h x := fun x e hx => up_x (fun e' => by
    rw [e', hz2] at hx
    exact absurd hx (by simp))
  -- the boxes
  have hrow : ∀ c, c ≠ b → c < 5 → ∀ j, j < 18 → qRow (qPr S b P) c j = qRow S c j := fun c hc h5 j hj => hPj _ (by omega)
  have hbs : ∀ c, c < wN (qPr S b P 116) → ∃ a' bb', va_up T.2 b (some z.1) c = some a' ∧ bIn (fun x => C x ∨ x = z.1) a' bb' ∧ isB (am_up h z.1 E) a' bb' (zI c) (qRow (qPr S b P) c) (qON (qPr S b P) c) (qOG (qPr S b P) c) := fun c hc => by
    rw [hm'] at hc
    obtain ⟨a', bb', g1, g2, g3⟩ := hS4 c hc
    have hL : bb'.1 = 4 → wN (S (18 * c + 4)) < 5 := fun e => by
      have e4 : S (18 * c) = zI 4 := by
        have := g3.1.2
        rw [e] at this
        exact this
      have := ((hG.2.2 c hc).2.2.2.2.1 e4).1.z (by omega)
      omega
    have e4 : qPr S b P (18 * c + 4) = S (18 * c + 4) := hPj _ (by omega)
    have eON : qON (qPr S b P) c = qON S c := by
      unfold qON
      rw [e4]
      exact congrArg wN (hPj _ (by omega))
    have eOG : bb'.1 = 4 → ∀ i, i < qON S c → qOG (qPr S b P) c i = qOG S c i := fun e i hi' => by
      have h4 := (g3.2.2.2.2.2.2 e).1
      have := hL e
      unfold qOG
      rw [e4]
      exact hPj _ (by omega)
    by_cases ec : c = b
    · subst ec
      rw [ha] at g1
      cases g1
      have hO := hi.2
      refine ⟨z.1, bb, va_up_self _ _ _, ⟨Or.inr rfl, Or.inl hO.1, Or.inl hO.2.1, fun e => Or.inl (hO.2.2 e)⟩, ?_⟩
      have hpr' : isB (am_up h z.1 E) z.1 bb (zI c) (upd (qRow S c) 1 (zI P)) (qON S c) (qOG S c) := hpr.fr (tH_x hz1).symm (tH_x (hC _ hO.1)).symm (tH_x (hC _ hO.2.1)).symm (fun e => (tH_x (hC _ (hO.2.2 e))).symm)
      rw [eON]
      refine hpr'.cg (fun j hj _ => ?_) ?_
      · by_cases e1 : j = 1
        · subst e1
          rw [upd_s]
          exact upd_s
        · rw [upd_o e1]
          exact hPj _ (by omega)
      · intro e i hi'
        have h4 := (hB.2.2.2.2.2.2 e).1
        have e4' : S (18 * c) = zI 4 := by
          have := hB.1.2
          rw [e] at this
          exact this
        have hL' := ((hG.2.2 c hc).2.2.2.2.1 e4').1.z (by omega)
        unfold qOG
        rw [e4]
        exact hPj _ (by omega)
    · refine ⟨a', bb', (va_up_ne _ _ ec).trans g1, ⟨Or.inl g2.1, Or.inl g2.2.1, Or.inl g2.2.2.1, fun e => Or.inl (g2.2.2.2 e)⟩, ?_⟩
      have hf : ∀ x, C x → ∀ e, tH h t T x = some e → am_up h z.1 E x = tH h t T x := fun x hx e he => by
        have hx' := hC x hx
        rw [tH_x hx'] at he ⊢
        exact nC x e he
      rw [eON]
      obtain ⟨w, w1, -⟩ := g3.2.2.2.2.1
      obtain ⟨v, v1, -⟩ := g3.2.2.2.2.2.1
      have g3' : isB (am_up h z.1 E) a' bb' (zI c) (qRow S c) (qON S c) (qOG S c) := g3.fr (hf _ g2.1 _ g3.at) (hf _ g2.2.1 _ w1) (hf _ g2.2.2.1 _ v1) (fun e => by
        obtain ⟨-, u, u1, -⟩ := g3.2.2.2.2.2.2 e
        exact hf _ (g2.2.2.2 e) _ u1)
      exact g3'.cg (fun j hj _ => hrow c ec (by omega) j (by omega)) eOG
  have hbx : am_box (tH (am_up h z.1 E) t T z.1) = true := hpr.bx
  obtain ⟨T', s1, s2, s3, s4, s5, s6, s7⟩ := c_settle (X := X) (h := am_up h z.1 E) (t := t) (d := d + 1) (z := (z.1 + 1, z.2 + (am_df (6 + bb.1)).length)) (S := qPr S b P) (T := (T.1, va_up T.2 b (some z.1))) hG' (fun c hc => by
    obtain ⟨a', bb', g1, g2, g3⟩ := hbs c hc
    exact ⟨a', bb', g1, fun T' => g3.sepT hCn g2⟩) (by rw [hm']; exact hS2) hw0
  refine ⟨T', E, _, ?_, hlen, tSN_mk (T := (T.1, va_up T.2 b (some z.1))) hG' s2 hCn (by rw [s3, hm']; exact hS2) (by rw [s4, hPj 117 (by omega)]; exact hS3) hbs s5 s6 s7 (fun c h1 h2 => by
    rw [hm'] at h1
    exact (va_up_ne _ _ (by omega)).trans (hS5 c h1 h2))⟩
  rw [fU_61]
  simp (disch := first | omega | exact Nat.le_of_ble_eq_true rfl | exact tH_ci | (refine tF_lt ?_; omega) | exact hbx) only [own_61, am_go dc_61_0, J_aload_0, K_al, ld_0, am_go dc_61_1, J_getfield, gf_r, fk_1_11_1, am_go dc_61_4, J_iload_1, K_il, ld_1, am_go dc_61_5, am_go dc_61_6, am_go dc_61_9, am_go dc_61_10, J_aaload, am_go dc_61_11, J_iload_2, ld_2, am_go dc_61_12, JR_v, JR_0, JR_ite, ci1_r, am_go dc_61_15, am_go dc_61_16, am_go dc_61_17, cv_1_47_1 own_61, am_go dc_61_20, J_ret_v ret_61, tg_0, tH_0, tH_1, tH_2, tH_3, tH_4, tH_5, tH_6, tH_7, tw_1, tw_2, tw_3, tw_4, tw_5, tw_6, tw_7, zI_add, zI_mul, zI_lt, zI_le, zI_eq, zI_neg, zI_pos, zI_ne0, zI_gt0, zB_0, lg_cmp_ge, lg_cmp_le, lg_cmp_gt, lg_cmp_lt, lg_cmp_eq, ail_r, abl_r, all_r, ais_r, abs_r, als_r, aal_r, aal_q, aln_r, vrf_s, vrf_n, z32, ha, hvx, J_aasr, aas_r, s1, List.length_cons, List.length_nil, Nat.reduceAdd, Nat.reduceLT, Nat.reduceLeDiff, Nat.reduceEqDiff, ↓reduceIte, bind_s, if_true, if_false, not_true_eq_false, not_false_eq_true, Nat.zero_add]
end TX
