/-! texts of the reference -/
theorem pEnd_ok {F : Nat} {s : Nat → Int32} {n p k : Nat} {x y : Int32} {W C : Nat → Int32} (hs : ∀ q, n ≤ q → isD (s q) = false) (hs2 : ∀ q c, c < 1000 → s q = zI c → q < n) (hn : n ≤ 120) (hp : p ≤ n) (hx : ∃ a, x = zI a ∧ a ≤ 999) (hy : ∃ a, y = zI a ∧ a ≤ 999) (hk : k < 120) (hWC : ∀ j, j < k → (∃ a, W j = zI a ∧ a ≤ 999) ∧ ∃ a, C j = zI a ∧ a ≤ 999) (ok : (pEnd F s p x y k W C).1 = true) : pDok (pEnd F s p x y k W C).2.2 := by
  have none0 : ∀ j, j < 0 → ∃ a, pZ j = zI a ∧ a ≤ 999 := fun j hj => by omega
  unfold pEnd at ok ⊢
  by_cases c1 : s p = zI 59
  · rw [if_pos c1]
    exact ⟨hx, hy, hk, hWC, fun q => absurd (by show sKd (zI 0) = 0; decide) q, by show 0 < 120; omega, none0⟩
  · rw [if_neg c1] at ok ⊢
    by_cases c2 : s p = zI 33
    · rw [if_pos c2]
      exact ⟨hx, hy, hk, hWC, fun _ q => absurd (by show sKd (zI 33) = 2; decide) q, by show 0 < 120; omega, none0⟩
    · rw [if_neg c2] at ok ⊢
      by_cases cc : s p = zI 63 ∨ s p = zI 60 ∨ s p = zI 62 ∨ s p = zI 64
      · have hpn : p < n := by
          rcases cc with e | e | e | e
          · exact hs2 p 63 (by omega) e
          · exact hs2 p 60 (by omega) e
          · exact hs2 p 62 (by omega) e
          · exact hs2 p 64 (by omega) e
        rw [if_pos cc] at ok ⊢
        obtain ⟨a1, a2⟩ := pNum_ok (p := p + 1) hs (by omega)
        by_cases c3 : (pNum s (p + 1)).1 = true
        · obtain ⟨b1, b2, b3⟩ := a1 c3
          rw [if_pos c3] at ok ⊢
          by_cases c4 : s p = zI 62
          · rw [if_pos c4]
            obtain ⟨f1, f2, f3, f4, f5⟩ := pOth_k hs hs2 F (pNum s (p + 1)).2.1 0 pZ b2 (by omega)
            exact ⟨hx, hy, hk, hWC, fun _ _ => b3, by show (pOth s F (pNum s (p + 1)).2.1 0 pZ).2.2.1 < 120; omega, f5 none0⟩
          · rw [if_neg c4]
            exact ⟨hx, hy, hk, hWC, fun _ _ => b3, by show 0 < 120; omega, none0⟩
        · rw [if_neg c3] at ok
          cases ok
      · rw [if_neg cc] at ok
        cases ok
theorem pBox_ok {F : Nat} {s : Nat → Int32} {n p : Nat} (hs : ∀ q, n ≤ q → isD (s q) = false) (hs2 : ∀ q c, c < 1000 → s q = zI c → q < n) (hn : n ≤ 120) (hp : p ≤ n) (ok : (pBox F s p).1 = true) : pDok (pBox F s p).2.2 := by
  unfold pBox at ok ⊢
  obtain ⟨a1, a2⟩ := pNum_ok (p := p) hs hp
  by_cases c1 : (pNum s p).1 = true
  · obtain ⟨b1, b2, b3⟩ := a1 c1
    rw [if_pos c1] at ok ⊢
    by_cases c2 : s (pNum s p).2.1 = zI 32
    · have := hs2 _ 32 (by omega) c2
      rw [if_pos c2] at ok ⊢
      obtain ⟨d1, d2⟩ := pNum_ok (p := (pNum s p).2.1 + 1) hs (by omega)
      by_cases c3 : (pNum s ((pNum s p).2.1 + 1)).1 = true
      · obtain ⟨e1, e2, e3⟩ := d1 c3
        rw [if_pos c3] at ok ⊢
        obtain ⟨f1, f2, f3, f4, f5⟩ := pStp_k hs hs2 F (pNum s ((pNum s p).2.1 + 1)).2.1 0 pZ pZ e2 (by omega)
        by_cases c4 : (pStp s F (pNum s ((pNum s p).2.1 + 1)).2.1 0 pZ pZ).1 = true
        · rw [if_pos c4] at ok ⊢
          exact pEnd_ok hs hs2 hn f2 b3 e3 (by omega) (f5 (fun j hj => by omega)) ok
        · rw [if_neg c4] at ok
          cases ok
      · rw [if_neg c3] at ok
        cases ok
    · rw [if_neg c2] at ok
      cases ok
  · rw [if_neg c1] at ok
    cases ok
theorem pSem_ok {s : Nat → Int32} {r : Bool × Nat × pD} (ok : (pSem s r).1 = true) : r.1 = true ∧ (pSem s r).2.2 = r.2.2 := by
  unfold pSem at ok ⊢
  by_cases c : r.1 = true
  · rw [if_pos c] at ok ⊢
    refine ⟨c, ?_⟩
    by_cases c2 : s r.2.1 = zI 59
    · rw [if_pos c2]
    · rw [if_neg c2]
  · rw [if_neg c] at ok
    exact absurd ok c
theorem pSt_ok {F : Nat} {s : Nat → Int32} {n p : Nat} (hs : ∀ q, n ≤ q → isD (s q) = false) (hs2 : ∀ q c, c < 1000 → s q = zI c → q < n) (hn : n ≤ 120) (hp : p ≤ n) (ok : (pSt F s p).1 = true) : (s p = zI 98 → pDok (pSt F s p).2.2) ∧ (s p = zI 108 → ∃ a, (pSt F s p).2.2.2.2.2.2.2.2.1 = zI a ∧ a ≤ 999) := by
  unfold pSt at ok ⊢
  by_cases c1 : s p = zI 108
  · have hpn := hs2 p 108 (by omega) c1
    rw [if_pos c1] at ok ⊢
    obtain ⟨o1, o2⟩ := pSem_ok ok
    refine ⟨fun q => ?_, fun _ => ?_⟩
    · rw [c1] at q
      exact absurd q (by decide)
    · rw [o2]
      exact ((pNum_ok (p := p + 1) hs (by omega)).1 o1).2.2
  · rw [if_neg c1] at ok ⊢
    by_cases c2 : s p = zI 98
    · have hpn := hs2 p 98 (by omega) c2
      rw [if_pos c2] at ok ⊢
      obtain ⟨o1, o2⟩ := pSem_ok ok
      refine ⟨fun _ => ?_, fun q => absurd q c1⟩
      rw [o2]
      exact pBox_ok hs hs2 hn (by omega) o1
    · rw [if_neg c2] at ok
      cases ok
/-- the first byte with which no text can go on -/
def pFm (F : Nat) (s : Nat → Int32) (n : Nat) : Nat → Nat → Option Nat
  | 0, p => some p
  | f + 1, p => if (pSt F s p).1 = true then (if (pSt F s p).2.1 < n then pFm F s n f (pSt F s p).2.1 else none) else some (pSt F s p).2.1
/-- all statements, from p on: where one isn't as told; how many; what is told then -/
def sLp (F : Nat) (s : Nat → Int32) (n : Nat) : Nat → Nat → Nat → (Nat → Int32) → Option Nat × Nat × (Nat → Int32)
  | 0, _, c, S => (none, c, S)
  | f + 1, p, c, S => if p < n then (if s p = zI 98 then (if sOk S (pSt F s p).2.2 = true then sLp F s n f (pSt F s p).2.1 (c + 1) (sMk S (pSt F s p).2.2) else (some p, c, S)) else (if (pSt F s p).2.2.2.2.2.2.2.2.1 ≤ zI 99 then sLp F s n f (pSt F s p).2.1 (c + 1) (upd S 117 (pSt F s p).2.2.2.2.2.2.2.2.1) else (some p, c, S))) else (none, c, S)
section M24
variable {X : am_X} {h : am_H} {o d : Nat} {u : mU} {z : Nat × Nat}
/-- behind a text -/
def mTx (u u' : mU) : Prop := (∀ j, j ≠ 1 → j ≠ 3 → j ≠ 11 → j ≠ 12 → j ≠ 13 → u'.1 j = u.1 j) ∧ u'.2.1 = u.2.1 ∧ ∀ j, j < 12 ∨ 25 ≤ j ∧ j ≠ 32 → u'.2.2.1 j = u.2.2.1 j
theorem mTx.tr {u u' u'' : mU} (h1 : mTx u u') (h2 : mTx u' u'') : mTx u u'' := ⟨fun j a b c d e => (h2.1 j a b c d e).trans (h1.1 j a b c d e), h2.2.1.trans h1.2.1, fun j hj => (h2.2.2 j hj).trans (h1.2.2 j hj)⟩
theorem mPs.x {u u' : mU} (h1 : mPs u u') : mTx u u' := ⟨fun j _ _ c d e => h1.1 j c d e, h1.2.1, fun j hj => h1.2.2 j (by omega)⟩
theorem r_form_l {F e n : Nat} {s : Nat → Int32} (hF : n < F) (he : e < 8) (hn : n ≤ 120) : ∀ (f p : Nat) (u : mU), mBy u e n = s → mAt u e n p → p ≤ n → n < p + f → ∃ u', mPs u u' ∧ (∀ q, pFm F s n f p = some q → am_I X (am_f X (d + 5)) 194 36 [some (.ref o), some (.int (zI e)), some (.int (zI 0)), none, none, none, none, none] [] (mH h o u, z) = some (.inl (some (.int (-1000 - zI q))), (mH h o u', z))) ∧ (pFm F s n f p = none → am_I X (am_f X (d + 5)) 194 36 [some (.ref o), some (.int (zI e)), some (.int (zI 0)), none, none, none, none, none] [] (mH h o u, z) = am_I X (am_f X (d + 5)) 194 63 [some (.ref o), some (.int (zI e)), some (.int (zI 0)), none, none, none, none, none] [] (mH h o u', z)) := by
  intro f
  induction f with
  | zero =>
    intro p u hs hA hp hf
    omega
  | succ f ih =>
    intro p u hs hA hp hf
    obtain ⟨u1, g1, g2, g3, -⟩ := r_readsStatement (X := X) (h := h) (o := o) (d := d) (u := u) (z := z) hF hs hA he hn hp
    obtain ⟨k1, k2, k3⟩ := pSt_k (F := F) (s := s) (n := n) (p := p) (by rw [← hs]; exact mBy_D) (by rw [← hs]; exact mBy_c) hp
    have hA1 := g2.at' hA g3
    have h12 := hA1.2.2
    have h14 := hA1.2.1
    unfold pFm
    by_cases c1 : (pSt F s p).1 = true
    · obtain ⟨k4, -⟩ := k3 c1
      rw [c1] at g1
      rw [if_pos c1]
      by_cases c2 : (pSt F s p).2.1 < n
      · obtain ⟨u2, l1, l2, l3⟩ := ih (pSt F s p).2.1 u1 (by rw [g2.by', hs]) hA1 k2 (by omega)
        rw [if_pos c2]
        have step : am_I X (am_f X (d + 5)) 194 36 [some (.ref o), some (.int (zI e)), some (.int (zI 0)), none, none, none, none, none] [] (mH h o u, z) = am_I X (am_f X (d + 5)) 194 36 [some (.ref o), some (.int (zI e)), some (.int (zI 0)), none, none, none, none, none] [] (mH h o u1, z) := by
          rw [am_go dc_194_36]
          simp (disch := first | omega | exact ci_m | exact Nat.le_of_ble_eq_true rfl | (refine mF_lt ?_; omega)) only [own_194, am_go dc_194_0, J_aload_0, K_al, ld_0, am_go dc_194_1, J_iload_1, K_il, ld_1, am_go dc_194_2, J_iconst, c32_0, am_go dc_194_3, cv_12_161_12 own_194, JR_v, JR_0, JR_ite, ci1_r, am_go dc_194_6, J_istore_2, st1_0, st1_1, st1_s, kl_i, kl_l, kl_r, kl_n, am_go dc_194_7, J_iload_2, ld_2, am_go dc_194_8, J_if_eq, am_go dc_194_11, am_go dc_194_12, J_ret_i ret_194, am_go dc_194_13, am_go dc_194_14, J_bipush, c8_120, am_go dc_194_16, am_go dc_194_17, J_imul, am_go dc_194_18, J_putfield_i, J_putfield_l, J_putfield_r, ini_194, pk_12_89_12, am_go dc_194_21, am_go dc_194_22, am_go dc_194_23, J_getfield, gf_r, fk_12_28_12, am_go dc_194_26, am_go dc_194_27, J_iaload, am_go dc_194_28, pk_12_86_12, am_go dc_194_31, am_go dc_194_32, am_go dc_194_33, pk_12_83_12, am_go dc_194_37, cv_12_164_12 own_194, am_go dc_194_40, J_if_ne, am_go dc_194_43, J_sipush, i16_m1000, am_go dc_194_46, am_go dc_194_47, fk_12_83_12, am_go dc_194_50, J_isub, am_go dc_194_51, am_go dc_194_52, am_go dc_194_53, am_go dc_194_56, am_go dc_194_57, fk_12_86_12, am_go dc_194_60, J_icmp_lt, am_go dc_194_64, J_istore_3, am_go dc_194_65, J_iload_3, ld_3, am_go dc_194_66, c8_118, am_go dc_194_68, J_icmp_ge, am_go dc_194_71, am_go dc_194_72, fk_12_16_12, am_go dc_194_75, am_go dc_194_76, am_go dc_194_77, fk_12_9_12, am_go dc_194_80, am_go dc_194_81, am_go dc_194_82, J_iastore, am_go dc_194_83, J_iinc, pinc_go, c32_1, am_go dc_194_86, J_goto, am_go dc_194_89, am_go dc_194_90, am_go dc_194_91, am_go dc_194_94, am_go dc_194_95, am_go dc_194_96, am_go dc_194_97, am_go dc_194_100, am_go dc_194_101, am_go dc_194_104, am_go dc_194_107, am_go dc_194_108, am_go dc_194_111, J_istore, am_go dc_194_113, am_go dc_194_114, cv_12_92_12 own_194, am_go dc_194_117, am_go dc_194_119, am_go dc_194_120, am_go dc_194_123, am_go dc_194_125, J_iload, ld_5, am_go dc_194_127, c8_98, am_go dc_194_129, J_icmp_ne, am_go dc_194_132, am_go dc_194_133, cv_12_167_12 own_194, am_go dc_194_136, am_go dc_194_139, am_go dc_194_140, fk_12_100_12, am_go dc_194_143, c8_99, am_go dc_194_145, J_icmp_gt, am_go dc_194_148, am_go dc_194_149, am_go dc_194_152, am_go dc_194_153, am_go dc_194_155, am_go dc_194_157, c8_108, am_go dc_194_159, am_go dc_194_162, am_go dc_194_163, am_go dc_194_166, c8_117, am_go dc_194_168, am_go dc_194_169, am_go dc_194_172, am_go dc_194_173, am_go dc_194_176, ld_6, am_go dc_194_178, am_go dc_194_181, am_go dc_194_184, am_go dc_194_185, am_go dc_194_187, ld_7, am_go dc_194_189, am_go dc_194_191, am_go dc_194_194, am_go dc_194_195, am_go dc_194_198, am_go dc_194_200, am_go dc_194_201, am_go dc_194_204, am_go dc_194_206, am_go dc_194_207, am_go dc_194_208, am_go dc_194_211, am_go dc_194_214, i16_m2000, am_go dc_194_217, ld_4, am_go dc_194_219, am_go dc_194_220, am_go dc_194_221, am_go dc_194_222, am_go dc_194_223, pk_12_170_12, am_go dc_194_226, am_go dc_194_227, mH_o, mp_13, pf_i pk_12_89_12 rfl, mg_6, mH_7, mw_7, mp_14, pf_i pk_12_86_12 rfl, mp_12, pf_i pk_12_83_12 rfl, mg_12, mg_14, mg_2, mH_3, mw_3, mg_0, mH_1, mw_1, mg_15, mp_32, pf_z0 pk_12_170_12 rfl, pf_z1 pk_12_170_12 rfl, pf_zB pk_12_170_12 rfl, zI_add, zI_mul, zI_lt, zI_le, zI_eq, zI_neg, zI_pos, zI_ne0, zI_gt0, zB_0, lg_cmp_ge, lg_cmp_le, lg_cmp_gt, lg_cmp_lt, lg_cmp_eq, ail_r, abl_r, all_r, ais_r, abs_r, als_r, mF_len, g1, h12, h14, c2, Bool.true_eq_false, List.length_cons, List.length_nil, Nat.reduceAdd, Nat.reduceLT, Nat.reduceLeDiff, Nat.reduceEqDiff, ↓reduceIte, bind_s, if_true, if_false, not_true_eq_false, not_false_eq_true, Nat.zero_add]
        refine ⟨u2, g2.tr l1, fun q hq => ?_, fun hq => ?_⟩
        · rw [step]
          exact l2 q hq
        · rw [step]
          exact l3 hq
      · rw [if_neg c2]
        refine ⟨u1, g2, fun q hq => (by cases hq), fun _ => ?_⟩
        rw [am_go dc_194_36]
        simp (disch := first | omega | exact ci_m | exact Nat.le_of_ble_eq_true rfl | (refine mF_lt ?_; omega)) only [own_194, am_go dc_194_0, J_aload_0, K_al, ld_0, am_go dc_194_1, J_iload_1, K_il, ld_1, am_go dc_194_2, J_iconst, c32_0, am_go dc_194_3, cv_12_161_12 own_194, JR_v, JR_0, JR_ite, ci1_r, am_go dc_194_6, J_istore_2, st1_0, st1_1, st1_s, kl_i, kl_l, kl_r, kl_n, am_go dc_194_7, J_iload_2, ld_2, am_go dc_194_8, J_if_eq, am_go dc_194_11, am_go dc_194_12, J_ret_i ret_194, am_go dc_194_13, am_go dc_194_14, J_bipush, c8_120, am_go dc_194_16, am_go dc_194_17, J_imul, am_go dc_194_18, J_putfield_i, J_putfield_l, J_putfield_r, ini_194, pk_12_89_12, am_go dc_194_21, am_go dc_194_22, am_go dc_194_23, J_getfield, gf_r, fk_12_28_12, am_go dc_194_26, am_go dc_194_27, J_iaload, am_go dc_194_28, pk_12_86_12, am_go dc_194_31, am_go dc_194_32, am_go dc_194_33, pk_12_83_12, am_go dc_194_37, cv_12_164_12 own_194, am_go dc_194_40, J_if_ne, am_go dc_194_43, J_sipush, i16_m1000, am_go dc_194_46, am_go dc_194_47, fk_12_83_12, am_go dc_194_50, J_isub, am_go dc_194_51, am_go dc_194_52, am_go dc_194_53, am_go dc_194_56, am_go dc_194_57, fk_12_86_12, am_go dc_194_60, J_icmp_lt, am_go dc_194_64, J_istore_3, am_go dc_194_65, J_iload_3, ld_3, am_go dc_194_66, c8_118, am_go dc_194_68, J_icmp_ge, am_go dc_194_71, am_go dc_194_72, fk_12_16_12, am_go dc_194_75, am_go dc_194_76, am_go dc_194_77, fk_12_9_12, am_go dc_194_80, am_go dc_194_81, am_go dc_194_82, J_iastore, am_go dc_194_83, J_iinc, pinc_go, c32_1, am_go dc_194_86, J_goto, am_go dc_194_89, am_go dc_194_90, am_go dc_194_91, am_go dc_194_94, am_go dc_194_95, am_go dc_194_96, am_go dc_194_97, am_go dc_194_100, am_go dc_194_101, am_go dc_194_104, am_go dc_194_107, am_go dc_194_108, am_go dc_194_111, J_istore, am_go dc_194_113, am_go dc_194_114, cv_12_92_12 own_194, am_go dc_194_117, am_go dc_194_119, am_go dc_194_120, am_go dc_194_123, am_go dc_194_125, J_iload, ld_5, am_go dc_194_127, c8_98, am_go dc_194_129, J_icmp_ne, am_go dc_194_132, am_go dc_194_133, cv_12_167_12 own_194, am_go dc_194_136, am_go dc_194_139, am_go dc_194_140, fk_12_100_12, am_go dc_194_143, c8_99, am_go dc_194_145, J_icmp_gt, am_go dc_194_148, am_go dc_194_149, am_go dc_194_152, am_go dc_194_153, am_go dc_194_155, am_go dc_194_157, c8_108, am_go dc_194_159, am_go dc_194_162, am_go dc_194_163, am_go dc_194_166, c8_117, am_go dc_194_168, am_go dc_194_169, am_go dc_194_172, am_go dc_194_173, am_go dc_194_176, ld_6, am_go dc_194_178, am_go dc_194_181, am_go dc_194_184, am_go dc_194_185, am_go dc_194_187, ld_7, am_go dc_194_189, am_go dc_194_191, am_go dc_194_194, am_go dc_194_195, am_go dc_194_198, am_go dc_194_200, am_go dc_194_201, am_go dc_194_204, am_go dc_194_206, am_go dc_194_207, am_go dc_194_208, am_go dc_194_211, am_go dc_194_214, i16_m2000, am_go dc_194_217, ld_4, am_go dc_194_219, am_go dc_194_220, am_go dc_194_221, am_go dc_194_222, am_go dc_194_223, pk_12_170_12, am_go dc_194_226, am_go dc_194_227, mH_o, mp_13, pf_i pk_12_89_12 rfl, mg_6, mH_7, mw_7, mp_14, pf_i pk_12_86_12 rfl, mp_12, pf_i pk_12_83_12 rfl, mg_12, mg_14, mg_2, mH_3, mw_3, mg_0, mH_1, mw_1, mg_15, mp_32, pf_z0 pk_12_170_12 rfl, pf_z1 pk_12_170_12 rfl, pf_zB pk_12_170_12 rfl, zI_add, zI_mul, zI_lt, zI_le, zI_eq, zI_neg, zI_pos, zI_ne0, zI_gt0, zB_0, lg_cmp_ge, lg_cmp_le, lg_cmp_gt, lg_cmp_lt, lg_cmp_eq, ail_r, abl_r, all_r, ais_r, abs_r, als_r, mF_len, g1, h12, h14, c2, Bool.true_eq_false, List.length_cons, List.length_nil, Nat.reduceAdd, Nat.reduceLT, Nat.reduceLeDiff, Nat.reduceEqDiff, ↓reduceIte, bind_s, if_true, if_false, not_true_eq_false, not_false_eq_true, Nat.zero_add]
    · have c1' : (pSt F s p).1 = false := by simpa using c1
      rw [c1'] at g1
      rw [if_neg c1]
      refine ⟨u1, g2, fun q hq => ?_, fun hq => by cases hq⟩
      cases hq
      rw [am_go dc_194_36]
      simp (disch := first | omega | exact ci_m | exact Nat.le_of_ble_eq_true rfl | (refine mF_lt ?_; omega)) only [own_194, am_go dc_194_0, J_aload_0, K_al, ld_0, am_go dc_194_1, J_iload_1, K_il, ld_1, am_go dc_194_2, J_iconst, c32_0, am_go dc_194_3, cv_12_161_12 own_194, JR_v, JR_0, JR_ite, ci1_r, am_go dc_194_6, J_istore_2, st1_0, st1_1, st1_s, kl_i, kl_l, kl_r, kl_n, am_go dc_194_7, J_iload_2, ld_2, am_go dc_194_8, J_if_eq, am_go dc_194_11, am_go dc_194_12, J_ret_i ret_194, am_go dc_194_13, am_go dc_194_14, J_bipush, c8_120, am_go dc_194_16, am_go dc_194_17, J_imul, am_go dc_194_18, J_putfield_i, J_putfield_l, J_putfield_r, ini_194, pk_12_89_12, am_go dc_194_21, am_go dc_194_22, am_go dc_194_23, J_getfield, gf_r, fk_12_28_12, am_go dc_194_26, am_go dc_194_27, J_iaload, am_go dc_194_28, pk_12_86_12, am_go dc_194_31, am_go dc_194_32, am_go dc_194_33, pk_12_83_12, am_go dc_194_37, cv_12_164_12 own_194, am_go dc_194_40, J_if_ne, am_go dc_194_43, J_sipush, i16_m1000, am_go dc_194_46, am_go dc_194_47, fk_12_83_12, am_go dc_194_50, J_isub, am_go dc_194_51, am_go dc_194_52, am_go dc_194_53, am_go dc_194_56, am_go dc_194_57, fk_12_86_12, am_go dc_194_60, J_icmp_lt, am_go dc_194_64, J_istore_3, am_go dc_194_65, J_iload_3, ld_3, am_go dc_194_66, c8_118, am_go dc_194_68, J_icmp_ge, am_go dc_194_71, am_go dc_194_72, fk_12_16_12, am_go dc_194_75, am_go dc_194_76, am_go dc_194_77, fk_12_9_12, am_go dc_194_80, am_go dc_194_81, am_go dc_194_82, J_iastore, am_go dc_194_83, J_iinc, pinc_go, c32_1, am_go dc_194_86, J_goto, am_go dc_194_89, am_go dc_194_90, am_go dc_194_91, am_go dc_194_94, am_go dc_194_95, am_go dc_194_96, am_go dc_194_97, am_go dc_194_100, am_go dc_194_101, am_go dc_194_104, am_go dc_194_107, am_go dc_194_108, am_go dc_194_111, J_istore, am_go dc_194_113, am_go dc_194_114, cv_12_92_12 own_194, am_go dc_194_117, am_go dc_194_119, am_go dc_194_120, am_go dc_194_123, am_go dc_194_125, J_iload, ld_5, am_go dc_194_127, c8_98, am_go dc_194_129, J_icmp_ne, am_go dc_194_132, am_go dc_194_133, cv_12_167_12 own_194, am_go dc_194_136, am_go dc_194_139, am_go dc_194_140, fk_12_100_12, am_go dc_194_143, c8_99, am_go dc_194_145, J_icmp_gt, am_go dc_194_148, am_go dc_194_149, am_go dc_194_152, am_go dc_194_153, am_go dc_194_155, am_go dc_194_157, c8_108, am_go dc_194_159, am_go dc_194_162, am_go dc_194_163, am_go dc_194_166, c8_117, am_go dc_194_168, am_go dc_194_169, am_go dc_194_172, am_go dc_194_173, am_go dc_194_176, ld_6, am_go dc_194_178, am_go dc_194_181, am_go dc_194_184, am_go dc_194_185, am_go dc_194_187, ld_7, am_go dc_194_189, am_go dc_194_191, am_go dc_194_194, am_go dc_194_195, am_go dc_194_198, am_go dc_194_200, am_go dc_194_201, am_go dc_194_204, am_go dc_194_206, am_go dc_194_207, am_go dc_194_208, am_go dc_194_211, am_go dc_194_214, i16_m2000, am_go dc_194_217, ld_4, am_go dc_194_219, am_go dc_194_220, am_go dc_194_221, am_go dc_194_222, am_go dc_194_223, pk_12_170_12, am_go dc_194_226, am_go dc_194_227, mH_o, mp_13, pf_i pk_12_89_12 rfl, mg_6, mH_7, mw_7, mp_14, pf_i pk_12_86_12 rfl, mp_12, pf_i pk_12_83_12 rfl, mg_12, mg_14, mg_2, mH_3, mw_3, mg_0, mH_1, mw_1, mg_15, mp_32, pf_z0 pk_12_170_12 rfl, pf_z1 pk_12_170_12 rfl, pf_zB pk_12_170_12 rfl, zI_add, zI_mul, zI_lt, zI_le, zI_eq, zI_neg, zI_pos, zI_ne0, zI_gt0, zB_0, lg_cmp_ge, lg_cmp_le, lg_cmp_gt, lg_cmp_lt, lg_cmp_eq, ail_r, abl_r, all_r, ais_r, abs_r, als_r, mF_len, g1, h12, h14, List.length_cons, List.length_nil, Nat.reduceAdd, Nat.reduceLT, Nat.reduceLeDiff, Nat.reduceEqDiff, ↓reduceIte, bind_s, if_true, if_false, not_true_eq_false, not_false_eq_true, Nat.zero_add]
theorem r_before_l {e : Nat} : ∀ (k i : Nat) (u : mU), i + k = 118 → am_I X (am_f X (d + 5)) 194 65 [some (.ref o), some (.int (zI e)), some (.int (zI 0)), some (.int (zI i)), none, none, none, none] [] (mH h o u, z) = am_I X (am_f X (d + 5)) 194 89 [some (.ref o), some (.int (zI e)), some (.int (zI 0)), some (.int (zI 118)), none, none, none, none] [] (mH h o (mS u 3 (fo (fun i f => upd f (0 + i) (u.1 1 i)) i k (u.1 3))), z) := by
  intro k
  induction k with
  | zero =>
    intro i u hi
    rw [am_go dc_194_65]
    simp (disch := first | omega | exact ci_m | exact Nat.le_of_ble_eq_true rfl | (refine mF_lt ?_; omega)) only [own_194, am_go dc_194_0, J_aload_0, K_al, ld_0, am_go dc_194_1, J_iload_1, K_il, ld_1, am_go dc_194_2, J_iconst, c32_0, am_go dc_194_3, cv_12_161_12 own_194, JR_v, JR_0, JR_ite, ci1_r, am_go dc_194_6, J_istore_2, st1_0, st1_1, st1_s, kl_i, kl_l, kl_r, kl_n, am_go dc_194_7, J_iload_2, ld_2, am_go dc_194_8, J_if_eq, am_go dc_194_11, am_go dc_194_12, J_ret_i ret_194, am_go dc_194_13, am_go dc_194_14, J_bipush, c8_120, am_go dc_194_16, am_go dc_194_17, J_imul, am_go dc_194_18, J_putfield_i, J_putfield_l, J_putfield_r, ini_194, pk_12_89_12, am_go dc_194_21, am_go dc_194_22, am_go dc_194_23, J_getfield, gf_r, fk_12_28_12, am_go dc_194_26, am_go dc_194_27, J_iaload, am_go dc_194_28, pk_12_86_12, am_go dc_194_31, am_go dc_194_32, am_go dc_194_33, pk_12_83_12, am_go dc_194_36, am_go dc_194_37, cv_12_164_12 own_194, am_go dc_194_40, J_if_ne, am_go dc_194_43, J_sipush, i16_m1000, am_go dc_194_46, am_go dc_194_47, fk_12_83_12, am_go dc_194_50, J_isub, am_go dc_194_51, am_go dc_194_52, am_go dc_194_53, am_go dc_194_56, am_go dc_194_57, fk_12_86_12, am_go dc_194_60, J_icmp_lt, am_go dc_194_63, am_go dc_194_64, J_istore_3, J_iload_3, ld_3, am_go dc_194_66, c8_118, am_go dc_194_68, J_icmp_ge, am_go dc_194_71, am_go dc_194_72, fk_12_16_12, am_go dc_194_75, am_go dc_194_76, am_go dc_194_77, fk_12_9_12, am_go dc_194_80, am_go dc_194_81, am_go dc_194_82, J_iastore, am_go dc_194_83, J_iinc, pinc_go, c32_1, am_go dc_194_86, J_goto, am_go dc_194_90, am_go dc_194_91, am_go dc_194_94, am_go dc_194_95, am_go dc_194_96, am_go dc_194_97, am_go dc_194_100, am_go dc_194_101, am_go dc_194_104, am_go dc_194_107, am_go dc_194_108, am_go dc_194_111, J_istore, am_go dc_194_113, am_go dc_194_114, cv_12_92_12 own_194, am_go dc_194_117, am_go dc_194_119, am_go dc_194_120, am_go dc_194_123, am_go dc_194_125, J_iload, ld_5, am_go dc_194_127, c8_98, am_go dc_194_129, J_icmp_ne, am_go dc_194_132, am_go dc_194_133, cv_12_167_12 own_194, am_go dc_194_136, am_go dc_194_139, am_go dc_194_140, fk_12_100_12, am_go dc_194_143, c8_99, am_go dc_194_145, J_icmp_gt, am_go dc_194_148, am_go dc_194_149, am_go dc_194_152, am_go dc_194_153, am_go dc_194_155, am_go dc_194_157, c8_108, am_go dc_194_159, am_go dc_194_162, am_go dc_194_163, am_go dc_194_166, c8_117, am_go dc_194_168, am_go dc_194_169, am_go dc_194_172, am_go dc_194_173, am_go dc_194_176, ld_6, am_go dc_194_178, am_go dc_194_181, am_go dc_194_184, am_go dc_194_185, am_go dc_194_187, ld_7, am_go dc_194_189, am_go dc_194_191, am_go dc_194_194, am_go dc_194_195, am_go dc_194_198, am_go dc_194_200, am_go dc_194_201, am_go dc_194_204, am_go dc_194_206, am_go dc_194_207, am_go dc_194_208, am_go dc_194_211, am_go dc_194_214, i16_m2000, am_go dc_194_217, ld_4, am_go dc_194_219, am_go dc_194_220, am_go dc_194_221, am_go dc_194_222, am_go dc_194_223, pk_12_170_12, am_go dc_194_226, am_go dc_194_227, mH_o, mp_13, pf_i pk_12_89_12 rfl, mg_6, mH_7, mw_7, mp_14, pf_i pk_12_86_12 rfl, mp_12, pf_i pk_12_83_12 rfl, mg_12, mg_14, mg_2, mH_3, mw_3, mg_0, mH_1, mw_1, mg_15, mp_32, pf_z0 pk_12_170_12 rfl, pf_z1 pk_12_170_12 rfl, pf_zB pk_12_170_12 rfl, zI_add, zI_mul, zI_lt, zI_le, zI_eq, zI_neg, zI_pos, zI_ne0, zI_gt0, zB_0, lg_cmp_ge, lg_cmp_le, lg_cmp_gt, lg_cmp_lt, lg_cmp_eq, ail_r, abl_r, all_r, ais_r, abs_r, als_r, mF_len, List.length_cons, List.length_nil, Nat.reduceAdd, Nat.reduceLT, Nat.reduceLeDiff, Nat.reduceEqDiff, ↓reduceIte, bind_s, if_true, if_false, not_true_eq_false, not_false_eq_true, Nat.zero_add]
    rw [if_pos (by omega)]
    have : i = 118 := by omega
    rw [this]
    simp only [fo, mS_id]
  | succ k ih =>
    intro i u hi
    rw [am_go dc_194_65]
    simp (disch := first | omega | exact ci_m | exact Nat.le_of_ble_eq_true rfl | (refine mF_lt ?_; omega)) only [own_194, am_go dc_194_0, J_aload_0, K_al, ld_0, am_go dc_194_1, J_iload_1, K_il, ld_1, am_go dc_194_2, J_iconst, c32_0, am_go dc_194_3, cv_12_161_12 own_194, JR_v, JR_0, JR_ite, ci1_r, am_go dc_194_6, J_istore_2, st1_0, st1_1, st1_s, kl_i, kl_l, kl_r, kl_n, am_go dc_194_7, J_iload_2, ld_2, am_go dc_194_8, J_if_eq, am_go dc_194_11, am_go dc_194_12, J_ret_i ret_194, am_go dc_194_13, am_go dc_194_14, J_bipush, c8_120, am_go dc_194_16, am_go dc_194_17, J_imul, am_go dc_194_18, J_putfield_i, J_putfield_l, J_putfield_r, ini_194, pk_12_89_12, am_go dc_194_21, am_go dc_194_22, am_go dc_194_23, J_getfield, gf_r, fk_12_28_12, am_go dc_194_26, am_go dc_194_27, J_iaload, am_go dc_194_28, pk_12_86_12, am_go dc_194_31, am_go dc_194_32, am_go dc_194_33, pk_12_83_12, am_go dc_194_36, am_go dc_194_37, cv_12_164_12 own_194, am_go dc_194_40, J_if_ne, am_go dc_194_43, J_sipush, i16_m1000, am_go dc_194_46, am_go dc_194_47, fk_12_83_12, am_go dc_194_50, J_isub, am_go dc_194_51, am_go dc_194_52, am_go dc_194_53, am_go dc_194_56, am_go dc_194_57, fk_12_86_12, am_go dc_194_60, J_icmp_lt, am_go dc_194_63, am_go dc_194_64, J_istore_3, J_iload_3, ld_3, am_go dc_194_66, c8_118, am_go dc_194_68, J_icmp_ge, am_go dc_194_71, am_go dc_194_72, fk_12_16_12, am_go dc_194_75, am_go dc_194_76, am_go dc_194_77, fk_12_9_12, am_go dc_194_80, am_go dc_194_81, am_go dc_194_82, J_iastore, am_go dc_194_83, J_iinc, pinc_go, c32_1, am_go dc_194_86, J_goto, am_go dc_194_90, am_go dc_194_91, am_go dc_194_94, am_go dc_194_95, am_go dc_194_96, am_go dc_194_97, am_go dc_194_100, am_go dc_194_101, am_go dc_194_104, am_go dc_194_107, am_go dc_194_108, am_go dc_194_111, J_istore, am_go dc_194_113, am_go dc_194_114, cv_12_92_12 own_194, am_go dc_194_117, am_go dc_194_119, am_go dc_194_120, am_go dc_194_123, am_go dc_194_125, J_iload, ld_5, am_go dc_194_127, c8_98, am_go dc_194_129, J_icmp_ne, am_go dc_194_132, am_go dc_194_133, cv_12_167_12 own_194, am_go dc_194_136, am_go dc_194_139, am_go dc_194_140, fk_12_100_12, am_go dc_194_143, c8_99, am_go dc_194_145, J_icmp_gt, am_go dc_194_148, am_go dc_194_149, am_go dc_194_152, am_go dc_194_153, am_go dc_194_155, am_go dc_194_157, c8_108, am_go dc_194_159, am_go dc_194_162, am_go dc_194_163, am_go dc_194_166, c8_117, am_go dc_194_168, am_go dc_194_169, am_go dc_194_172, am_go dc_194_173, am_go dc_194_176, ld_6, am_go dc_194_178, am_go dc_194_181, am_go dc_194_184, am_go dc_194_185, am_go dc_194_187, ld_7, am_go dc_194_189, am_go dc_194_191, am_go dc_194_194, am_go dc_194_195, am_go dc_194_198, am_go dc_194_200, am_go dc_194_201, am_go dc_194_204, am_go dc_194_206, am_go dc_194_207, am_go dc_194_208, am_go dc_194_211, am_go dc_194_214, i16_m2000, am_go dc_194_217, ld_4, am_go dc_194_219, am_go dc_194_220, am_go dc_194_221, am_go dc_194_222, am_go dc_194_223, pk_12_170_12, am_go dc_194_226, am_go dc_194_227, mH_o, mp_13, pf_i pk_12_89_12 rfl, mg_6, mH_7, mw_7, mp_14, pf_i pk_12_86_12 rfl, mp_12, pf_i pk_12_83_12 rfl, mg_12, mg_14, mg_2, mH_3, mw_3, mg_0, mH_1, mw_1, mg_15, mp_32, pf_z0 pk_12_170_12 rfl, pf_z1 pk_12_170_12 rfl, pf_zB pk_12_170_12 rfl, zI_add, zI_mul, zI_lt, zI_le, zI_eq, zI_neg, zI_pos, zI_ne0, zI_gt0, zB_0, lg_cmp_ge, lg_cmp_le, lg_cmp_gt, lg_cmp_lt, lg_cmp_eq, ail_r, abl_r, all_r, ais_r, abs_r, als_r, mF_len, mS_s, mS_o, mS_2, mS_S, mI_1, mI_2, mI_s, mI_o, mI_3, mI_I, mJ_1, mJ_2, mJ_3, mJ_s, mJ_o, mJ_J, mL_1, mL_s, mL_o, mL_2, List.length_cons, List.length_nil, Nat.reduceAdd, Nat.reduceLT, Nat.reduceLeDiff, Nat.reduceEqDiff, ↓reduceIte, bind_s, if_true, if_false, not_true_eq_false, not_false_eq_true, Nat.zero_add]
    rw [if_neg (by omega)]
    refine Eq.trans (ih (i + 1) _ (by omega)) ?_
    rw [mS_s, mS_S]
    simp only [Nat.zero_add]
    rfl
theorem r_restore_l2 {e p c : Nat} {x5 x6 : Int32} : ∀ (k i : Nat) (u : mU), i + k = 118 → am_I X (am_f X (d + 5)) 194 187 [some (.ref o), some (.int (zI e)), some (.int (zI 0)), some (.int (zI c)), some (.int (zI p)), some (.int x5), some (.int x6), some (.int (zI i))] [] (mH h o u, z) = some (.inl (some (.int (-2000 - zI p))), (mH h o (mS u 1 (fo (fun i f => upd f (0 + i) (u.1 3 i)) i k (u.1 1))), z)) := by
  intro k
  induction k with
  | zero =>
    intro i u hi
    rw [am_go dc_194_187]
    simp (disch := first | omega | exact ci_m | exact Nat.le_of_ble_eq_true rfl | (refine mF_lt ?_; omega)) only [own_194, am_go dc_194_0, J_aload_0, K_al, ld_0, am_go dc_194_1, J_iload_1, K_il, ld_1, am_go dc_194_2, J_iconst, c32_0, am_go dc_194_3, cv_12_161_12 own_194, JR_v, JR_0, JR_ite, ci1_r, am_go dc_194_6, J_istore_2, st1_0, st1_1, st1_s, kl_i, kl_l, kl_r, kl_n, am_go dc_194_7, J_iload_2, ld_2, am_go dc_194_8, J_if_eq, am_go dc_194_11, am_go dc_194_12, J_ret_i ret_194, am_go dc_194_13, am_go dc_194_14, J_bipush, c8_120, am_go dc_194_16, am_go dc_194_17, J_imul, am_go dc_194_18, J_putfield_i, J_putfield_l, J_putfield_r, ini_194, pk_12_89_12, am_go dc_194_21, am_go dc_194_22, am_go dc_194_23, J_getfield, gf_r, fk_12_28_12, am_go dc_194_26, am_go dc_194_27, J_iaload, am_go dc_194_28, pk_12_86_12, am_go dc_194_31, am_go dc_194_32, am_go dc_194_33, pk_12_83_12, am_go dc_194_36, am_go dc_194_37, cv_12_164_12 own_194, am_go dc_194_40, J_if_ne, am_go dc_194_43, J_sipush, i16_m1000, am_go dc_194_46, am_go dc_194_47, fk_12_83_12, am_go dc_194_50, J_isub, am_go dc_194_51, am_go dc_194_52, am_go dc_194_53, am_go dc_194_56, am_go dc_194_57, fk_12_86_12, am_go dc_194_60, J_icmp_lt, am_go dc_194_63, am_go dc_194_64, J_istore_3, am_go dc_194_65, J_iload_3, ld_3, am_go dc_194_66, c8_118, am_go dc_194_68, J_icmp_ge, am_go dc_194_71, am_go dc_194_72, fk_12_16_12, am_go dc_194_75, am_go dc_194_76, am_go dc_194_77, fk_12_9_12, am_go dc_194_80, am_go dc_194_81, am_go dc_194_82, J_iastore, am_go dc_194_83, J_iinc, pinc_go, c32_1, am_go dc_194_86, J_goto, am_go dc_194_89, am_go dc_194_90, am_go dc_194_91, am_go dc_194_94, am_go dc_194_95, am_go dc_194_96, am_go dc_194_97, am_go dc_194_100, am_go dc_194_101, am_go dc_194_104, am_go dc_194_107, am_go dc_194_108, am_go dc_194_111, J_istore, am_go dc_194_113, am_go dc_194_114, cv_12_92_12 own_194, am_go dc_194_117, am_go dc_194_119, am_go dc_194_120, am_go dc_194_123, am_go dc_194_125, J_iload, ld_5, am_go dc_194_127, c8_98, am_go dc_194_129, J_icmp_ne, am_go dc_194_132, am_go dc_194_133, cv_12_167_12 own_194, am_go dc_194_136, am_go dc_194_139, am_go dc_194_140, fk_12_100_12, am_go dc_194_143, c8_99, am_go dc_194_145, J_icmp_gt, am_go dc_194_148, am_go dc_194_149, am_go dc_194_152, am_go dc_194_153, am_go dc_194_155, am_go dc_194_157, c8_108, am_go dc_194_159, am_go dc_194_162, am_go dc_194_163, am_go dc_194_166, c8_117, am_go dc_194_168, am_go dc_194_169, am_go dc_194_172, am_go dc_194_173, am_go dc_194_176, ld_6, am_go dc_194_178, am_go dc_194_181, am_go dc_194_184, am_go dc_194_185, ld_7, am_go dc_194_189, am_go dc_194_191, am_go dc_194_194, am_go dc_194_195, am_go dc_194_198, am_go dc_194_200, am_go dc_194_201, am_go dc_194_204, am_go dc_194_206, am_go dc_194_207, am_go dc_194_208, am_go dc_194_211, am_go dc_194_214, i16_m2000, am_go dc_194_217, ld_4, am_go dc_194_219, am_go dc_194_220, am_go dc_194_221, am_go dc_194_222, am_go dc_194_223, pk_12_170_12, am_go dc_194_226, am_go dc_194_227, mH_o, mp_13, pf_i pk_12_89_12 rfl, mg_6, mH_7, mw_7, mp_14, pf_i pk_12_86_12 rfl, mp_12, pf_i pk_12_83_12 rfl, mg_12, mg_14, mg_2, mH_3, mw_3, mg_0, mH_1, mw_1, mg_15, mp_32, pf_z0 pk_12_170_12 rfl, pf_z1 pk_12_170_12 rfl, pf_zB pk_12_170_12 rfl, zI_add, zI_mul, zI_lt, zI_le, zI_eq, zI_neg, zI_pos, zI_ne0, zI_gt0, zB_0, lg_cmp_ge, lg_cmp_le, lg_cmp_gt, lg_cmp_lt, lg_cmp_eq, ail_r, abl_r, all_r, ais_r, abs_r, als_r, mF_len, List.length_cons, List.length_nil, Nat.reduceAdd, Nat.reduceLT, Nat.reduceLeDiff, Nat.reduceEqDiff, ↓reduceIte, bind_s, if_true, if_false, not_true_eq_false, not_false_eq_true, Nat.zero_add]
    rw [if_pos (by omega)]
    simp only [fo, mS_id]
  | succ k ih =>
    intro i u hi
    rw [am_go dc_194_187]
    simp (disch := first | omega | exact ci_m | exact Nat.le_of_ble_eq_true rfl | (refine mF_lt ?_; omega)) only [own_194, am_go dc_194_0, J_aload_0, K_al, ld_0, am_go dc_194_1, J_iload_1, K_il, ld_1, am_go dc_194_2, J_iconst, c32_0, am_go dc_194_3, cv_12_161_12 own_194, JR_v, JR_0, JR_ite, ci1_r, am_go dc_194_6, J_istore_2, st1_0, st1_1, st1_s, kl_i, kl_l, kl_r, kl_n, am_go dc_194_7, J_iload_2, ld_2, am_go dc_194_8, J_if_eq, am_go dc_194_11, am_go dc_194_12, J_ret_i ret_194, am_go dc_194_13, am_go dc_194_14, J_bipush, c8_120, am_go dc_194_16, am_go dc_194_17, J_imul, am_go dc_194_18, J_putfield_i, J_putfield_l, J_putfield_r, ini_194, pk_12_89_12, am_go dc_194_21, am_go dc_194_22, am_go dc_194_23, J_getfield, gf_r, fk_12_28_12, am_go dc_194_26, am_go dc_194_27, J_iaload, am_go dc_194_28, pk_12_86_12, am_go dc_194_31, am_go dc_194_32, am_go dc_194_33, pk_12_83_12, am_go dc_194_36, am_go dc_194_37, cv_12_164_12 own_194, am_go dc_194_40, J_if_ne, am_go dc_194_43, J_sipush, i16_m1000, am_go dc_194_46, am_go dc_194_47, fk_12_83_12, am_go dc_194_50, J_isub, am_go dc_194_51, am_go dc_194_52, am_go dc_194_53, am_go dc_194_56, am_go dc_194_57, fk_12_86_12, am_go dc_194_60, J_icmp_lt, am_go dc_194_63, am_go dc_194_64, J_istore_3, am_go dc_194_65, J_iload_3, ld_3, am_go dc_194_66, c8_118, am_go dc_194_68, J_icmp_ge, am_go dc_194_71, am_go dc_194_72, fk_12_16_12, am_go dc_194_75, am_go dc_194_76, am_go dc_194_77, fk_12_9_12, am_go dc_194_80, am_go dc_194_81, am_go dc_194_82, J_iastore, am_go dc_194_83, J_iinc, pinc_go, c32_1, am_go dc_194_86, J_goto, am_go dc_194_89, am_go dc_194_90, am_go dc_194_91, am_go dc_194_94, am_go dc_194_95, am_go dc_194_96, am_go dc_194_97, am_go dc_194_100, am_go dc_194_101, am_go dc_194_104, am_go dc_194_107, am_go dc_194_108, am_go dc_194_111, J_istore, am_go dc_194_113, am_go dc_194_114, cv_12_92_12 own_194, am_go dc_194_117, am_go dc_194_119, am_go dc_194_120, am_go dc_194_123, am_go dc_194_125, J_iload, ld_5, am_go dc_194_127, c8_98, am_go dc_194_129, J_icmp_ne, am_go dc_194_132, am_go dc_194_133, cv_12_167_12 own_194, am_go dc_194_136, am_go dc_194_139, am_go dc_194_140, fk_12_100_12, am_go dc_194_143, c8_99, am_go dc_194_145, J_icmp_gt, am_go dc_194_148, am_go dc_194_149, am_go dc_194_152, am_go dc_194_153, am_go dc_194_155, am_go dc_194_157, c8_108, am_go dc_194_159, am_go dc_194_162, am_go dc_194_163, am_go dc_194_166, c8_117, am_go dc_194_168, am_go dc_194_169, am_go dc_194_172, am_go dc_194_173, am_go dc_194_176, ld_6, am_go dc_194_178, am_go dc_194_181, am_go dc_194_184, am_go dc_194_185, ld_7, am_go dc_194_189, am_go dc_194_191, am_go dc_194_194, am_go dc_194_195, am_go dc_194_198, am_go dc_194_200, am_go dc_194_201, am_go dc_194_204, am_go dc_194_206, am_go dc_194_207, am_go dc_194_208, am_go dc_194_211, am_go dc_194_214, i16_m2000, am_go dc_194_217, ld_4, am_go dc_194_219, am_go dc_194_220, am_go dc_194_221, am_go dc_194_222, am_go dc_194_223, pk_12_170_12, am_go dc_194_226, am_go dc_194_227, mH_o, mp_13, pf_i pk_12_89_12 rfl, mg_6, mH_7, mw_7, mp_14, pf_i pk_12_86_12 rfl, mp_12, pf_i pk_12_83_12 rfl, mg_12, mg_14, mg_2, mH_3, mw_3, mg_0, mH_1, mw_1, mg_15, mp_32, pf_z0 pk_12_170_12 rfl, pf_z1 pk_12_170_12 rfl, pf_zB pk_12_170_12 rfl, zI_add, zI_mul, zI_lt, zI_le, zI_eq, zI_neg, zI_pos, zI_ne0, zI_gt0, zB_0, lg_cmp_ge, lg_cmp_le, lg_cmp_gt, lg_cmp_lt, lg_cmp_eq, ail_r, abl_r, all_r, ais_r, abs_r, als_r, mF_len, mS_s, mS_o, mS_2, mS_S, mI_1, mI_2, mI_s, mI_o, mI_3, mI_I, mJ_1, mJ_2, mJ_3, mJ_s, mJ_o, mJ_J, mL_1, mL_s, mL_o, mL_2, List.length_cons, List.length_nil, Nat.reduceAdd, Nat.reduceLT, Nat.reduceLeDiff, Nat.reduceEqDiff, ↓reduceIte, bind_s, if_true, if_false, not_true_eq_false, not_false_eq_true, Nat.zero_add]
    rw [if_neg (by omega)]
    refine Eq.trans (ih (i + 1) _ (by omega)) ?_
    rw [mS_s, mS_S]
    simp only [Nat.zero_add]
    rfl
theorem sMk_big {S : Nat → Int32} {D : pD} (hw : sWf S D) {j : Nat} (hj : 118 ≤ j) : sMk S D j = S j := by rw [mk_hi hw (by omega), if_neg (by omega), if_neg (by omega)]
/-- the bell -/
theorem qG_bell {S : Nat → Int32} {a : Nat} (hG : qG S) (ha : a ≤ 99) : qG (upd S 117 (zI a)) := by
  have hm := hG.m.2
  have h : ∀ j, j < 90 ∨ j = 116 → upd S 117 (zI a) j = S j := fun j hj => upd_o (by omega)
  have h116 := h 116 (by omega)
  refine ⟨qN_x h116 hG.1, ⟨a, upd_s, ha⟩, fun b hb => ?_⟩
  rw [h116] at hb ⊢
  have hx : qG (fun j => if j = 117 then S 117 else upd S 117 (zI a) j) := by
    have : (fun j => if j = 117 then S 117 else upd S 117 (zI a) j) = S := by
      funext j
      by_cases e : j = 117
      · rw [if_pos e, e]
      · rw [if_neg e, upd_o e]
    rw [this]
    exact hG
  obtain ⟨⟨a1, a2, a3, a4, a5⟩, b1, b2, b3, b4, b5, b6, b7, b8, b9⟩ := hG.2.2 b hb
  have n4 := (a4.z (by omega)).2
  have r0 := h (18 * b) (by omega)
  have r1 := h (18 * b + 1) (by omega)
  have r2 := h (18 * b + 2) (by omega)
  have r3 := h (18 * b + 3) (by omega)
  have r4 := h (18 * b + 4) (by omega)
  have r5 := h (18 * b + 5) (by omega)
  unfold qR
  rw [r0, r3, r4, r5]
  refine ⟨⟨qN_x r0 a1, qN_x r1 a2, qN_x r2 a3, qN_x r3 a4, a5⟩, b1, fun e => qN_x r4 (b2 e), fun e => ⟨qN_x r4 (b3 e).1, (b3 e).2⟩, fun e => ⟨qN_x r4 (b4 e).1, (b4 e).2.1, ?_⟩, fun e => qN_x r4 (b5 e), ?_, fun i hi => ?_, ?_, fun e => ?_⟩
  · have := (b4 e).2.1
    rw [h _ (by omega)]
    exact (b4 e).2.2
  · rcases b6 with e | ⟨e1, e2, e3, e4, e5, e6⟩
    · exact Or.inl e
    · refine Or.inr ⟨qN_x r5 e1, e2, e3, ?_, ?_, e6⟩
      · rw [h _ (by omega)]
        exact e4
      · rw [h _ (by omega)]
        exact e5
  · obtain ⟨c1, c2, c3, c4⟩ := b7 i hi
    rw [h (18 * b + (10 + i)) (by omega)]
    exact ⟨qN_x (h _ (by omega)) c1, qN_x (h _ (by omega)) c2, c3, fun e => qN_x (h _ (by omega)) (c4 e)⟩
  · rw [← b8]
    apply fo_congr
    intro j h1 h2 a
    rw [h (18 * b + (10 + j)) (by omega)]
  · rw [← b9 e]
    apply fo_congr
    intro j h1 h2 a
    rw [h (18 * b + (14 + j)) (by omega)]
theorem r_sense_l {F e n : Nat} {s S0 : Nat → Int32} (hF : n < F) (he : e < 8) (hn : n ≤ 120) : ∀ (f p c : Nat) (v4 v5 v6 v7 : Option Value) (u : mU), mBy u e n = s → mAt u e n p → p ≤ n → n < p + f → (p < n → ∃ f', pFm F s n f' p = none) → qG (u.1 1) → qHw (u.1 1) → (∀ j, 118 ≤ j → u.1 1 j = S0 j) → (∀ j, j < 118 → u.1 3 j = S0 j) → c + f ≤ 2000 → ∃ u', mTx u u' ∧ (∀ q, (sLp F s n f p c (u.1 1)).1 = some q → am_I X (am_f X (d + 5)) 194 96 [some (.ref o), some (.int (zI e)), some (.int (zI 0)), some (.int (zI c)), v4, v5, v6, v7] [] (mH h o u, z) = some (.inl (some (.int (-2000 - zI q))), (mH h o u', z)) ∧ u'.1 1 = S0 ∧ u'.2.2.1 32 = u.2.2.1 32) ∧ ((sLp F s n f p c (u.1 1)).1 = none → am_I X (am_f X (d + 5)) 194 96 [some (.ref o), some (.int (zI e)), some (.int (zI 0)), some (.int (zI c)), v4, v5, v6, v7] [] (mH h o u, z) = some (.inl (some (.int (zI (sLp F s n f p c (u.1 1)).2.1))), (mH h o u', z)) ∧ u'.1 1 = (sLp F s n f p c (u.1 1)).2.2 ∧ u'.2.2.1 32 = zI 0 ∧ qG (u'.1 1) ∧ qHw (u'.1 1)) := by
  intro f
  induction f with
  | zero =>
    intro p c v4 v5 v6 v7 u hs hA hp hf
    omega
  | succ f ih =>
    intro p c v4 v5 v6 v7 u hs hA hp hf hfm hG hw hbig hbef hc
    have h12 := hA.2.2
    have h14 := hA.2.1
    unfold sLp
    by_cases c0 : p < n
    · have c0' : ¬ n ≤ p := by omega
      obtain ⟨f', hf'⟩ := hfm c0
      obtain ⟨u1, g1, g2, g3, g4⟩ := r_readsStatement (X := X) (h := h) (o := o) (d := d) (u := u) (z := z) hF hs hA he hn hp
      have hs1 : ∀ q, n ≤ q → isD (s q) = false := by rw [← hs]; exact mBy_D
      have hs2 : ∀ q c, c < 1000 → s q = zI c → q < n := by rw [← hs]; exact mBy_c
      obtain ⟨k1, k2, k3⟩ := pSt_k (F := F) (s := s) (n := n) (p := p) hs1 hs2 hp
      have hsg := fun d => r_sign (X := X) (h := h) (o := o) (d := d) (u := u) (z := z) hA he hn hp
      rw [hs] at hsg
      obtain ⟨okp, hnext⟩ : (pSt F s p).1 = true ∧ ((pSt F s p).2.1 < n → ∃ f', pFm F s n f' (pSt F s p).2.1 = none) := by
        cases f' with
        | zero => cases hf'
        | succ f' =>
          unfold pFm at hf'
          by_cases c1 : (pSt F s p).1 = true
          · refine ⟨c1, fun hl => ?_⟩
            rw [if_pos c1, if_pos hl] at hf'
            exact ⟨f', hf'⟩
          · rw [if_neg c1] at hf'
            cases hf'
      obtain ⟨k4, k5⟩ := k3 okp
      obtain ⟨w1, w2⟩ := pSt_ok (F := F) hs1 hs2 hn hp okp
      rw [okp] at g1
      obtain ⟨g5, g6⟩ := g4 okp
      have hA1 := g2.at' hA g3
      have e1 : u1.1 1 = u.1 1 := g2.1 1 (by omega) (by omega) (by omega)
      have e3 : u1.1 3 = u.1 3 := g2.1 3 (by omega) (by omega) (by omega)
      have e32 : u1.2.2.1 32 = u.2.2.1 32 := g2.2.2 32 (by omega)
      have hs3 : mBy u1 e n = s := by rw [g2.by', hs]
      rw [if_pos c0]
      generalize pSt F s p = r at g1 g3 g5 g6 k1 k2 k4 w1 w2 hA1 hnext okp ⊢
      rcases k5 with kl | kb
      · have c98 : ¬ s p = zI 98 := by rw [kl]; decide
        obtain ⟨a, ha, ha9⟩ := w2 kl
        have h15 := g5 kl
        rw [ha] at h15 ⊢
        rw [if_neg c98]
        by_cases c9 : zI a ≤ zI 99
        · have c9' : a ≤ 99 := by
            rw [zI_le (by omega) (by omega)] at c9
            exact c9
          have c9x : ¬ 99 < a := by omega
          rw [if_pos c9]
          have hS : (mS u1 1 (upd (u1.1 1) 117 (zI a))).1 1 = upd (u.1 1) 117 (zI a) := by rw [mS_s, e1]
          obtain ⟨u2, l1, l2, l3⟩ := ih r.2.1 (c + 1) (some (.int (zI p))) (some (.int (zI 108))) (some (.int (zI 1))) v7 (mS u1 1 (upd (u1.1 1) 117 (zI a))) hs3 hA1 k2 (by omega) hnext (by rw [hS]; exact qG_bell hG c9') (by rw [hS]; exact fun b hb => qN_x (upd_o (by omega)) (hw b hb)) (fun j hj => by rw [hS, upd_o (by omega)]; exact hbig j hj) (fun j hj => by rw [mS_o (by omega), e3]; exact hbef j hj) (by omega)
          rw [hS] at l2 l3
          have step : am_I X (am_f X (d + 5)) 194 96 [some (.ref o), some (.int (zI e)), some (.int (zI 0)), some (.int (zI c)), v4, v5, v6, v7] [] (mH h o u, z) = am_I X (am_f X (d + 5)) 194 96 [some (.ref o), some (.int (zI e)), some (.int (zI 0)), some (.int (zI (c + 1))), some (.int (zI p)), some (.int (zI 108)), some (.int (zI 1)), v7] [] (mH h o (mS u1 1 (upd (u1.1 1) 117 (zI a))), z) := by
            rw [am_go dc_194_96]
            simp (disch := first | omega | exact ci_m | exact Nat.le_of_ble_eq_true rfl | (refine mF_lt ?_; omega)) only [own_194, am_go dc_194_0, J_aload_0, K_al, ld_0, am_go dc_194_1, J_iload_1, K_il, ld_1, am_go dc_194_2, J_iconst, c32_0, am_go dc_194_3, cv_12_161_12 own_194, JR_v, JR_0, JR_ite, ci1_r, am_go dc_194_6, J_istore_2, st1_0, st1_1, st1_s, kl_i, kl_l, kl_r, kl_n, am_go dc_194_7, J_iload_2, ld_2, am_go dc_194_8, J_if_eq, am_go dc_194_11, am_go dc_194_12, J_ret_i ret_194, am_go dc_194_13, am_go dc_194_14, J_bipush, c8_120, am_go dc_194_16, am_go dc_194_17, J_imul, am_go dc_194_18, J_putfield_i, J_putfield_l, J_putfield_r, ini_194, pk_12_89_12, am_go dc_194_21, am_go dc_194_22, am_go dc_194_23, J_getfield, gf_r, fk_12_28_12, am_go dc_194_26, am_go dc_194_27, J_iaload, am_go dc_194_28, pk_12_86_12, am_go dc_194_31, am_go dc_194_32, am_go dc_194_33, pk_12_83_12, am_go dc_194_36, am_go dc_194_37, cv_12_164_12 own_194, am_go dc_194_40, J_if_ne, am_go dc_194_43, J_sipush, i16_m1000, am_go dc_194_46, am_go dc_194_47, fk_12_83_12, am_go dc_194_50, J_isub, am_go dc_194_51, am_go dc_194_52, am_go dc_194_53, am_go dc_194_56, am_go dc_194_57, fk_12_86_12, am_go dc_194_60, J_icmp_lt, am_go dc_194_63, am_go dc_194_64, J_istore_3, am_go dc_194_65, J_iload_3, ld_3, am_go dc_194_66, c8_118, am_go dc_194_68, J_icmp_ge, am_go dc_194_71, am_go dc_194_72, fk_12_16_12, am_go dc_194_75, am_go dc_194_76, am_go dc_194_77, fk_12_9_12, am_go dc_194_80, am_go dc_194_81, am_go dc_194_82, J_iastore, am_go dc_194_83, J_iinc, pinc_go, c32_1, am_go dc_194_86, J_goto, am_go dc_194_89, am_go dc_194_90, am_go dc_194_91, am_go dc_194_94, am_go dc_194_95, am_go dc_194_97, am_go dc_194_100, am_go dc_194_101, am_go dc_194_104, am_go dc_194_107, am_go dc_194_108, am_go dc_194_111, J_istore, am_go dc_194_113, am_go dc_194_114, cv_12_92_12 own_194, am_go dc_194_117, am_go dc_194_119, am_go dc_194_120, am_go dc_194_123, am_go dc_194_125, J_iload, ld_5, am_go dc_194_127, c8_98, am_go dc_194_129, J_icmp_ne, am_go dc_194_132, am_go dc_194_133, cv_12_167_12 own_194, am_go dc_194_136, am_go dc_194_139, am_go dc_194_140, fk_12_100_12, am_go dc_194_143, c8_99, am_go dc_194_145, J_icmp_gt, am_go dc_194_148, am_go dc_194_149, am_go dc_194_152, am_go dc_194_153, am_go dc_194_155, am_go dc_194_157, c8_108, am_go dc_194_159, am_go dc_194_162, am_go dc_194_163, am_go dc_194_166, c8_117, am_go dc_194_168, am_go dc_194_169, am_go dc_194_172, am_go dc_194_173, am_go dc_194_176, ld_6, am_go dc_194_178, am_go dc_194_181, am_go dc_194_184, am_go dc_194_185, ld_7, am_go dc_194_189, am_go dc_194_191, am_go dc_194_194, am_go dc_194_195, am_go dc_194_198, am_go dc_194_200, am_go dc_194_201, am_go dc_194_204, am_go dc_194_206, am_go dc_194_207, am_go dc_194_208, am_go dc_194_211, am_go dc_194_214, i16_m2000, am_go dc_194_217, ld_4, am_go dc_194_219, am_go dc_194_220, am_go dc_194_221, am_go dc_194_222, am_go dc_194_223, pk_12_170_12, am_go dc_194_226, am_go dc_194_227, mH_o, mp_13, pf_i pk_12_89_12 rfl, mg_6, mH_7, mw_7, mp_14, pf_i pk_12_86_12 rfl, mp_12, pf_i pk_12_83_12 rfl, mg_12, mg_14, mg_2, mH_3, mw_3, mg_0, mH_1, mw_1, mg_15, mp_32, pf_z0 pk_12_170_12 rfl, pf_z1 pk_12_170_12 rfl, pf_zB pk_12_170_12 rfl, zI_add, zI_mul, zI_lt, zI_le, zI_eq, zI_neg, zI_pos, zI_ne0, zI_gt0, zB_0, lg_cmp_ge, lg_cmp_le, lg_cmp_gt, lg_cmp_lt, lg_cmp_eq, ail_r, abl_r, all_r, ais_r, abs_r, als_r, mF_len, mS_s, mS_o, mS_2, mS_S, mI_1, mI_2, mI_s, mI_o, mI_3, mI_I, mJ_1, mJ_2, mJ_3, mJ_s, mJ_o, mJ_J, mL_1, mL_s, mL_o, mL_2, h12, h14, c0', hsg, g1, c98, kl, h15, c9x, Bool.true_eq_false, List.length_cons, List.length_nil, Nat.reduceAdd, Nat.reduceLT, Nat.reduceLeDiff, Nat.reduceEqDiff, ↓reduceIte, bind_s, if_true, if_false, not_true_eq_false, not_false_eq_true, Nat.zero_add]
          refine ⟨u2, g2.x.tr (mTx.tr ⟨fun j j1 _ _ _ _ => mS_o j1, rfl, fun _ _ => rfl⟩ l1), fun q hq => ?_, fun hq => ?_⟩
          · obtain ⟨m1, m2, m3⟩ := l2 q hq
            exact ⟨step.trans m1, m2, m3.trans e32⟩
          · obtain ⟨m1, m2⟩ := l3 hq
            exact ⟨step.trans m1, m2⟩
        · have c9x : 99 < a := by
            rw [zI_le (by omega) (by omega)] at c9
            omega
          rw [if_neg c9]
          refine ⟨mS (mS u1 1 (upd (u1.1 1) 117 (zI a))) 1 (fo (fun i f => upd f (0 + i) (u1.1 3 i)) 0 118 (upd (u1.1 1) 117 (zI a))), g2.x.tr ⟨fun j j1 _ _ _ _ => by rw [mS_o j1, mS_o j1], rfl, fun _ _ => rfl⟩, fun q hq => ?_, fun hq => by cases hq⟩
          cases hq
          refine ⟨?_, ?_, e32⟩
          · have hr := r_restore_l2 (X := X) (h := h) (o := o) (d := d) (z := z) (e := e) (p := p) (c := c + 1) (x5 := zI 108) (x6 := zI 0) 118 0 (mS u1 1 (upd (u1.1 1) 117 (zI a))) (by omega)
            rw [mS_s] at hr
            refine Eq.trans ?_ hr
            rw [am_go dc_194_96]
            simp (disch := first | omega | exact ci_m | exact Nat.le_of_ble_eq_true rfl | (refine mF_lt ?_; omega)) only [own_194, am_go dc_194_0, J_aload_0, K_al, ld_0, am_go dc_194_1, J_iload_1, K_il, ld_1, am_go dc_194_2, J_iconst, c32_0, am_go dc_194_3, cv_12_161_12 own_194, JR_v, JR_0, JR_ite, ci1_r, am_go dc_194_6, J_istore_2, st1_0, st1_1, st1_s, kl_i, kl_l, kl_r, kl_n, am_go dc_194_7, J_iload_2, ld_2, am_go dc_194_8, J_if_eq, am_go dc_194_11, am_go dc_194_12, J_ret_i ret_194, am_go dc_194_13, am_go dc_194_14, J_bipush, c8_120, am_go dc_194_16, am_go dc_194_17, J_imul, am_go dc_194_18, J_putfield_i, J_putfield_l, J_putfield_r, ini_194, pk_12_89_12, am_go dc_194_21, am_go dc_194_22, am_go dc_194_23, J_getfield, gf_r, fk_12_28_12, am_go dc_194_26, am_go dc_194_27, J_iaload, am_go dc_194_28, pk_12_86_12, am_go dc_194_31, am_go dc_194_32, am_go dc_194_33, pk_12_83_12, am_go dc_194_36, am_go dc_194_37, cv_12_164_12 own_194, am_go dc_194_40, J_if_ne, am_go dc_194_43, J_sipush, i16_m1000, am_go dc_194_46, am_go dc_194_47, fk_12_83_12, am_go dc_194_50, J_isub, am_go dc_194_51, am_go dc_194_52, am_go dc_194_53, am_go dc_194_56, am_go dc_194_57, fk_12_86_12, am_go dc_194_60, J_icmp_lt, am_go dc_194_63, am_go dc_194_64, J_istore_3, am_go dc_194_65, J_iload_3, ld_3, am_go dc_194_66, c8_118, am_go dc_194_68, J_icmp_ge, am_go dc_194_71, am_go dc_194_72, fk_12_16_12, am_go dc_194_75, am_go dc_194_76, am_go dc_194_77, fk_12_9_12, am_go dc_194_80, am_go dc_194_81, am_go dc_194_82, J_iastore, am_go dc_194_83, J_iinc, pinc_go, c32_1, am_go dc_194_86, J_goto, am_go dc_194_89, am_go dc_194_90, am_go dc_194_91, am_go dc_194_94, am_go dc_194_95, am_go dc_194_97, am_go dc_194_100, am_go dc_194_101, am_go dc_194_104, am_go dc_194_107, am_go dc_194_108, am_go dc_194_111, J_istore, am_go dc_194_113, am_go dc_194_114, cv_12_92_12 own_194, am_go dc_194_117, am_go dc_194_119, am_go dc_194_120, am_go dc_194_123, am_go dc_194_125, J_iload, ld_5, am_go dc_194_127, c8_98, am_go dc_194_129, J_icmp_ne, am_go dc_194_132, am_go dc_194_133, cv_12_167_12 own_194, am_go dc_194_136, am_go dc_194_139, am_go dc_194_140, fk_12_100_12, am_go dc_194_143, c8_99, am_go dc_194_145, J_icmp_gt, am_go dc_194_148, am_go dc_194_149, am_go dc_194_152, am_go dc_194_153, am_go dc_194_155, am_go dc_194_157, c8_108, am_go dc_194_159, am_go dc_194_162, am_go dc_194_163, am_go dc_194_166, c8_117, am_go dc_194_168, am_go dc_194_169, am_go dc_194_172, am_go dc_194_173, am_go dc_194_176, ld_6, am_go dc_194_178, am_go dc_194_181, am_go dc_194_184, am_go dc_194_185, ld_7, am_go dc_194_189, am_go dc_194_191, am_go dc_194_194, am_go dc_194_195, am_go dc_194_198, am_go dc_194_200, am_go dc_194_201, am_go dc_194_204, am_go dc_194_206, am_go dc_194_207, am_go dc_194_208, am_go dc_194_211, am_go dc_194_214, i16_m2000, am_go dc_194_217, ld_4, am_go dc_194_219, am_go dc_194_220, am_go dc_194_221, am_go dc_194_222, am_go dc_194_223, pk_12_170_12, am_go dc_194_226, am_go dc_194_227, mH_o, mp_13, pf_i pk_12_89_12 rfl, mg_6, mH_7, mw_7, mp_14, pf_i pk_12_86_12 rfl, mp_12, pf_i pk_12_83_12 rfl, mg_12, mg_14, mg_2, mH_3, mw_3, mg_0, mH_1, mw_1, mg_15, mp_32, pf_z0 pk_12_170_12 rfl, pf_z1 pk_12_170_12 rfl, pf_zB pk_12_170_12 rfl, zI_add, zI_mul, zI_lt, zI_le, zI_eq, zI_neg, zI_pos, zI_ne0, zI_gt0, zB_0, lg_cmp_ge, lg_cmp_le, lg_cmp_gt, lg_cmp_lt, lg_cmp_eq, ail_r, abl_r, all_r, ais_r, abs_r, als_r, mF_len, mS_s, mS_o, mS_2, mS_S, mI_1, mI_2, mI_s, mI_o, mI_3, mI_I, mJ_1, mJ_2, mJ_3, mJ_s, mJ_o, mJ_J, mL_1, mL_s, mL_o, mL_2, h12, h14, c0', hsg, g1, c98, kl, h15, c9x, Bool.true_eq_false, List.length_cons, List.length_nil, Nat.reduceAdd, Nat.reduceLT, Nat.reduceLeDiff, Nat.reduceEqDiff, ↓reduceIte, bind_s, if_true, if_false, not_true_eq_false, not_false_eq_true, Nat.zero_add]
          · rw [mS_s, fo_updr]
            funext j
            unfold updr
            by_cases ej : j < 118
            · rw [if_pos (by omega), e3, hbef _ (by omega)]
              rfl
            · rw [if_neg (by omega), upd_o (by omega), e1]
              exact hbig j (by omega)
      · have c108 : ¬ s p = zI 108 := by rw [kb]; decide
        have hDk := w1 kb
        have hmd := g6 c108
        have hmk := r_makesBox (X := X) (h := h) (o := o) (d := d + 1) (u := u1) (z := z) (D := r.2.2) (by rw [e1]; exact hG) (by rw [e1]; exact hw) hmd hDk.2.2.1 hDk.2.2.2.2.2.1
        rw [e1] at hmk
        rw [if_pos kb]
        by_cases ok : sOk (u.1 1) r.2.2 = true
        · have hwf := sOk_wf hG hDk ok
          rw [ok, if_pos rfl] at hmk
          rw [if_pos ok]
          have hS : (mS u1 1 (sMk (u.1 1) r.2.2)).1 1 = sMk (u.1 1) r.2.2 := mS_s
          obtain ⟨u2, l1, l2, l3⟩ := ih r.2.1 (c + 1) (some (.int (zI p))) (some (.int (zI 98))) (some (.int (zI 1))) v7 (mS u1 1 (sMk (u.1 1) r.2.2)) hs3 hA1 k2 (by omega) hnext (by rw [hS]; exact qG_mk hG hDk ok) (by rw [hS]; exact (qPl_mk hwf).2.1) (fun j hj => by rw [hS, sMk_big hwf hj]; exact hbig j hj) (fun j hj => by rw [mS_o (by omega), e3]; exact hbef j hj) (by omega)
          rw [hS] at l2 l3
          have step : am_I X (am_f X (d + 5)) 194 96 [some (.ref o), some (.int (zI e)), some (.int (zI 0)), some (.int (zI c)), v4, v5, v6, v7] [] (mH h o u, z) = am_I X (am_f X (d + 5)) 194 96 [some (.ref o), some (.int (zI e)), some (.int (zI 0)), some (.int (zI (c + 1))), some (.int (zI p)), some (.int (zI 98)), some (.int (zI 1)), v7] [] (mH h o (mS u1 1 (sMk (u.1 1) r.2.2)), z) := by
            rw [am_go dc_194_96]
            simp (disch := first | omega | exact ci_m | exact Nat.le_of_ble_eq_true rfl | (refine mF_lt ?_; omega)) only [own_194, am_go dc_194_0, J_aload_0, K_al, ld_0, am_go dc_194_1, J_iload_1, K_il, ld_1, am_go dc_194_2, J_iconst, c32_0, am_go dc_194_3, cv_12_161_12 own_194, JR_v, JR_0, JR_ite, ci1_r, am_go dc_194_6, J_istore_2, st1_0, st1_1, st1_s, kl_i, kl_l, kl_r, kl_n, am_go dc_194_7, J_iload_2, ld_2, am_go dc_194_8, J_if_eq, am_go dc_194_11, am_go dc_194_12, J_ret_i ret_194, am_go dc_194_13, am_go dc_194_14, J_bipush, c8_120, am_go dc_194_16, am_go dc_194_17, J_imul, am_go dc_194_18, J_putfield_i, J_putfield_l, J_putfield_r, ini_194, pk_12_89_12, am_go dc_194_21, am_go dc_194_22, am_go dc_194_23, J_getfield, gf_r, fk_12_28_12, am_go dc_194_26, am_go dc_194_27, J_iaload, am_go dc_194_28, pk_12_86_12, am_go dc_194_31, am_go dc_194_32, am_go dc_194_33, pk_12_83_12, am_go dc_194_36, am_go dc_194_37, cv_12_164_12 own_194, am_go dc_194_40, J_if_ne, am_go dc_194_43, J_sipush, i16_m1000, am_go dc_194_46, am_go dc_194_47, fk_12_83_12, am_go dc_194_50, J_isub, am_go dc_194_51, am_go dc_194_52, am_go dc_194_53, am_go dc_194_56, am_go dc_194_57, fk_12_86_12, am_go dc_194_60, J_icmp_lt, am_go dc_194_63, am_go dc_194_64, J_istore_3, am_go dc_194_65, J_iload_3, ld_3, am_go dc_194_66, c8_118, am_go dc_194_68, J_icmp_ge, am_go dc_194_71, am_go dc_194_72, fk_12_16_12, am_go dc_194_75, am_go dc_194_76, am_go dc_194_77, fk_12_9_12, am_go dc_194_80, am_go dc_194_81, am_go dc_194_82, J_iastore, am_go dc_194_83, J_iinc, pinc_go, c32_1, am_go dc_194_86, J_goto, am_go dc_194_89, am_go dc_194_90, am_go dc_194_91, am_go dc_194_94, am_go dc_194_95, am_go dc_194_97, am_go dc_194_100, am_go dc_194_101, am_go dc_194_104, am_go dc_194_107, am_go dc_194_108, am_go dc_194_111, J_istore, am_go dc_194_113, am_go dc_194_114, cv_12_92_12 own_194, am_go dc_194_117, am_go dc_194_119, am_go dc_194_120, am_go dc_194_123, am_go dc_194_125, J_iload, ld_5, am_go dc_194_127, c8_98, am_go dc_194_129, J_icmp_ne, am_go dc_194_132, am_go dc_194_133, cv_12_167_12 own_194, am_go dc_194_136, am_go dc_194_139, am_go dc_194_140, fk_12_100_12, am_go dc_194_143, c8_99, am_go dc_194_145, J_icmp_gt, am_go dc_194_148, am_go dc_194_149, am_go dc_194_152, am_go dc_194_153, am_go dc_194_155, am_go dc_194_157, c8_108, am_go dc_194_159, am_go dc_194_162, am_go dc_194_163, am_go dc_194_166, c8_117, am_go dc_194_168, am_go dc_194_169, am_go dc_194_172, am_go dc_194_173, am_go dc_194_176, ld_6, am_go dc_194_178, am_go dc_194_181, am_go dc_194_184, am_go dc_194_185, ld_7, am_go dc_194_189, am_go dc_194_191, am_go dc_194_194, am_go dc_194_195, am_go dc_194_198, am_go dc_194_200, am_go dc_194_201, am_go dc_194_204, am_go dc_194_206, am_go dc_194_207, am_go dc_194_208, am_go dc_194_211, am_go dc_194_214, i16_m2000, am_go dc_194_217, ld_4, am_go dc_194_219, am_go dc_194_220, am_go dc_194_221, am_go dc_194_222, am_go dc_194_223, pk_12_170_12, am_go dc_194_226, am_go dc_194_227, mH_o, mp_13, pf_i pk_12_89_12 rfl, mg_6, mH_7, mw_7, mp_14, pf_i pk_12_86_12 rfl, mp_12, pf_i pk_12_83_12 rfl, mg_12, mg_14, mg_2, mH_3, mw_3, mg_0, mH_1, mw_1, mg_15, mp_32, pf_z0 pk_12_170_12 rfl, pf_z1 pk_12_170_12 rfl, pf_zB pk_12_170_12 rfl, zI_add, zI_mul, zI_lt, zI_le, zI_eq, zI_neg, zI_pos, zI_ne0, zI_gt0, zB_0, lg_cmp_ge, lg_cmp_le, lg_cmp_gt, lg_cmp_lt, lg_cmp_eq, ail_r, abl_r, all_r, ais_r, abs_r, als_r, mF_len, h12, h14, c0', hsg, g1, kb, hmk, zB_t, zB_f, Bool.true_eq_false, List.length_cons, List.length_nil, Nat.reduceAdd, Nat.reduceLT, Nat.reduceLeDiff, Nat.reduceEqDiff, ↓reduceIte, bind_s, if_true, if_false, not_true_eq_false, not_false_eq_true, Nat.zero_add]
          refine ⟨u2, g2.x.tr (mTx.tr ⟨fun j j1 _ _ _ _ => mS_o j1, rfl, fun _ _ => rfl⟩ l1), fun q hq => ?_, fun hq => ?_⟩
          · obtain ⟨m1, m2, m3⟩ := l2 q hq
            exact ⟨step.trans m1, m2, m3.trans e32⟩
          · obtain ⟨m1, m2⟩ := l3 hq
            exact ⟨step.trans m1, m2⟩
        · have ok' : sOk (u.1 1) r.2.2 = false := by simpa using ok
          rw [ok', if_neg (by decide)] at hmk
          rw [if_neg ok]
          refine ⟨mS u1 1 (fo (fun i f => upd f (0 + i) (u1.1 3 i)) 0 118 (u1.1 1)), g2.x.tr ⟨fun j j1 _ _ _ _ => mS_o j1, rfl, fun _ _ => rfl⟩, fun q hq => ?_, fun hq => by cases hq⟩
          cases hq
          refine ⟨?_, ?_, e32⟩
          · have hr := r_restore_l2 (X := X) (h := h) (o := o) (d := d) (z := z) (e := e) (p := p) (c := c + 1) (x5 := zI 98) (x6 := zI 0) 118 0 u1 (by omega)
            refine Eq.trans ?_ hr
            rw [am_go dc_194_96]
            simp (disch := first | omega | exact ci_m | exact Nat.le_of_ble_eq_true rfl | (refine mF_lt ?_; omega)) only [own_194, am_go dc_194_0, J_aload_0, K_al, ld_0, am_go dc_194_1, J_iload_1, K_il, ld_1, am_go dc_194_2, J_iconst, c32_0, am_go dc_194_3, cv_12_161_12 own_194, JR_v, JR_0, JR_ite, ci1_r, am_go dc_194_6, J_istore_2, st1_0, st1_1, st1_s, kl_i, kl_l, kl_r, kl_n, am_go dc_194_7, J_iload_2, ld_2, am_go dc_194_8, J_if_eq, am_go dc_194_11, am_go dc_194_12, J_ret_i ret_194, am_go dc_194_13, am_go dc_194_14, J_bipush, c8_120, am_go dc_194_16, am_go dc_194_17, J_imul, am_go dc_194_18, J_putfield_i, J_putfield_l, J_putfield_r, ini_194, pk_12_89_12, am_go dc_194_21, am_go dc_194_22, am_go dc_194_23, J_getfield, gf_r, fk_12_28_12, am_go dc_194_26, am_go dc_194_27, J_iaload, am_go dc_194_28, pk_12_86_12, am_go dc_194_31, am_go dc_194_32, am_go dc_194_33, pk_12_83_12, am_go dc_194_36, am_go dc_194_37, cv_12_164_12 own_194, am_go dc_194_40, J_if_ne, am_go dc_194_43, J_sipush, i16_m1000, am_go dc_194_46, am_go dc_194_47, fk_12_83_12, am_go dc_194_50, J_isub, am_go dc_194_51, am_go dc_194_52, am_go dc_194_53, am_go dc_194_56, am_go dc_194_57, fk_12_86_12, am_go dc_194_60, J_icmp_lt, am_go dc_194_63, am_go dc_194_64, J_istore_3, am_go dc_194_65, J_iload_3, ld_3, am_go dc_194_66, c8_118, am_go dc_194_68, J_icmp_ge, am_go dc_194_71, am_go dc_194_72, fk_12_16_12, am_go dc_194_75, am_go dc_194_76, am_go dc_194_77, fk_12_9_12, am_go dc_194_80, am_go dc_194_81, am_go dc_194_82, J_iastore, am_go dc_194_83, J_iinc, pinc_go, c32_1, am_go dc_194_86, J_goto, am_go dc_194_89, am_go dc_194_90, am_go dc_194_91, am_go dc_194_94, am_go dc_194_95, am_go dc_194_97, am_go dc_194_100, am_go dc_194_101, am_go dc_194_104, am_go dc_194_107, am_go dc_194_108, am_go dc_194_111, J_istore, am_go dc_194_113, am_go dc_194_114, cv_12_92_12 own_194, am_go dc_194_117, am_go dc_194_119, am_go dc_194_120, am_go dc_194_123, am_go dc_194_125, J_iload, ld_5, am_go dc_194_127, c8_98, am_go dc_194_129, J_icmp_ne, am_go dc_194_132, am_go dc_194_133, cv_12_167_12 own_194, am_go dc_194_136, am_go dc_194_139, am_go dc_194_140, fk_12_100_12, am_go dc_194_143, c8_99, am_go dc_194_145, J_icmp_gt, am_go dc_194_148, am_go dc_194_149, am_go dc_194_152, am_go dc_194_153, am_go dc_194_155, am_go dc_194_157, c8_108, am_go dc_194_159, am_go dc_194_162, am_go dc_194_163, am_go dc_194_166, c8_117, am_go dc_194_168, am_go dc_194_169, am_go dc_194_172, am_go dc_194_173, am_go dc_194_176, ld_6, am_go dc_194_178, am_go dc_194_181, am_go dc_194_184, am_go dc_194_185, ld_7, am_go dc_194_189, am_go dc_194_191, am_go dc_194_194, am_go dc_194_195, am_go dc_194_198, am_go dc_194_200, am_go dc_194_201, am_go dc_194_204, am_go dc_194_206, am_go dc_194_207, am_go dc_194_208, am_go dc_194_211, am_go dc_194_214, i16_m2000, am_go dc_194_217, ld_4, am_go dc_194_219, am_go dc_194_220, am_go dc_194_221, am_go dc_194_222, am_go dc_194_223, pk_12_170_12, am_go dc_194_226, am_go dc_194_227, mH_o, mp_13, pf_i pk_12_89_12 rfl, mg_6, mH_7, mw_7, mp_14, pf_i pk_12_86_12 rfl, mp_12, pf_i pk_12_83_12 rfl, mg_12, mg_14, mg_2, mH_3, mw_3, mg_0, mH_1, mw_1, mg_15, mp_32, pf_z0 pk_12_170_12 rfl, pf_z1 pk_12_170_12 rfl, pf_zB pk_12_170_12 rfl, zI_add, zI_mul, zI_lt, zI_le, zI_eq, zI_neg, zI_pos, zI_ne0, zI_gt0, zB_0, lg_cmp_ge, lg_cmp_le, lg_cmp_gt, lg_cmp_lt, lg_cmp_eq, ail_r, abl_r, all_r, ais_r, abs_r, als_r, mF_len, h12, h14, c0', hsg, g1, kb, hmk, zB_t, zB_f, Bool.true_eq_false, List.length_cons, List.length_nil, Nat.reduceAdd, Nat.reduceLT, Nat.reduceLeDiff, Nat.reduceEqDiff, ↓reduceIte, bind_s, if_true, if_false, not_true_eq_false, not_false_eq_true, Nat.zero_add]
          · rw [mS_s, fo_updr]
            funext j
            unfold updr
            by_cases ej : j < 118
            · rw [if_pos (by omega), e3, hbef _ (by omega)]
              rfl
            · rw [if_neg (by omega), e1]
              exact hbig j (by omega)
    · have c0' : n ≤ p := by omega
      rw [if_neg c0]
      refine ⟨mI u 32 (zI 0), ⟨fun _ _ _ _ _ _ => rfl, rfl, fun j hj => mI_o (by omega)⟩, fun q hq => (by cases hq), fun _ => ⟨?_, rfl, mI_s, hG, hw⟩⟩
      rw [am_go dc_194_96]
      simp (disch := first | omega | exact ci_m | exact Nat.le_of_ble_eq_true rfl | (refine mF_lt ?_; omega)) only [own_194, am_go dc_194_0, J_aload_0, K_al, ld_0, am_go dc_194_1, J_iload_1, K_il, ld_1, am_go dc_194_2, J_iconst, c32_0, am_go dc_194_3, cv_12_161_12 own_194, JR_v, JR_0, JR_ite, ci1_r, am_go dc_194_6, J_istore_2, st1_0, st1_1, st1_s, kl_i, kl_l, kl_r, kl_n, am_go dc_194_7, J_iload_2, ld_2, am_go dc_194_8, J_if_eq, am_go dc_194_11, am_go dc_194_12, J_ret_i ret_194, am_go dc_194_13, am_go dc_194_14, J_bipush, c8_120, am_go dc_194_16, am_go dc_194_17, J_imul, am_go dc_194_18, J_putfield_i, J_putfield_l, J_putfield_r, ini_194, pk_12_89_12, am_go dc_194_21, am_go dc_194_22, am_go dc_194_23, J_getfield, gf_r, fk_12_28_12, am_go dc_194_26, am_go dc_194_27, J_iaload, am_go dc_194_28, pk_12_86_12, am_go dc_194_31, am_go dc_194_32, am_go dc_194_33, pk_12_83_12, am_go dc_194_36, am_go dc_194_37, cv_12_164_12 own_194, am_go dc_194_40, J_if_ne, am_go dc_194_43, J_sipush, i16_m1000, am_go dc_194_46, am_go dc_194_47, fk_12_83_12, am_go dc_194_50, J_isub, am_go dc_194_51, am_go dc_194_52, am_go dc_194_53, am_go dc_194_56, am_go dc_194_57, fk_12_86_12, am_go dc_194_60, J_icmp_lt, am_go dc_194_63, am_go dc_194_64, J_istore_3, am_go dc_194_65, J_iload_3, ld_3, am_go dc_194_66, c8_118, am_go dc_194_68, J_icmp_ge, am_go dc_194_71, am_go dc_194_72, fk_12_16_12, am_go dc_194_75, am_go dc_194_76, am_go dc_194_77, fk_12_9_12, am_go dc_194_80, am_go dc_194_81, am_go dc_194_82, J_iastore, am_go dc_194_83, J_iinc, pinc_go, c32_1, am_go dc_194_86, J_goto, am_go dc_194_89, am_go dc_194_90, am_go dc_194_91, am_go dc_194_94, am_go dc_194_95, am_go dc_194_97, am_go dc_194_100, am_go dc_194_101, am_go dc_194_104, am_go dc_194_107, am_go dc_194_108, am_go dc_194_111, J_istore, am_go dc_194_113, am_go dc_194_114, cv_12_92_12 own_194, am_go dc_194_117, am_go dc_194_119, am_go dc_194_120, am_go dc_194_123, am_go dc_194_125, J_iload, ld_5, am_go dc_194_127, c8_98, am_go dc_194_129, J_icmp_ne, am_go dc_194_132, am_go dc_194_133, cv_12_167_12 own_194, am_go dc_194_136, am_go dc_194_139, am_go dc_194_140, fk_12_100_12, am_go dc_194_143, c8_99, am_go dc_194_145, J_icmp_gt, am_go dc_194_148, am_go dc_194_149, am_go dc_194_152, am_go dc_194_153, am_go dc_194_155, am_go dc_194_157, c8_108, am_go dc_194_159, am_go dc_194_162, am_go dc_194_163, am_go dc_194_166, c8_117, am_go dc_194_168, am_go dc_194_169, am_go dc_194_172, am_go dc_194_173, am_go dc_194_176, ld_6, am_go dc_194_178, am_go dc_194_181, am_go dc_194_184, am_go dc_194_185, am_go dc_194_187, ld_7, am_go dc_194_189, am_go dc_194_191, am_go dc_194_194, am_go dc_194_195, am_go dc_194_198, am_go dc_194_200, am_go dc_194_201, am_go dc_194_204, am_go dc_194_206, am_go dc_194_207, am_go dc_194_208, am_go dc_194_211, am_go dc_194_214, i16_m2000, am_go dc_194_217, ld_4, am_go dc_194_219, am_go dc_194_220, am_go dc_194_221, am_go dc_194_222, am_go dc_194_223, pk_12_170_12, am_go dc_194_226, am_go dc_194_227, mH_o, mp_13, pf_i pk_12_89_12 rfl, mg_6, mH_7, mw_7, mp_14, pf_i pk_12_86_12 rfl, mp_12, pf_i pk_12_83_12 rfl, mg_12, mg_14, mg_2, mH_3, mw_3, mg_0, mH_1, mw_1, mg_15, mp_32, pf_z0 pk_12_170_12 rfl, pf_z1 pk_12_170_12 rfl, pf_zB pk_12_170_12 rfl, zI_add, zI_mul, zI_lt, zI_le, zI_eq, zI_neg, zI_pos, zI_ne0, zI_gt0, zB_0, lg_cmp_ge, lg_cmp_le, lg_cmp_gt, lg_cmp_lt, lg_cmp_eq, ail_r, abl_r, all_r, ais_r, abs_r, als_r, mF_len, h12, h14, c0', List.length_cons, List.length_nil, Nat.reduceAdd, Nat.reduceLT, Nat.reduceLeDiff, Nat.reduceEqDiff, ↓reduceIte, bind_s, if_true, if_false, not_true_eq_false, not_false_eq_true, Nat.zero_add]
end M24
