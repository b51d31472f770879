/-! classes by link -/
def am_kOk (q : Nat × Nat × Nat × Nat) : Bool := decide (tables_1[q.2.2.2]? = some (.classLink (cN q.1) q.2.1 (cN q.2.2.1)))
theorem am_kT_ok : am_kT.all am_kOk = true := by decide +kernel
theorem am_kk_spec {own k ci : Nat} (h : am_kk own k = some ci) : Cond.classLink (cN own) k (cN ci) ∈ tables_1 := by
  obtain ⟨q, hq, e⟩ := Option.map_eq_some_iff.mp h
  obtain ⟨h1, h2⟩ := am_find hq
  have h3 := am_allOk am_kT_ok h1
  simp only [Bool.and_eq_true, beq_iff_eq] at h2
  obtain ⟨e1, e2⟩ := h2
  unfold am_kOk at h3
  rw [e1, e2, e] at h3
  exact List.mem_of_getElem? (of_decide_eq_true h3)
def am_cOk (q : Nat × Nat × Int32 × Nat) : Bool := decide (tables_1[q.2.2.2]? = some (.constant (cN q.1) q.2.1 q.2.2.1))
theorem am_cT_ok : am_cT.all am_cOk = true := by decide +kernel
theorem am_ci_spec {own k : Nat} {v : Int32} (h : am_ci own k = some v) : Cond.constant (cN own) k v ∈ tables_1 := by
  obtain ⟨q, hq, e⟩ := Option.map_eq_some_iff.mp h
  obtain ⟨h1, h2⟩ := am_find hq
  have h3 := am_allOk am_cT_ok h1
  simp only [Bool.and_eq_true, beq_iff_eq] at h2
  obtain ⟨e1, e2⟩ := h2
  unfold am_cOk at h3
  rw [e1, e2, e] at h3
  exact List.mem_of_getElem? (of_decide_eq_true h3)
def am_jOk (q : Nat × Nat × Int64 × Nat) : Bool := decide (tables_1[q.2.2.2]? = some (.constantLong (cN q.1) q.2.1 q.2.2.1))
theorem am_jT_ok : am_jT.all am_jOk = true := by decide +kernel
theorem am_cj_spec {own k : Nat} {v : Int64} (h : am_cj own k = some v) : Cond.constantLong (cN own) k v ∈ tables_1 := by
  obtain ⟨q, hq, e⟩ := Option.map_eq_some_iff.mp h
  obtain ⟨h1, h2⟩ := am_find hq
  have h3 := am_allOk am_jT_ok h1
  simp only [Bool.and_eq_true, beq_iff_eq] at h2
  obtain ⟨e1, e2⟩ := h2
  unfold am_jOk at h3
  rw [e1, e2, e] at h3
  exact List.mem_of_getElem? (of_decide_eq_true h3)
theorem am_box_over : Cond.arrayOver (.object "BoxSearch$Box") ∈ tables_1 := by decide +kernel
theorem am_cl_inst : (List.range 13).all (fun ci => match am_cl[ci]? with
  | some r => (decide (Cond.instantiable r.1 r.2.2 ∈ tables_1) && decide (Cond.initialized r.1 ∈ tables_1)) && ((decide (r.1 = cN ci) && decide ((am_df ci).length = r.2.2)) && (List.range r.2.2).all (fun j => decide (defaultValue (am_ty ci j) = vp_V (am_df ci) j)))
  | none => false) = true := by decide +kernel
theorem am_cl_get {ci : Nat} (h : ci < 13) : ∃ q : vw_C, am_cl[ci]? = some q ∧ Cond.instantiable q.1 q.2.2 ∈ tables_1 ∧ Cond.initialized q.1 ∈ tables_1 ∧ q.1 = cN ci ∧ (am_df ci).length = q.2.2 ∧ ∀ j, j < q.2.2 → defaultValue (am_ty ci j) = vp_V (am_df ci) j := by
  have h1 := List.all_eq_true.mp am_cl_inst ci (List.mem_range.mpr h)
  split at h1
  · rename_i q hq
    simp only [Bool.and_eq_true, decide_eq_true_eq] at h1
    obtain ⟨⟨g1, g2⟩, ⟨g3, g4⟩, g5⟩ := h1
    exact ⟨q, hq, g1, g2, g3, g4, fun j hj => of_decide_eq_true (List.all_eq_true.mp g5 j (List.mem_range.mpr hj))⟩
  · cases h1
section AMN
variable {p : Program} {l : Launch} {e : Env} {R : Room} {s s0 : State} {m : MethodId} {args a0 : Array Value} {below : List Frame} {meth : Method} {c : Code} {H : Heap} {locs : List Loc} {cells slots : Nat} {Q : State → Prop}
variable {D : va_G} {cT : FieldType → ClassId} {X : am_X} {t pc nx tg : Nat} {σ : am_S} {ls : Array Slot} {r : List Value}
theorem am_s_anew {k : Nat} {n : Int32} (G : am_G l s0 a0 D cT X) (hW : s0.WarmedH s.vm) (hx : p.tables.exec = Jvm.exec) (hb : c.code = am_b t) (hown : s.vm.findClass (cN (am_own t)) = some m.cls) (hH : am_HR s0 D cT σ H) (hd : decode (am_b t) pc = .ok (.anewarray k, 3)) (hn : am_in n 65537 = true) (hk : am_kk (am_own t) k = some 6)
    (hR : cells + 1 ≤ R.cells) (hR2 : slots + n.toNatClampNeg ≤ R.slots)
    (kk : ∀ H1 : Heap, am_HR s0 D cT (am_up σ.1 σ.2.1 (.inl (.object "BoxSearch$Box", n.toNatClampNeg, .inr (.inr (.inr (.inr (fun _ => none)))))), σ.2.1 + 1, σ.2.2 + n.toNatClampNeg) H1 → W p l e R s m args below meth c H1 locs (cells + 1) (slots + n.toNatClampNeg) Q (F0 m (pc + 3) ls (.ref σ.2.1 :: r))) : W p l e R s m args below meth c H locs cells slots Q (F0 m pc ls (.int n :: r)) := by
  have hin := am_in_spec hn
  have h0 : ¬ n < 0 := fun q => hin (Or.inl q)
  have hle : n.toNatClampNeg ≤ 65536 := by
    have : ¬ 65537 ≤ n.toNatClampNeg := fun q => hin (Or.inr q)
    omega
  have haty : am_aty (.object "BoxSearch$Box") := Or.inr (Or.inr (Or.inr (Or.inl rfl)))
  have hov : va_AO "BoxSearch$Box" s := va_AO.moved hW.alike (va_AO.of (G.2.1 _ (List.mem_append_right _ am_box_over)))
  refine W.anew (C := "BoxSearch$Box") hx hb hown (G.word hW (am_kk_spec hk) rfl) (va_AO.use hov) rfl hd rfl h0 (by omega) hR hR2 fun cA kA comp f1 f2 f3 f4 => ?_
  obtain ⟨kA', comp', -, -, -, g4⟩ := (am_arr (G.K hW) haty).2
  have hc : cA = cT (.object "BoxSearch$Box") := Option.some.inj (f1.symm.trans g4)
  subst hc
  rw [hH.1]
  refine kk _ (hH.push ⟨haty, ?_⟩ ?_ ?_)
  · rw [← hH.1, Array.getElem?_push_size, vp_cell_q, arrV_new]
    rfl
  · rw [Array.size_push, hH.1]
  · intro q hq
    rw [Array.getElem?_push, if_neg (by rw [hH.1]; exact Nat.ne_of_lt hq)]
theorem am_s_new {k ci : Nat} (G : am_G l s0 a0 D cT X) (hW : s0.WarmedH s.vm) (hx : p.tables.exec = Jvm.exec) (hb : c.code = am_b t) (hown : s.vm.findClass (cN (am_own t)) = some m.cls) (hH : am_HR s0 D cT σ H) (hd : decode (am_b t) pc = .ok (.new k, 3)) (hk : am_kk (am_own t) k = some ci) (hci : ci < 13)
    (hR : cells + 1 ≤ R.cells) (hR2 : slots + (am_df ci).length ≤ R.slots)
    (kk : ∀ H1 : Heap, am_HR s0 D cT (am_up σ.1 σ.2.1 (.inr (ci, am_df ci)), σ.2.1 + 1, σ.2.2 + (am_df ci).length) H1 → W p l e R s m args below meth c H1 locs (cells + 1) (slots + (am_df ci).length) Q (F0 m (pc + 3) ls (.ref σ.2.1 :: r))) : W p l e R s m args below meth c H locs cells slots Q (F0 m pc ls r) := by
  obtain ⟨q, hq, h1, h2, h3, h4, h5⟩ := am_cl_get hci
  have hKn := (G.K hW).1 ci q hq
  have hts : ∀ w ∈ u_ws q.1 q.2.1 q.2.2, w.before args s = true := fun w hw => G.word hW (am_cl_in hq w hw) (am_lay_good _ _ _ w hw)
  have hlink : (Cond.classLink (cN (am_own t)) k q.1).before args s = true := by rw [h3]; exact G.word hW (am_kk_spec hk) rfl
  rw [h4] at hR2 kk
  refine W.newcK (C := q.1) (n := q.2.2) hx hb hown hlink (G.word hW h1 rfl) (G.word hW h2 rfl) rfl hd hR hR2 hKn.2.1 hH.1 fun H1 kC hkC e1 z1 o1 => ?_
  refine kk H1 ?_
  have hh : am_HR s0 D cT (am_up σ.1 σ.2.1 (.inr (ci, am_df ci)), σ.2.1 + 1, σ.2.2 + q.2.2) H1 := hH.push ⟨q, hq, (u_born (am_ty ci) hts (fun _ h => h) hKn hkC e1 (am_cl_ty hq)).to h5, h4⟩ z1 o1
  exact hh
theorem am_recv {a ci : Nat} {fs : List Value} (G : am_G l s0 a0 D cT X) (hW : s0.WarmedH s.vm) (hH : am_HR s0 D cT σ H) (ha : σ.1 a = some (.inr (ci, fs))) : ci < 13 ∧ ∃ cell : Cell, H[a]? = some cell ∧ cell.vm.isStatics = false ∧ s.vm.findClass (cN ci) = some cell.cls ∧ ∃ kC, s.vm.classes[cell.cls]? = some kC := by
  obtain ⟨-, q, hq, -, cell, q1, q2, q3, -⟩ := am_obj hH ha
  have hlt : ci < 13 := by
    have := (List.getElem?_eq_some_iff.mp hq).1
    have hl : am_cl.length = 13 := rfl
    omega
  obtain ⟨q', hq', -, -, h3, -⟩ := am_cl_get hlt
  cases hq.symm.trans hq'
  obtain ⟨hfc, kC, hkC, -⟩ := ((G.K hW).1 ci q hq).2
  exact ⟨hlt, cell, q1, by rw [q3]; rfl, by rw [← h3, q2]; exact hfc, kC, by rw [q2]; exact hkC⟩
theorem am_s_instof {k a : Nat} {b : Bool} (G : am_G l s0 a0 D cT X) (hW : s0.WarmedH s.vm) (hx : p.tables.exec = Jvm.exec) (hb : c.code = am_b t) (hown : s.vm.findClass (cN (am_own t)) = some m.cls) (hH : am_HR s0 D cT σ H) (hd : decode (am_b t) pc = .ok (.instanceof k, 3)) (hk : am_kk (am_own t) k = some 10) (hg : am_kin (σ.1 a) = some b)
    (kk : W p l e R s m args below meth c H locs cells slots Q (F0 m (pc + 3) ls (.int (if b then 1 else 0) :: r))) : W p l e R s m args below meth c H locs cells slots Q (F0 m pc ls (.ref a :: r)) := by
  unfold am_kin at hg
  split at hg
  · rename_i ci fs ha
    cases hg
    obtain ⟨hlt, cell, h1, h2, h3, -⟩ := am_recv G hW hH ha
    by_cases h10 : ci = 10
    · subst h10
      obtain ⟨q, hq, -, -, h4, -⟩ := am_cl_get hlt
      have hca : ClassAt s (cN 10) (D.1 10) := by rw [← h4]; exact ((G.K hW).1 10 q hq).2
      exact va_instS (nm := cN 10) hx hb hown (G.word hW (am_kk_spec hk) rfl) hca ⟨cell, h1, h2, h3⟩ hd kk
    · have hf : (ci == 10) = false := by simp [h10]
      rw [hf] at kk
      exact va_instNo (C := cN ci) (nm := "BoxSearch$Kin") hx hb hown (G.word hW (am_kk_spec hk) rfl) (va_Nc.moved hW.alike (G.2.2.2.2.2 ci hlt h10)) ⟨cell, h1, h2, h3⟩ hd kk
  · cases hg
theorem am_s_cast {k a : Nat} (G : am_G l s0 a0 D cT X) (hW : s0.WarmedH s.vm) (hx : p.tables.exec = Jvm.exec) (hb : c.code = am_b t) (hown : s.vm.findClass (cN (am_own t)) = some m.cls) (hH : am_HR s0 D cT σ H) (hd : decode (am_b t) pc = .ok (.checkcast k, 3)) (hk : am_kk (am_own t) k = some 10) (hg : am_kin (σ.1 a) = some true)
    (kk : W p l e R s m args below meth c H locs cells slots Q (F0 m (pc + 3) ls (.ref a :: r))) : W p l e R s m args below meth c H locs cells slots Q (F0 m pc ls (.ref a :: r)) := by
  unfold am_kin at hg
  split at hg
  · rename_i ci fs ha
    simp only [Option.some.injEq, beq_iff_eq] at hg
    subst hg
    obtain ⟨hlt, cell, h1, h2, h3, -⟩ := am_recv G hW hH ha
    obtain ⟨q, hq, -, -, h4, -⟩ := am_cl_get hlt
    have hca : ClassAt s (cN 10) (D.1 10) := by rw [← h4]; exact ((G.K hW).1 10 q hq).2
    exact va_castS (nm := cN 10) hx hb hown (G.word hW (am_kk_spec hk) rfl) hca ⟨cell, h1, h2, h3⟩ hd kk
  · cases hg
theorem am_arrI_spec {o : Option am_E} {q : Nat × (Nat → Int32)} (h : am_arrI o = some q) : o = some (.inl (.int, q.1, .inl q.2)) := by
  unfold am_arrI at h
  split at h
  · cases h
    rfl
  · cases h
theorem am_cl317 : Cond.classLink "java/util/Arrays" 317 "[I" ∈ tables_1 := by decide +kernel
theorem am_intName {cA : ClassId} (h : va_RA s cA .int) : s.vm.findClass "[I" = some cA := h
theorem am_s_castA {a : Nat} {q : Nat × (Nat → Int32)} (G : am_G l s0 a0 D cT X) (hW : s0.WarmedH s.vm) (hx : p.tables.exec = Jvm.exec) (hb : c.code = am_b t) (hown : s.vm.findClass (cN (am_own t)) = some m.cls) (hH : am_HR s0 D cT σ H) (hd : decode (am_b t) pc = .ok (.checkcast 317, 3)) (ho : am_own t = 15) (hg : am_arrI (σ.1 a) = some q)
    (kk : W p l e R s m args below meth c H locs cells slots Q (F0 m (pc + 3) ls (.ref a :: r))) : W p l e R s m args below meth c H locs cells slots Q (F0 m pc ls (.ref a :: r)) := by
  obtain ⟨hty, hc0⟩ := am_arrAt hH (am_arrI_spec hg)
  rw [ho] at hown
  have hnm := am_intName (am_arr (G.K hW) hty).2
  intro T hT Xs
  obtain ⟨vm', X', st⟩ := Xs.checkcastYes hx hown (G.word hW am_cl317 rfl) (by rw [hT]; exact hc0) rfl hnm (va_asg _ _) (g := F0 m pc ls (.ref a :: r)) rfl rfl (by rw [hb]; exact hd)
  obtain ⟨t2, a1, b1⟩ := kk (T.setVm vm') hT X'
  exact ⟨t2, st t2 a1, b1⟩
end AMN
