/-! the invoking instructions -/
def am_uOk (q : Nat × Nat × Nat × Nat × Nat × Nat × Nat × Nat) : Bool := match am_wd q.2.2.2.2.1 with
  | some (.methodLink o i x) => ((decide (o = cN q.1) && decide (i = q.2.1)) && (decide (am_wd q.2.2.2.2.2.1 = some (.sameMethod x.cls (am_y q.2.2.1).cls x.name x.desc)) && decide (am_wd q.2.2.2.2.2.2.1 = some (.superclass (cN q.1) x.cls)))) && (((decide (q.2.2.1 < 281) && decide (am_nP (am_y q.2.2.1).desc = some q.2.2.2.1)) && (decide (am_wd q.2.2.2.2.2.2.2 = some (.instanceMethod (am_y q.2.2.1))) && decide (x.name ≠ "<init>"))) && ((decide ((am_y q.2.2.1).name = x.name) && decide ((am_y q.2.2.1).desc = x.desc)) && (decide (x.cls = (am_y q.2.2.1).cls) || (decide (x.cls = "BoxSearch$Behind") && decide ((am_y q.2.2.1).cls = "BoxSearch$Box")))))
  | _ => false
theorem am_uT_ok : am_uT.all am_uOk = true := by decide +kernel
theorem am_uc_spec {own k y n : Nat} (h : am_uc own k = some (y, n)) : ∃ x : MethodName, Cond.methodLink (cN own) k x ∈ tables_1 ∧ Cond.sameMethod x.cls (am_y y).cls x.name x.desc ∈ tables_1 ∧ Cond.superclass (cN own) x.cls ∈ tables_1 ∧ y < 281 ∧ am_nP (am_y y).desc = some n ∧ Cond.instanceMethod (am_y y) ∈ tables_1 ∧ x.name ≠ "<init>" ∧ (am_y y).name = x.name ∧ (am_y y).desc = x.desc ∧ (x.cls = (am_y y).cls ∨ (x.cls = "BoxSearch$Behind" ∧ (am_y y).cls = "BoxSearch$Box")) := by
  obtain ⟨q, hq, e⟩ := Option.map_eq_some_iff.mp h
  obtain ⟨h1, h2⟩ := am_find hq
  have h3 := am_allOk am_uT_ok h1
  simp only [Bool.and_eq_true, beq_iff_eq] at h2
  obtain ⟨e1, e2⟩ := h2
  simp only [Prod.mk.injEq] at e
  unfold am_uOk at h3
  rw [e1, e2, e.1, e.2] at h3
  split at h3
  · rename_i o i x hx
    simp only [Bool.and_eq_true, Bool.or_eq_true, decide_eq_true_eq] at h3
    obtain ⟨⟨⟨rfl, rfl⟩, g1, g2⟩, ⟨⟨g3, g4⟩, g5, g6⟩, ⟨g7, g8⟩, g9⟩ := h3
    exact ⟨x, am_wd_spec hx, am_wd_spec g1, am_wd_spec g2, g3, g4, am_wd_spec g5, g6, g7, g8, g9⟩
  · cases h3
theorem am_plain_spec {n : String} (h : am_plain n = true) : plainName n = true ∧ (n ≠ "java/lang/invoke/MethodHandle" ∧ n ≠ "java/lang/invoke/VarHandle") := by
  unfold am_plain at h
  simp only [Bool.and_eq_true, decide_eq_true_eq] at h
  exact h
def am_oOk (q : Nat × Nat × Nat) : Bool := decide (am_wd q.2.2 = some (.methodLink (cN q.1) q.2.1 Lib.objectInit))
theorem am_oT_ok : am_oT.all am_oOk = true := by decide +kernel
theorem am_oi_spec {own k : Nat} (h : am_oi own k = true) : Cond.methodLink (cN own) k Lib.objectInit ∈ tables_1 := by
  obtain ⟨q, hq, e⟩ := List.any_eq_true.mp h
  have h3 := am_allOk am_oT_ok hq
  simp only [Bool.and_eq_true, beq_iff_eq] at e
  unfold am_oOk at h3
  rw [e.1, e.2] at h3
  exact am_wd_spec (of_decide_eq_true h3)
def am_aOk (q : Nat × Nat × Nat) : Bool := decide (am_wd q.2.2 = some (.methodLink (cN q.1) q.2.1 arraycopyName))
theorem am_aT_ok : am_aT.all am_aOk = true := by decide +kernel
theorem am_ac_spec {own k : Nat} (h : am_ac own k = true) : Cond.methodLink (cN own) k arraycopyName ∈ tables_1 := by
  obtain ⟨q, hq, e⟩ := List.any_eq_true.mp h
  have h3 := am_allOk am_aT_ok hq
  simp only [Bool.and_eq_true, beq_iff_eq] at e
  unfold am_aOk at h3
  rw [e.1, e.2] at h3
  exact am_wd_spec (of_decide_eq_true h3)
def am_mName (k : Nat) : MethodName := match k with
  | 0 => Lib.Math.max.name
  | 1 => Lib.Math.min.name
  | 2 => Lib.MathLoose.max_long.x
  | 3 => Lib.MathLoose.min_long.x
  | _ => Lib.MathLoose.abs_long.x
def am_hOk (q : Nat × Nat × Nat × Nat) : Bool := decide (am_wd q.2.2.2 = some (.methodLink (cN q.1) q.2.1 (am_mName q.2.2.1)))
theorem am_hT_ok : am_hT.all am_hOk = true := by decide +kernel
theorem am_mk_spec {own k q : Nat} (h : am_mk own k = some q) : Cond.methodLink (cN own) k (am_mName q) ∈ tables_1 := by
  obtain ⟨z, hz, e⟩ := Option.map_eq_some_iff.mp h
  obtain ⟨h1, h2⟩ := am_find hz
  have h3 := am_allOk am_hT_ok h1
  simp only [Bool.and_eq_true, beq_iff_eq] at h2
  unfold am_hOk at h3
  rw [h2.1, h2.2, e] at h3
  exact am_wd_spec (of_decide_eq_true h3)
section AMV
variable {p : Program} {l : Launch} {e : Env} {R : Room} {s s0 : State} {m : MethodId} {args a0 : Array Value} {below : List Frame} {meth : Method} {c : Code} {H : Heap} {locs : List Loc} {cells slots : Nat} {Q : State → Prop}
variable {D : va_G} {cT : FieldType → ClassId} {X : am_X} {t pc : Nat} {σ σ' : am_S} {ls : Array Slot} {rest : List Value}
theorem am_inv_virtual {k ci n y b : Nat} {fs As : List Value} (G : am_G l s0 a0 D cT X) (hW : s0.WarmedH s.vm) (hx : p.tables.exec = Jvm.exec) (hb : c.code = am_b t) (hown : s.vm.findClass (cN (am_own t)) = some m.cls) (hH : am_HR s0 D cT σ H) (ha : σ.1 b = some (.inr (ci, fs))) (hv : am_vc (am_own t) k ci n = some y) (hn : As.length = n) (hd : decode (am_b t) pc = .ok (.invokevirtual k, 3)) :
    am_Inv p l e R s m args below meth c H locs cells slots (F0 m pc ls (As.reverse ++ .ref b :: rest)) rest (am_y y) (.ref b :: As) := by
  intro T hT Xs
  obtain ⟨x, hl, hs, hi, hy, hnp, hpl, hcase⟩ := am_vc_spec hv
  obtain ⟨hlt, cell, h1, h2, h3, -⟩ := am_recv G hW hH ha
  have hpl2 := (am_plain_spec hpl).2
  have hinst : (Cond.instanceMethod (am_y y)).before args s = true := G.word hW hi rfl
  have hsel : (Cond.selects (cN ci) x (am_y y)).before args s = true := G.wordL hW hs rfl
  have hlink : (Cond.methodLink (cN (am_own t)) k x).before args s = true := G.word hW hl rfl
  obtain ⟨mk, methM, hnamed, hmethM, hstM, habM⟩ := Cond.instanceMethod_spec hinst
  obtain ⟨c2, r2, m2, q1, q2, q3, q4, kP, hkP, hkPi⟩ := Cond.selects_spec hsel
  cases h3.symm.trans q1
  cases hnamed.symm.trans q3
  rcases hcase with rfl | ⟨hsm, hxi, bb, ml, rt, hxc⟩
  · cases (State.methodFound?_of_named hnamed hpl2).symm.trans q2
    have hselP : selectMethod e.platform s.vm cell.cls mk = .method mk := by rw [Launch.admits_selectMethod Xs.admits]; exact q4
    have hsig := am_w_sig hnamed hmethM (G.word (args := args) hW (am_m_spec hy).1 (am_w_good y))
    obtain ⟨vm₁, X₁, hstep₁⟩ := Xs.invokevirtual hx hown hlink hnamed hmethM hstM hkP hkPi hpl2 (a := b) (cell := cell) (by rw [hT]; exact h1)
      (fun z h => by rw [h] at h2; cases h2) hselP hmethM habM hkP hkPi (g := F0 m pc ls (As.reverse ++ .ref b :: rest)) rfl (argsL := As) (rest := rest) (hn.trans (am_nP_spec hnp hsig)) rfl (by rw [hb]; exact hd)
    exact ⟨vm₁, mk, X₁, X₁.named hnamed, fun target h => hstep₁ _ fun acts => by rw [doInvoke_state]; exact h⟩
  · have hsame : (Cond.sameMethod x.cls x.cls x.name x.desc).before args s = true := G.word hW hsm rfl
    have hdecl : va_Decl s ⟨x.cls, x.name, x.desc⟩ := va_Decl.of (args := args) (G.word hW hxi rfl) (G.word hW hxc rfl)
    obtain ⟨r0, rr, hn0, hrm, hstR, hsigR⟩ := hdecl
    obtain ⟨cn, ck, r1, hcn, hck, hni, hf, hn1⟩ := Cond.sameMethod_found hsame
    cases hn0.symm.trans hn1
    cases hf.symm.trans q2
    obtain ⟨vm₁, X₁, hstep₁⟩ := Xs.invokevirtualUp hx hown hlink hsame hpl2 hn0 hrm hstR (a := b) (cell := cell) (by rw [hT]; exact h1)
      (fun z h => by rw [h] at h2; cases h2) (by rw [Launch.admits_selectMethod Xs.admits]; exact q4) hmethM habM hkP hkPi (g := F0 m pc ls (As.reverse ++ .ref b :: rest)) rfl (argsL := As) (rest := rest) (hn.trans (am_nP_spec hnp hsigR)) rfl (by rw [hb]; exact hd)
    exact ⟨vm₁, mk, X₁, X₁.named hnamed, fun target h => hstep₁ _ fun acts => by rw [doInvoke_state]; exact h⟩
theorem am_inv_init {k n y b : Nat} {As : List Value} (G : am_G l s0 a0 D cT X) (hW : s0.WarmedH s.vm) (hx : p.tables.exec = Jvm.exec) (hb : c.code = am_b t) (hown : s.vm.findClass (cN (am_own t)) = some m.cls) (hv : am_ic (am_own t) k = some (y, n)) (hn : As.length = n) (hd : decode (am_b t) pc = .ok (.invokespecial k, 3)) :
    am_Inv p l e R s m args below meth c H locs cells slots (F0 m pc ls (As.reverse ++ .ref b :: rest)) rest (am_y y) (.ref b :: As) := by
  intro T hT Xs
  obtain ⟨hl, hi, hy, hnp, hnm, hret, hhh⟩ := am_ic_spec hv
  obtain ⟨hw, -, -, hpl, -⟩ := am_m_spec hy
  have hcode : (Cond.code (am_y y) (am_b y) (am_ml y) none).before args s = true := by
    have := G.word (args := args) hW hw (am_w_good y)
    unfold am_w at this
    rw [if_pos hhh, hret] at this
    exact this
  have hplt : e.platform.magicAccessors = ({} : Platform).magicAccessors := by rw [Xs.admits.platform]
  obtain ⟨mk, methM, cM, kP, vm₁, hnamed, hmethM, hcodeM, -, hlocalsM, -, hkP, -, hW₁, hstep₁⟩ := Steps.initColdArgs (e := e) Xs.here hx Xs.warmed hplt hown hnm (am_plain_spec hpl).2 (G.word hW hl rfl) (G.word hW hi rfl) hcode (f := F0 m pc ls (As.reverse ++ .ref b :: rest)) rfl (argsL := As) (fun sig h => hn.trans (am_nP_spec hnp h)) rfl (by rw [hb]; exact hd)
  have X₁ := Xs.noted hW₁
  exact ⟨vm₁, mk, X₁, X₁.named hnamed, fun target h => hstep₁ _ fun acts => by rw [doInvoke_state]; exact h⟩
theorem am_inv_static {k n y : Nat} {As : List Value} (G : am_G l s0 a0 D cT X) (hW : s0.WarmedH s.vm) (hx : p.tables.exec = Jvm.exec) (hb : c.code = am_b t) (hown : s.vm.findClass (cN (am_own t)) = some m.cls) (hv : am_sc (am_own t) k = some (y, n)) (hn : As.length = n) (hd : decode (am_b t) pc = .ok (.invokestatic k, 3)) :
    am_Inv p l e R s m args below meth c H locs cells slots (F0 m pc ls (As.reverse ++ rest)) rest (am_y y) As := by
  intro T hT Xs
  obtain ⟨hl, hst, hy, hnp⟩ := am_sc_spec hv
  obtain ⟨hw, -, -, hpl, hini⟩ := am_m_spec hy
  have hword : (am_w y).before args s = true := G.word hW hw (am_w_good y)
  obtain ⟨mk, methM, hnamed, hmethM⟩ : ∃ mk methM, s.methodNamed? (am_y y) = some mk ∧ s.vm.method? mk = some methM := by
    unfold am_w at hword
    split at hword
    · obtain ⟨mk, hnamed⟩ := Cond.code_named hword
      obtain ⟨methM, cM, hmethM, -⟩ := Cond.code_spec hnamed hword
      exact ⟨mk, methM, hnamed, hmethM⟩
    · obtain ⟨mk, methM, cM, hnamed, hmethM, -⟩ := Cond.codeWith_spec hword
      exact ⟨mk, methM, hnamed, hmethM⟩
  have hsig := am_w_sig hnamed hmethM hword
  have hstatic : methM.isStatic = true := Cond.static_spec hnamed hmethM (G.word (args := args) hW hst rfl)
  obtain ⟨kP, hkP, -⟩ := className_of_methodNamed hnamed
  have hinitP : kP.init = .initialized := Cond.initialized_spec (findClass_of_methodNamed hnamed) hkP (G.word (args := args) hW hini rfl)
  obtain ⟨vm₁, X₁, hstep₁⟩ := Xs.invokestatic hx hown (G.word hW hl rfl) hnamed hmethM hstatic hkP hinitP (am_plain_spec hpl).2 (g := F0 m pc ls (As.reverse ++ rest)) rfl (argsL := As) (rest := rest) (hn.trans (am_nP_spec hnp hsig)) rfl (by rw [hb]; exact hd)
  exact ⟨vm₁, mk, X₁, X₁.named hnamed, fun target h => hstep₁ _ fun acts => by rw [doInvoke_state]; exact h⟩
theorem am_sub_cast {ca cb : ClassId} {ka kb : Class} (h : s.vm.assignable ca cb = true) (ha : s.vm.classes[ca]? = some ka) (hb : s.vm.classes[cb]? = some kb) (hka : ka.kind = .ordinary) (hkb : kb.kind = .ordinary) (hni : kb.isInterface = false) : s.vm.isSubclass ca cb = true := by
  unfold Vm.assignable at h
  rw [show (256 : Nat) = 255 + 1 from rfl] at h
  unfold Vm.assignableAux at h
  simp only [ha, hb, hka, hkb, hni, Bool.or_eq_true, beq_iff_eq] at h
  rcases h with rfl | h
  · simp [Vm.isSubclass, Vm.isSubclassAux]
  · simpa using h
theorem am_inv_super {k ci n y b : Nat} {fs As : List Value} (G : am_G l s0 a0 D cT X) (hW : s0.WarmedH s.vm) (hx : p.tables.exec = Jvm.exec) (hb : c.code = am_b t) (hown : s.vm.findClass (cN (am_own t)) = some m.cls) (hH : am_HR s0 D cT σ H) (ha : σ.1 b = some (.inr (ci, fs))) (hv : am_uc (am_own t) k = some (y, n)) (hn : As.length = n) (hd : decode (am_b t) pc = .ok (.invokespecial k, 3)) :
    am_Inv p l e R s m args below meth c H locs cells slots (F0 m pc ls (As.reverse ++ .ref b :: rest)) rest (am_y y) (.ref b :: As) := by
  intro T hT Xs
  obtain ⟨x, hl, hsm, hsup, hy, hnp, hi, hno, hnm, hdesc, hcls⟩ := am_uc_spec hv
  obtain ⟨hlt, cell, h1, h2, h3, kC, hkC⟩ := am_recv G hW hH ha
  have hinst : (Cond.instanceMethod (am_y y)).before args s = true := G.word hW hi rfl
  have hsame : (Cond.sameMethod x.cls (am_y y).cls x.name x.desc).before args s = true := G.word hW hsm rfl
  obtain ⟨mk, methM, hnamed, hmethM, hstM, habM⟩ := Cond.instanceMethod_spec hinst
  obtain ⟨ps, dk, kp, hps, hdk, hkp, hsuper, -, -, hnid⟩ := Cond.superclass_spec hown (G.word (args := args) hW hsup rfl)
  have hn0 : s.methodNamed? ⟨(am_y y).cls, x.name, x.desc⟩ = some mk := by rw [← hnm, ← hdesc]; exact hnamed
  have hsig := am_w_sig hnamed hmethM (G.word (args := args) hW (am_m_spec hy).1 (am_w_good y))
  have hsub : s.vm.isSubclass ps mk.cls = true := by
    rcases hcls with hc | ⟨hc1, hc2⟩
    · have hpm : ps = mk.cls := Option.some.inj (hps.symm.trans (by rw [hc]; exact findClass_of_methodNamed hnamed))
      rw [hpm]; simp [Vm.isSubclass, Vm.isSubclassAux]
    · have hfb := findClass_of_methodNamed hnamed
      rw [hc2] at hfb
      rw [hc1] at hps
      obtain ⟨q9, hq9, -, -, hn9, -⟩ := am_cl_get (ci := 9) (by decide)
      obtain ⟨q6, hq6, -, -, hn6, -⟩ := am_cl_get (ci := 6) (by decide)
      obtain ⟨f9, k9, hk9, kd9⟩ := ((G.K hW).1 9 q9 hq9).2
      obtain ⟨f6, k6, hk6, kd6⟩ := ((G.K hW).1 6 q6 hq6).2
      rw [hn9] at f9
      rw [hn6] at f6
      have ep : ps = D.1 9 := Option.some.inj (hps.symm.trans f9)
      have em : mk.cls = D.1 6 := Option.some.inj (hfb.symm.trans f6)
      rw [ep, em]
      have hcst := am_box_cast (ci := 9) (by decide) (by decide) G hW hq9 f6
      have hni6 : k6.isInterface = false := by
        obtain ⟨kP, hkP, -⟩ := className_of_methodNamed hnamed
        obtain ⟨cn, ck, r1, hcn, hck, hni, hf, hn1⟩ := Cond.sameMethod_found (args := args) (s := s) (G.word hW (show Cond.sameMethod "BoxSearch$Box" "BoxSearch$Box" "heft" "()I" ∈ tables_1 by decide +kernel) rfl)
        cases hcn.symm.trans f6
        cases hck.symm.trans hk6
        exact hni
      exact am_sub_cast hcst hk9 hk6 kd9 kd6 hni6
  obtain ⟨vm₁, X₁, hstep₁⟩ := Xs.invokespecialUp hx hown (G.word hW hl rfl) hsame hn0 hmethM hstM habM hno hdk hnid hps hsuper hsub (a := b) (cell := cell) (by rw [hT]; exact h1)
    (fun z h => by rw [h] at h2; cases h2) hkC (g := F0 m pc ls (As.reverse ++ .ref b :: rest)) rfl (argsL := As) (rest := rest) (hn.trans (am_nP_spec hnp hsig)) rfl (by rw [hb]; exact hd)
  exact ⟨vm₁, mk, X₁, X₁.named hnamed, fun target h => hstep₁ _ (by rw [doInvoke_state]; exact h)⟩
end AMV
