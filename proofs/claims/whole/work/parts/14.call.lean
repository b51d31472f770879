/-! calls: what the tables say -/
def am_sOk (q : Nat × Nat × Nat × Nat × Nat × Nat) : Bool := (decide (tables_1[q.2.2.2.2.1]? = some (.methodLink (cN q.1) q.2.1 (am_y q.2.2.1))) && decide (tables_1[q.2.2.2.2.2]? = some (.static (am_y q.2.2.1)))) && (decide (q.2.2.1 < 281) && decide (am_nP (am_y q.2.2.1).desc = some q.2.2.2.1))
theorem am_sT_ok : am_sT.all am_sOk = true := by decide +kernel
theorem am_sc_spec {own k y n : Nat} (h : am_sc own k = some (y, n)) : Cond.methodLink (cN own) k (am_y y) ∈ tables_1 ∧ Cond.static (am_y y) ∈ tables_1 ∧ y < 281 ∧ am_nP (am_y y).desc = some n := by
  obtain ⟨q, hq, e⟩ := Option.map_eq_some_iff.mp h
  obtain ⟨h1, h2⟩ := am_find hq
  have h3 := am_allOk am_sT_ok h1
  simp only [Bool.and_eq_true, beq_iff_eq] at h2
  obtain ⟨e1, e2⟩ := h2
  simp only [Prod.mk.injEq] at e
  unfold am_sOk at h3
  rw [e1, e2, e.1, e.2] at h3
  simp only [Bool.and_eq_true, decide_eq_true_eq] at h3
  exact ⟨List.mem_of_getElem? h3.1.1, List.mem_of_getElem? h3.1.2, h3.2.1, h3.2.2⟩
def am_iOk (q : Nat × Nat × Nat × Nat × Nat × Nat) : Bool := ((decide (tables_1[q.2.2.2.2.1]? = some (.methodLink (cN q.1) q.2.1 (am_y q.2.2.1))) && decide (tables_1[q.2.2.2.2.2]? = some (.instanceMethod (am_y q.2.2.1)))) && (decide (q.2.2.1 < 281) && decide (am_nP (am_y q.2.2.1).desc = some q.2.2.2.1))) && ((decide ((am_y q.2.2.1).name = "<init>") && decide (am_ret q.2.2.1 = none)) && decide (am_hh q.2.2.1 = []))
theorem am_iT_ok : am_iT.all am_iOk = true := by decide +kernel
theorem am_ic_spec {own k y n : Nat} (h : am_ic own k = some (y, n)) : Cond.methodLink (cN own) k (am_y y) ∈ tables_1 ∧ Cond.instanceMethod (am_y y) ∈ tables_1 ∧ y < 281 ∧ am_nP (am_y y).desc = some n ∧ (am_y y).name = "<init>" ∧ am_ret y = none ∧ am_hh y = [] := by
  obtain ⟨q, hq, e⟩ := Option.map_eq_some_iff.mp h
  obtain ⟨h1, h2⟩ := am_find hq
  have h3 := am_allOk am_iT_ok h1
  simp only [Bool.and_eq_true, beq_iff_eq] at h2
  obtain ⟨e1, e2⟩ := h2
  simp only [Prod.mk.injEq] at e
  unfold am_iOk at h3
  rw [e1, e2, e.1, e.2] at h3
  simp only [Bool.and_eq_true, decide_eq_true_eq] at h3
  exact ⟨List.mem_of_getElem? h3.1.1.1, List.mem_of_getElem? h3.1.1.2, h3.1.2.1, h3.1.2.2, h3.2.1.1, h3.2.1.2, h3.2.2⟩
/-! contracts -/
def am_RS (s0 : State) (D : va_G) (cT : FieldType → ClassId) (σ : am_S) (U : State) : Prop := s0.WarmedH U.vm ∧ am_HR s0 D cT σ U.heap
def am_Qc (s0 : State) (D : va_G) (cT : FieldType → ClassId) (r : am_R) (σ' : am_S) : Array Value → State → Outcome → State → Prop := fun _ _ o u => ∃ v, r = .inl v ∧ o = .returned v ∧ am_RS s0 D cT σ' u
def am_Xc (s0 : State) (D : va_G) (cT : FieldType → ClassId) (r : am_R) (σ' : am_S) : String → State → State → Prop := fun E _ u => ∃ k, r = .inr k ∧ E = cN k ∧ am_RS s0 D cT σ' u
def am_rm (d : Nat) (σ σ' : am_S) : Room := { frames := d + 8, cells := σ'.2.1 - σ.2.1, slots := σ'.2.2 - σ.2.2, locals := 64 * d + 512 }
def am_Ct (l : Launch) (s0 : State) (D : va_G) (cT : FieldType → ClassId) (d y : Nat) (args : List Value) (σ : am_S) (r : am_R) (σ' : am_S) : Prop :=
  vx_Met l (am_y y) [am_w y] (am_rm d σ σ') (va_Pc args (am_RS s0 D cT σ)) (am_Qc s0 D cT r σ') (am_Xc s0 D cT r σ') (σ'.2.1 - σ.2.1) (σ'.2.2 - σ.2.2) (fun q => s0.heap.size ≤ q)
theorem am_blind {s0 : State} {D : va_G} {cT : FieldType → ClassId} {σ : am_S} {as : List Value} : FrameBlind (va_Pc as (am_RS s0 D cT σ)) := fun _ _ _ _ h => ⟨h.1, h.2.1, h.2.2⟩
theorem am_w_good (y : Nat) : goodWord (am_w y) = true := by
  unfold am_w
  split <;> rfl
theorem am_w_sig {s : State} {args : Array Value} {y : Nat} {mk : MethodId} {meth : Method} (hn : s.methodNamed? (am_y y) = some mk) (hm : s.vm.method? mk = some meth) (hw : (am_w y).before args s = true) : parseMethodDescriptor (am_y y).desc = some meth.sig := by
  unfold am_w at hw
  split at hw
  · obtain ⟨meth', cM, hm', -, -, -, -, -, -, hsig⟩ := Cond.code_spec hn hw
    cases hm.symm.trans hm'
    exact hsig
  · obtain ⟨mk', meth', cM, hn', hm', -, -, -, -, -, -, hsig⟩ := Cond.codeWith_spec hw
    cases hn.symm.trans hn'
    cases hm.symm.trans hm'
    exact hsig
theorem am_nP_spec {d : String} {n : Nat} {sig : MethodDescriptor} (h : am_nP d = some n) (hs : parseMethodDescriptor d = some sig) : n = sig.parameters.length := by
  unfold am_nP at h
  rw [hs] at h
  exact (Option.some.inj h).symm
section AMC
variable {p : Program} {l : Launch} {e : Env} {R : Room} {s s0 : State} {m : MethodId} {args a0 : Array Value} {below : List Frame} {meth : Method} {c : Code} {H : Heap} {locs : List Loc} {cells slots : Nat} {Q : State → Prop}
variable {D : va_G} {cT : FieldType → ClassId} {X : am_X} {t pc nx tg : Nat} {σ σ' : am_S} {ls : Array Slot} {rest : List Value}
/-- the invoking instruction has done its part -/
def am_Inv (p : Program) (l : Launch) (e : Env) (R : Room) (s : State) (m : MethodId) (args : Array Value) (below : List Frame) (meth : Method) (c : Code) (H : Heap) (locs : List Loc) (cells slots : Nat) (g : JFrame) (rest : List Value) (y : MethodName) (a : List Value) : Prop :=
  ∀ T : State, T.heap = H → Stand p l e R s m args below meth c T locs cells slots → ∃ (vm₁ : Vm) (mk : MethodId), Stand p l e R s m args below meth c (T.setVm vm₁) locs cells slots ∧ (T.setVm vm₁).methodNamed? y = some mk ∧
    ∀ target, Steps p.tables e below (doInvoke e ((T.setVm vm₁).setTop { g with stack := rest }) [] mk a.toArray).1 target → Steps p.tables e below (T.setTop g) target
set_option maxRecDepth 100000 in
theorem am_num {d a L : Nat} (h1 : a ≤ 32) (h2 : 64 * d + 576 ≤ L) : 16 + (a + 11) + (64 * d + 512) ≤ L := by omega
theorem am_back {d y : Nat} {as : List Value} {r : am_R} (G : am_G l s0 a0 D cT X) (hW : s0.WarmedH s.vm) (hy : y < 281) (hM : am_Ct l s0 D cT d y as σ r σ') (hf : d + 9 ≤ R.frames) (hl : 64 * d + 576 ≤ R.locals) :
    vx_Back l R p e below s args (am_y y) 3 16 (PreOf R (σ'.2.1 - σ.2.1) (σ'.2.2 - σ.2.2) (va_Pc as (am_RS s0 D cT σ))) (PostOf (am_Qc s0 D cT r σ') (σ'.2.1 - σ.2.1) (σ'.2.2 - σ.2.2) (fun q => s0.heap.size ≤ q)) (vx_Post (am_Xc s0 D cT r σ') (σ'.2.1 - σ.2.1) (σ'.2.2 - σ.2.2) (fun q => s0.heap.size ≤ q)) := by
  obtain ⟨h1, h2, h3, h4, h5⟩ := am_m_spec hy
  have hws : ∀ w ∈ [am_w y], ∀ a' U, s.WarmedH U.vm → w.before a' U = true := fun w hw a' U hU => by
    rw [List.mem_singleton.mp hw]
    exact G.word (State.WarmedH.trans hW hU) h1 (am_w_good y)
  have hini : ∀ a' U, s.WarmedH U.vm → (Cond.initialized (am_y y).cls).before a' U = true := fun a' U hU => G.word (State.WarmedH.trans hW hU) h5 rfl
  have e4 := am_num h2 hl
  by_cases hh : am_hh y = []
  · exact vx_back (bytes := am_b y) (maxL := am_ml y) (ret := am_ret y) hM am_blind rfl rfl hf e4 hws (by unfold am_w; rw [if_pos hh]; exact List.mem_singleton.mpr rfl) hini
  · exact vx_backW (bytes := am_b y) (maxL := am_ml y) (ret := am_ret y) (hh := am_hh y) hM am_blind rfl rfl hf e4 hws (by unfold am_w; rw [if_neg hh]; exact List.mem_singleton.mpr rfl) hini
theorem am_wt (st : List Value) (h : st.length ≤ 8) : 2 * (F0 m pc ls rest).monitorRoom + (st.map fun v => v.category).sum ≤ 16 := by
  have key : ∀ st : List Value, (st.map fun v => v.category).sum ≤ 2 * st.length := by
    intro st
    induction st with
    | nil => simp
    | cons v r ih =>
      simp only [List.map_cons, List.sum_cons, List.length_cons]
      rcases lv_cat v with q | q <;> omega
  have := key st
  show 2 * 0 + _ ≤ 16
  omega
/-- a call: returns, or throws -/
theorem am_called {d y : Nat} {as : List Value} {st : List Value} {r : am_R} {ig : Instr} (G : am_G l s0 a0 D cT X) (hW : s0.WarmedH s.vm) (hb : c.code = am_b t) (hy : y < 281) (hM : am_Ct l s0 D cT d y as σ r σ') (hf : d + 9 ≤ R.frames) (hl : 64 * d + 576 ≤ R.locals) (hH : am_HR s0 D cT σ H) (hloc : ∀ z ∈ locs, s0.heap.size ≤ z.base) (hsz : ls.size = c.maxLocals) (hrest : rest.length ≤ 8)
    (hR : cells + (σ'.2.1 - σ.2.1) ≤ R.cells) (hR2 : slots + (σ'.2.2 - σ.2.2) ≤ R.slots) (hd : decode (am_b t) pc = .ok (ig, 3))
    (hI : am_Inv p l e R s m args below meth c H locs cells slots (F0 m pc ls st) rest (am_y y) as)
    (kk : ∀ (v : Option Value), r = .inl v → ∀ (H1 : Heap) (locs1 : List Loc), am_HR s0 D cT σ' H1 → (∀ z ∈ locs1, s0.heap.size ≤ z.base) → W p l e R s m args below meth c H1 locs1 (cells + (σ'.2.1 - σ.2.1)) (slots + (σ'.2.2 - σ.2.2)) Q (F0 m (pc + 3) ls (v.toList ++ rest)))
    (kx : ∀ k : Nat, r = .inr k → ∀ (H1 : Heap) (locs1 : List Loc) (q : Addr) (ce : Cell), am_HR s0 D cT σ' H1 → (∀ z ∈ locs1, s0.heap.size ≤ z.base) → H1[q]? = some ce → ce.vm = .none → s.vm.findClass (cN k) = some ce.cls → vx_W p l e R s m args below meth c H1 locs1 (cells + (σ'.2.1 - σ.2.1)) (slots + (σ'.2.2 - σ.2.2)) Q (F0 m pc ls rest) q) :
    W p l e R s m args below meth c H locs cells slots Q (F0 m pc ls st) := by
  intro T hT Xs
  obtain ⟨vm₁, mk, X₁, hn, hstep⟩ := hI T hT Xs
  have hlocs : ∀ L : List Loc, (∀ z ∈ L, s0.heap.size ≤ z.base) → ∀ z ∈ locs ++ L, s0.heap.size ≤ z.base := fun L hL z hz => by
    rcases List.mem_append.mp hz with h | h
    · exact hloc z h
    · exact hL z h
  rcases am_back (args := args) (p := p) (e := e) (below := below) G hW hy hM hf hl m meth c ⟨T.setVm vm₁, locs, cells, slots⟩ { F0 m pc ls st with stack := rest } ig mk as.toArray X₁ rfl hsz (by rw [hb]; exact hd) (am_wt rest hrest) hn
    ⟨hR, hR2, rfl, State.WarmedH.trans hW X₁.warmed, by show am_HR s0 D cT σ T.heap; rw [hT]; exact hH⟩ with ⟨v, ⟨U', l2, c2, s2⟩, X', ⟨g', mk', u, L, e1, e2, ⟨v', hr, ho, hq⟩, h1, hL, h2, h3⟩, st2⟩ | ⟨q, ⟨U', l2, c2, s2⟩, X', ⟨g', mk', u, L, E, ce, e1, e2, ⟨k, hr, rfl, hq⟩, hce, hcv, hcl, h1, hL, h2, h3⟩, st2⟩
  · dsimp only [Pt.U, Pt.locs, Pt.cells, Pt.slots] at X' e1 e2 h1 h2 h3 st2
    subst h1; subst h2; subst h3
    cases ho
    obtain ⟨t2, a1, b1⟩ := kk v hr u.heap (locs ++ L) hq.2 (hlocs L hL) U' e1 X'
    exact ⟨t2, hstep _ (st2.trans a1), b1⟩
  · dsimp only [Pt.U, Pt.locs, Pt.cells, Pt.slots] at X' e1 e2 h1 h2 h3 st2 hcl
    subst h1; subst h2; subst h3
    have hcl' : s.vm.findClass (cN k) = some ce.cls := by
      rw [X₁.warmed.alike.findClass] at hcl
      exact hcl
    obtain ⟨t2, a1, b1⟩ := kx k hr u.heap (locs ++ L) q ce hq.2 (hlocs L hL) hce hcv hcl' U' e1 X'
    exact ⟨t2, hstep _ (st2.trans a1), b1⟩
end AMC
