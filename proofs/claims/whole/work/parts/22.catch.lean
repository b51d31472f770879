/-! a throw of a callee, caught by the method's own table: the classes of the rows are linked as the search goes -/
section AMH
variable {e : Env} {s : State} {args : Array Value}
/-- one row that is met: it resolves its class, and takes the object or passes it -/
theorem am_row_met {S : State} {f : JFrame} {a : Addr} {x : ExceptionTableEntry} {t : List ExceptionTableEntry} {c : ClassId} {cell : Cell} (hx : covers x f.pc = true) (h0 : x.catchType ≠ 0) (hl : S.vm.ClassLinks e.platform f.method.cls x.catchType c) (hcell : S.heap[a]? = some cell) (hobj : ∀ k, cell.vm ≠ .statics k) (hk : ∃ k, S.vm.classes[cell.cls]? = some k) (hc : ∃ k, S.vm.classes[c]? = some k)
    (Q : Handler → Pre) (E : CtlPost) (d : Bool) (acts : List Action) :
    wp (findHandler.go f a (x :: t)) Q E e d acts S ↔ if S.vm.assignable cell.cls c = true then Q (.found x.handlerPc) d acts (S.setVm (S.vm.noted f.method.cls x.catchType (.cls c))) else wp (findHandler.go f a t) Q E e d acts (S.setVm (S.vm.noted f.method.cls x.catchType (.cls c))) := by
  simp only [covers] at hx
  obtain ⟨ha, ht⟩ := (resolveClass_links e.toSetting hl).op (op := VmOp.resolveClass f.method.cls x.catchType) rfl
  have hal : S.vm.Alike (S.vm.noted f.method.cls x.catchType (.cls c)) := (Vm.Alike.refl S.vm).noted _ _ _
  obtain ⟨k1, hk1⟩ := hk
  obtain ⟨k2, hk2⟩ := hc
  obtain ⟨k1', hk1', -⟩ := hal.2.2 _ _ hk1
  obtain ⟨k2', hk2', -⟩ := hal.2.2 _ _ hk2
  have has := hal.assignable cell.cls c
  cases hfit : S.vm.assignable cell.cls c with
  | true =>
    rw [hfit] at has
    simp [findHandler.go, hx, h0, ha, ht, hcell, hobj, hk1', hk2', has, VmOp.dirties, VmOp.acts]
  | false =>
    rw [hfit] at has
    simp [findHandler.go, hx, h0, ha, ht, hcell, hobj, hk1', hk2', has, VmOp.dirties, VmOp.acts]
/-- what one row of a table links to, and whether it takes an object of the class thrown -/
def am_rowK (pl : Platform) (s : State) (own : ClassId) (thrown : ClassId) (b : Bool) (ct : Nat) : Prop := ct ≠ 0 ∧ ∃ c, s.vm.ClassLinks pl own ct c ∧ s.vm.assignable thrown c = b
/-- the search through a table -/
theorem am_search {f : JFrame} {a : Addr} {cell : Cell} {sel : Nat → Bool} (hobj : ∀ k, cell.vm ≠ .statics k) (hk0 : ∃ k, s.vm.classes[cell.cls]? = some k) : ∀ (L : List (Nat × Nat × Nat × Nat)) (q : Nat × Nat × Nat × Nat), (∀ z ∈ L, am_rowK e.platform s f.method.cls cell.cls (sel z.2.2.2) z.2.2.2) → L.find? (fun z => (decide (z.1 ≤ f.pc) && decide (f.pc < z.2.1)) && sel z.2.2.2) = some q →
    ∀ S : State, s.WarmedH S.vm → S.heap[a]? = some cell → ∃ vm', s.WarmedH vm' ∧ ∀ (Q : Handler → Pre) (E : CtlPost) (d : Bool) (acts : List Action), wp (findHandler.go f a (tableOf L)) Q E e d acts S ↔ Q (.found q.2.2.1) d acts (S.setVm vm')
  | [], q, _, h, S, _, _ => by cases h
  | z :: L, q, hr, h, S, hW, hcell => by
    obtain ⟨k0, hk0'⟩ := hk0
    obtain ⟨k1, hk1, -⟩ := hW.alike.2.2 _ _ hk0'
    have hrest : ∀ y ∈ L, am_rowK e.platform s f.method.cls cell.cls (sel y.2.2.2) y.2.2.2 := fun y hy => hr y (List.mem_cons_of_mem _ hy)
    have htab : tableOf (z :: L) = ⟨z.1, z.2.1, z.2.2.1, z.2.2.2⟩ :: tableOf L := rfl
    rw [List.find?_cons] at h
    cases hcov : (decide (z.1 ≤ f.pc) && decide (f.pc < z.2.1)) with
    | false =>
      simp only [hcov, Bool.false_and] at h
      obtain ⟨vm', hW', hq⟩ := am_search (sel := sel) hobj ⟨k0, hk0'⟩ L q hrest h S hW hcell
      exact ⟨vm', hW', fun Q E d acts => by rw [htab, W.findHandler_go_skip hcov]; exact hq Q E d acts⟩
    | true =>
      obtain ⟨h0, c, hl, hfit⟩ := hr z List.mem_cons_self
      obtain ⟨dk, _, _, kt, hd, _, _, _, _, hkt, _, hopen⟩ := hl.here
      obtain ⟨kt', hkt', -⟩ := hW.alike.2.2 _ _ hkt
      have hstep := fun Q E d acts => am_row_met (e := e) (S := S) (f := f) (a := a) (x := ⟨z.1, z.2.1, z.2.2.1, z.2.2.2⟩) (t := tableOf L) hcov h0 (hW.classLinks hl) hcell hobj ⟨k1, hk1⟩ ⟨kt', hkt'⟩ Q E d acts
      have hW2 := hW.noted hd hopen (State.rightAt_cls hl)
      have hfit' : S.vm.assignable cell.cls c = sel z.2.2.2 := by rw [hW.alike.assignable]; exact hfit
      cases hsel : sel z.2.2.2 with
      | true =>
        simp only [hcov, hsel, Bool.and_true] at h
        cases h
        rw [hsel] at hfit'
        exact ⟨_, hW2, fun Q E d acts => by rw [htab, hstep, if_pos hfit']⟩
      | false =>
        simp only [hcov, hsel, Bool.and_false] at h
        rw [hsel] at hfit'
        obtain ⟨vm', hW', hq⟩ := am_search (sel := sel) hobj ⟨k0, hk0'⟩ L q hrest h (S.setVm (S.vm.noted f.method.cls z.2.2.2 (.cls c))) hW2 hcell
        exact ⟨vm', hW', fun Q E d acts => by
          rw [htab, hstep, if_neg (by rw [hfit']; simp)]
          exact hq Q E d acts⟩
theorem am_frames2 (u : State) (vm' : Vm) (F G : List Frame) : ((u.setFrames F).setVm vm').setFrames G = (u.setVm vm').setFrames G := by
  rw [show (u.setFrames F).setVm vm' = (u.setVm vm').setFrames F from rfl, State.setFrames_setFrames]
/-- into the handler that the search finds -/
theorem am_into {tb : Tables} {S target : State} {g : JFrame} {c : Code} {meth : Method} {below : List Frame} {a : Addr} {h : Nat} {vm' : Vm} (hat : At S g.method c below) (hm : S.vm.method? g.method = some meth) (hc : meth.code = some c)
    (hgo : ∀ (Q : Handler → Pre) (E : CtlPost) (d : Bool) (acts : List Action), wp (findHandler.go g a c.exceptionTable.toList) Q E e d acts ((S.setTop g).pushFrame (.throwing a)) ↔ Q (.found h) d acts (((S.setTop g).pushFrame (.throwing a)).setVm vm'))
    (hrest : Steps tb e below ((S.setVm vm').setTop { g with pc := h, stack := [.ref a] }) target) : Steps tb e below ((S.setTop g).pushFrame (.throwing a)) target := by
  have hfind : ∀ (Q : Handler → Pre) (E : CtlPost) (d : Bool) (acts : List Action), wp (findHandler g a) Q E e d acts ((S.setTop g).pushFrame (.throwing a)) ↔ Q (.found h) d acts (((S.setTop g).pushFrame (.throwing a)).setVm vm') := fun Q E d acts => by
    rw [W.findHandler_eq (s := (S.setTop g).pushFrame (.throwing a)) (meth := meth) (code := c) hm hc]
    exact hgo Q E d acts
  have hthrow : ∀ r : List Frame, (stepThrowing e ((S.setTop g).pushFrame (.throwing a)) a (.java g :: r)).Is ((((S.setTop g).pushFrame (.throwing a)).setVm vm').setFrames (.java { g with pc := h, stack := [.ref a] } :: r)) [] := by
    intro r
    simp only [stepThrowing, searchFrame, vmDo]
    generalize hr : Sem.go _ e false [] ((S.setTop g).pushFrame (.throwing a)) = res
    obtain ⟨as, rfl, ha⟩ := Sem.eq_ok_of hr (a := Handler.found h) (s' := ((S.setTop g).pushFrame (.throwing a)).setVm vm') (acts' := []) (by simp [hfind _ _ _ _])
    exact ⟨rfl, ha⟩
  obtain ⟨hg1, hw⟩ := hat.throwing a
  refine Steps.head hg1 hw ?_
  rw [stepThread_throwing (frames_entered hat.top _), (hthrow _).1]
  obtain ⟨g₀, hg⟩ := Option.isSome_iff_exists.mp hat.top
  obtain ⟨r, hr⟩ := State.topJava?_eq_some.mp hg
  have hr' : (S.setVm vm').frames = .java g₀ :: r := hr
  rw [State.setTop_of_frames _ hr'] at hrest
  rw [hr, List.tail_cons, State.pushFrame, am_frames2, State.setTop_of_frames _ hr, am_frames2]
  exact hrest
end AMH
def am_ISE : String := "java/lang/IllegalStateException"
def am_IAE : String := "java/lang/IllegalArgumentException"
/-- neither of the two classes is the other's -/
def am_NE (s0 : State) : Prop := va_Nc am_ISE am_IAE s0 ∧ va_Nc am_IAE am_ISE s0
def am_hhOk (t : Nat) : Bool := (am_hh t).all (fun q => decide (q.2.2.2 ≠ 0) && (am_kk (am_own t) q.2.2.2 == some 16 || am_kk (am_own t) q.2.2.2 == some 17))
theorem am_hhOk_all : (List.range 282).all am_hhOk = true := by decide +kernel
theorem am_hh_spec {t : Nat} {q : Nat × Nat × Nat × Nat} (h : q ∈ am_hh t) : q.2.2.2 ≠ 0 ∧ (am_kk (am_own t) q.2.2.2 = some 16 ∨ am_kk (am_own t) q.2.2.2 = some 17) := by
  have ht : t < 282 := by
    rcases Nat.lt_or_ge t 282 with h1 | h1
    · exact h1
    · exfalso
      have hl : am_mt.length = 282 := by decide +kernel
      have : am_mt[t]? = none := List.getElem?_eq_none (by omega)
      unfold am_hh at h
      rw [this] at h
      cases h
  have := List.all_eq_true.mp (List.all_eq_true.mp am_hhOk_all t (List.mem_range.mpr ht)) q h
  simpa using this
theorem am_cast16 : Cond.castable (cN 16) (cN 16) ∈ lw_tbl := by decide +kernel
theorem am_cast17 : Cond.castable (cN 17) (cN 17) ∈ lw_tbl := by decide +kernel
section AMK
variable {p : Program} {l : Launch} {e : Env} {R : Room} {s s0 : State} {m : MethodId} {args a0 : Array Value} {below : List Frame} {meth : Method} {c : Code} {Q : State → Prop}
variable {D : va_G} {cT : FieldType → ClassId} {X : am_X} {t d : Nat}
theorem am_cast_ok (G : am_G l s0 a0 D cT X) (N : am_NE s0) (hW : s0.WarmedH s.vm) {i j : Nat} (hi : i = 16 ∨ i = 17) (hj : j = 16 ∨ j = 17) {ci cj : ClassId} (h1 : s.vm.findClass (cN i) = some ci) (h2 : s.vm.findClass (cN j) = some cj) : s.vm.assignable ci cj = decide (i = j) := by
  have hA : ∀ C : String, Cond.castable C C ∈ lw_tbl → ∀ x y : ClassId, s.vm.findClass C = some x → s.vm.findClass C = some y → s.vm.assignable x y = true := by
    intro C hC x y hx hy
    obtain ⟨c1, c2, g1, g2, g3⟩ := Cond.castable_spec (G.wordA (args := #[]) hW hC rfl)
    cases Option.some.inj (g1.symm.trans hx)
    cases Option.some.inj (g2.symm.trans hy)
    exact g3
  have hB : ∀ C C' : String, va_Nc C C' s0 → ∀ x y : ClassId, s.vm.findClass C = some x → s.vm.findClass C' = some y → s.vm.assignable x y = false := by
    intro C C' hN x y hx hy
    obtain ⟨c1, c2, g1, g2, g3⟩ := va_Nc.moved hW.alike hN
    cases Option.some.inj (g1.symm.trans hx)
    cases Option.some.inj (g2.symm.trans hy)
    exact g3
  rcases hi with rfl | rfl <;> rcases hj with rfl | rfl
  · exact hA _ am_cast16 _ _ h1 h2
  · exact hB _ _ N.1 _ _ h1 h2
  · exact hB _ _ N.2 _ _ h1 h2
  · exact hA _ am_cast17 _ _ h1 h2
theorem am_cat_ok (C : am_Cx p l e R s m meth c s0 a0 D cT X t d) (N : am_NE s0) (htb : c.exceptionTable.toList = tableOf (am_hh t)) : am_CatOK p l e R s m args below meth c t Q := by
  intro k h pc H locs cells slots ls rest q ce hd hce hcv hcl kk T hT Xs
  obtain ⟨G, hW, hx, hb, hml, hown, hini, hf, hl⟩ := C
  obtain ⟨z, hz, rfl⟩ := Option.map_eq_some_iff.mp hd
  have hzm := List.mem_of_find?_eq_some hz
  have hzp := List.find?_some hz
  simp only [Bool.and_eq_true, beq_iff_eq] at hzp
  have hk : k = 16 ∨ k = 17 := by
    rcases (am_hh_spec hzm).2 with h1 | h1
    · exact Or.inl (Option.some.inj (hzp.2.symm.trans h1))
    · exact Or.inr (Option.some.inj (hzp.2.symm.trans h1))
  have hpl : e.platform.magicAccessors = ({} : Platform).magicAccessors := by rw [Xs.admits.platform]
  have hrows : ∀ y ∈ am_hh t, am_rowK e.platform s m.cls ce.cls (am_kk (am_own t) y.2.2.2 == some k) y.2.2.2 := by
    intro y hy
    obtain ⟨y0, yk⟩ := am_hh_spec hy
    have key : ∀ j : Nat, (j = 16 ∨ j = 17) → am_kk (am_own t) y.2.2.2 = some j → am_rowK e.platform s m.cls ce.cls (am_kk (am_own t) y.2.2.2 == some k) y.2.2.2 := by
      intro j hj hkj
      obtain ⟨c5, hc5, hcl5⟩ := Cond.classLink_spec hown (G.word (args := args) hW (am_kk_spec hkj) rfl) e.platform hpl
      refine ⟨y0, c5, hcl5, ?_⟩
      rw [am_cast_ok G N hW hk hj hcl hc5, hkj]
      by_cases hkj' : k = j
      · subst hkj'; simp
      · simp [hkj', Ne.symm hkj']
    rcases yk with h1 | h1
    · exact key 16 (Or.inl rfl) h1
    · exact key 17 (Or.inr rfl) h1
  have hk0 : ∃ k9, s.vm.classes[ce.cls]? = some k9 := by obtain ⟨k9, h9, -⟩ := Vm.findClass_spec hcl; exact ⟨k9, h9⟩
  obtain ⟨vm', hW', hq⟩ := am_search (e := e) (s := s) (f := F0 m pc ls rest) (a := q) (cell := ce) (sel := fun ct => am_kk (am_own t) ct == some k) (fun k9 h9 => by rw [hcv] at h9; cases h9) hk0 (am_hh t) z hrows hz ((T.setTop (F0 m pc ls rest)).pushFrame (.throwing q)) Xs.warmed (by show T.heap[q]? = some ce; rw [hT]; exact hce)
  obtain ⟨t2, a1, b1⟩ := kk (T.setVm vm') hT (Xs.noted hW')
  exact ⟨t2, am_into (g := F0 m pc ls rest) Xs.here Xs.method' Xs.code (by rw [htb]; exact hq) a1, b1⟩
end AMK
