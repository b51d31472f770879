/-! THE CLAIM OUT OF ONE WALK OF THE LAW'S BODY. Your part is whole_start (and what it stands on); all else here is the same for every law, but numbers. -/
def R_law : String := "BoxSearchLaw"
def lw_P (b : Addr) (xs : List Int32) (args : Array Value) (s : State) : Prop := args = #[.ref b] ∧ s.IntsAt b xs ∧ xs.length ≤ 3072 ∧ (Jvm.Cond.and given_1 narrow_1).before args s = true
def lw_Q (_ : Array Value) (s : State) (o : Outcome) (t : State) : Prop := o = .returned (some (.int 1)) ∧ Framed s o t [] 601024 7293034
def lw_Z (below : List Frame) (a : Array Value) (s : State) : State → Prop := fun t => ∃ o, t.status = .running ∧ Ended t below o ∧ lw_Q a s o t
/-- the law's own end, with 1 on the stack, nothing written that was there before, its room as the claim has it -/
theorem lw_ret {p : Program} {l : Launch} {e : Env} {s : State} {m : MethodId} {below : List Frame} {meth : Method} {c : Code} {b : Nat} (hx : p.tables.exec = Jvm.exec) (hb : c.code = code) (hr : meth.sig.returnType = ret) (hlocks : meth.locks = false) {pc : Nat} {H : Heap} {ls : Array Slot} (hdg : decode code pc = .ok (.ireturn, 1)) : W p l e room_1 s m #[Value.ref b] below meth c H [] 601024 7293034 (lw_Z below #[Value.ref b] s) (F0 m pc ls [.int 1]) := by
  intro T hT X
  obtain ⟨fs, hret, hrun, hended, hW, hframe⟩ := X.leave (v := some (.int 1)) (hlocks := hlocks) (fun h => by rw [hr] at h; cases h)
  have hmeth' : T.vm.method? m = some meth := X.method'
  refine ⟨T.setFrames fs, ?_, .returned (some (.int 1)), hrun, hended, rfl, ⟨_, rfl⟩, hW, hframe⟩
  jvm_step X.here [X.here.top, hx, hb, hdg, hmeth', hr, ret, narrow_b1]
  (try refine ⟨rfl, ?_⟩); (try refine ⟨rfl, ?_⟩)
  first | (intro acts; rw [hret _ acts rfl rfl rfl]) | rw [hret _ _ rfl rfl rfl]
  exact Steps.refl _
/-- what holds at the law's entry: the machine, the code, the tables' words (any of lw_tbl by 'hts w (by decide +kernel)'), the script of L ints xs at the cell b, what the Statement gives of the start (any of its parts by flat_of_before) -/
def lw_At (p : Program) (s : State) (m : MethodId) (meth : Method) (c : Code) (b L : Nat) (xs : Nat → Int32) : Prop :=
  p.tables.exec = Jvm.exec ∧ c.code = code ∧ meth.sig.returnType = ret ∧ c.maxLocals = 8 ∧ s.vm.findClass R_law = some m.cls ∧ (∀ w ∈ lw_tbl, w.before #[Value.ref b] s = true) ∧ va_X b L xs s s.heap ∧ b < s.heap.size ∧ meth.locks = false ∧ (Jvm.Cond.and given_1 narrow_1).before #[Value.ref b] s = true
/-- what the abstract machine owes: the law, for every script, comes to its end with 1, in the claim's room -/
def am_Law : Prop := ∀ (b L : Nat) (xs : Nat → Int32) (fa n0 : Nat), L ≤ 3072 → fa ≠ b → b < n0 → fa < n0 → ∃ σe : am_S, am_I (am_xx b L xs fa) (am_f (am_xx b L xs fa) 1000) 281 0 (am_lv0 8 [.ref b]) [] (fun _ => none, n0, 0) = some (.inl (some (.int 1)), σe) ∧ σe.2.1 ≤ n0 + 601024 ∧ σe.2.2 ≤ 7293034
theorem am_281 : am_b 281 = code ∧ am_ml 281 = 8 ∧ am_own 281 = 13 ∧ am_hh 281 = [] ∧ am_ini 281 = false ∧ am_ret 281 = some .boolean := ⟨rfl, rfl, rfl, rfl, by decide +kernel, rfl⟩
theorem whole_start {p : Program} {e : Env} {s : State} {m : MethodId} {below : List Frame} {meth : Method} {c : Code} (hLaw : am_Law) (l : Launch) (hfl : l.stackTraces = false) {b L : Nat} {xs : Nat → Int32} (hL : L ≤ 3072) (C0 : lw_At p s m meth c b L xs) : W p l e room_1 s m #[Value.ref b] below meth c s.heap [] 0 0 (lw_Z below #[Value.ref b] s) (entryFrame m ([Value.ref b] : List Value).toArray 8) := by
  obtain ⟨hx, hb, hr, hml, hown, hts, hX, hbl, hlocks, hg⟩ := C0
  obtain ⟨D, cT, fa, hne, G, Tr, N⟩ := am_G_of (p := p) (m := m) (meth := meth) (c := c) hfl hL hts hX hbl hg
  obtain ⟨q1, q2, q3, q4, q5, q6⟩ := am_281
  have hb0 : b < s.heap.size := (G.2.2.2.1 b L xs (if_pos rfl)).1
  have hf0 : fa < s.heap.size := (G.2.2.2.1 fa 5 am_five ((if_neg hne).trans (if_pos rfl))).1
  obtain ⟨σe, hrun, hc, hs⟩ := hLaw b L xs fa s.heap.size hL hne hb0 hf0
  obtain ⟨n, hn⟩ := am_lim_iff.mp hrun
  have C : am_Cx p l e room_1 s m meth c s #[Value.ref b] D cT (am_xx b L xs fa) 281 1000 := ⟨G, State.WarmedH.refl s, hx, by rw [q1]; exact hb, by rw [q2]; exact hml, by rw [q3]; exact hown, fun h => (by rw [q5] at h; cases h), by decide, by decide⟩
  have hcat : am_CatOK p l e room_1 s m #[Value.ref b] below meth c 281 (lw_Z below #[Value.ref b] s) := by
    intro k h pc H locs cells slots ls rest q ce hd
    unfold am_hd at hd
    rw [q4] at hd
    cases hd
  obtain ⟨hci, hcj⟩ := am_consts (t := 281) (args := #[Value.ref b]) G (State.WarmedH.refl s)
  have h0 : am_HR s D cT (fun _ => none, s.heap.size, 0) s.heap := ⟨rfl, Nat.le_refl _, fun _ _ => rfl, fun a e ha => by cases ha⟩
  have hw := am_run_ok (r := .inl (some (.int 1))) (σs := (fun _ => none, s.heap.size, 0)) (σe := σe) C (fun y as σ r σ' hy h => am_f_all G Tr N hy h) (am_f_mono _ 1000) hcat (am_mul_ok C) hci hcj
    (by show σe.2.1 - s.heap.size ≤ 601024; omega) (by show σe.2.2 - 0 ≤ 7293034; omega)
    (fun i pc nx tg lv st σ H locs ls hdc hst hle hH hloc hsz => by
      have hend := am_heap_nr hst
      have hle' : am_le σ σe := am_heap_mono (am_f_mono _ 1000) hst
      refine va_forget hloc (W.widen (k := 601024) (n := 7293034) (by obtain ⟨z1, z2⟩ := hle'; show σ.2.1 - s.heap.size ≤ 601024; omega) (by obtain ⟨z1, z2⟩ := hle'; show σ.2.2 - 0 ≤ 7293034; omega) ?_)
      cases i
      case ireturn =>
        unfold am_heap at hst
        simp only at hst
        obtain ⟨hdg, rfl⟩ := am_dc_len hdc (by simp [am_len])
        split at hst
        · rename_i v
          have hv : v = 1 := by
            rw [q6] at hst
            simp only at hst
            split at hst
            · cases hst; rfl
            · cases hst
          subst hv
          exact lw_ret hx hb hr hlocks (by rw [← q1]; exact hdg)
        · cases hst
      case lreturn =>
        unfold am_heap at hst
        simp only at hst
        split at hst
        · split at hst <;> cases hst
        · cases hst
      case areturn =>
        unfold am_heap at hst
        simp only at hst
        split at hst
        · split at hst <;> cases hst
        · split at hst <;> cases hst
        · cases hst
      case return_ =>
        unfold am_heap at hst
        simp only at hst
        split at hst
        · split at hst <;> cases hst
        · cases hst
      case new k =>
        unfold am_heap at hst
        simp only at hst
        unfold am_new at hst
        split at hst
        · split at hst
          · cases hst
          · split at hst <;> cases hst
        · cases hst
      all_goals cases hend) n 0 (am_lv0 8 [.ref b]) [] (fun _ => none, s.heap.size, 0) s.heap [] _ hn (am_le.rf _) h0 (fun z hz => nomatch hz) (am_lvR.entry (vs := [.ref b]) (n := 8) (by show 1 ≤ 8; decide)) (by rw [q2]; rfl)
  rw [Nat.sub_self] at hw
  rw [lg_entry_eq]
  exact hw
set_option maxHeartbeats 4000000 in
theorem lw_walk (hLaw : am_Law) (l : Launch) (hfl : l.stackTraces = false) (b : Addr) (xs : List Int32) : MetFree l x (headSpec (Jvm.Cond.code x code maxLocals ret :: tables_1) room_1) (lw_P b xs) (fun _ _ _ _ _ => True) lw_Q := by
  refine MetFree.of_bodyS (code := code) (maxLocals := maxLocals) (ret := ret) (by decide) ?_ ?_
  · intro args s m h hn
    obtain ⟨meth, c, h1, h2, h3, h4, h5, h6, -, -⟩ := Cond.code_spec hn (atoms_spec (ws := Jvm.Cond.code x code maxLocals ret :: tables_1) h _ List.mem_cons_self)
    exact ⟨meth, c, h1, h2, h3, h4, h5, h6⟩
  · intro p e s m args below meth c s₁ B hml0 hP _
    obtain ⟨rfl, hx, hbd, hgv⟩ := hP
    obtain ⟨scr, harrAt, hlist, hof, hsmall⟩ := hx
    obtain ⟨hcb, hkn, -, -⟩ := State.arrayAt?_spec harrAt
    have hown : s.vm.findClass R_law = some m.cls := findClass_of_methodNamed B.named
    have hts0 : ∀ c ∈ (Jvm.Cond.code x code maxLocals ret :: tables_1), c.before #[Value.ref b] s = true := atoms_spec (ws := Jvm.Cond.code x code maxLocals ret :: tables_1) B.pre
    have hts : ∀ w ∈ lw_tbl, w.before #[Value.ref b] s = true := k2_hts_sels lw_privs (fun w hw => hts0 w (List.mem_cons_of_mem _ hw)) lw_privs_ok
    have hml : c.maxLocals = 8 := B.maxLocals_eq (hts0 _ List.mem_cons_self)
    have X₀ : Stand p l e room_1 s m #[Value.ref b] below meth c s₁ [] 0 0 := Stand.of_body B
    have hh0 : s₁.heap = s.heap := by rw [B.state]; rfl
    have hsz : scr.slots.size = xs.length := by rw [← Array.length_toList, hlist, List.length_map]
    have hval : ∀ j : Nat, j < xs.length → scr.slots[j]? = some (.int (xs.getD j 0)) := fun j hj => by
      rw [← Array.getElem?_toList, hlist]
      simp [hj]
    have hbl : b < s.heap.size := (Array.getElem?_eq_some_iff.mp hcb).1
    have hX : va_X b xs.length (fun j => xs.getD j 0) s s.heap := ⟨scr, hcb, hof, hkn, hsz, hval⟩
    have K : W p l e room_1 s m #[Value.ref b] below meth c s₁.heap [] 0 0 (lw_Z below #[Value.ref b] s) (entryFrame m ([Value.ref b] : List Value).toArray 8) := by
      rw [hh0]
      exact whole_start hLaw l hfl hbd ⟨B.exec, B.bytes, B.returns, hml, hown, hts, hX, hbl, B.notSynchronized, hgv⟩
    obtain ⟨t, a1, o, b1, b2, b3⟩ := K s₁ rfl X₀
    exact ⟨t, o, a1, b1, b2, b3⟩
theorem lw_pre_spec {args : Array Value} {s : State} (h : (Jvm.Cond.and given_1 narrow_1).before args s = true) (hr : rest_1_c.before args s = true) : ∃ (b : Addr) (xs : List Int32), lw_P b xs args s := by
  have hs := flat_of_before _ h
  have hq := flat_of_before _ hr
  have hc : (Cond.count 1).before args s = true := hs _ (by decide +kernel)
  have harr : (Cond.arrayOf (.arg 0) .int).before args s = true := hs _ (by decide +kernel)
  have hle : (Cond.le (.length (.arg 0)) (.int 3072)).before args s = true := hs _ (by decide +kernel)
  have hlen : (Cond.isInt (.length (.arg 0))).before args s = true := hq _ (by decide +kernel)
  have hall : (Cond.all (.arg 0) (.isInt (.elem (.arg 0) (.index 0)))).before args s = true := hq _ (by decide +kernel)
  obtain ⟨b, xs, hb, hx⟩ := State.ints_of_pre rfl harr hlen hall
  have hsm : xs.length < 2 ^ 31 := hx.choose_spec.2.2.2
  have hev : (Term.length (.arg 0)).eval args s none [] s = some (.int xs.length.toInt32) := hx.length_eval hb
  have hv := Cond.le_ints hev (show (Term.int 3072).eval args s none [] s = some (.int 3072) from rfl)
  have hd : xs.length.toInt32 ≤ 3072 := by
    simpa [Cond.before, Cond.holds, hv] using hle
  have hN : xs.length ≤ 3072 := (Int32.ofNat_le_ofNat hsm (by decide)).mp (show Int32.ofNat xs.length ≤ Int32.ofNat 3072 from hd)
  exact ⟨b, xs, Cond.one_arg hc (show args[0]? = some (.ref b) from hb), hx, hN, h⟩
theorem lw_comes (hLaw : am_Law) (l : Launch) (hfl : l.stackTraces = false) : Comes l x (Jvm.Cond.code x code maxLocals ret :: tables_1) room_1 (fun tb e args s => Calls_1 tb e args s ∧ rest_1 tb e args s ∧ Pre_1 tb e args s)
    (fun _ _ args s o t => lw_Q args s o t) := by
  intro p e ha hc hk s m args below hf hfit hheap happ hpre
  obtain ⟨b, xs, hP⟩ := lw_pre_spec hpre.2.2 hpre.2.1
  obtain ⟨k, o, h1, h2, h3, hQ⟩ := lw_walk hLaw l hfl b xs p e ha hc hk s m args below hf ((Spec.applies_iff_loose hf).mp happ).1 hP trivial
  exact ⟨k, o, h1, h2, h3, hQ⟩
theorem lw_frame {s t : State} {o : Outcome} {args : Array Value} (h : Framed s o t [] 601024 7293034) :
    Framed s o t (fieldLocs frame_1_writes args s ++ arrayLocs frame_1_arrays args s ++ staticLocs frame_1_statics s) 601024 7293034 := h
theorem lw_limb (hLaw : am_Law) (L : Cond) (hL : ∀ (args : Array Value) (s t : State), L.after args s (.returned (some (.int 1))) t = true) :
    ArmFor flags0 classFile x code maxLocals ret World_1 tables_1 room_1 Calls_1 rest_1 Pre_1
      (fun tb e a s o t => postC L tb e a s o t ∧ Framed s o t (fieldLocs frame_1_writes a s ++ arrayLocs frame_1_arrays a s ++ staticLocs frame_1_statics s) 601024 7293034) := by
  intro l hfl0 _ _ p e ha hc hk s m args below hf hfit hheap happ hpre
  have hfl : l.stackTraces = false := by
    unfold Launch.stackTraces
    rw [hfl0]
    decide +kernel
  obtain ⟨k, o, h1, h2, h3, rfl, hF⟩ := lw_comes hLaw l hfl p e ha hc hk s m args below hf hfit hheap happ hpre
  exact ⟨k, _, h1, h2, h3, hL args s _, lw_frame hF⟩
theorem am_claims (hLaw : am_Law) : Claimed_1_1 ∧ Claimed_1_2 := ⟨lw_limb hLaw limb_1_1 (fun args s t => by simp [limb_1_1, Cond.after, Cond.holds, Cond.value]), lw_limb hLaw limb_1_2 (fun args s t => Cond.after_iff.mpr (by
  first | (rw [show limb_1_2 = Cond.eq .result (.int 1) from rfl, Cond.eq_ints (x := 1) (y := 1) rfl rfl]; simp; done) | (simp [limb_1_2, Cond.value, Term.eval]; done)))⟩
