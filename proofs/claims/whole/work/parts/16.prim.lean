/-! Math, Object.<init>, System.arraycopy -/
set_option maxRecDepth 100000 in
theorem am_mc0 : Cond.code Lib.Math.max.name Lib.Math.max.code 2 (some .int) ∈ tables_1 := am_wd_spec (i := 805) rfl
set_option maxRecDepth 100000 in
theorem am_mc1 : Cond.code Lib.Math.min.name Lib.Math.min.code 2 (some .int) ∈ tables_1 := am_wd_spec (i := 453) rfl
set_option maxRecDepth 100000 in
theorem am_mc2 : Cond.code Lib.MathLoose.max_long.x Lib.MathLoose.max_long.code 4 (some .long) ∈ tables_1 := am_wd_spec (i := 396) rfl
set_option maxRecDepth 100000 in
theorem am_mc3 : Cond.code Lib.MathLoose.min_long.x Lib.MathLoose.min_long.code 4 (some .long) ∈ tables_1 := am_wd_spec (i := 1034) rfl
set_option maxRecDepth 100000 in
theorem am_mc4 : Cond.code Lib.MathLoose.abs_long.x Lib.MathLoose.abs_long.code 2 (some .long) ∈ tables_1 := am_wd_spec (i := 390) rfl
theorem am_ms : ∀ k, k < 5 → Cond.static (am_mName k) ∈ tables_1 := by decide +kernel
theorem am_mi : Cond.initialized "java/lang/Math" ∈ tables_1 := by decide +kernel
theorem am_oo1 : Cond.instanceMethod Lib.objectInit ∈ tables_1 := by decide +kernel
set_option maxRecDepth 100000 in
theorem am_oo2 : Cond.code Lib.objectInit ⟨#[0xb1]⟩ 1 none ∈ tables_1 := am_wd_spec (i := 29) rfl
theorem am_ay1 : Cond.native arraycopyName ∈ tables_1 := by decide +kernel
theorem am_ay2 : Cond.static arraycopyName ∈ tables_1 := by decide +kernel
theorem am_ay3 : Cond.initialized "java/lang/System" ∈ tables_1 := by decide +kernel
section AMQ
variable {p : Program} {l : Launch} {e : Env} {R : Room} {s s0 : State} {m : MethodId} {args a0 : Array Value} {below : List Frame} {meth : Method} {c : Code} {H : Heap} {locs : List Loc} {cells slots : Nat} {Q : State → Prop}
variable {D : va_G} {cT : FieldType → ClassId} {X : am_X} {t pc nx pc' : Nat} {σ σ' : am_S} {ls : Array Slot} {lv lv' : am_L} {st st' rest : List Value}
theorem am_wt8 {st : List Value} (h : st.length ≤ 8) : (st.map fun v => v.category).sum ≤ 16 := by
  have := am_wt (m := ⟨0, 0⟩) (pc := 0) (ls := #[]) (rest := []) st h
  omega
theorem am_s_math {k q : Nat} (G : am_G l s0 a0 D cT X) (hW : s0.WarmedH s.vm) (hx : p.tables.exec = Jvm.exec) (hb : c.code = am_b t) (hown : s.vm.findClass (cN (am_own t)) = some m.cls) (hsz : ls.size = c.maxLocals) (hf : 1 ≤ R.frames) (hl : 64 ≤ R.locals) (hc : cells ≤ R.cells) (hs : slots ≤ R.slots) (hd : decode (am_b t) pc = .ok (.invokestatic k, 3)) (hk : am_mk (am_own t) k = some q) (hg : am_math (pc + 3) lv st σ q = some (.inl (pc', lv', st', σ')))
    (kk : W p l e R s m args below meth c H locs cells slots Q (F0 m pc' ls st')) : lv' = lv ∧ σ' = σ ∧ W p l e R s m args below meth c H locs cells slots Q (F0 m pc ls st) := by
  have hlink := am_mk_spec hk
  have hini : (Cond.initialized "java/lang/Math").before args s = true := G.word hW am_mi rfl
  unfold am_math at hg
  split at hg
  · split at hg
    · split at hg
      · rename_i hr
        cases hg
        have := am_wt8 hr
        exact ⟨rfl, rfl, va_mmax hx hb hsz.symm hown (G.word hW hlink rfl) (G.word hW (am_ms 0 (by decide)) rfl) hini (G.word hW am_mc0 rfl) hf (by omega) hc hs hd kk⟩
      · cases hg
    · cases hg
  · split at hg
    · split at hg
      · rename_i hr
        cases hg
        have := am_wt8 hr
        exact ⟨rfl, rfl, va_mmin hx hb hsz.symm hown (G.word hW hlink rfl) (G.word hW (am_ms 1 (by decide)) rfl) hini (G.word hW am_mc1 rfl) hf (by omega) hc hs hd kk⟩
      · cases hg
    · cases hg
  · split at hg
    · split at hg
      · rename_i hr
        cases hg
        have := am_wt8 hr
        exact ⟨rfl, rfl, va_mmax_long hx hb hsz.symm hown (G.word hW hlink rfl) (G.word hW (am_ms 2 (by decide)) rfl) hini (G.word hW am_mc2 rfl) hf (by omega) hc hs hd kk⟩
      · cases hg
    · cases hg
  · split at hg
    · split at hg
      · rename_i hr
        cases hg
        have := am_wt8 hr
        exact ⟨rfl, rfl, va_mmin_long hx hb hsz.symm hown (G.word hW hlink rfl) (G.word hW (am_ms 3 (by decide)) rfl) hini (G.word hW am_mc3 rfl) hf (by omega) hc hs hd kk⟩
      · cases hg
    · cases hg
  · split at hg
    · split at hg
      · rename_i hr
        cases hg
        have := am_wt8 hr
        exact ⟨rfl, rfl, va_mabs_long hx hb hsz.symm hown (G.word hW hlink rfl) (G.word hW (am_ms 4 (by decide)) rfl) hini (G.word hW am_mc4 rfl) hf (by omega) hc hs hd kk⟩
      · cases hg
    · cases hg
  · cases hg
theorem am_s_obj {k a : Nat} (G : am_G l s0 a0 D cT X) (hW : s0.WarmedH s.vm) (hx : p.tables.exec = Jvm.exec) (hb : c.code = am_b t) (hown : s.vm.findClass (cN (am_own t)) = some m.cls) (hsz : ls.size = c.maxLocals) (hf : 1 ≤ R.frames) (hl : 64 ≤ R.locals) (hd : decode (am_b t) pc = .ok (.invokespecial k, 3)) (hk : am_oi (am_own t) k = true) (hr : rest.length ≤ 8)
    (kk : W p l e R s m args below meth c H locs cells slots Q (F0 m (pc + 3) ls rest)) : W p l e R s m args below meth c H locs cells slots Q (F0 m pc ls (.ref a :: rest)) := by
  have := am_wt8 hr
  exact W.objInit (g := F0 m pc ls (.ref a :: rest)) hx hb hown (G.word hW (am_oi_spec hk) rfl) (G.word hW am_oo1 rfl) (G.word hW am_oo2 rfl) rfl hsz rfl hd hf (by show 2 * 0 + _ + 12 ≤ _; omega) kk
theorem am_cpy_inv {o0 o1 : Option am_E} {sp dp n : Int32} {E : am_E} (h : am_cpy o0 o1 sp dp n = some E) : ∃ n0 f n1 g, o0 = some (.inl (.int, n0, .inl f)) ∧ o1 = some (.inl (.int, n1, .inl g)) ∧ ¬ sp < 0 ∧ ¬ dp < 0 ∧ ¬ n < 0 ∧ sp.toNatClampNeg + n.toNatClampNeg ≤ n0 ∧ dp.toNatClampNeg + n.toNatClampNeg ≤ n1 ∧ E = .inl (.int, n1, .inl (va_cpy f g sp.toNatClampNeg dp.toNatClampNeg n.toNatClampNeg)) := by
  unfold am_cpy at h
  split at h
  · split at h
    · split at h
      · rename_i hc
        simp only [Bool.and_eq_true, Bool.not_eq_true', decide_eq_false_iff_not, decide_eq_true_eq] at hc
        obtain ⟨⟨⟨h1, h2⟩, h3⟩, h4, h5⟩ := hc
        cases h
        exact ⟨_, _, _, _, rfl, rfl, h1, h2, h3, h4, h5, rfl⟩
      · cases h
    · cases h
  · cases h
theorem am_s_copy {k a a1 : Nat} {sp dp n : Int32} {E : am_E} (G : am_G l s0 a0 D cT X) (hW : s0.WarmedH s.vm) (hx : p.tables.exec = Jvm.exec) (hb : c.code = am_b t) (hown : s.vm.findClass (cN (am_own t)) = some m.cls) (hH : am_HR s0 D cT σ H) (hloc : ∀ z ∈ locs, s0.heap.size ≤ z.base) (hsz : ls.size = c.maxLocals) (hf : 1 ≤ R.frames) (hl : 64 ≤ R.locals) (hd : decode (am_b t) pc = .ok (.invokestatic k, 3)) (hk : am_ac (am_own t) k = true) (hr : rest.length ≤ 8) (hg : am_cpy (σ.1 a1) (σ.1 a) sp dp n = some E)
    (kk : ∀ (H1 : Heap) (locs1 : List Loc), am_HR s0 D cT (am_up σ.1 a E, σ.2) H1 → (∀ z ∈ locs1, s0.heap.size ≤ z.base) → W p l e R s m args below meth c H1 locs1 cells slots Q (F0 m (pc + 3) ls rest)) : W p l e R s m args below meth c H locs cells slots Q (F0 m pc ls (.int n :: .int dp :: .ref a :: .int sp :: .ref a1 :: rest)) := by
  obtain ⟨n0, f, n1, g, ha0, ha1, h1, h2, h3, h4, h5, rfl⟩ := am_cpy_inv hg
  have hwt := am_wt8 hr
  have nn : ∀ z : Int32, ¬ z < 0 → z.toInt = (z.toNatClampNeg : Int) := by
    intro z hz
    have hz0 : (0 : Int) ≤ z.toInt := by
      have := Int32.not_lt.mp hz
      simpa using Int32.le_iff_toInt_le.mp this
    show z.toInt = ((z.toInt.toNat : Nat) : Int)
    omega
  obtain ⟨hty, hc0⟩ := am_arrAt hH ha0
  obtain ⟨-, hc1⟩ := am_arrAt hH ha1
  obtain ⟨-, k0, hk0, cm0, hkk0⟩ := (am_arr (G.K hW) hty).1 n0 (fun j => .int (f j))
  intro T hT Xs
  obtain ⟨vm', X', step⟩ := Xs.arraycopy hx hown (G.word hW (am_ac_spec hk) rfl) (G.word hW am_ay1 rfl) (G.word hW am_ay2 rfl) (G.word hW am_ay3 rfl) (src := a1) (dst := a) (cs := vp_cell (cT .int) (n0, .inl f)) (cd := vp_cell (cT .int) (n1, .inl g)) (srcPos := sp) (destPos := dp) (n := n) (by rw [hT]; exact hc0) (by rw [hT]; exact hc1)
    (fun _ h => by cases h) (fun _ h => by cases h) (fun h => by cases h) (fun h => by cases h) hk0 hk0 hkk0 hkk0 (by decide) h1 h2 h3
    (by rw [nn sp h1, nn n h3]; show ¬ _ > ((arrV (cT .int) n0 (fun j => .int (f j))).slots.size : Int); rw [arrV_size]; omega)
    (by rw [nn dp h2, nn n h3]; show ¬ _ > ((arrV (cT .int) n1 (fun j => .int (g j))).slots.size : Int); rw [arrV_size]; omega)
    (fun vm₁ _ i hi => by
      have e : (vp_cell (cT .int) (n0, .inl f)).slots.getD (sp.toNatClampNeg + i) .null = .int (f (sp.toNatClampNeg + i)) := by
        show (arrV (cT .int) n0 (fun j => .int (f j))).slots.getD _ _ = _
        rw [Array.getD_eq_getD_getElem?, arrV_read _ _ (by omega)]
        rfl
      refine ⟨?_, ?_⟩
      · rw [e]
        rfl
      · rw [e]
        exact trivial)
    (g := F0 m pc ls (.int n :: .int dp :: .ref a :: .int sp :: .ref a1 :: rest)) rfl hsz (rest := rest) rfl (by rw [hb]; exact hd) hf (by show 2 * 0 + _ + (7 + 11) ≤ _; omega)
  have e1 : copied (vp_cell (cT .int) (n0, .inl f)) (vp_cell (cT .int) (n1, .inl g)) sp dp n = vp_cell (cT .int) (n1, .inl (va_cpy f g sp.toNatClampNeg dp.toNatClampNeg n.toNatClampNeg)) := va_copied (fun z => .int z) (cT .int) (cT .int) f g h4
  rw [e1] at X' step
  have hlt : a < H.size := (Array.getElem?_eq_some_iff.mp hc1).1
  have hheap : ((T.setVm vm').setCell a (vp_cell (cT .int) (n1, .inl (va_cpy f g sp.toNatClampNeg dp.toNatClampNeg n.toNatClampNeg)))).heap = H.setIfInBounds a (vp_cell (cT .int) (n1, .inl (va_cpy f g sp.toNatClampNeg dp.toNatClampNeg n.toNatClampNeg))) := by rw [← hT]; rfl
  obtain ⟨t2, b1, b2⟩ := kk _ _ (hH.set ha1 ⟨hty, by show (H.setIfInBounds a _)[a]? = some _; simp [Array.getElem?_setIfInBounds, hlt]⟩ (by simp) (fun q hq => by simp [Array.getElem?_setIfInBounds, Ne.symm hq])) (fun z hz => by
      rcases List.mem_append.mp hz with h | h
      · exact hloc z h
      · obtain ⟨y, -, hy⟩ := List.mem_map.mp h
        rw [← hy]
        exact (hH.2.2.2 a _ ha1).1) _ hheap X'
  exact ⟨t2, step t2 b1, b2⟩
theorem am_cn1 : Cond.methodLink "java/util/Arrays" 316 ⟨"[I", "clone", "()Ljava/lang/Object;"⟩ ∈ tables_1 := by decide +kernel
theorem am_cn2 : Cond.sameMethod "[I" "java/lang/Object" "clone" "()Ljava/lang/Object;" ∈ tables_1 := by decide +kernel
theorem am_cn3 : Cond.native ⟨"java/lang/Object", "clone", "()Ljava/lang/Object;"⟩ ∈ tables_1 := by decide +kernel
theorem am_cn4 : Cond.instanceMethod ⟨"java/lang/Object", "clone", "()Ljava/lang/Object;"⟩ ∈ tables_1 := by decide +kernel
theorem am_cn5 : Cond.selects "[I" ⟨"[I", "clone", "()Ljava/lang/Object;"⟩ ⟨"java/lang/Object", "clone", "()Ljava/lang/Object;"⟩ ∈ tables_1 := by decide +kernel
theorem am_cn6 : Cond.castable "[I" "java/lang/Cloneable" ∈ tables_1 := by decide +kernel
theorem am_s_clone {a : Nat} {q : Nat × (Nat → Int32)} (G : am_G l s0 a0 D cT X) (hW : s0.WarmedH s.vm) (hx : p.tables.exec = Jvm.exec) (hb : c.code = am_b t) (hown : s.vm.findClass (cN (am_own t)) = some m.cls) (hH : am_HR s0 D cT σ H) (hsz : ls.size = c.maxLocals) (hf : 1 ≤ R.frames) (hl : 64 ≤ R.locals) (hd : decode (am_b t) pc = .ok (.invokevirtual 316, 3)) (ho : am_own t = 15) (hr : rest.length ≤ 8) (hg : am_arrI (σ.1 a) = some q) (hR : cells + 1 ≤ R.cells) (hR2 : slots + q.1 ≤ R.slots)
    (kk : ∀ H1 : Heap, am_HR s0 D cT (am_up σ.1 σ.2.1 (.inl (.int, q.1, .inl q.2)), σ.2.1 + 1, σ.2.2 + q.1) H1 → W p l e R s m args below meth c H1 locs (cells + 1) (slots + q.1) Q (F0 m (pc + 3) ls (.ref σ.2.1 :: rest))) : W p l e R s m args below meth c H locs cells slots Q (F0 m pc ls (.ref a :: rest)) := by
  obtain ⟨n, f⟩ := q
  obtain ⟨hty, hc0⟩ := am_arrAt hH (am_arrI_spec hg)
  rw [ho] at hown
  have hwt := am_wt8 hr
  have hnm := am_intName (am_arr (G.K hW) hty).2
  obtain ⟨-, kS, hkS, compS, hkindS⟩ := (am_arr (G.K hW) hty).1 0 (fun _ => .null)
  have hw0 : (Cond.castable "[I" "java/lang/Cloneable").before a0 s0 = true := G.2.1 _ (List.mem_append_right _ am_cn6)
  obtain ⟨c1, c2, f1, f2, f3⟩ := Cond.castable_spec (va_Nw.use (A := args) rfl (va_Nw.warmC hW (va_Nw.of rfl hw0)))
  cases hnm.symm.trans f1
  have hszc : (vp_cell (cT .int) (n, .inl f)).slots.size = n := arrV_size _ _ _
  intro T hT Xs
  obtain ⟨-, kA, hkA, comp, hkind⟩ := State.isArrayOf_alike Xs.warmed.alike ((am_arr (G.K hW) hty).1 0 (fun _ => .null))
  obtain ⟨vm', X', st⟩ := Xs.cloneArray hx hown (G.word hW am_cn1 rfl) (G.word hW am_cn2 rfl) (G.word hW am_cn3 rfl) (G.word hW am_cn4 rfl) (G.word hW am_cn5 rfl) (a := a) (cell := vp_cell (cT .int) (n, .inl f)) (by rw [hT]; exact hc0) (fun k h => by cases h) (fun h => by cases h) hnm f2 f3
    (fun i v hv => by
      have hk' : T.vm.classes[cT .int]? = some kA := hkA
      have hv' : (arrV (cT .int) n (fun j => .int (f j))).slots[i]? = some v := hv
      have hfit : fits FieldType.int v = true := by
        by_cases hi : i < n
        · rw [arrV_read _ _ hi] at hv'
          cases hv'
          rfl
        · rw [Array.getElem?_eq_none (by rw [arrV_size]; omega)] at hv'
          cases hv'
      show T.fitsSlot (cT .int) .none i v = true
      simpa [State.fitsSlot, State.slotType?, hk', hkind] using hfit)
    (g := F0 m pc ls (.ref a :: rest)) rfl hsz rfl (by rw [hb]; exact hd) hf (by show 2 * 0 + _ + 14 ≤ _; omega) hR (by rw [hszc]; exact hR2) (hloader := Vm.clonesLoader_of_array hkS hkindS)
  rw [hszc] at X'
  have hH1 : am_HR s0 D cT (am_up σ.1 σ.2.1 (.inl (.int, n, .inl f)), σ.2.1 + 1, σ.2.2 + n) (H.push (vp_cell (cT .int) (n, .inl f))) := by
    refine hH.push ⟨hty, ?_⟩ ?_ ?_
    · rw [← hH.1, Array.getElem?_push_size]
    · rw [Array.size_push, hH.1]
    · intro q hq
      rw [Array.getElem?_push, if_neg (by rw [hH.1]; exact Nat.ne_of_lt hq)]
  obtain ⟨t2, b1, b2⟩ := kk _ hH1 ((T.setVm vm').pushCell { cls := (vp_cell (cT .int) (n, .inl f)).cls, slots := (vp_cell (cT .int) (n, .inl f)).slots }) (by rw [← hT]; rfl) X'
  have hhs : T.heap.size = σ.2.1 := by rw [hT, hH.1]
  rw [hhs] at st
  exact ⟨t2, st t2 b1, b2⟩
end AMQ
