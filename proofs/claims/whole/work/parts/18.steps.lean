/-! the machine does what the abstract one does -/
def am_Cx (p : Program) (l : Launch) (e : Env) (R : Room) (s : State) (m : MethodId) (meth : Method) (c : Code) (s0 : State) (a0 : Array Value) (D : va_G) (cT : FieldType → ClassId) (X : am_X) (t d : Nat) : Prop :=
  am_G l s0 a0 D cT X ∧ s0.WarmedH s.vm ∧ p.tables.exec = Jvm.exec ∧ c.code = am_b t ∧ c.maxLocals = am_ml t ∧ s.vm.findClass (cN (am_own t)) = some m.cls ∧ (am_ini t = true → meth.name = "<init>") ∧ d + 9 ≤ R.frames ∧ 64 * d + 576 ≤ R.locals
section AMS
variable {p : Program} {l : Launch} {e : Env} {R : Room} {s s0 : State} {m : MethodId} {args a0 : Array Value} {below : List Frame} {meth : Method} {c : Code} {H : Heap} {locs : List Loc} {cells slots : Nat} {Q : State → Prop}
variable {D : va_G} {cT : FieldType → ClassId} {X : am_X} {t d pc nx tg pc' : Nat} {σ σ' : am_S} {ls : Array Slot} {lv lv' : am_L} {st st' : List Value} {rec : am_O}
set_option maxHeartbeats 4000000 in
theorem am_heap_ok {i : Instr} (C : am_Cx p l e R s m meth c s0 a0 D cT X t d) (hc : am_isCall i = false) (hd : am_dc t pc = some (i, nx, tg)) (hstep : am_heap X rec t i pc nx lv st σ = some (.inl (pc', lv', st', σ'))) (hH : am_HR s0 D cT σ H) (hloc : ∀ z ∈ locs, s0.heap.size ≤ z.base)
    (hR : cells + (σ'.2.1 - σ.2.1) ≤ R.cells) (hR2 : slots + (σ'.2.2 - σ.2.2) ≤ R.slots)
    (kk : ∀ (H1 : Heap) (locs1 : List Loc), am_HR s0 D cT σ' H1 → (∀ z ∈ locs1, s0.heap.size ≤ z.base) → W p l e R s m args below meth c H1 locs1 (cells + (σ'.2.1 - σ.2.1)) (slots + (σ'.2.2 - σ.2.2)) Q (F0 m pc' ls st')) : W p l e R s m args below meth c H locs cells slots Q (F0 m pc ls st) := by
  obtain ⟨G, hW, hx, hb, hml, hown, hini, hf, hl⟩ := C
  cases i
  case getfield k =>
    unfold am_heap at hstep
    simp only at hstep
    obtain ⟨hdg, rfl⟩ := am_dc_len hd (by simp [am_len])
    split at hstep
    · obtain ⟨v, hv, e⟩ := Option.map_eq_some_iff.mp hstep
      cases e
      simp only [Nat.sub_self, Nat.add_zero] at kk
      exact am_s_getfield G hW hx hb hown hH hdg hv (kk H locs hH hloc)
    · cases hstep
  case iaload =>
    unfold am_heap at hstep
    simp only at hstep
    obtain ⟨hdg, rfl⟩ := am_dc_len hd (by simp [am_len])
    split at hstep
    · obtain ⟨v, hv, e⟩ := Option.map_eq_some_iff.mp hstep
      cases e
      simp only [Nat.sub_self, Nat.add_zero] at kk
      exact am_s_iaload G hW hx hb  hH hdg hv (kk H locs hH hloc)
    · cases hstep
  case baload =>
    unfold am_heap at hstep
    simp only at hstep
    obtain ⟨hdg, rfl⟩ := am_dc_len hd (by simp [am_len])
    split at hstep
    · obtain ⟨v, hv, e⟩ := Option.map_eq_some_iff.mp hstep
      cases e
      simp only [Nat.sub_self, Nat.add_zero] at kk
      exact am_s_baload G hW hx hb  hH hdg hv (kk H locs hH hloc)
    · cases hstep
  case laload =>
    unfold am_heap at hstep
    simp only at hstep
    obtain ⟨hdg, rfl⟩ := am_dc_len hd (by simp [am_len])
    split at hstep
    · obtain ⟨v, hv, e⟩ := Option.map_eq_some_iff.mp hstep
      cases e
      simp only [Nat.sub_self, Nat.add_zero] at kk
      exact am_s_laload G hW hx hb  hH hdg hv (kk H locs hH hloc)
    · cases hstep
  case aaload =>
    unfold am_heap at hstep
    simp only at hstep
    obtain ⟨hdg, rfl⟩ := am_dc_len hd (by simp [am_len])
    split at hstep
    · obtain ⟨v, hv, e⟩ := Option.map_eq_some_iff.mp hstep
      cases e
      simp only [Nat.sub_self, Nat.add_zero] at kk
      exact am_s_aaload G hW hx hb  hH hdg hv (kk H locs hH hloc)
    · cases hstep
  case arraylength =>
    unfold am_heap at hstep
    simp only at hstep
    obtain ⟨hdg, rfl⟩ := am_dc_len hd (by simp [am_len])
    split at hstep
    · obtain ⟨v, hv, e⟩ := Option.map_eq_some_iff.mp hstep
      cases e
      simp only [Nat.sub_self, Nat.add_zero] at kk
      exact am_s_alen G hW hx hb  hH hdg hv (kk H locs hH hloc)
    · cases hstep
  case putfield k =>
    unfold am_heap at hstep
    simp only at hstep
    obtain ⟨hdg, rfl⟩ := am_dc_len hd (by simp [am_len])
    split at hstep
    · obtain ⟨v, hv, e⟩ := Option.map_eq_some_iff.mp hstep
      cases e
      simp only [Nat.sub_self, Nat.add_zero] at kk
      exact am_s_putfield G hW hx hb hown hini hH hloc hdg hv kk
    · cases hstep
  case iastore =>
    unfold am_heap at hstep
    simp only at hstep
    obtain ⟨hdg, rfl⟩ := am_dc_len hd (by simp [am_len])
    split at hstep
    · obtain ⟨v, hv, e⟩ := Option.map_eq_some_iff.mp hstep
      cases e
      simp only [Nat.sub_self, Nat.add_zero] at kk
      exact am_s_iastore G hW hx hb  hH hloc hdg hv kk
    · cases hstep
  case bastore =>
    unfold am_heap at hstep
    simp only at hstep
    obtain ⟨hdg, rfl⟩ := am_dc_len hd (by simp [am_len])
    split at hstep
    · obtain ⟨v, hv, e⟩ := Option.map_eq_some_iff.mp hstep
      cases e
      simp only [Nat.sub_self, Nat.add_zero] at kk
      exact am_s_bastore G hW hx hb  hH hloc hdg hv kk
    · cases hstep
  case lastore =>
    unfold am_heap at hstep
    simp only at hstep
    obtain ⟨hdg, rfl⟩ := am_dc_len hd (by simp [am_len])
    split at hstep
    · obtain ⟨v, hv, e⟩ := Option.map_eq_some_iff.mp hstep
      cases e
      simp only [Nat.sub_self, Nat.add_zero] at kk
      exact am_s_lastore G hW hx hb  hH hloc hdg hv kk
    · cases hstep
  case getstatic k =>
    unfold am_heap at hstep
    simp only at hstep
    obtain ⟨hdg, rfl⟩ := am_dc_len hd (by simp [am_len])
    split at hstep
    · rename_i hk
      simp only [Bool.and_eq_true, beq_iff_eq] at hk
      obtain ⟨hk1, rfl⟩ := hk
      cases hstep
      simp only [Nat.sub_self, Nat.add_zero] at kk
      rw [hk1] at hown
      exact am_s_getstatic G hW hx hb hown hH hdg (kk H locs hH hloc)
    · cases hstep
  case aastore =>
    unfold am_heap at hstep
    simp only at hstep
    obtain ⟨hdg, rfl⟩ := am_dc_len hd (by simp [am_len])
    split at hstep
    · split at hstep
      · rename_i hbx
        obtain ⟨v, hv, e⟩ := Option.map_eq_some_iff.mp hstep
        cases e
        simp only [Nat.sub_self, Nat.add_zero] at kk
        exact am_s_aastore G hW hx hb hH hloc hdg hbx hv kk
      · cases hstep
    · obtain ⟨v, hv, e⟩ := Option.map_eq_some_iff.mp hstep
      cases e
      simp only [Nat.sub_self, Nat.add_zero] at kk
      exact am_s_aastoreN G hW hx hb hH hloc hdg hv kk
    · cases hstep
  case newarray a =>
    unfold am_heap at hstep
    simp only at hstep
    obtain ⟨hdg, rfl⟩ := am_dc_len hd (by simp [am_len])
    split at hstep
    · split at hstep
      · rename_i hn
        obtain ⟨v, hv, e⟩ := Option.map_eq_some_iff.mp hstep
        cases e
        simp only [Nat.add_sub_cancel_left] at kk hR hR2
        exact am_s_newarray G hW hx hb hH hdg hn hv hR hR2 (fun H1 h1 => kk H1 locs h1 hloc)
      · cases hstep
    · cases hstep
  case anewarray k =>
    unfold am_heap at hstep
    simp only at hstep
    obtain ⟨hdg, rfl⟩ := am_dc_len hd (by simp [am_len])
    split at hstep
    · split at hstep
      · rename_i hn
        simp only [Bool.and_eq_true, beq_iff_eq] at hn
        cases hstep
        simp only [Nat.add_sub_cancel_left] at kk hR hR2
        exact am_s_anew G hW hx hb hown hH hdg hn.1 hn.2 hR hR2 (fun H1 h1 => kk H1 locs h1 hloc)
      · cases hstep
    · cases hstep
  case new k =>
    unfold am_heap at hstep
    simp only at hstep
    obtain ⟨hdg, rfl⟩ := am_dc_len hd (by simp [am_len])
    unfold am_new at hstep
    split at hstep
    · rename_i ci hk
      split at hstep
      · rename_i hci
        cases hstep
        simp only [Nat.add_sub_cancel_left] at kk hR hR2
        exact am_s_new G hW hx hb hown hH hdg hk hci hR hR2 (fun H1 h1 => kk H1 locs h1 hloc)
      · split at hstep <;> cases hstep
    · cases hstep
  case instanceof k =>
    unfold am_heap at hstep
    simp only at hstep
    obtain ⟨hdg, rfl⟩ := am_dc_len hd (by simp [am_len])
    split at hstep
    · rename_i hk
      simp only [beq_iff_eq] at hk
      split at hstep
      · obtain ⟨v, hv, e⟩ := Option.map_eq_some_iff.mp hstep
        cases e
        simp only [Nat.sub_self, Nat.add_zero] at kk
        exact am_s_instof G hW hx hb hown hH hdg hk hv (kk H locs hH hloc)
      · cases hstep
        simp only [Nat.sub_self, Nat.add_zero] at kk
        exact lv_instN hx hb hdg (kk H locs hH hloc)
      · cases hstep
    · cases hstep
  case checkcast k =>
    unfold am_heap at hstep
    simp only at hstep
    obtain ⟨hdg, rfl⟩ := am_dc_len hd (by simp [am_len])
    split at hstep
    · rename_i hk
      simp only [beq_iff_eq] at hk
      split at hstep
      · split at hstep
        · rename_i hv
          simp only [beq_iff_eq] at hv
          cases hstep
          simp only [Nat.sub_self, Nat.add_zero] at kk
          exact am_s_cast G hW hx hb hown hH hdg hk hv (kk H locs hH hloc)
        · cases hstep
      · cases hstep
        simp only [Nat.sub_self, Nat.add_zero] at kk
        exact lv_castN hx hb hdg (kk H locs hH hloc)
      · cases hstep
    · split at hstep
      · rename_i hk
        simp only [Bool.and_eq_true, beq_iff_eq] at hk
        obtain ⟨hk1, rfl⟩ := hk
        unfold am_cka at hstep
        split at hstep
        · obtain ⟨v, hv, e⟩ := Option.map_eq_some_iff.mp hstep
          cases e
          simp only [Nat.sub_self, Nat.add_zero] at kk
          exact am_s_castA G hW hx hb hown hH hdg hk1 hv (kk H locs hH hloc)
        · cases hstep
      · cases hstep
  case ireturn =>
    unfold am_heap at hstep
    simp only at hstep
    obtain ⟨hdg, rfl⟩ := am_dc_len hd (by simp [am_len])
    split at hstep
    · split at hstep
      · cases hstep
      · split at hstep <;> cases hstep
      · cases hstep
    · cases hstep
  case lreturn =>
    unfold am_heap at hstep
    simp only at hstep
    obtain ⟨hdg, rfl⟩ := am_dc_len hd (by simp [am_len])
    split at hstep
    · split at hstep <;> cases hstep
    · cases hstep
  case areturn =>
    unfold am_heap at hstep
    simp only at hstep
    obtain ⟨hdg, rfl⟩ := am_dc_len hd (by simp [am_len])
    split at hstep
    · split at hstep <;> cases hstep
    · split at hstep <;> cases hstep
    · cases hstep
  case return_ =>
    unfold am_heap at hstep
    simp only at hstep
    obtain ⟨hdg, rfl⟩ := am_dc_len hd (by simp [am_len])
    split at hstep
    · split at hstep <;> cases hstep
    · cases hstep
  case invokevirtual k => cases hc
  case invokespecial k => cases hc
  case invokestatic k => cases hc
  case multianewarray k d => cases hc
  all_goals cases hstep
/-- where a call throws: the handler is there, and what it stores is forgotten -/
def am_CatOK (p : Program) (l : Launch) (e : Env) (R : Room) (s : State) (m : MethodId) (args : Array Value) (below : List Frame) (meth : Method) (c : Code) (t : Nat) (Q : State → Prop) : Prop :=
  ∀ (k h pc : Nat) (H : Heap) (locs : List Loc) (cells slots : Nat) (ls : Array Slot) (rest : List Value) (q : Addr) (ce : Cell), am_hd t pc k = some h → H[q]? = some ce → ce.vm = .none → s.vm.findClass (cN k) = some ce.cls →
    W p l e R s m args below meth c H locs cells slots Q (F0 m h ls [.ref q]) → vx_W p l e R s m args below meth c H locs cells slots Q (F0 m pc ls rest) q
theorem am_hc_ok {z : am_S} {h : Option Nat} {H : Heap} {q : Addr} (hx : p.tables.exec = Jvm.exec) (hb : c.code = am_b t) (hlv : am_lvR ls lv) (hg : am_hc t lv z h = some (.inl (pc', lv', st', σ')))
    (kk : ∀ ls' : Array Slot, am_lvR ls' lv' → W p l e R s m args below meth c H locs cells slots Q (F0 m pc' ls' st')) : ∃ h', h = some h' ∧ σ' = z ∧ lv'.length = lv.length ∧ W p l e R s m args below meth c H locs cells slots Q (F0 m h' ls [.ref q]) := by
  unfold am_hc at hg
  split at hg
  · rename_i h'
    split at hg
    · rename_i nx k hk
      split at hg
      · rename_i hkl
        cases hg
        refine ⟨h', rfl, rfl, by simp [am_kill_len], ?_⟩
        unfold am_hk at hk
        split at hk
        · rename_i k' nx' tg' hd
          cases hk
          obtain ⟨hdg, rfl⟩ := am_dc_len hd (by simp [am_len])
          exact lv_astore hx hb hdg hlv.has hkl rfl (fun ls' h' => kk ls' (am_lvR.st0 (ls := ls) h'))
        · rename_i k' nx' tg' hd
          cases hk
          obtain ⟨hdg, rfl⟩ := am_dc_len hd (by simp [am_len])
          exact lv_astore_n hx hb hdg rfl hlv.has hkl rfl (fun ls' h' => kk ls' (am_lvR.st0 (ls := ls) h'))
        · cases hk
      · cases hg
    · cases hg
  · cases hg
theorem am_call_ok {y n : Nat} {as rest : List Value} {ig : Instr} (C : am_Cx p l e R s m meth c s0 a0 D cT X t d) (hrec : ∀ (y : Nat) (as : List Value) (σ : am_S) (r : am_R) (σ' : am_S), y < 281 → rec y as σ = some (r, σ') → am_Ct l s0 D cT d y as σ r σ') (hcat : am_CatOK p l e R s m args below meth c t Q)
    (hy : y < 281) (hd : decode (am_b t) pc = .ok (ig, 3)) (hstep : am_call rec t pc (pc + 3) lv rest σ y as = some (.inl (pc', lv', st', σ'))) (hH : am_HR s0 D cT σ H) (hlv : am_lvR ls lv) (hlen : lv.length = am_ml t) (hloc : ∀ z ∈ locs, s0.heap.size ≤ z.base)
    (hR : cells + (σ'.2.1 - σ.2.1) ≤ R.cells) (hR2 : slots + (σ'.2.2 - σ.2.2) ≤ R.slots)
    (hI : am_Inv p l e R s m args below meth c H locs cells slots (F0 m pc ls st) rest (am_y y) as)
    (kk : ∀ (H1 : Heap) (locs1 : List Loc) (ls' : Array Slot), am_HR s0 D cT σ' H1 → (∀ z ∈ locs1, s0.heap.size ≤ z.base) → am_lvR ls' lv' → lv'.length = am_ml t → W p l e R s m args below meth c H1 locs1 (cells + (σ'.2.1 - σ.2.1)) (slots + (σ'.2.2 - σ.2.2)) Q (F0 m pc' ls' st')) : W p l e R s m args below meth c H locs cells slots Q (F0 m pc ls st) := by
  obtain ⟨G, hW, hx, hb, hml, hown, hini, hf, hl⟩ := C
  unfold am_call at hstep
  split at hstep
  · rename_i hrl
    split at hstep
    · rename_i v σ2 hr
      cases hstep
      exact am_called G hW hb hy (hrec _ _ _ _ _ hy hr) hf hl hH hloc (by rw [hlv.1, hlen, hml]) hrl hR hR2 hd hI (fun v' hv H1 locs1 h1 h2 => by cases hv; exact kk H1 locs1 ls h1 h2 hlv hlen) (fun k hk => by cases hk)
    · rename_i E σ2 hr
      have e0 : σ' = σ2 := by
        unfold am_hc at hstep
        split at hstep
        · split at hstep
          · split at hstep <;> cases hstep
            rfl
          · cases hstep
        · cases hstep
      subst e0
      refine am_called G hW hb hy (hrec _ _ _ _ _ hy hr) hf hl hH hloc (by rw [hlv.1, hlen, hml]) hrl hR hR2 hd hI (fun v' hv => by cases hv) (fun k hk H1 locs1 q ce h1 h2 hce hcv hcl => ?_)
      cases hk
      have hlen2 : lv'.length = am_ml t := by
        obtain ⟨h', e1, e2, e3, -⟩ := am_hc_ok (p := p) (l := l) (e := e) (R := R) (s := s) (m := m) (args := args) (below := below) (meth := meth) (c := c) (H := H1) (q := q) (locs := locs1) (cells := 0) (slots := 0) (Q := fun _ => True) (ls := ls) hx hb hlv hstep (fun ls' _ T hT X => ⟨T.setTop (F0 m pc' ls' st'), Steps.refl _, trivial⟩)
        rw [e3, hlen]
      obtain ⟨h', e1, -, -, hw⟩ := am_hc_ok (q := q) hx hb hlv hstep (fun ls' hl' => kk H1 locs1 ls' h1 h2 hl' hlen2)
      exact hcat _ h' pc H1 locs1 _ _ ls rest q ce e1 hce hcv hcl hw
    · cases hstep
  · cases hstep
end AMS
