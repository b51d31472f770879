theorem am_dc_len {t pc nx tg : Nat} {i : Instr} (h : am_dc t pc = some (i, nx, tg)) (hz : am_len i ≠ 0) : decode (am_b t) pc = .ok (i, am_len i) ∧ nx = pc + am_len i := by
  obtain ⟨h1, h2, -⟩ := am_dc_spec h
  have h3 := h2 hz
  subst h3
  rw [Nat.add_sub_cancel_left] at h1
  exact ⟨h1, rfl⟩
section AMI
variable {nx k : Nat} {lv : am_L} {st : List Value} {q : am_P}
theorem am_i1_inv {f : Int32 → Int32} (h : am_i1 f nx lv st = some q) : ∃ x r, st = .int x :: r ∧ q = (nx, lv, .int (f x) :: r) := by
  unfold am_i1 at h
  split at h
  · cases h
    exact ⟨_, _, rfl, rfl⟩
  · cases h
theorem am_i2_inv {f : Int32 → Int32 → Int32} (h : am_i2 f nx lv st = some q) : ∃ x y r, st = .int y :: .int x :: r ∧ q = (nx, lv, .int (f x y) :: r) := by
  unfold am_i2 at h
  split at h
  · cases h
    exact ⟨_, _, _, rfl, rfl⟩
  · cases h
theorem am_l1_inv {f : Int64 → Int64} (h : am_l1 f nx lv st = some q) : ∃ x r, st = .long x :: r ∧ q = (nx, lv, .long (f x) :: r) := by
  unfold am_l1 at h
  split at h
  · cases h
    exact ⟨_, _, rfl, rfl⟩
  · cases h
theorem am_l2_inv {f : Int64 → Int64 → Int64} (h : am_l2 f nx lv st = some q) : ∃ x y r, st = .long y :: .long x :: r ∧ q = (nx, lv, .long (f x y) :: r) := by
  unfold am_l2 at h
  split at h
  · cases h
    exact ⟨_, _, _, rfl, rfl⟩
  · cases h
theorem am_i2z_inv {f : Int32 → Int32 → Int32} (h : am_i2z f nx lv st = some q) : ∃ x y r, st = .int y :: .int x :: r ∧ ¬ y = 0 ∧ q = (nx, lv, .int (f x y) :: r) := by
  unfold am_i2z at h
  split at h
  · split at h
    · cases h
    · rename_i hy
      cases h
      exact ⟨_, _, _, rfl, hy, rfl⟩
  · cases h
theorem am_l2z_inv {f : Int64 → Int64 → Int64} (h : am_l2z f nx lv st = some q) : ∃ x y r, st = .long y :: .long x :: r ∧ ¬ y = 0 ∧ q = (nx, lv, .long (f x y) :: r) := by
  unfold am_l2z at h
  split at h
  · split at h
    · cases h
    · rename_i hy
      cases h
      exact ⟨_, _, _, rfl, hy, rfl⟩
  · cases h
theorem am_pil_inv {o : Option Value} (h : am_pil nx lv st o = some q) : ∃ x, o = some (.int x) ∧ q = (nx, lv, .int x :: st) := by
  unfold am_pil at h
  split at h
  · cases h
    exact ⟨_, rfl, rfl⟩
  · cases h
theorem am_pll_inv {o : Option Value} (h : am_pll nx lv st o = some q) : ∃ x, o = some (.long x) ∧ q = (nx, lv, .long x :: st) := by
  unfold am_pll at h
  split at h
  · cases h
    exact ⟨_, rfl, rfl⟩
  · cases h
theorem am_pal_inv {o : Option Value} (h : am_pal nx lv st o = some q) : (∃ x, o = some (.ref x) ∧ q = (nx, lv, .ref x :: st)) ∨ (o = some .null ∧ q = (nx, lv, .null :: st)) := by
  unfold am_pal at h
  split at h
  · cases h
    exact Or.inl ⟨_, rfl, rfl⟩
  · cases h
    exact Or.inr ⟨rfl, rfl⟩
  · cases h
theorem am_pis_inv (h : am_pis nx k lv st = some q) : ∃ x r, st = .int x :: r ∧ k < lv.length ∧ q = (nx, am_st1 lv k (.int x), r) := by
  unfold am_pis at h
  split at h
  · split at h
    · rename_i hk
      cases h
      exact ⟨_, _, rfl, hk, rfl⟩
    · cases h
  · cases h
theorem am_pls_inv (h : am_pls nx k lv st = some q) : ∃ x r, st = .long x :: r ∧ k + 1 < lv.length ∧ q = (nx, am_st2 lv k (.long x), r) := by
  unfold am_pls at h
  split at h
  · split at h
    · rename_i hk
      cases h
      exact ⟨_, _, rfl, hk, rfl⟩
    · cases h
  · cases h
theorem am_pas_inv (h : am_pas nx k lv st = some q) : (∃ x r, st = .ref x :: r ∧ k < lv.length ∧ q = (nx, am_st1 lv k (.ref x), r)) ∨ (∃ r, st = .null :: r ∧ k < lv.length ∧ q = (nx, am_st1 lv k .null, r)) := by
  unfold am_pas at h
  split at h
  · split at h
    · rename_i hk
      cases h
      exact Or.inl ⟨_, _, rfl, hk, rfl⟩
    · cases h
  · split at h
    · rename_i hk
      cases h
      exact Or.inr ⟨_, rfl, hk, rfl⟩
    · cases h
  · cases h
theorem am_pinc_inv {n : Int} (h : am_pinc nx k n lv st = some q) : ∃ x, am_ld lv k = some (.int x) ∧ q = (nx, am_st1 lv k (.int (x + Int32.ofInt n)), st) := by
  unfold am_pinc at h
  split at h
  · rename_i x hx
    cases h
    exact ⟨x, hx, rfl⟩
  · cases h
end AMI
section AMP
variable {p : Program} {l : Launch} {e : Env} {R : Room} {s : State} {m : MethodId} {args : Array Value} {below : List Frame} {meth : Method} {c : Code} {H : Heap} {locs : List Loc} {cells slots : Nat} {Q : State → Prop}
theorem lv_iinc' {cc : ByteArray} {pc : Nat} {ls : Array Slot} {rest : List Value} (hexec : p.tables.exec = Jvm.exec) (hb : c.code = cc) {i nL : Nat} {n : Int} {x : Int32} {lv : List (Nat × Value)} (hdg : decode cc pc = .ok (.iinc i n, 3)) (h : lv_has ls nL lv) (hg : ls[i]? = some (.val (.int x))) (hn : i < nL)
    (kk : ∀ ls' : Array Slot, lv_has ls' nL ((i, Value.int (x + Int32.ofInt n)) :: lv.filter (fun q => !(q.1 == i) && !(q.1 + 1 == i && q.2.category == 2))) → W p l e R s m args below meth c H locs cells slots Q (F0 m (pc + 3) ls' rest)) : W p l e R s m args below meth c H locs cells slots Q (F0 m pc ls rest) := by
  obtain ⟨ls', e', h'⟩ := lv_store1 (v := .int (x + Int32.ofInt n)) h hn rfl
  intro T hT X
  obtain ⟨t, a, b⟩ := kk ls' h' T hT X
  refine ⟨t, ?_, b⟩
  jvm_step X.here [X.here.top, ↓top_set X.here.top, hexec, hb, hdg, hg, e']
  exact a
set_option maxHeartbeats 4000000 in
theorem am_pure_ok {t pc nx tg pc' : Nat} {i : Instr} {lv lv' : am_L} {st st' : List Value} {ls : Array Slot} (hx : p.tables.exec = Jvm.exec) (hb : c.code = am_b t) (hown : s.vm.findClass (cN (am_own t)) = some m.cls)
    (hci : ∀ (k : Nat) (v : Int32), am_ci (am_own t) k = some v → (Jvm.Cond.constant (cN (am_own t)) k v).before args s = true) (hcj : ∀ (k : Nat) (v : Int64), am_cj (am_own t) k = some v → (Jvm.Cond.constantLong (cN (am_own t)) k v).before args s = true)
    (hd : am_dc t pc = some (i, nx, tg)) (hp : am_pure t i pc nx tg lv st = some (pc', lv', st')) (hl : am_lvR ls lv)
    (kk : ∀ ls' : Array Slot, am_lvR ls' lv' → W p l e R s m args below meth c H locs cells slots Q (F0 m pc' ls' st')) : W p l e R s m args below meth c H locs cells slots Q (F0 m pc ls st) := by
  have hoff := (am_dc_spec hd).2.2
  cases i
  case iconst n =>
    cases hp
    obtain ⟨hdg, rfl⟩ := am_dc_len hd (by simp [am_len])
    exact lv_iconst hx hb hdg rfl (kk ls hl)
  case bipush n =>
    cases hp
    obtain ⟨hdg, rfl⟩ := am_dc_len hd (by simp [am_len])
    exact lv_bipush hx hb hdg rfl (kk ls hl)
  case sipush n =>
    cases hp
    obtain ⟨hdg, rfl⟩ := am_dc_len hd (by simp [am_len])
    exact lv_sipush hx hb hdg rfl (kk ls hl)
  case lconst n =>
    cases hp
    obtain ⟨hdg, rfl⟩ := am_dc_len hd (by simp [am_len])
    exact lv_lconst hx hb hdg rfl (kk ls hl)
  case aconst_null =>
    cases hp
    obtain ⟨hdg, rfl⟩ := am_dc_len hd (by simp [am_len])
    exact lv_null hx hb hdg (kk ls hl)
  case ldc k =>
    obtain ⟨v, hv, e⟩ := Option.map_eq_some_iff.mp (show (am_ci (am_own t) k).map (fun x => (nx, lv, Value.int x :: st)) = some (pc', lv', st') from hp)
    cases e
    obtain ⟨hdg, rfl⟩ := am_dc_len hd (by simp [am_len])
    exact lv_ldc hx hb hown (hci k v hv) hdg (kk ls hl)
  case ldc_w k =>
    obtain ⟨v, hv, e⟩ := Option.map_eq_some_iff.mp (show (am_ci (am_own t) k).map (fun x => (nx, lv, Value.int x :: st)) = some (pc', lv', st') from hp)
    cases e
    obtain ⟨hdg, rfl⟩ := am_dc_len hd (by simp [am_len])
    exact lv_ldcw hx hb hown (hci k v hv) hdg (kk ls hl)
  case ldc2_w k =>
    obtain ⟨v, hv, e⟩ := Option.map_eq_some_iff.mp (show (am_cj (am_own t) k).map (fun x => (nx, lv, Value.long x :: st)) = some (pc', lv', st') from hp)
    cases e
    obtain ⟨hdg, rfl⟩ := am_dc_len hd (by simp [am_len])
    exact lv_ldc2 hx hb hown (hcj k v hv) hdg (kk ls hl)
  case iload k =>
    obtain ⟨x, h, e⟩ := am_pil_inv hp
    cases e
    obtain ⟨hdg, rfl⟩ := am_dc_len hd (by simp [am_len])
    exact lv_iload hx hb hdg (hl.2.2 _ _ h) (kk ls hl)
  case iload_n k =>
    obtain ⟨x, h, e⟩ := am_pil_inv hp
    cases e
    obtain ⟨hdg, rfl⟩ := am_dc_len hd (by simp [am_len])
    exact lv_iload_n hx hb hdg rfl (hl.2.2 _ _ h) (kk ls hl)
  case lload k =>
    obtain ⟨x, h, e⟩ := am_pll_inv hp
    cases e
    obtain ⟨hdg, rfl⟩ := am_dc_len hd (by simp [am_len])
    exact lv_lload hx hb hdg (hl.2.2 _ _ h) (kk ls hl)
  case lload_n k =>
    obtain ⟨x, h, e⟩ := am_pll_inv hp
    cases e
    obtain ⟨hdg, rfl⟩ := am_dc_len hd (by simp [am_len])
    exact lv_lload_n hx hb hdg rfl (hl.2.2 _ _ h) (kk ls hl)
  case aload k =>
    rcases am_pal_inv hp with ⟨x, h, e⟩ | ⟨h, e⟩
    · cases e
      obtain ⟨hdg, rfl⟩ := am_dc_len hd (by simp [am_len])
      exact lv_aload hx hb hdg (hl.2.2 _ _ h) (kk ls hl)
    · cases e
      obtain ⟨hdg, rfl⟩ := am_dc_len hd (by simp [am_len])
      exact lv_aloadN hx hb hdg (hl.2.2 _ _ h) (kk ls hl)
  case aload_n k =>
    rcases am_pal_inv hp with ⟨x, h, e⟩ | ⟨h, e⟩
    · cases e
      obtain ⟨hdg, rfl⟩ := am_dc_len hd (by simp [am_len])
      exact lv_aload_n hx hb hdg rfl (hl.2.2 _ _ h) (kk ls hl)
    · cases e
      obtain ⟨hdg, rfl⟩ := am_dc_len hd (by simp [am_len])
      exact lv_aload_nN hx hb hdg rfl (hl.2.2 _ _ h) (kk ls hl)
  case istore k =>
    obtain ⟨x, r, rfl, hk, e⟩ := am_pis_inv hp
    cases e
    obtain ⟨hdg, rfl⟩ := am_dc_len hd (by simp [am_len])
    exact lv_istore hx hb hdg hl.has hk rfl (fun ls' h' => kk ls' (am_lvR.st1 (ls := ls) h'))
  case istore_n k =>
    obtain ⟨x, r, rfl, hk, e⟩ := am_pis_inv hp
    cases e
    obtain ⟨hdg, rfl⟩ := am_dc_len hd (by simp [am_len])
    exact lv_istore_n hx hb hdg rfl hl.has hk rfl (fun ls' h' => kk ls' (am_lvR.st1 (ls := ls) h'))
  case lstore k =>
    obtain ⟨x, r, rfl, hk, e⟩ := am_pls_inv hp
    cases e
    obtain ⟨hdg, rfl⟩ := am_dc_len hd (by simp [am_len])
    exact lv_lstore hx hb hdg hl.has hk rfl (fun ls' h' => kk ls' (am_lvR.st2 (ls := ls) h'))
  case lstore_n k =>
    obtain ⟨x, r, rfl, hk, e⟩ := am_pls_inv hp
    cases e
    obtain ⟨hdg, rfl⟩ := am_dc_len hd (by simp [am_len])
    exact lv_lstore_n hx hb hdg rfl hl.has hk rfl (fun ls' h' => kk ls' (am_lvR.st2 (ls := ls) h'))
  case astore k =>
    rcases am_pas_inv hp with ⟨x, r, rfl, hk, e⟩ | ⟨r, rfl, hk, e⟩
    · cases e
      obtain ⟨hdg, rfl⟩ := am_dc_len hd (by simp [am_len])
      exact lv_astore hx hb hdg hl.has hk rfl (fun ls' h' => kk ls' (am_lvR.st1 (ls := ls) h'))
    · cases e
      obtain ⟨hdg, rfl⟩ := am_dc_len hd (by simp [am_len])
      exact lv_astoreN hx hb hdg hl.has hk rfl (fun ls' h' => kk ls' (am_lvR.st1 (ls := ls) h'))
  case astore_n k =>
    rcases am_pas_inv hp with ⟨x, r, rfl, hk, e⟩ | ⟨r, rfl, hk, e⟩
    · cases e
      obtain ⟨hdg, rfl⟩ := am_dc_len hd (by simp [am_len])
      exact lv_astore_n hx hb hdg rfl hl.has hk rfl (fun ls' h' => kk ls' (am_lvR.st1 (ls := ls) h'))
    · cases e
      obtain ⟨hdg, rfl⟩ := am_dc_len hd (by simp [am_len])
      exact lv_astore_nN hx hb hdg rfl hl.has hk rfl (fun ls' h' => kk ls' (am_lvR.st1 (ls := ls) h'))
  case iinc k n =>
    obtain ⟨x, h, e⟩ := am_pinc_inv hp
    cases e
    obtain ⟨hdg, rfl⟩ := am_dc_len hd (by simp [am_len])
    exact lv_iinc' hx hb hdg hl.has (hl.2.2 _ _ h) (am_ld_lt h) (fun ls' h' => kk ls' (am_lvR.st1 (ls := ls) h'))
  case iadd =>
    obtain ⟨x, y, r, rfl, e⟩ := am_i2_inv hp
    cases e
    obtain ⟨hdg, rfl⟩ := am_dc_len hd (by simp [am_len])
    exact lv_iadd hx hb hdg (kk ls hl)
  case isub =>
    obtain ⟨x, y, r, rfl, e⟩ := am_i2_inv hp
    cases e
    obtain ⟨hdg, rfl⟩ := am_dc_len hd (by simp [am_len])
    exact lv_isub hx hb hdg (kk ls hl)
  case imul =>
    obtain ⟨x, y, r, rfl, e⟩ := am_i2_inv hp
    cases e
    obtain ⟨hdg, rfl⟩ := am_dc_len hd (by simp [am_len])
    exact lv_imul hx hb hdg (kk ls hl)
  case iand =>
    obtain ⟨x, y, r, rfl, e⟩ := am_i2_inv hp
    cases e
    obtain ⟨hdg, rfl⟩ := am_dc_len hd (by simp [am_len])
    exact lv_iand hx hb hdg (kk ls hl)
  case ior =>
    obtain ⟨x, y, r, rfl, e⟩ := am_i2_inv hp
    cases e
    obtain ⟨hdg, rfl⟩ := am_dc_len hd (by simp [am_len])
    exact lv_ior hx hb hdg (kk ls hl)
  case ishl =>
    obtain ⟨x, y, r, rfl, e⟩ := am_i2_inv hp
    cases e
    obtain ⟨hdg, rfl⟩ := am_dc_len hd (by simp [am_len])
    exact lv_ishl hx hb hdg (kk ls hl)
  case ishr =>
    obtain ⟨x, y, r, rfl, e⟩ := am_i2_inv hp
    cases e
    obtain ⟨hdg, rfl⟩ := am_dc_len hd (by simp [am_len])
    exact lv_ishr hx hb hdg (kk ls hl)
  case idiv =>
    obtain ⟨x, y, r, rfl, hy, e⟩ := am_i2z_inv hp
    cases e
    obtain ⟨hdg, rfl⟩ := am_dc_len hd (by simp [am_len])
    exact lv_idiv hx hb hdg hy (kk ls hl)
  case irem =>
    obtain ⟨x, y, r, rfl, hy, e⟩ := am_i2z_inv hp
    cases e
    obtain ⟨hdg, rfl⟩ := am_dc_len hd (by simp [am_len])
    exact lv_irem hx hb hdg hy (kk ls hl)
  case ladd =>
    obtain ⟨x, y, r, rfl, e⟩ := am_l2_inv hp
    cases e
    obtain ⟨hdg, rfl⟩ := am_dc_len hd (by simp [am_len])
    exact lv_ladd hx hb hdg (kk ls hl)
  case lsub =>
    obtain ⟨x, y, r, rfl, e⟩ := am_l2_inv hp
    cases e
    obtain ⟨hdg, rfl⟩ := am_dc_len hd (by simp [am_len])
    exact lv_lsub hx hb hdg (kk ls hl)
  case lmul =>
    obtain ⟨x, y, r, rfl, e⟩ := am_l2_inv hp
    cases e
    obtain ⟨hdg, rfl⟩ := am_dc_len hd (by simp [am_len])
    exact lv_lmul hx hb hdg (kk ls hl)
  case ldiv =>
    obtain ⟨x, y, r, rfl, hy, e⟩ := am_l2z_inv hp
    cases e
    obtain ⟨hdg, rfl⟩ := am_dc_len hd (by simp [am_len])
    exact lv_ldiv hx hb hdg hy (kk ls hl)
  case lrem =>
    obtain ⟨x, y, r, rfl, hy, e⟩ := am_l2z_inv hp
    cases e
    obtain ⟨hdg, rfl⟩ := am_dc_len hd (by simp [am_len])
    exact lv_lrem hx hb hdg hy (kk ls hl)
  case ineg =>
    obtain ⟨x, r, rfl, e⟩ := am_i1_inv hp
    cases e
    obtain ⟨hdg, rfl⟩ := am_dc_len hd (by simp [am_len])
    exact lv_ineg hx hb hdg (kk ls hl)
  case lneg =>
    obtain ⟨x, r, rfl, e⟩ := am_l1_inv hp
    cases e
    obtain ⟨hdg, rfl⟩ := am_dc_len hd (by simp [am_len])
    exact lv_lneg hx hb hdg (kk ls hl)
  case i2b =>
    obtain ⟨x, r, rfl, e⟩ := am_i1_inv hp
    cases e
    obtain ⟨hdg, rfl⟩ := am_dc_len hd (by simp [am_len])
    exact lv_i2b hx hb hdg rfl (kk ls hl)
  case i2s =>
    obtain ⟨x, r, rfl, e⟩ := am_i1_inv hp
    cases e
    obtain ⟨hdg, rfl⟩ := am_dc_len hd (by simp [am_len])
    exact lv_i2s hx hb hdg rfl (kk ls hl)
  case i2l =>
    unfold am_pure at hp
    simp only at hp
    split at hp
    · cases hp
      obtain ⟨hdg, rfl⟩ := am_dc_len hd (by simp [am_len])
      exact lv_i2l hx hb hdg rfl (kk ls hl)
    · cases hp
  case l2i =>
    unfold am_pure at hp
    simp only at hp
    split at hp
    · cases hp
      obtain ⟨hdg, rfl⟩ := am_dc_len hd (by simp [am_len])
      exact lv_l2i hx hb hdg rfl (kk ls hl)
    · cases hp
  case lcmp =>
    unfold am_pure at hp
    simp only at hp
    split at hp
    · cases hp
      obtain ⟨hdg, rfl⟩ := am_dc_len hd (by simp [am_len])
      exact W.lcmp hx hb hdg (kk ls hl)
    · cases hp
  case dup =>
    unfold am_pure at hp
    simp only at hp
    split at hp
    · split at hp
      · cases hp
      · rename_i v r hc
        cases hp
        obtain ⟨hdg, rfl⟩ := am_dc_len hd (by simp [am_len])
        refine lv_dup hx hb hdg ?_ (kk ls hl)
        rcases lv_cat v with q | q
        · exact q
        · exact absurd ((am_c2_cat _).mpr q) hc
    · cases hp
  case pop =>
    unfold am_pure at hp
    simp only at hp
    split at hp
    · split at hp
      · cases hp
      · rename_i v r hc
        cases hp
        obtain ⟨hdg, rfl⟩ := am_dc_len hd (by simp [am_len])
        refine lv_pop hx hb hdg ?_ (kk ls hl)
        rcases lv_cat v with q | q
        · exact q
        · exact absurd ((am_c2_cat _).mpr q) hc
    · cases hp
  case dup2 =>
    unfold am_pure at hp
    simp only at hp
    split at hp
    · split at hp
      · rename_i v r hc
        cases hp
        obtain ⟨hdg, rfl⟩ := am_dc_len hd (by simp [am_len])
        exact lv_dup2_2 hx hb hdg ((am_c2_cat _).mp hc) (kk ls hl)
      · rename_i v r hc
        split at hp
        · split at hp
          · cases hp
          · rename_i w r2 hc2
            cases hp
            obtain ⟨hdg, rfl⟩ := am_dc_len hd (by simp [am_len])
            refine lv_dup2_11 hx hb hdg ?_ ?_ (kk ls hl)
            · rcases lv_cat v with q | q
              · exact q
              · exact absurd ((am_c2_cat _).mpr q) hc
            · rcases lv_cat w with q | q
              · exact q
              · exact absurd ((am_c2_cat _).mpr q) hc2
        · cases hp
    · cases hp
  case goto k =>
    cases hp
    obtain ⟨hdg, rfl⟩ := am_dc_len hd (by simp [am_len])
    exact lv_goto hx hb hdg (hoff k rfl) (kk ls hl)
  case ifCond q o =>
    unfold am_pure at hp
    simp only at hp
    split at hp
    · rename_i x r
      cases hp
      obtain ⟨hdg, rfl⟩ := am_dc_len hd (by simp [am_len])
      have ht := hoff o rfl
      cases q
      case eq =>
        refine lv_if_eq hx hb hdg ht (fun hc => ?_) (fun hc => ?_)
        · have := kk ls hl
          rw [show am_cmp .eq x 0 = true from decide_eq_true hc] at this
          exact this
        · have := kk ls hl
          rw [show am_cmp .eq x 0 = false from decide_eq_false hc] at this
          exact this
      case ne =>
        refine lv_if_ne hx hb hdg ht (fun hc => ?_) (fun hc => ?_)
        · have := kk ls hl
          rw [show am_cmp .ne x 0 = true from decide_eq_true hc] at this
          exact this
        · have := kk ls hl
          rw [show am_cmp .ne x 0 = false from decide_eq_false (fun h => h hc)] at this
          exact this
      case lt =>
        refine lv_if_lt hx hb hdg ht (fun hc => ?_) (fun hc => ?_)
        · have := kk ls hl
          rw [show am_cmp .lt x 0 = true from decide_eq_true hc] at this
          exact this
        · have := kk ls hl
          rw [show am_cmp .lt x 0 = false from decide_eq_false hc] at this
          exact this
      case ge =>
        refine lv_if_ge hx hb hdg ht (fun hc => ?_) (fun hc => ?_)
        · have := kk ls hl
          rw [show am_cmp .ge x 0 = true from decide_eq_true hc] at this
          exact this
        · have := kk ls hl
          rw [show am_cmp .ge x 0 = false from decide_eq_false hc] at this
          exact this
      case gt =>
        refine lv_if_gt hx hb hdg ht (fun hc => ?_) (fun hc => ?_)
        · have := kk ls hl
          rw [show am_cmp .gt x 0 = true from decide_eq_true hc] at this
          exact this
        · have := kk ls hl
          rw [show am_cmp .gt x 0 = false from decide_eq_false hc] at this
          exact this
      case le =>
        refine lv_if_le hx hb hdg ht (fun hc => ?_) (fun hc => ?_)
        · have := kk ls hl
          rw [show am_cmp .le x 0 = true from decide_eq_true hc] at this
          exact this
        · have := kk ls hl
          rw [show am_cmp .le x 0 = false from decide_eq_false hc] at this
          exact this
    · cases hp
  case if_icmp q o =>
    unfold am_pure at hp
    simp only at hp
    split at hp
    · rename_i y x r
      cases hp
      obtain ⟨hdg, rfl⟩ := am_dc_len hd (by simp [am_len])
      have ht := hoff o rfl
      cases q
      case eq =>
        refine lv_icmp_eq hx hb hdg ht (fun hc => ?_) (fun hc => ?_)
        · have := kk ls hl
          rw [show am_cmp .eq x y = true from decide_eq_true hc] at this
          exact this
        · have := kk ls hl
          rw [show am_cmp .eq x y = false from decide_eq_false hc] at this
          exact this
      case ne =>
        refine lv_icmp_ne hx hb hdg ht (fun hc => ?_) (fun hc => ?_)
        · have := kk ls hl
          rw [show am_cmp .ne x y = true from decide_eq_true hc] at this
          exact this
        · have := kk ls hl
          rw [show am_cmp .ne x y = false from decide_eq_false (fun h => h hc)] at this
          exact this
      case lt =>
        refine lv_icmp_lt hx hb hdg ht (fun hc => ?_) (fun hc => ?_)
        · have := kk ls hl
          rw [show am_cmp .lt x y = true from decide_eq_true hc] at this
          exact this
        · have := kk ls hl
          rw [show am_cmp .lt x y = false from decide_eq_false hc] at this
          exact this
      case ge =>
        refine lv_icmp_ge hx hb hdg ht (fun hc => ?_) (fun hc => ?_)
        · have := kk ls hl
          rw [show am_cmp .ge x y = true from decide_eq_true hc] at this
          exact this
        · have := kk ls hl
          rw [show am_cmp .ge x y = false from decide_eq_false hc] at this
          exact this
      case gt =>
        refine lv_icmp_gt hx hb hdg ht (fun hc => ?_) (fun hc => ?_)
        · have := kk ls hl
          rw [show am_cmp .gt x y = true from decide_eq_true hc] at this
          exact this
        · have := kk ls hl
          rw [show am_cmp .gt x y = false from decide_eq_false hc] at this
          exact this
      case le =>
        refine lv_icmp_le hx hb hdg ht (fun hc => ?_) (fun hc => ?_)
        · have := kk ls hl
          rw [show am_cmp .le x y = true from decide_eq_true hc] at this
          exact this
        · have := kk ls hl
          rw [show am_cmp .le x y = false from decide_eq_false hc] at this
          exact this
    · cases hp
  case ifnull o =>
    unfold am_pure at hp
    simp only at hp
    split at hp
    · cases hp
      obtain ⟨hdg, rfl⟩ := am_dc_len hd (by simp [am_len])
      exact lv_ifnull hx hb hdg (kk ls hl)
    · cases hp
      obtain ⟨hdg, rfl⟩ := am_dc_len hd (by simp [am_len])
      exact lv_ifnullN hx hb hdg (hoff o rfl) (kk ls hl)
    · cases hp
  case tableswitch dflt lo hi offs =>
    have hdg := (am_dc_spec hd).1
    unfold am_pure at hp
    simp only at hp
    split at hp
    · split at hp
      · rename_i x r hr
        split at hp
        · rename_i h0
          cases hp
          exact lv_tableOut hx hb hdg hr (Int.toNat_of_nonneg h0).symm (kk ls hl)
        · cases hp
      · rename_i x r hr
        split at hp
        · rename_i o ho
          split at hp
          · rename_i h0
            cases hp
            exact lv_tableIn hx hb hdg (fun q => hr (Or.inl q)) (fun q => hr (Or.inr q)) ho (Int.toNat_of_nonneg h0).symm (kk ls hl)
          · cases hp
        · cases hp
    · cases hp
  case lookupswitch dflt ps =>
    have hdg := (am_dc_spec hd).1
    unfold am_pure at hp
    simp only at hp
    split at hp
    · split at hp
      · rename_i x r hr
        cases hp
        exact lv_lookup hx hb hdg hr.1 rfl (Int.toNat_of_nonneg hr.2).symm (kk ls hl)
      · cases hp
    · cases hp
  all_goals cases hp
end AMP
