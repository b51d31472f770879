/-! what a step keeps -/
def am_le (σ σ' : am_S) : Prop := σ.2.1 ≤ σ'.2.1 ∧ σ.2.2 ≤ σ'.2.2
theorem am_le.rf (σ : am_S) : am_le σ σ := ⟨Nat.le_refl _, Nat.le_refl _⟩
theorem am_le.tr {a b c : am_S} (h : am_le a b) (h2 : am_le b c) : am_le a c := ⟨Nat.le_trans h.1 h2.1, Nat.le_trans h.2 h2.2⟩
def am_zle (σ : am_S) (z : am_Z) : Prop := match z with
  | .inl c => am_le σ c.2.2.2
  | .inr r => am_le σ r.2
def am_oM (rec : am_O) : Prop := ∀ (y : Nat) (as : List Value) (σ : am_S) (r : am_R) (σ' : am_S), rec y as σ = some (r, σ') → am_le σ σ'
theorem am_st1_len (lv : am_L) (i : Nat) (v : Value) : (am_st1 lv i v).length = lv.length := by simp [am_st1, am_kill_len]
theorem am_st2_len (lv : am_L) (i : Nat) (v : Value) : (am_st2 lv i v).length = lv.length := by simp [am_st2, am_kill_len]
theorem am_call_mono {rec : am_O} {t pc nx y : Nat} {lv : am_L} {rest as : List Value} {σ : am_S} {z : am_Z} (hM : am_oM rec) (h : am_call rec t pc nx lv rest σ y as = some z) : am_zle σ z := by
  unfold am_call at h
  split at h
  · split at h
    · rename_i v σ' hr
      cases h
      exact hM _ _ _ _ _ hr
    · rename_i E σ' hr
      unfold am_hc at h
      split at h
      · split at h
        · split at h <;> cases h
          exact hM _ _ _ _ _ hr
        · cases h
      · cases h
    · cases h
  · cases h
theorem am_iv_mono {rec : am_O} {t pc nx n : Nat} {lv : am_L} {st : List Value} {σ : am_S} {ct : Nat → Option Nat} {z : am_Z} (hM : am_oM rec) (h : am_iv rec t pc nx lv st σ n ct = some z) : am_zle σ z := by
  unfold am_iv at h
  split at h
  · split at h
    · split at h
      · exact am_call_mono hM h
      · cases h
    · cases h
  · cases h
theorem am_is_mono {rec : am_O} {t pc nx n y : Nat} {lv : am_L} {st : List Value} {σ : am_S} {z : am_Z} (hM : am_oM rec) (h : am_is rec t pc nx lv st σ n y = some z) : am_zle σ z := by
  unfold am_is at h
  split at h
  · exact am_call_mono hM h
  · cases h
theorem am_math_mono {nx k : Nat} {lv : am_L} {st : List Value} {σ : am_S} {z : am_Z} (h : am_math nx lv st σ k = some z) : am_zle σ z := by
  unfold am_math at h
  split at h
  all_goals first
    | (split at h
       · split at h <;> cases h
         exact am_le.rf σ
       · cases h)
    | cases h
theorem am_heap_mono {X : am_X} {rec : am_O} {t pc nx : Nat} {i : Instr} {lv : am_L} {st : List Value} {σ : am_S} {z : am_Z} (hM : am_oM rec) (h : am_heap X rec t i pc nx lv st σ = some z) : am_zle σ z := by
  cases i
  case getfield k =>
    unfold am_heap at h
    simp only at h
    split at h
    · obtain ⟨v, -, e⟩ := Option.map_eq_some_iff.mp h
      subst e
      exact am_le.rf σ
    · cases h
  case putfield k =>
    unfold am_heap at h
    simp only at h
    split at h
    · obtain ⟨v, -, e⟩ := Option.map_eq_some_iff.mp h
      subst e
      exact am_le.rf σ
    · cases h
  case iaload =>
    unfold am_heap at h
    simp only at h
    split at h
    · obtain ⟨v, -, e⟩ := Option.map_eq_some_iff.mp h
      subst e
      exact am_le.rf σ
    · cases h
  case baload =>
    unfold am_heap at h
    simp only at h
    split at h
    · obtain ⟨v, -, e⟩ := Option.map_eq_some_iff.mp h
      subst e
      exact am_le.rf σ
    · cases h
  case laload =>
    unfold am_heap at h
    simp only at h
    split at h
    · obtain ⟨v, -, e⟩ := Option.map_eq_some_iff.mp h
      subst e
      exact am_le.rf σ
    · cases h
  case aaload =>
    unfold am_heap at h
    simp only at h
    split at h
    · obtain ⟨v, -, e⟩ := Option.map_eq_some_iff.mp h
      subst e
      exact am_le.rf σ
    · cases h
  case arraylength =>
    unfold am_heap at h
    simp only at h
    split at h
    · obtain ⟨v, -, e⟩ := Option.map_eq_some_iff.mp h
      subst e
      exact am_le.rf σ
    · cases h
  case iastore =>
    unfold am_heap at h
    simp only at h
    split at h
    · obtain ⟨v, -, e⟩ := Option.map_eq_some_iff.mp h
      subst e
      exact am_le.rf σ
    · cases h
  case bastore =>
    unfold am_heap at h
    simp only at h
    split at h
    · obtain ⟨v, -, e⟩ := Option.map_eq_some_iff.mp h
      subst e
      exact am_le.rf σ
    · cases h
  case lastore =>
    unfold am_heap at h
    simp only at h
    split at h
    · obtain ⟨v, -, e⟩ := Option.map_eq_some_iff.mp h
      subst e
      exact am_le.rf σ
    · cases h
  case getstatic k =>
    unfold am_heap at h
    simp only at h
    split at h <;> cases h
    exact am_le.rf σ
  case aastore =>
    unfold am_heap at h
    simp only at h
    split at h
    · split at h
      · obtain ⟨v, -, e⟩ := Option.map_eq_some_iff.mp h
        subst e
        exact am_le.rf σ
      · cases h
    · obtain ⟨v, -, e⟩ := Option.map_eq_some_iff.mp h
      subst e
      exact am_le.rf σ
    · cases h
  case newarray a =>
    unfold am_heap at h
    simp only at h
    split at h
    · split at h
      · obtain ⟨v, -, e⟩ := Option.map_eq_some_iff.mp h
        subst e
        exact ⟨Nat.le_succ _, Nat.le_add_right _ _⟩
      · cases h
    · cases h
  case anewarray k =>
    unfold am_heap at h
    simp only at h
    split at h
    · split at h <;> cases h
      exact ⟨Nat.le_succ _, Nat.le_add_right _ _⟩
    · cases h
  case multianewarray k d =>
    unfold am_heap at h
    simp only at h
    split at h
    · split at h <;> cases h
      exact ⟨by show σ.2.1 ≤ σ.2.1 + 1 + _; omega, by show σ.2.2 ≤ σ.2.2 + _ + _; omega⟩
    · cases h
  case new k =>
    unfold am_heap at h
    simp only at h
    unfold am_new at h
    split at h
    · split at h
      · cases h
        exact ⟨Nat.le_succ _, Nat.le_add_right _ _⟩
      · split at h <;> cases h
        exact ⟨Nat.le_succ _, Nat.le_add_right _ _⟩
    · cases h
  case instanceof k =>
    unfold am_heap at h
    simp only at h
    split at h
    · split at h
      · obtain ⟨v, -, e⟩ := Option.map_eq_some_iff.mp h
        subst e
        exact am_le.rf σ
      · cases h
        exact am_le.rf σ
      · cases h
    · cases h
  case checkcast k =>
    unfold am_heap at h
    simp only at h
    split at h
    · split at h
      · split at h <;> cases h
        exact am_le.rf σ
      · cases h
        exact am_le.rf σ
      · cases h
    · split at h
      · unfold am_cka at h
        split at h
        · obtain ⟨v, -, e⟩ := Option.map_eq_some_iff.mp h
          subst e
          exact am_le.rf σ
        · cases h
      · cases h
  case invokestatic k =>
    unfold am_heap at h
    simp only at h
    split at h
    · split at h
      · split at h
        · obtain ⟨v, -, e⟩ := Option.map_eq_some_iff.mp h
          subst e
          exact am_le.rf σ
        · cases h
      · cases h
    · split at h
      · exact am_math_mono h
      · split at h
        · exact am_is_mono hM h
        · cases h
  case invokespecial k =>
    unfold am_heap at h
    simp only at h
    split at h
    · split at h
      · split at h <;> cases h
        exact am_le.rf σ
      · cases h
    · split at h
      · exact am_iv_mono hM h
      · split at h
        · exact am_iv_mono hM h
        · cases h
  case invokevirtual k =>
    unfold am_heap at h
    simp only at h
    split at h
    · exact am_iv_mono hM h
    · split at h
      · unfold am_cln at h
        split at h
        · split at h
          · obtain ⟨v, -, e⟩ := Option.map_eq_some_iff.mp h
            subst e
            exact ⟨Nat.le_succ _, Nat.le_add_right _ _⟩
          · cases h
        · cases h
      · cases h
  case ireturn =>
    unfold am_heap at h
    simp only at h
    split at h
    · split at h
      · cases h
        exact am_le.rf σ
      · split at h <;> cases h
        exact am_le.rf σ
      · cases h
    · cases h
  case lreturn =>
    unfold am_heap at h
    simp only at h
    split at h
    · split at h <;> cases h
      exact am_le.rf σ
    · cases h
  case areturn =>
    unfold am_heap at h
    simp only at h
    split at h
    · split at h <;> cases h
      all_goals exact am_le.rf σ
    · split at h <;> cases h
      all_goals exact am_le.rf σ
    · cases h
  case return_ =>
    unfold am_heap at h
    simp only at h
    split at h
    · split at h <;> cases h
      exact am_le.rf σ
    · cases h
  all_goals cases h
theorem am_one_mono {X : am_X} {rec : am_O} {t : Nat} {c : am_F} {z : am_Z} (hM : am_oM rec) (h : am_one X rec t c = some z) : am_zle c.2.2.2 z := by
  unfold am_one at h
  split at h
  · unfold am_step at h
    split at h
    · cases h
      exact am_le.rf _
    · exact am_heap_mono hM h
  · cases h
theorem am_run_mono {X : am_X} {rec : am_O} {t : Nat} (hM : am_oM rec) : ∀ (n : Nat) (c : am_F) (r : am_R) (σ' : am_S), am_run X rec t n c = some (r, σ') → am_le c.2.2.2 σ'
  | 0, c, r, σ', h => by simp [am_run] at h
  | n + 1, c, r, σ', h => by
    unfold am_run at h
    split at h
    · rename_i c' ho
      have h1 := am_one_mono hM ho
      have h2 := am_run_mono hM n c' r σ' h
      exact am_le.tr h1 h2
    · rename_i z ho
      cases h
      exact am_one_mono hM ho
    · cases h
theorem am_f_mono (X : am_X) : ∀ d : Nat, am_oM (am_f X d)
  | 0 => fun y as σ r σ' h => by simp [am_f] at h
  | d + 1 => fun y as σ r σ' h => by
    unfold am_f at h
    split at h
    · unfold am_I at h
      obtain ⟨n, hn⟩ := am_lim_iff.mp h
      exact am_run_mono (am_f_mono X d) n _ r σ' hn
    · cases h
theorem am_pure_len {t pc nx tg pc' : Nat} {i : Instr} {lv lv' : am_L} {st st' : List Value} (hp : am_pure t i pc nx tg lv st = some (pc', lv', st')) : lv'.length = lv.length := by
  cases i
  case iconst n =>
    cases hp
    rfl
  case bipush n =>
    cases hp
    rfl
  case sipush n =>
    cases hp
    rfl
  case lconst n =>
    cases hp
    rfl
  case aconst_null =>
    cases hp
    rfl
  case goto k =>
    cases hp
    rfl
  case ldc k =>
    obtain ⟨v, -, e⟩ := Option.map_eq_some_iff.mp hp
    cases e
    rfl
  case ldc_w k =>
    obtain ⟨v, -, e⟩ := Option.map_eq_some_iff.mp hp
    cases e
    rfl
  case ldc2_w k =>
    obtain ⟨v, -, e⟩ := Option.map_eq_some_iff.mp hp
    cases e
    rfl
  case iload k =>
    obtain ⟨x, h, e⟩ := am_pil_inv hp
    cases e
    rfl
  case iload_n k =>
    obtain ⟨x, h, e⟩ := am_pil_inv hp
    cases e
    rfl
  case lload k =>
    obtain ⟨x, h, e⟩ := am_pll_inv hp
    cases e
    rfl
  case lload_n k =>
    obtain ⟨x, h, e⟩ := am_pll_inv hp
    cases e
    rfl
  case aload k =>
    rcases am_pal_inv hp with ⟨x, h, e⟩ | ⟨h, e⟩ <;> cases e <;> rfl
  case istore k =>
    obtain ⟨x, r, rfl, hk, e⟩ := am_pis_inv hp
    cases e
    exact am_st1_len _ _ _
  case lstore k =>
    obtain ⟨x, r, rfl, hk, e⟩ := am_pls_inv hp
    cases e
    exact am_st2_len _ _ _
  case astore k =>
    rcases am_pas_inv hp with ⟨x, r, rfl, hk, e⟩ | ⟨r, rfl, hk, e⟩ <;> cases e <;> exact am_st1_len _ _ _
  case aload_n k =>
    rcases am_pal_inv hp with ⟨x, h, e⟩ | ⟨h, e⟩ <;> cases e <;> rfl
  case istore_n k =>
    obtain ⟨x, r, rfl, hk, e⟩ := am_pis_inv hp
    cases e
    exact am_st1_len _ _ _
  case lstore_n k =>
    obtain ⟨x, r, rfl, hk, e⟩ := am_pls_inv hp
    cases e
    exact am_st2_len _ _ _
  case astore_n k =>
    rcases am_pas_inv hp with ⟨x, r, rfl, hk, e⟩ | ⟨r, rfl, hk, e⟩ <;> cases e <;> exact am_st1_len _ _ _
  case iinc k n =>
    obtain ⟨x, h, e⟩ := am_pinc_inv hp
    cases e
    exact am_st1_len _ _ _
  case iadd =>
    obtain ⟨x, y, r, rfl, e⟩ := am_i2_inv hp
    cases e
    rfl
  case isub =>
    obtain ⟨x, y, r, rfl, e⟩ := am_i2_inv hp
    cases e
    rfl
  case imul =>
    obtain ⟨x, y, r, rfl, e⟩ := am_i2_inv hp
    cases e
    rfl
  case iand =>
    obtain ⟨x, y, r, rfl, e⟩ := am_i2_inv hp
    cases e
    rfl
  case ior =>
    obtain ⟨x, y, r, rfl, e⟩ := am_i2_inv hp
    cases e
    rfl
  case ishl =>
    obtain ⟨x, y, r, rfl, e⟩ := am_i2_inv hp
    cases e
    rfl
  case ishr =>
    obtain ⟨x, y, r, rfl, e⟩ := am_i2_inv hp
    cases e
    rfl
  case idiv =>
    obtain ⟨x, y, r, rfl, hy, e⟩ := am_i2z_inv hp
    cases e
    rfl
  case irem =>
    obtain ⟨x, y, r, rfl, hy, e⟩ := am_i2z_inv hp
    cases e
    rfl
  case ladd =>
    obtain ⟨x, y, r, rfl, e⟩ := am_l2_inv hp
    cases e
    rfl
  case lsub =>
    obtain ⟨x, y, r, rfl, e⟩ := am_l2_inv hp
    cases e
    rfl
  case lmul =>
    obtain ⟨x, y, r, rfl, e⟩ := am_l2_inv hp
    cases e
    rfl
  case ldiv =>
    obtain ⟨x, y, r, rfl, hy, e⟩ := am_l2z_inv hp
    cases e
    rfl
  case lrem =>
    obtain ⟨x, y, r, rfl, hy, e⟩ := am_l2z_inv hp
    cases e
    rfl
  case ineg =>
    obtain ⟨x, r, rfl, e⟩ := am_i1_inv hp
    cases e
    rfl
  case i2b =>
    obtain ⟨x, r, rfl, e⟩ := am_i1_inv hp
    cases e
    rfl
  case i2s =>
    obtain ⟨x, r, rfl, e⟩ := am_i1_inv hp
    cases e
    rfl
  case lneg =>
    obtain ⟨x, r, rfl, e⟩ := am_l1_inv hp
    cases e
    rfl
  case i2l =>
    unfold am_pure at hp
    simp only at hp
    split at hp
    · cases hp
      rfl
    · cases hp
  case l2i =>
    unfold am_pure at hp
    simp only at hp
    split at hp
    · cases hp
      rfl
    · cases hp
  case lcmp =>
    unfold am_pure at hp
    simp only at hp
    split at hp
    · cases hp
      rfl
    · cases hp
  case ifCond q o =>
    unfold am_pure at hp
    simp only at hp
    split at hp
    · cases hp
      rfl
    · cases hp
  case if_icmp q o =>
    unfold am_pure at hp
    simp only at hp
    split at hp
    · cases hp
      rfl
    · cases hp
  case ifnull o =>
    unfold am_pure at hp
    simp only at hp
    split at hp
    · cases hp
      rfl
    · cases hp
      rfl
    · cases hp
  case dup =>
    unfold am_pure at hp
    simp only at hp
    split at hp
    · split at hp <;> cases hp
      rfl
    · cases hp
  case pop =>
    unfold am_pure at hp
    simp only at hp
    split at hp
    · split at hp <;> cases hp
      rfl
    · cases hp
  case dup2 =>
    unfold am_pure at hp
    simp only at hp
    split at hp
    · split at hp
      · cases hp
        rfl
      · split at hp
        · split at hp <;> cases hp
          rfl
        · cases hp
    · cases hp
  case tableswitch dflt lo hi offs =>
    unfold am_pure at hp
    simp only at hp
    split at hp
    · split at hp
      · split at hp <;> cases hp
        rfl
      · split at hp
        · split at hp <;> cases hp
          rfl
        · cases hp
    · cases hp
  case lookupswitch dflt ps =>
    unfold am_pure at hp
    simp only at hp
    split at hp
    · split at hp <;> cases hp
      rfl
    · cases hp
  all_goals cases hp
