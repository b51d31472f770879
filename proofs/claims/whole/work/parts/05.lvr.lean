/-! the machine's locals and the abstract ones -/
def am_lvR (ls : Array Slot) (lv : am_L) : Prop := ls.size = lv.length ∧ lv_wf ls ∧ ∀ (k : Nat) (v : Value), am_ld lv k = some v → ls[k]? = some (.val v)
def am_lvl (lv : am_L) : List (Nat × Value) := (List.range lv.length).filterMap (fun k => (am_ld lv k).map (fun v => (k, v)))
theorem am_ld_lt {lv : am_L} {k : Nat} {v : Value} (h : am_ld lv k = some v) : k < lv.length := by
  unfold am_ld at h
  cases hk : lv[k]? with
  | none => rw [hk] at h; simp at h
  | some o => exact (List.getElem?_eq_some_iff.mp hk).1
theorem am_lvl_mem {lv : am_L} {k : Nat} {v : Value} (h : am_ld lv k = some v) : (k, v) ∈ am_lvl lv := List.mem_filterMap.mpr ⟨k, List.mem_range.mpr (am_ld_lt h), by rw [h]; rfl⟩
theorem am_lvR.has {ls : Array Slot} {lv : am_L} (h : am_lvR ls lv) : lv_has ls lv.length (am_lvl lv) := by
  refine ⟨h.1, h.2.1, fun q hq => ?_⟩
  obtain ⟨k, -, hk⟩ := List.mem_filterMap.mp hq
  cases hl : am_ld lv k with
  | none => rw [hl] at hk; cases hk
  | some v =>
    rw [hl] at hk
    cases hk
    exact h.2.2 k v hl
theorem am_c2_cat (v : Value) : am_c2 v = true ↔ v.category = 2 := by
  cases v <;> simp [am_c2, Value.category]
theorem am_ld_set {lv : am_L} {i k : Nat} {o : Option Value} {v : Value} (h : am_ld (lv.set i o) k = some v) : (k = i ∧ o = some v) ∨ (k ≠ i ∧ am_ld lv k = some v) := by
  unfold am_ld at *
  by_cases hk : k = i
  · subst hk
    left
    refine ⟨rfl, ?_⟩
    rw [List.getElem?_set] at h
    simp only [if_true] at h
    split at h
    · simpa using h
    · simp at h
  · right
    rw [List.getElem?_set_ne (Ne.symm hk)] at h
    exact ⟨hk, h⟩
theorem am_ld_kill {lv : am_L} {i k : Nat} {v : Value} (h : am_ld (am_kill lv i) k = some v) : am_ld lv k = some v ∧ ¬ (k + 1 = i ∧ v.category = 2) := by
  unfold am_kill at h
  cases i with
  | zero => exact ⟨h, fun q => by omega⟩
  | succ j =>
    cases hj : lv[j]? with
    | none =>
      simp only [hj] at h
      refine ⟨h, fun q => ?_⟩
      have : k = j := by omega
      subst this
      unfold am_ld at h
      rw [hj] at h
      simp at h
    | some o =>
      cases o with
      | none =>
        simp only [hj] at h
        refine ⟨h, fun q => ?_⟩
        have : k = j := by omega
        subst this
        unfold am_ld at h
        rw [hj] at h
        simp at h
      | some w =>
        simp only [hj] at h
        by_cases hc : am_c2 w = true
        · rw [if_pos hc] at h
          rcases am_ld_set h with ⟨-, h2⟩ | ⟨h1, h2⟩
          · cases h2
          · exact ⟨h2, fun q => h1 (by omega)⟩
        · rw [if_neg hc] at h
          refine ⟨h, fun q => hc ?_⟩
          have : k = j := by omega
          subst this
          unfold am_ld at h
          rw [hj] at h
          simp at h
          subst h
          exact (am_c2_cat _).mpr q.2
theorem am_kill_len (lv : am_L) (i : Nat) : (am_kill lv i).length = lv.length := by
  unfold am_kill
  cases i with
  | zero => rfl
  | succ j =>
    simp only
    split
    · split
      · simp
      · rfl
    · rfl
theorem am_lvR.st1 {ls ls' : Array Slot} {lv : am_L} {i : Nat} {v : Value} (h : lv_has ls' lv.length ((i, v) :: (am_lvl lv).filter (fun q => !(q.1 == i) && !(q.1 + 1 == i && q.2.category == 2)))) : am_lvR ls' (am_st1 lv i v) := by
  refine ⟨by rw [h.1]; simp [am_st1, am_kill_len], h.2.1, fun k w hk => ?_⟩
  unfold am_st1 at hk
  rcases am_ld_set hk with ⟨rfl, e⟩ | ⟨h1, h2⟩
  · cases e
    exact h.2.2 (k, v) List.mem_cons_self
  · obtain ⟨h3, h4⟩ := am_ld_kill h2
    refine h.2.2 (k, w) (List.mem_cons_of_mem _ (List.mem_filter.mpr ⟨am_lvl_mem h3, ?_⟩))
    simp only [Bool.and_eq_true, Bool.not_eq_true', beq_eq_false_iff_ne, ne_eq, Bool.and_eq_false_imp, beq_iff_eq]
    exact ⟨h1, fun q1 q2 => h4 ⟨q1, q2⟩⟩
theorem am_lvR.st2 {ls ls' : Array Slot} {lv : am_L} {i : Nat} {v : Value} (h : lv_has ls' lv.length ((i, v) :: (am_lvl lv).filter (fun q => !(q.1 == i) && (!(q.1 == i + 1) && !(q.1 + 1 == i && q.2.category == 2))))) : am_lvR ls' (am_st2 lv i v) := by
  refine ⟨by rw [h.1]; simp [am_st2, am_kill_len], h.2.1, fun k w hk => ?_⟩
  unfold am_st2 at hk
  rcases am_ld_set hk with ⟨-, e⟩ | ⟨h0, hk⟩
  · cases e
  · rcases am_ld_set hk with ⟨rfl, e⟩ | ⟨h1, h2⟩
    · cases e
      exact h.2.2 (k, v) List.mem_cons_self
    · obtain ⟨h3, h4⟩ := am_ld_kill h2
      refine h.2.2 (k, w) (List.mem_cons_of_mem _ (List.mem_filter.mpr ⟨am_lvl_mem h3, ?_⟩))
      simp only [Bool.and_eq_true, Bool.not_eq_true', beq_eq_false_iff_ne, ne_eq, Bool.and_eq_false_imp, beq_iff_eq]
      exact ⟨h1, h0, fun q1 q2 => h4 ⟨q1, q2⟩⟩
/-- a store whose value is forgotten -/
theorem am_lvR.st0 {ls ls' : Array Slot} {lv : am_L} {i : Nat} {v : Value} (h : lv_has ls' lv.length ((i, v) :: (am_lvl lv).filter (fun q => !(q.1 == i) && !(q.1 + 1 == i && q.2.category == 2)))) : am_lvR ls' ((am_kill lv i).set i none) := by
  have h1 := am_lvR.st1 (ls := ls) h
  refine ⟨by rw [h.1]; simp [am_kill_len], h1.2.1, fun k w hk => ?_⟩
  rcases am_ld_set hk with ⟨-, e⟩ | ⟨h2, h3⟩
  · cases e
  · refine h1.2.2 k w ?_
    unfold am_st1 am_ld
    rw [List.getElem?_set_ne (Ne.symm h2)]
    exact h3
theorem am_lay_len (vs : List Value) : (am_lay vs).length = (lg_sl vs).length := by
  induction vs with
  | nil => rfl
  | cons v r ih =>
    have e : lg_sl (v :: r) = (if v.category = 2 then [.val v, .second] else [.val v]) ++ lg_sl r := by simp [lg_sl]
    rw [e, am_lay]
    by_cases hc : am_c2 v = true
    · have h2 := (am_c2_cat v).mp hc
      simp [hc, h2, ih]
    · have h2 : ¬ v.category = 2 := fun q => hc ((am_c2_cat v).mpr q)
      simp [hc, h2, ih]
theorem am_lay_args : ∀ (vs : List Value) (i k : Nat) (v : Value), am_ld (am_lay vs) k = some v → (i + k, v) ∈ lv_args i vs
  | [], i, k, v, h => by simp [am_lay, am_ld] at h
  | w :: r, i, k, v, h => by
    unfold am_lay at h
    unfold lv_args
    by_cases hc : am_c2 w = true
    · have h2 := (am_c2_cat w).mp hc
      rw [if_pos hc] at h
      rw [if_pos h2]
      match k, h with
      | 0, h =>
        simp [am_ld] at h
        subst h
        exact List.mem_cons_self
      | 1, h => simp [am_ld] at h
      | k + 2, h =>
        have h3 : am_ld (am_lay r) k = some v := by simpa [am_ld] using h
        have := am_lay_args r (i + 2) k v h3
        rw [show i + 2 + k = i + (k + 2) by omega] at this
        exact List.mem_cons_of_mem _ this
    · have h2 : ¬ w.category = 2 := fun q => hc ((am_c2_cat w).mpr q)
      rw [if_neg hc] at h
      rw [if_neg h2]
      match k, h with
      | 0, h =>
        simp [am_ld] at h
        subst h
        exact List.mem_cons_self
      | k + 1, h =>
        have h3 : am_ld (am_lay r) k = some v := by simpa [am_ld] using h
        have := am_lay_args r (i + 1) k v h3
        rw [show i + 1 + k = i + (k + 1) by omega] at this
        exact List.mem_cons_of_mem _ this
theorem am_lvR.entry {vs : List Value} {n : Nat} (h : (am_lay vs).length ≤ n) : am_lvR ((lg_sl vs ++ List.replicate (n - (lg_sl vs).length) Slot.unset).toArray) (am_lv0 n vs) := by
  have hl := am_lay_len vs
  have hv := lv_entry vs (n := n) (by omega)
  refine ⟨?_, hv.2.1, fun k v hk => ?_⟩
  · rw [hv.1]
    unfold am_lv0
    simp
    omega
  · have h0 : am_ld (am_lay vs) k = some v := by
      unfold am_lv0 am_ld at hk
      unfold am_ld
      by_cases hlt : k < (am_lay vs).length
      · rw [List.getElem?_append_left hlt] at hk
        exact hk
      · rw [List.getElem?_append_right (by omega), List.getElem?_replicate] at hk
        split at hk <;> simp at hk
    have := hv.2.2 _ (am_lay_args vs 0 k v h0)
    simpa using this
theorem am_dc_spec {t pc nx tg : Nat} {i : Instr} (h : am_dc t pc = some (i, nx, tg)) : decode (am_b t) pc = .ok (i, nx - pc) ∧ (am_len i ≠ 0 → nx = pc + am_len i) ∧ ∀ o, am_off i = some o → (pc : Int) + o = (tg : Int) := by
  unfold am_dc at h
  cases hd : decode (am_b t) pc with
  | error x => rw [hd] at h; cases h
  | ok q =>
    obtain ⟨j, n⟩ := q
    rw [hd] at h
    simp only at h
    split at h
    · rename_i hn
      cases ho : am_off j with
      | none =>
        rw [ho] at h
        simp only [Option.some.injEq, Prod.mk.injEq] at h
        obtain ⟨rfl, rfl, rfl⟩ := h
        refine ⟨by simp, fun hz => ?_, fun o q => by rw [ho] at q; cases q⟩
        rcases hn with rfl | hn
        · rfl
        · exact absurd hn hz
      | some o =>
        rw [ho] at h
        simp only at h
        split at h
        · rename_i h0
          simp only [Option.some.injEq, Prod.mk.injEq] at h
          obtain ⟨rfl, rfl, rfl⟩ := h
          refine ⟨by simp, fun hz => ?_, fun o' q => ?_⟩
          · rcases hn with rfl | hn
            · rfl
            · exact absurd hn hz
          · rw [ho] at q
            cases q
            exact (Int.toNat_of_nonneg h0).symm
        · cases h
    · cases h
