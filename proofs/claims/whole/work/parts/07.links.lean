/-! what the tables of part 01 say, in words of tables_1 -/
theorem am_find {α : Type} {l : List α} {p : α → Bool} {q : α} (h : l.find? p = some q) : q ∈ l ∧ p q = true := ⟨List.mem_of_find?_eq_some h, List.find?_some h⟩
theorem am_allOk {α : Type} {l : List α} {ok : α → Bool} (h : l.all ok = true) {q : α} (hq : q ∈ l) : ok q = true := List.all_eq_true.mp h q hq
def am_isF (w : Option Cond) (own : String) (k : Nat) (T : String × String × String × Bool) (sm : Option Cond) : Bool := match w with
  | some (.fieldLink o i rf n d) => (decide (o = own) && (decide (i = k) && (decide (n = T.2.1) && decide (d = T.2.2.1)))) && (decide (rf = T.1) || decide (sm = some (.sameField rf T.1 T.2.1 T.2.2.1)))
  | _ => false
theorem am_isF_spec {w sm : Option Cond} {own : String} {k : Nat} {T : String × String × String × Bool} (h : am_isF w own k T sm = true) : ∃ rf, w = some (.fieldLink own k rf T.2.1 T.2.2.1) ∧ (rf = T.1 ∨ sm = some (.sameField rf T.1 T.2.1 T.2.2.1)) := by
  unfold am_isF at h
  split at h
  · simp only [Bool.and_eq_true, Bool.or_eq_true, decide_eq_true_eq] at h
    obtain ⟨⟨rfl, rfl, rfl, rfl⟩, h2⟩ := h
    exact ⟨_, rfl, h2⟩
  · cases h
def am_fOk (q : Nat × Nat × Nat × Nat × Nat × Nat) : Bool := match am_cl[q.2.2.1]? with
  | some r => decide (q.2.2.2.1 < r.2.2) && am_isF (tables_1[q.2.2.2.2.1]?) (cN q.1) q.2.1 (r.2.1 q.2.2.2.1) (tables_1[q.2.2.2.2.2]?)
  | none => false
theorem am_fT_ok : am_fT.all am_fOk = true := by decide +kernel
def am_pOk (q : Nat × Nat × Nat × Nat × Bool × FieldType × Nat × Nat) : Bool := match am_cl[q.2.2.1]? with
  | some r => (decide (q.2.2.2.1 < r.2.2) && am_isF (tables_1[q.2.2.2.2.2.2.1]?) (cN q.1) q.2.1 (r.2.1 q.2.2.2.1) (tables_1[q.2.2.2.2.2.2.2]?)) && ((decide ((r.2.1 q.2.2.2.1).2.2.2 = q.2.2.2.2.1) && decide (parseFieldDescriptor (r.2.1 q.2.2.2.1).2.2.1 = some q.2.2.2.2.2.1)) && (!q.2.2.2.2.1 || decide ((r.2.1 q.2.2.2.1).1 = cN q.1)))
  | none => false
theorem am_pT_ok : am_pT.all am_pOk = true := by decide +kernel
theorem am_fk_spec {own k ci j : Nat} (h : am_fk own k ci = some j) : ∃ (r : vw_C) (rf : String), am_cl[ci]? = some r ∧ j < r.2.2 ∧ Cond.fieldLink (cN own) k rf (r.2.1 j).2.1 (r.2.1 j).2.2.1 ∈ tables_1 ∧ (rf = (r.2.1 j).1 ∨ Cond.sameField rf (r.2.1 j).1 (r.2.1 j).2.1 (r.2.1 j).2.2.1 ∈ tables_1) := by
  obtain ⟨q, hq, e⟩ := Option.map_eq_some_iff.mp h
  obtain ⟨h1, h2⟩ := am_find hq
  have h3 := am_allOk am_fT_ok h1
  simp only [Bool.and_eq_true, beq_iff_eq] at h2
  obtain ⟨e1, e2, e3⟩ := h2
  unfold am_fOk at h3
  rw [e3, e1, e2] at h3
  split at h3
  · rename_i r hr
    simp only [Bool.and_eq_true, decide_eq_true_eq] at h3
    obtain ⟨h4, h5⟩ := h3
    obtain ⟨rf, h6, h7⟩ := am_isF_spec h5
    rw [e] at h4 h6 h7
    refine ⟨r, rf, hr, h4, List.mem_of_getElem? h6, ?_⟩
    rcases h7 with h7 | h7
    · exact Or.inl h7
    · exact Or.inr (List.mem_of_getElem? h7)
  · cases h3
theorem am_pk_spec {own k ci j : Nat} {fin : Bool} {ty : FieldType} (h : am_pk own k ci = some (j, fin, ty)) : ∃ (r : vw_C) (rf : String), am_cl[ci]? = some r ∧ j < r.2.2 ∧ Cond.fieldLink (cN own) k rf (r.2.1 j).2.1 (r.2.1 j).2.2.1 ∈ tables_1 ∧ (rf = (r.2.1 j).1 ∨ Cond.sameField rf (r.2.1 j).1 (r.2.1 j).2.1 (r.2.1 j).2.2.1 ∈ tables_1) ∧ (r.2.1 j).2.2.2 = fin ∧ parseFieldDescriptor (r.2.1 j).2.2.1 = some ty ∧ (fin = true → (r.2.1 j).1 = cN own) := by
  obtain ⟨q, hq, e⟩ := Option.map_eq_some_iff.mp h
  obtain ⟨h1, h2⟩ := am_find hq
  have h3 := am_allOk am_pT_ok h1
  simp only [Bool.and_eq_true, beq_iff_eq] at h2
  obtain ⟨e1, e2, e3⟩ := h2
  simp only [Prod.mk.injEq] at e
  obtain ⟨e4, e5, e6⟩ := e
  unfold am_pOk at h3
  rw [e3, e1, e2, e4, e5, e6] at h3
  split at h3
  · rename_i r hr
    simp only [Bool.and_eq_true, Bool.or_eq_true, Bool.not_eq_true', decide_eq_true_eq] at h3
    obtain ⟨⟨h4, h5⟩, ⟨h6, h7⟩, h8⟩ := h3
    obtain ⟨rf, g1, g2⟩ := am_isF_spec h5
    refine ⟨r, rf, hr, h4, List.mem_of_getElem? g1, ?_, h6, h7, fun hf => ?_⟩
    · rcases g2 with g2 | g2
      · exact Or.inl g2
      · exact Or.inr (List.mem_of_getElem? g2)
    · rcases h8 with h8 | h8
      · rw [hf] at h8; cases h8
      · exact h8
  · cases h3
/-! methods: the code word of each is in tables_1 (but the law's own) -/
def am_w (t : Nat) : Cond := if am_hh t = [] then .code (am_y t) (am_b t) (am_ml t) (am_ret t) else .codeWith (am_y t) (am_b t) (am_ml t) (am_ret t) (am_hh t)
def am_plain (n : String) : Bool := plainName n && (decide (n ≠ "java/lang/invoke/MethodHandle") && decide (n ≠ "java/lang/invoke/VarHandle"))
def am_mOk (q : Nat × MethodName × ByteArray × Nat × Option FieldType × List (Nat × Nat × Nat × Nat) × Nat) : Bool := ((match tables_1[q.2.2.2.2.2.2]? with
  | some (.code y b ml rt) => (decide (q.2.2.2.2.2.1 = []) && decide (b.data.toList = q.2.2.1.data.toList)) && (decide (y = q.2.1) && (decide (ml = q.2.2.2.1) && decide (rt = q.2.2.2.2.1)))
  | some (.codeWith y b ml rt hh) => (decide (hh = q.2.2.2.2.2.1) && decide (b.data.toList = q.2.2.1.data.toList)) && (!decide (hh = []) && (decide (y = q.2.1) && (decide (ml = q.2.2.2.1) && decide (rt = q.2.2.2.2.1))))
  | _ => false) && decide (q.2.2.2.1 ≤ 32)) && ((decide (cN q.1 = q.2.1.cls) && am_plain q.2.1.cls) && decide (Cond.initialized q.2.1.cls ∈ tables_1))
theorem am_mt_ok : (am_mt.take 281).all am_mOk = true := by decide +kernel
