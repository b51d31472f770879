/-! methods and calls: what the tables say -/
theorem am_m_spec {t : Nat} (h : t < 281) : am_w t ∈ tables_1 ∧ am_ml t ≤ 32 ∧ cN (am_own t) = (am_y t).cls ∧ am_plain (am_y t).cls = true ∧ Cond.initialized (am_y t).cls ∈ tables_1 := by
  have hl : am_mt.length = 282 := by decide +kernel
  obtain ⟨q, hq⟩ : ∃ q, am_mt[t]? = some q := ⟨_, List.getElem?_eq_getElem (by omega)⟩
  have hm : q ∈ am_mt.take 281 := List.mem_of_getElem? (i := t) (by rw [List.getElem?_take]; simp [h, hq])
  have hk := am_allOk am_mt_ok hm
  have e0 : am_own t = q.1 := by unfold am_own; rw [hq]
  have e1 : am_y t = q.2.1 := by unfold am_y; rw [hq]
  have e2 : am_b t = q.2.2.1 := by unfold am_b; rw [hq]
  have e3 : am_ml t = q.2.2.2.1 := by unfold am_ml; rw [hq]
  have e4 : am_ret t = q.2.2.2.2.1 := by unfold am_ret; rw [hq]
  have e5 : am_hh t = q.2.2.2.2.2.1 := by unfold am_hh; rw [hq]
  unfold am_mOk at hk
  simp only [Bool.and_eq_true, decide_eq_true_eq] at hk
  obtain ⟨⟨h1, h2⟩, ⟨h3, h4⟩, h5⟩ := hk
  refine ⟨?_, by rw [e3]; exact h2, by rw [e0, e1]; exact h3, by rw [e1]; exact h4, by rw [e1]; exact h5⟩
  have hb : ∀ b : ByteArray, b.data.toList = q.2.2.1.data.toList → b = q.2.2.1 := fun b hb => ByteArray.ext (Array.toList_inj.mp hb)
  unfold am_w
  rw [e1, e2, e3, e4, e5]
  split at h1
  · rename_i y b ml rt hw
    simp only [Bool.and_eq_true, decide_eq_true_eq] at h1
    obtain ⟨⟨g1, g2⟩, g3, g4, g5⟩ := h1
    rw [if_pos g1, ← g3, ← g4, ← g5, ← hb b g2]
    exact List.mem_of_getElem? hw
  · rename_i y b ml rt hh hw
    simp only [Bool.and_eq_true, Bool.not_eq_true', decide_eq_true_eq, decide_eq_false_iff_not] at h1
    obtain ⟨⟨g1, g2⟩, g6, g3, g4, g5⟩ := h1
    rw [← g1, if_neg g6, ← g3, ← g4, ← g5, ← hb b g2]
    exact List.mem_of_getElem? hw
  · cases h1
/-! the heap of the machine and the abstract one -/
def am_tys (cT : FieldType → ClassId) : List (ClassId × FieldType) := [(cT .int, .int), (cT .long, .long), (cT .boolean, .boolean), (cT (.object "BoxSearch$Box"), .object "BoxSearch$Box"), (cT (.array .int), .array .int)]
def am_aty (ty : FieldType) : Prop := ty = .int ∨ ty = .long ∨ ty = .boolean ∨ ty = .object "BoxSearch$Box" ∨ ty = .array .int
def am_at (D : va_G) (cT : FieldType → ClassId) (a : Nat) (e : am_E) (H : Heap) : Prop := match e with
  | .inl (ty, x) => am_aty ty ∧ H[a]? = some (vp_cell (cT ty) x)
  | .inr (ci, fs) => ∃ r : vw_C, am_cl[ci]? = some r ∧ t_OB a (D.1 ci) r.2.2 (D.2 ci) H (vp_V fs) ∧ fs.length = r.2.2
def am_HR (s0 : State) (D : va_G) (cT : FieldType → ClassId) (σ : am_S) (H : Heap) : Prop := H.size = σ.2.1 ∧ s0.heap.size ≤ σ.2.1 ∧ (∀ q, q < s0.heap.size → H[q]? = s0.heap[q]?) ∧ ∀ a e, σ.1 a = some e → s0.heap.size ≤ a ∧ am_at D cT a e H
theorem am_at.kept {D : va_G} {cT : FieldType → ClassId} {a : Nat} {e : am_E} {H H1 : Heap} (h : am_at D cT a e H) (hq : H1[a]? = H[a]?) : am_at D cT a e H1 := by
  cases e with
  | inl x => exact ⟨h.1, hq.trans h.2⟩
  | inr o =>
    obtain ⟨r, h1, h2, h3⟩ := h
    exact ⟨r, h1, h2.kept hq, h3⟩
theorem am_at.lt {D : va_G} {cT : FieldType → ClassId} {a : Nat} {e : am_E} {H : Heap} (h : am_at D cT a e H) : a < H.size := by
  cases e with
  | inl x => exact (Array.getElem?_eq_some_iff.mp h.2).1
  | inr o =>
    obtain ⟨r, h1, ⟨cell, h2, -⟩, -⟩ := h
    exact (Array.getElem?_eq_some_iff.mp h2).1
theorem am_HR.set {s0 : State} {D : va_G} {cT : FieldType → ClassId} {σ : am_S} {H H1 : Heap} {a : Nat} {e0 e : am_E} (h : am_HR s0 D cT σ H) (ha : σ.1 a = some e0) (he : am_at D cT a e H1) (hz : H1.size = H.size) (oq : ∀ q : Nat, q ≠ a → H1[q]? = H[q]?) : am_HR s0 D cT (am_up σ.1 a e, σ.2) H1 := by
  obtain ⟨h1, h2, h3, h4⟩ := h
  refine ⟨hz.trans h1, h2, fun q hq => ?_, fun b x hb => ?_⟩
  · rw [oq q (fun z => by have := (h4 a e0 ha).1; omega)]
    exact h3 q hq
  · have hb' : (if b = a then some e else σ.1 b) = some x := hb
    by_cases hba : b = a
    · rw [if_pos hba] at hb'
      cases hb'
      subst hba
      exact ⟨(h4 b e0 ha).1, he⟩
    · rw [if_neg hba] at hb'
      exact ⟨(h4 b x hb').1, (h4 b x hb').2.kept (oq b hba)⟩
theorem am_HR.push {s0 : State} {D : va_G} {cT : FieldType → ClassId} {σ : am_S} {H H1 : Heap} {e : am_E} {z : Nat} (h : am_HR s0 D cT σ H) (he : am_at D cT σ.2.1 e H1) (hz : H1.size = σ.2.1 + 1) (oq : ∀ q : Nat, q < σ.2.1 → H1[q]? = H[q]?) : am_HR s0 D cT (am_up σ.1 σ.2.1 e, σ.2.1 + 1, z) H1 := by
  obtain ⟨h1, h2, h3, h4⟩ := h
  refine ⟨hz, Nat.le_succ_of_le h2, fun q hq => ?_, fun b x hb => ?_⟩
  · rw [oq q (by omega)]
    exact h3 q hq
  · have hb' : (if b = σ.2.1 then some e else σ.1 b) = some x := hb
    by_cases hba : b = σ.2.1
    · rw [if_pos hba] at hb'
      cases hb'
      subst hba
      exact ⟨h2, he⟩
    · rw [if_neg hba] at hb'
      have hlt := (h4 b x hb').2.lt
      exact ⟨(h4 b x hb').1, (h4 b x hb').2.kept (oq b (by omega))⟩
/-- external arrays, as they are at the law's start -/
def am_ext (a n : Nat) (f : Nat → Int32) (U : State) (H : Heap) : Prop := ∃ cell : Cell, H[a]? = some cell ∧ U.isArrayOf cell .int ∧ cell.vm ≠ .unknown ∧ n ≤ cell.slots.size ∧ cell.slots.size.toInt32 = Int32.ofNat n ∧ ∀ j, j < n → cell.slots[j]? = some (.int (f j))
/-- what holds at the law's start -/
def am_G (l : Launch) (s0 : State) (a0 : Array Value) (D : va_G) (cT : FieldType → ClassId) (X : am_X) : Prop :=
  l.stackTraces = false ∧ (∀ w ∈ lw_tbl, w.before a0 s0 = true) ∧ va_K D am_cl (am_tys cT) s0 ∧ (∀ (a n : Nat) (f : Nat → Int32), X.1 a = some (n, f) → a < s0.heap.size ∧ am_ext a n f s0 s0.heap) ∧
  va_Z "BoxSearch$Plan" "FIVES" "[I" (.ref X.2) (fun q => s0.heap.size ≤ q) s0 s0.heap ∧ (∀ ci, ci < 13 → ci ≠ 10 → va_Nc (cN ci) "BoxSearch$Kin" s0)
theorem am_G.word {l : Launch} {s0 s : State} {a0 args : Array Value} {D : va_G} {cT : FieldType → ClassId} {X : am_X} (G : am_G l s0 a0 D cT X) (hW : s0.WarmedH s.vm) {w : Cond} (hw : w ∈ tables_1) (hg : goodWord w = true) : w.before args s = true :=
  word_at hW (good_of_word hg) (G.2.1 w (List.mem_append_right _ hw))
theorem am_G.wordL {l : Launch} {s0 s : State} {a0 args : Array Value} {D : va_G} {cT : FieldType → ClassId} {X : am_X} (G : am_G l s0 a0 D cT X) (hW : s0.WarmedH s.vm) {w : Cond} (hw : w ∈ lw_tbl) (hg : goodWord w = true) : w.before args s = true :=
  word_at hW (good_of_word hg) (G.2.1 w hw)
theorem am_G.K {l : Launch} {s0 s : State} {a0 : Array Value} {D : va_G} {cT : FieldType → ClassId} {X : am_X} (G : am_G l s0 a0 D cT X) (hW : s0.WarmedH s.vm) : va_K D am_cl (am_tys cT) s := va_K.moved hW.alike G.2.2.1
theorem am_arr {s : State} {D : va_G} {cT : FieldType → ClassId} (hK : va_K D am_cl (am_tys cT) s) {ty : FieldType} (h : am_aty ty) : ArrOfT s (cT ty) ty ∧ va_RA s (cT ty) ty := by
  rcases h with rfl | rfl | rfl | rfl | rfl
  · exact hK.2 0 _ rfl
  · exact hK.2 1 _ rfl
  · exact hK.2 2 _ rfl
  · exact hK.2 3 _ rfl
  · exact hK.2 4 _ rfl
def am_clOk : List (Nat × vw_C) := (List.range 13).filterMap (fun k => (am_cl[k]?).map (fun r => (k, r)))
theorem am_cl_in {ci : Nat} {r : vw_C} (h : am_cl[ci]? = some r) : ∀ w ∈ u_ws r.1 r.2.1 r.2.2, w ∈ tables_1 := by
  match ci, h with
  | 0, h => cases h; exact tF0_in
  | 1, h => cases h; exact tF1_in
  | 2, h => cases h; exact tF2_in
  | 3, h => cases h; exact tF3_in
  | 4, h => cases h; exact tF4_in
  | 5, h => cases h; exact tF5_in
  | 6, h => cases h; exact tF6_in
  | 7, h => cases h; exact tF7_in
  | 8, h => cases h; exact tF8_in
  | 9, h => cases h; exact tF9_in
  | 10, h => cases h; exact tF10_in
  | 11, h => cases h; exact tF11_in
  | 12, h => cases h; exact tF12_in
  | k + 13, h => simp [am_cl] at h
theorem am_cl_nm {ci : Nat} {r : vw_C} (h : am_cl[ci]? = some r) : ∀ a, a < r.2.2 → ∀ b, b < r.2.2 → a ≠ b → (r.2.1 a).2.1 ≠ (r.2.1 b).2.1 := by
  match ci, h with
  | 0, h => cases h; exact tF0_nm
  | 1, h => cases h; exact tF1_nm
  | 2, h => cases h; exact tF2_nm
  | 3, h => cases h; exact tF3_nm
  | 4, h => cases h; exact tF4_nm
  | 5, h => cases h; exact tF5_nm
  | 6, h => cases h; exact tF6_nm
  | 7, h => cases h; exact tF7_nm
  | 8, h => cases h; exact tF8_nm
  | 9, h => cases h; exact tF9_nm
  | 10, h => cases h; exact tF10_nm
  | 11, h => cases h; exact tF11_nm
  | 12, h => cases h; exact tF12_nm
  | k + 13, h => simp [am_cl] at h
theorem am_cl_ty {ci : Nat} {r : vw_C} (h : am_cl[ci]? = some r) : ∀ k, k < r.2.2 → parseFieldDescriptor (r.2.1 k).2.2.1 = some (am_ty ci k) := by
  match ci, h with
  | 0, h => cases h; exact tF0_ty
  | 1, h => cases h; exact tF1_ty
  | 2, h => cases h; exact tF2_ty
  | 3, h => cases h; exact tF3_ty
  | 4, h => cases h; exact tF4_ty
  | 5, h => cases h; exact tF5_ty
  | 6, h => cases h; exact tF6_ty
  | 7, h => cases h; exact tF7_ty
  | 8, h => cases h; exact tF8_ty
  | 9, h => cases h; exact tF9_ty
  | 10, h => cases h; exact tF10_ty
  | 11, h => cases h; exact tF11_ty
  | 12, h => cases h; exact tF12_ty
  | k + 13, h => simp [am_cl] at h
theorem am_lay_good (C : String) (T : u_T) (N : Nat) : ∀ w ∈ u_ws C T N, goodWord w = true := by
  intro w hw
  obtain ⟨k, -, rfl⟩ := List.mem_map.mp hw
  unfold u_lay
  split <;> rfl
