/-! a word of tables_1 by its place, chunk by chunk -/
def am_wd (i : Nat) : Option Cond :=
  if i < 240 then tables_1_1[i - 0]?
  else if i < 480 then tables_1_2[i - 240]?
  else if i < 720 then tables_1_3[i - 480]?
  else if i < 960 then tables_1_4[i - 720]?
  else if i < 1200 then tables_1_5[i - 960]?
  else if i < 1440 then tables_1_6[i - 1200]?
  else if i < 1680 then tables_1_7[i - 1440]?
  else if i < 1856 then tables_1_8[i - 1680]?
  else none
theorem am_wd_spec {i : Nat} {w : Cond} (h : am_wd i = some w) : w ∈ tables_1 := by
  unfold am_wd at h
  unfold tables_1
  split at h
  · exact List.mem_append_left _ (List.mem_of_getElem? h)
  split at h
  · exact List.mem_append_right _ (List.mem_append_left _ (List.mem_of_getElem? h))
  split at h
  · exact List.mem_append_right _ (List.mem_append_right _ (List.mem_append_left _ (List.mem_of_getElem? h)))
  split at h
  · exact List.mem_append_right _ (List.mem_append_right _ (List.mem_append_right _ (List.mem_append_left _ (List.mem_of_getElem? h))))
  split at h
  · exact List.mem_append_right _ (List.mem_append_right _ (List.mem_append_right _ (List.mem_append_right _ (List.mem_append_left _ (List.mem_of_getElem? h)))))
  split at h
  · exact List.mem_append_right _ (List.mem_append_right _ (List.mem_append_right _ (List.mem_append_right _ (List.mem_append_right _ (List.mem_append_left _ (List.mem_of_getElem? h))))))
  split at h
  · exact List.mem_append_right _ (List.mem_append_right _ (List.mem_append_right _ (List.mem_append_right _ (List.mem_append_right _ (List.mem_append_right _ (List.mem_append_left _ (List.mem_of_getElem? h)))))))
  split at h
  · exact List.mem_append_right _ (List.mem_append_right _ (List.mem_append_right _ (List.mem_append_right _ (List.mem_append_right _ (List.mem_append_right _ (List.mem_append_right _ (List.mem_of_getElem? h)))))))
  cases h
def am_wl (i : Nat) : Option Cond := if i < lw_privs.length then (lw_privs[i]?).map (fun q => Cond.selects q.1.cls q.1 q.1) else am_wd (i - lw_privs.length)
theorem am_wl_spec {i : Nat} {w : Cond} (h : am_wl i = some w) : w ∈ lw_tbl := by
  unfold am_wl at h
  split at h
  · obtain ⟨q, hq, e⟩ := Option.map_eq_some_iff.mp h
    refine List.mem_append_left _ ?_
    unfold k2_sels
    exact List.mem_map.mpr ⟨q, List.mem_of_getElem? hq, e⟩
  · exact List.mem_append_right _ (am_wd_spec h)
def am_nP (d : String) : Option Nat := (parseMethodDescriptor d).map (fun q => q.parameters.length)
def am_isX (w : Option Cond) (x : MethodName) : Bool := match w with
  | some (.code y _ _ _) => decide (y = x)
  | _ => false
def am_vOk (q : Nat × Nat × Nat × Nat × Nat × Nat × Nat × Nat × Nat × Nat × Nat) : Bool := match am_wd q.2.2.2.2.2.1 with
  | some (.methodLink o i x) => ((decide (o = cN q.1) && decide (i = q.2.1)) && (decide (am_wl q.2.2.2.2.2.2.1 = some (.selects (cN q.2.2.1) x (am_y q.2.2.2.1))) && decide (am_wd q.2.2.2.2.2.2.2.1 = some (.instanceMethod (am_y q.2.2.2.1))))) && (((decide (q.2.2.2.1 < 281) && decide (am_nP x.desc = some q.2.2.2.2.1)) && am_plain x.cls) && (decide (x = am_y q.2.2.2.1) || ((decide (am_wd q.2.2.2.2.2.2.2.2.1 = some (.sameMethod x.cls x.cls x.name x.desc)) && decide (am_wd q.2.2.2.2.2.2.2.2.2.1 = some (.instanceMethod x))) && am_isX (am_wd q.2.2.2.2.2.2.2.2.2.2) x)))
  | _ => false
theorem am_vT_ok0 : am_vT_0.all am_vOk = true := by decide +kernel
theorem am_vT_ok1 : am_vT_1.all am_vOk = true := by decide +kernel
theorem am_vT_ok2 : am_vT_2.all am_vOk = true := by decide +kernel
theorem am_vT_ok3 : am_vT_3.all am_vOk = true := by decide +kernel
theorem am_vT_ok4 : am_vT_4.all am_vOk = true := by decide +kernel
theorem am_vT_ok5 : am_vT_5.all am_vOk = true := by decide +kernel
theorem am_vT_ok6 : am_vT_6.all am_vOk = true := by decide +kernel
theorem am_vT_ok7 : am_vT_7.all am_vOk = true := by decide +kernel
theorem am_vT_ok8 : am_vT_8.all am_vOk = true := by decide +kernel
theorem am_vT_ok9 : am_vT_9.all am_vOk = true := by decide +kernel
theorem am_vT_ok : am_vT.all am_vOk = true := by
  unfold am_vT
  simp only [List.all_append, am_vT_ok0, am_vT_ok1, am_vT_ok2, am_vT_ok3, am_vT_ok4, am_vT_ok5, am_vT_ok6, am_vT_ok7, am_vT_ok8, am_vT_ok9, Bool.and_self]
theorem am_vc_spec {own k ci n y : Nat} (h : am_vc own k ci n = some y) : ∃ x : MethodName, Cond.methodLink (cN own) k x ∈ tables_1 ∧ Cond.selects (cN ci) x (am_y y) ∈ lw_tbl ∧ Cond.instanceMethod (am_y y) ∈ tables_1 ∧ y < 281 ∧ am_nP x.desc = some n ∧ am_plain x.cls = true ∧ (x = am_y y ∨ (Cond.sameMethod x.cls x.cls x.name x.desc ∈ tables_1 ∧ Cond.instanceMethod x ∈ tables_1 ∧ ∃ b ml rt, Cond.code x b ml rt ∈ tables_1)) := by
  obtain ⟨q, hq, e⟩ := Option.map_eq_some_iff.mp h
  obtain ⟨h1, h2⟩ := am_find hq
  have h3 := am_allOk am_vT_ok h1
  simp only [Bool.and_eq_true, beq_iff_eq] at h2
  obtain ⟨e1, e2, e3, e4⟩ := h2
  unfold am_vOk at h3
  rw [e1, e2, e3, e4, e] at h3
  split at h3
  · rename_i o i x hx
    simp only [Bool.and_eq_true, Bool.or_eq_true, decide_eq_true_eq] at h3
    obtain ⟨⟨⟨rfl, rfl⟩, g1, g2⟩, ⟨⟨g3, g4⟩, g5⟩, g6⟩ := h3
    refine ⟨x, am_wd_spec hx, am_wl_spec g1, am_wd_spec g2, g3, g4, g5, ?_⟩
    rcases g6 with g6 | ⟨⟨g6, g7⟩, g8⟩
    · exact Or.inl g6
    · refine Or.inr ⟨am_wd_spec g6, am_wd_spec g7, ?_⟩
      unfold am_isX at g8
      split at g8
      · rename_i y' b ml rt hw
        have := of_decide_eq_true g8
        subst this
        exact ⟨b, ml, rt, am_wd_spec hw⟩
      · cases g8
  · cases h3

