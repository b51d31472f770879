/-! what the Statement gives of the start -/
def am_five : Nat → Int32 := fun j => if j = 0 then 1 else if j = 1 then 5 else if j = 2 then 25 else if j = 3 then 125 else 625
def am_xx (b L : Nat) (xs : Nat → Int32) (fa : Nat) : am_X := (fun a => if a = b then some (L, xs) else if a = fa then some (5, am_five) else none, fa)
section AMZ
variable {s : State} {b L : Nat} {xs : Nat → Int32} {args : Array Value}
def am_FT : Term := .static "BoxSearch$Plan" "FIVES" "[I"
theorem am_eqv {t : Term} {v : Int32} (h : (Cond.eq t (.int v)).before args s = true) : t.eval args s none [] s = some (.int v) := by
  simp only [Cond.before, Cond.holds, Cond.value, beq_iff_eq] at h
  have e : (Term.int v).eval args s none [] s = some (.int v) := rfl
  rw [e] at h
  cases ht : t.eval args s none [] s with
  | none => rw [ht] at h; simp at h
  | some w =>
    rw [ht] at h
    cases w <;> simp at h
    rw [h]
theorem am_five_at (hg : (Jvm.Cond.and given_1 narrow_1).before args s = true) : ∃ fa cell, am_FT.eval args s none [] s = some (.ref fa) ∧ s.arrayAt? fa = some cell ∧ cell.slots.size = 5 ∧ ∀ j, j < 5 → cell.slots[j]? = some (.int (am_five j)) := by
  have hs := flat_of_before _ hg
  have hlen : (Cond.eq (.length am_FT) (.int 5)).before args s = true := hs _ (by decide +kernel)
  have h0 : (Cond.eq (.elem am_FT (.int 0)) (.int 1)).before args s = true := hs _ (by decide +kernel)
  have h1 : (Cond.eq (.elem am_FT (.int 1)) (.int 5)).before args s = true := hs _ (by decide +kernel)
  have h2 : (Cond.eq (.elem am_FT (.int 2)) (.int 25)).before args s = true := hs _ (by decide +kernel)
  have h3 : (Cond.eq (.elem am_FT (.int 3)) (.int 125)).before args s = true := hs _ (by decide +kernel)
  have h4 : (Cond.eq (.elem am_FT (.int 4)) (.int 625)).before args s = true := hs _ (by decide +kernel)
  have hl := am_eqv hlen
  simp only [Term.eval, Option.bind_eq_bind, Option.bind_eq_some_iff] at hl
  obtain ⟨v, hv, hl⟩ := hl
  cases v with
  | ref fa =>
    simp only [Option.bind_eq_some_iff] at hl
    obtain ⟨cell, hcell, hl⟩ := hl
    have hel : ∀ (j : Int32) (w : Int32), ¬ j < 0 → (Cond.eq (.elem am_FT (.int j)) (.int w)).before args s = true → cell.slots[j.toNatClampNeg]? = some (.int w) := by
      intro j w hj h
      have := am_eqv h
      simp only [Term.eval, Option.bind_eq_bind, Option.bind_eq_some_iff] at this
      obtain ⟨v', hv', this⟩ := this
      rw [hv] at hv'
      cases hv'
      simpa [hj, hcell] using this
    have hsz : cell.slots.size = 5 := by
      split at hl
      · rename_i hlt
        have e : cell.slots.size.toInt32 = 5 := by
          have h9 := Option.some.inj hl
          injection h9
        have e2 : (Int32.ofNat cell.slots.size).toInt = (5 : Int32).toInt := congrArg Int32.toInt e
        rw [Int32.toInt_ofNat_of_lt hlt] at e2
        have : (5 : Int32).toInt = 5 := by decide
        rw [this] at e2
        omega
      · cases hl
    refine ⟨fa, cell, hv, hcell, hsz, fun j hj => ?_⟩
    match j, hj with
    | 0, _ => exact hel 0 1 (by decide) h0
    | 1, _ => exact hel 1 5 (by decide) h1
    | 2, _ => exact hel 2 25 (by decide) h2
    | 3, _ => exact hel 3 125 (by decide) h3
    | 4, _ => exact hel 4 625 (by decide) h4
  | _ => simp at hl
theorem am_str {own tx : String} {k : Nat} (h1 : (Cond.stringRef own k tx).before args s = true) (h2 : (Cond.exactly (.string own k) "java/lang/String").before args s = true) : ∃ a, vk_R own k tx a s := by
  obtain ⟨a, c, cell, kk, h, -⟩ := Cond.exactly_spec h2
  exact ⟨a, vk_R.of h1 h⟩
theorem am_w1 : Cond.stringRef "BoxSearch$Box" 41 "a box failed" ∈ tables_1 := by decide +kernel
theorem am_w2 : Cond.stringRef "BoxSearch" 253 "a run is of the best (0) or of the rule (1)" ∈ tables_1 := by decide +kernel
theorem am_w3 : Cond.stringRef "BoxSearch" 290 "no such shelf" ∈ tables_1 := by decide +kernel
theorem am_w4 : Cond.stringRef "BoxSearch" 294 "no row there, or no such place in it" ∈ tables_1 := by decide +kernel
theorem am_w5 : Cond.laysStatic Bundle.tN "UNASSIGNED_STACK" Bundle.steD ∈ tables_1 := by decide +kernel
theorem am_w6 : Cond.laysStatic Bundle.tN "SUPPRESSED_SENTINEL" Bundle.listD ∈ tables_1 := by decide +kernel
theorem am_w7 : Cond.initialized Bundle.tN ∈ tables_1 := by decide +kernel
theorem am_w8 : Cond.laysStatic "BoxSearch$Plan" "FIVES" "[I" ∈ tables_1 := by decide +kernel
theorem am_w9 : Cond.initialized "BoxSearch$Plan" ∈ tables_1 := by decide +kernel
theorem am_TR_of (hts : ∀ w ∈ lw_tbl, w.before args s = true) (hg : (Jvm.Cond.and given_1 narrow_1).before args s = true) : am_TR s := by
  have hs := flat_of_before _ hg
  have ht : ∀ w ∈ tables_1, w.before args s = true := fun w hw => hts w (List.mem_append_right _ hw)
  exact ⟨vx_Zqof (ht _ am_w5) (ht _ am_w7) (hs _ (by decide +kernel)) (fun a h1 h2 => Nat.not_lt.mpr h2 h1), vx_Zqof (ht _ am_w6) (ht _ am_w7) (hs _ (by decide +kernel)) (fun a h1 h2 => Nat.not_lt.mpr h2 h1),
    am_str (ht _ am_w1) (hs _ (by decide +kernel)), am_str (ht _ am_w2) (hs _ (by decide +kernel)), am_str (ht _ am_w3) (hs _ (by decide +kernel)), am_str (ht _ am_w4) (hs _ (by decide +kernel))⟩
theorem am_NE_of (hg : (Jvm.Cond.and given_1 narrow_1).before args s = true) : am_NE s := by
  have hs := flat_of_before _ hg
  exact ⟨va_Nc.of (args := args) (hs _ (by decide +kernel)), va_Nc.of (args := args) (hs _ (by decide +kernel))⟩
theorem am_ac1 : Cond.arrayClass .int ∈ tables_1 := by decide +kernel
theorem am_ac2 : Cond.arrayClass .long ∈ tables_1 := by decide +kernel
theorem am_ac3 : Cond.arrayClass .boolean ∈ tables_1 := by decide +kernel
theorem am_kinNo : ∀ ci, ci < 13 → ci ≠ 10 → Cond.not (.castable (cN ci) "BoxSearch$Kin") ∈ flatC (Jvm.Cond.and given_1 narrow_1) := by decide +kernel
theorem am_K_of (hts : ∀ w ∈ lw_tbl, w.before args s = true) : ∃ (D : va_G) (cT : FieldType → ClassId), va_K D am_cl (am_tys cT) s := by
  have ht : ∀ w ∈ tables_1, w.before args s = true := fun w hw => hts w (List.mem_append_right _ hw)
  have hcl : ∀ ci : Nat, ∃ z : ClassId × (Nat → Nat), ∀ q, am_cl[ci]? = some q → u_Kn s q.1 q.2.1 q.2.2 z.1 z.2 := by
    intro ci
    by_cases h : ci < 13
    · obtain ⟨q, hq, h1, -⟩ := am_cl_get h
      obtain ⟨cC, iS, hk⟩ := u_known (C := q.1) (T := q.2.1) (N := q.2.2) (n := q.2.2) ht (am_cl_in hq) (ht _ h1)
      exact ⟨(cC, iS), fun q' hq' => by cases hq.symm.trans hq'; exact hk⟩
    · exact ⟨(0, fun _ => 0), fun q hq => by
        exfalso
        have hl : am_cl.length = 13 := by decide +kernel
        have := (List.getElem?_eq_some_iff.mp hq).1
        omega⟩
  have hA : ∀ ty : FieldType, Cond.arrayClass ty ∈ tables_1 → ∃ c : ClassId, ArrOfT s c ty ∧ s.vm.findClass ("[" ++ ty.toString) = some c := by
    intro ty hty
    obtain ⟨c, k, comp, h1, h2, h3⟩ := Cond.arrayClass_spec (ht _ hty)
    exact ⟨c, fun n z => ⟨(fun k h => by cases h), k, h2, comp, h3⟩, h1⟩
  obtain ⟨c1, g1, f1⟩ := hA _ am_ac1
  obtain ⟨c2, g2, f2⟩ := hA _ am_ac2
  obtain ⟨c3, g3, f3⟩ := hA _ am_ac3
  obtain ⟨comp4, c4, k4, a1, -, a3, a4, a5⟩ := Cond.arrayOver_spec (ht _ am_box_over)
  obtain ⟨comp5, c5, k5, b1, b2, b3, b4⟩ := am_over (ht _ am_over_in)
  refine ⟨(fun ci => (Classical.choose (hcl ci)).1, fun ci => (Classical.choose (hcl ci)).2), fun ty => match ty with
    | .int => c1
    | .long => c2
    | .boolean => c3
    | .object _ => c4
    | _ => c5, fun ci q hq => Classical.choose_spec (hcl ci) q hq, fun k q hk => ?_⟩
  match k, hk with
  | 0, hk => cases hk; exact ⟨g1, f1⟩
  | 1, hk => cases hk; exact ⟨g2, f2⟩
  | 2, hk => cases hk; exact ⟨g3, f3⟩
  | 3, hk => cases hk; exact ⟨fun n z => ⟨(fun k h => by cases h), k4, a3, comp4, a4⟩, k4, comp4, a3, a4, a1, a5⟩
  | 4, hk => cases hk; exact ⟨fun n z => ⟨(fun k h => by cases h), k5, b2, comp5, b3⟩, b4⟩
  | j + 5, hk => simp [am_tys] at hk
end AMZ
theorem am_G_of {l : Launch} {p : Program} {s : State} {m : MethodId} {meth : Method} {c : Code} {b L : Nat} {xs : Nat → Int32} (hl : l.stackTraces = false) (hL : L ≤ 3072) (hts : ∀ w ∈ lw_tbl, w.before #[Value.ref b] s = true) (hX : va_X b L xs s s.heap) (hb : b < s.heap.size) (hg : (Jvm.Cond.and given_1 narrow_1).before #[Value.ref b] s = true) :
    ∃ (D : va_G) (cT : FieldType → ClassId) (fa : Nat), fa ≠ b ∧ am_G l s #[Value.ref b] D cT (am_xx b L xs fa) ∧ am_TR s ∧ am_NE s := by
  have hs := flat_of_before _ hg
  have ht : ∀ w ∈ tables_1, w.before #[Value.ref b] s = true := fun w hw => hts w (List.mem_append_right _ hw)
  obtain ⟨D, cT, hK⟩ := am_K_of hts
  obtain ⟨fa, cell, hev, hat, hsz, hel⟩ := am_five_at hg
  obtain ⟨hc1, hc2, -, -⟩ := State.arrayAt?_spec hat
  have hfl : fa < s.heap.size := (Array.getElem?_eq_some_iff.mp hc1).1
  have harr : (Cond.arrayOf am_FT .int).before #[Value.ref b] s = true := hs _ (by decide +kernel)
  have hof := (Cond.arrayOf_spec harr hev hc1).1
  have hne : fa ≠ b := by
    intro hfb
    have h9 : (Cond.not (.eq (.arg 0) am_FT)).before #[Value.ref b] s = true := hs _ (by decide +kernel)
    have e1 : (Term.arg 0).eval #[Value.ref b] s none [] s = some (.ref b) := rfl
    rw [hfb] at hev
    have h10 := Cond.holds_not_iff.mp h9
    simp [Cond.value, e1, hev] at h10
  refine ⟨D, cT, fa, hne, ⟨hl, hts, hK, ?_, va_Zref (ht _ am_w8) (ht _ am_w9) hev (fun a h1 h2 => Nat.not_lt.mpr h2 h1), fun ci h1 h2 => va_Nc.of (args := #[Value.ref b]) (hs _ (am_kinNo ci h1 h2))⟩, am_TR_of hts hg, am_NE_of hg⟩
  intro a n f ha
  have ha' : (if a = b then some (L, xs) else if a = fa then some (5, am_five) else none) = some (n, f) := ha
  by_cases e1 : a = b
  · rw [if_pos e1] at ha'
    cases ha'
    subst e1
    obtain ⟨scr, x1, x2, x3, x4, x5⟩ := hX
    exact ⟨hb, scr, x1, x2, x3, by omega, by rw [x4], x5⟩
  · rw [if_neg e1] at ha'
    by_cases e2 : a = fa
    · rw [if_pos e2] at ha'
      cases ha'
      subst e2
      exact ⟨hfl, cell, hc1, hof, hc2, by omega, by rw [hsz], hel⟩
    · rw [if_neg e2] at ha'
      cases ha'
