/-! rows of rows: the instruction; all methods, with nothing owed -/
section AMN
variable {p : Program} {l : Launch} {e : Env} {R : Room} {s s0 : State} {m : MethodId} {args a0 : Array Value} {below : List Frame} {meth : Method} {c : Code} {T : State} {locs : List Loc} {cells slots : Nat} {Q : State → Prop}
variable {D : va_G} {cT : FieldType → ClassId} {X : am_X} {t d : Nat}
theorem am_filled (Xs : Stand p l e R s m args below meth c T locs cells slots) (cA comp : ClassId) (N M : Nat) :
    ∀ i, Stand p l e R s m args below meth c (am_mf T cA comp N M i) (locs ++ (List.range i).map fun j => ⟨T.heap.size, j⟩) (cells + 1 + i) (slots + N + i * M)
  | 0 => by
    have h := Xs.pushed (am_mo cA N T.heap.size 0)
    rw [am_mo_size] at h
    simpa [am_mf] using h
  | i + 1 => by
    have Xi := am_filled Xs cA comp N M i
    obtain ⟨f1, f2, f3, f4⟩ := am_mf_facts T cA comp N M i
    have hlt0 : T.heap.size < (am_mf T cA comp N M i).heap.size := by rw [f1]; omega
    have hcell : ((am_mf T cA comp N M i).pushCell (am_mw comp M)).heap[T.heap.size]? = some (am_mo cA N T.heap.size i) := by rw [State.heap_pushCell_of_lt (h := hlt0)]; exact f2
    have h := (Xi.pushed (am_mw comp M)).stored hcell i (.ref (T.heap.size + 1 + i))
    rw [am_mo_set] at h
    have e1 : (am_mw comp M).slots.size = M := by simp [am_mw]
    rw [e1] at h
    have e2 : (locs ++ (List.range (i + 1)).map fun j => (⟨T.heap.size, j⟩ : Loc)) = (locs ++ (List.range i).map fun j => (⟨T.heap.size, j⟩ : Loc)) ++ [⟨T.heap.size, i⟩] := by simp [List.range_succ, List.append_assoc]
    have e3 : slots + N + (i + 1) * M = slots + N + i * M + M := by rw [Nat.succ_mul]; omega
    rw [e2, e3]
    exact h
theorem am_256 {i : Int32} (h : am_in i 257 = true) : ¬ i < 0 ∧ i.toNatClampNeg ≤ 256 := by
  have := am_in_spec h
  exact ⟨fun q => this (Or.inl q), by omega⟩
set_option maxRecDepth 100000 in
theorem am_big {x : Nat} (h : x ≤ 256) : ¬ x > 2147483645 ∧ ¬ x * 4 > 536870912 ∧ x ≤ 536870912 := by
  refine ⟨?_, ?_, ?_⟩ <;> omega
theorem am_mul_ok (C : am_Cx p l e R s m meth c s0 a0 D cT X t d) : am_MulOK p l e R s m args below meth c s0 D cT t Q := by
  intro pc k dm n w σ H locs cells slots ls rest hd hn hH hloc hR hR2 kk T hT Xs
  obtain ⟨G, hW, hx, hb, hml, hown, hini, hf, hl⟩ := C
  simp only [Bool.and_eq_true, beq_iff_eq] at hn
  obtain ⟨⟨hn1, hw1⟩, ⟨ht, rfl⟩, rfl⟩ := hn
  obtain ⟨hn0, hnb⟩ := am_256 hn1
  obtain ⟨hw0, hwb⟩ := am_256 hw1
  rw [ht] at hown
  have hpl : e.platform.magicAccessors = ({} : Platform).magicAccessors := by rw [Xs.admits.platform]
  obtain ⟨comp, cA, kA, hcomp, hkA, hkindA, hnameA⟩ := am_over (G.2.1 _ (List.mem_append_right _ am_over_in))
  have hcA : cA = cT (.array .int) := by
    have h9 : s0.vm.findClass "[[I" = some (cT (.array .int)) := (am_arr G.2.2.1 (Or.inr (Or.inr (Or.inr (Or.inr rfl))))).2
    exact Option.some.inj (hnameA.symm.trans h9)
  have hcI : comp = cT .int := by
    have h9 : s0.vm.findClass "[I" = some (cT .int) := (am_arr G.2.2.1 (Or.inl rfl)).2
    exact Option.some.inj (hcomp.symm.trans h9)
  subst hcA
  subst hcI
  obtain ⟨-, kC, hkC, cc, hkindC⟩ := (am_arr G.2.2.1 (Or.inl rfl)).1 0 (fun _ => .null)
  obtain ⟨c0, hfc0, hcl⟩ := Cond.classLink_spec hown (G.word (args := args) hW am_62 rfl) e.platform hpl
  have hc0 : c0 = cT (.array .int) := by
    rw [hW.alike.findClass] at hfc0
    exact Option.some.inj (hfc0.symm.trans hnameA)
  subst hc0
  obtain ⟨hg₁, hwarm₁, hready₁⟩ := State.classEntry (e := e) Xs.warmed hcl
  generalize hvm : T.vm.noted m.cls 62 (.cls (cT (.array .int))) = vm₁ at hg₁ hwarm₁ hready₁
  have hal : s0.vm.Alike vm₁ := (State.WarmedH.trans hW hwarm₁).alike
  obtain ⟨kA₁, hkA₁, heA⟩ := hal.2.2 _ _ hkA
  obtain ⟨kC₁, hkC₁, heC⟩ := hal.2.2 _ _ hkC
  have hkindA₁ : kA₁.kind = .array (cT .int) (.array .int) := by rw [heA]; exact hkindA
  have hkindC₁ : kC₁.kind = .array cc .int := by rw [heC]; exact hkindC
  have X₁ := Xs.noted hwarm₁
  obtain ⟨hr1, hr2⟩ := Xs.roomAbove hR hR2
  have hTs : T.heap.size = σ.2.1 := by rw [hT]; exact hH.1
  have XF := am_filled X₁ (cT (.array .int)) (cT .int) n.toNatClampNeg w.toNatClampNeg n.toNatClampNeg
  have hl1 : ¬ n.toNatClampNeg > e.platform.arrayLengthLimit := by rw [Launch.admits_arrayLengthLimit Xs.admits]; exact (am_big hnb).1
  have hh1 : ¬ n.toNatClampNeg * componentBytes (.array .int) > e.platform.maxHeapBytes := by
    rw [Launch.admits_maxHeapBytes Xs.admits]; exact (am_big hnb).2.1
  have hl2 : ¬ w.toNatClampNeg > e.platform.arrayLengthLimit := by rw [Launch.admits_arrayLengthLimit Xs.admits]; exact (am_big hwb).1
  have hh2 : ¬ w.toNatClampNeg * componentBytes .int > e.platform.maxHeapBytes := by rw [Launch.admits_maxHeapBytes Xs.admits]; exact (am_big hwb).2.1
  obtain ⟨f1, f2, f3, f4⟩ := am_mf_facts (T.setVm vm₁) (cT (.array .int)) (cT .int) n.toNatClampNeg w.toNatClampNeg n.toNatClampNeg
  have hV : (T.setVm vm₁).heap = H := hT
  have hVs : (T.setVm vm₁).heap.size = σ.2.1 := hTs
  have hHR : am_HR s0 D cT (am_rows σ.1 σ.2.1 n.toNatClampNeg w.toNatClampNeg, σ.2.1 + 1 + n.toNatClampNeg, σ.2.2 + n.toNatClampNeg + n.toNatClampNeg * w.toNatClampNeg) (am_mf (T.setVm vm₁) (cT (.array .int)) (cT .int) n.toNatClampNeg w.toNatClampNeg n.toNatClampNeg).heap := by
    obtain ⟨q1, q2, q3, q4⟩ := hH
    refine ⟨by rw [f1, hVs], by show _ ≤ σ.2.1 + 1 + _; omega, fun q hq => ?_, fun a E ha => ?_⟩
    · rw [am_mf_old (T.setVm vm₁) _ _ _ _ (a := q) (by rw [hVs]; exact Nat.lt_of_lt_of_le hq q2), hV]
      exact q3 q hq
    · have ha' : (if a = σ.2.1 then some (.inl (.array .int, n.toNatClampNeg, .inr (.inr (.inr (.inr (fun i => if i < n.toNatClampNeg then some (σ.2.1 + 1 + i) else none)))))) else if σ.2.1 < a ∧ a ≤ σ.2.1 + n.toNatClampNeg then some (.inl (.int, w.toNatClampNeg, .inl (fun _ => 0))) else σ.1 a) = some E := ha
      by_cases e1 : a = σ.2.1
      · rw [if_pos e1] at ha'
        cases ha'
        refine ⟨by rw [e1]; exact q2, Or.inr (Or.inr (Or.inr (Or.inr rfl))), ?_⟩
        rw [e1, ← hVs, f2, vp_cell_q]
        unfold am_mo
        congr 2
        funext j
        by_cases hj : j < n.toNatClampNeg
        · rw [if_pos hj, if_pos hj]; rfl
        · rw [if_neg hj, if_neg hj]; rfl
      · rw [if_neg e1] at ha'
        by_cases e2 : σ.2.1 < a ∧ a ≤ σ.2.1 + n.toNatClampNeg
        · rw [if_pos e2] at ha'
          cases ha'
          refine ⟨by omega, Or.inl rfl, ?_⟩
          have h9 := am_mf_row (T.setVm vm₁) (cT (.array .int)) (cT .int) n.toNatClampNeg w.toNatClampNeg n.toNatClampNeg (a - σ.2.1 - 1) (by omega)
          rw [hVs, show σ.2.1 + 1 + (a - σ.2.1 - 1) = a by omega] at h9
          rw [h9, vp_cell_i]
          unfold am_mw arrV
          congr 2
          apply Array.ext
          · simp
          · intro i h1 h2
            simp
        · rw [if_neg e2] at ha'
          obtain ⟨z1, z2⟩ := q4 a E ha'
          have hlt := z2.lt
          refine ⟨z1, z2.kept ?_⟩
          rw [am_mf_old (T.setVm vm₁) _ _ _ _ (a := a) (by rw [hVs, ← q1]; exact hlt), hV]
  have hlocs : ∀ z ∈ locs ++ (List.range n.toNatClampNeg).map (fun j => (⟨(T.setVm vm₁).heap.size, j⟩ : Loc)), s0.heap.size ≤ z.base := by
    intro z hz
    rcases List.mem_append.mp hz with h | h
    · exact hloc z h
    · obtain ⟨j, -, rfl⟩ := List.mem_map.mp h
      show s0.heap.size ≤ (T.setVm vm₁).heap.size
      rw [hVs]
      exact hH.2.1
  have e5 : cells + (1 + n.toNatClampNeg) = cells + 1 + n.toNatClampNeg := by omega
  have e6 : slots + (n.toNatClampNeg + n.toNatClampNeg * w.toNatClampNeg) = slots + n.toNatClampNeg + n.toNatClampNeg * w.toNatClampNeg := by omega
  rw [e5, e6] at kk
  obtain ⟨t2, b1, b2⟩ := kk _ _ hHR hlocs (am_mf (T.setVm vm₁) (cT (.array .int)) (cT .int) n.toNatClampNeg w.toNatClampNeg n.toNatClampNeg) rfl XF
  refine ⟨t2, ?_, b2⟩
  have hdg : decode c.code pc = .ok (.multianewarray 62 2, 4) := by rw [hb]; exact hd
  jvm_step Xs.here [hx, hdg]
  simp only [multianewarray.sem, wp_bind', W.resolveClassAt_links (State.method?_setTop (F0 m pc ls (.int w :: .int n :: rest)) Xs.here.top) hg₁]
  rw [W.popN, if_neg (by decide)]
  refine ⟨F0 m pc ls (.int w :: .int n :: rest), State.topJava?_setTop' (s := T.setVm vm₁) _ Xs.here.top, [.int n, .int w], rest, rfl, rfl, ?_⟩
  simp only [List.mapM_cons, List.mapM_nil, wp_bind', wp_pure']
  refine am_wrows (k := kA₁) (kc := kC₁) (comp := cT .int) (cc := cc) hkA₁ hkindA₁ hkC₁ hkindC₁ hn0 hw0 hl1 hh1 hl2 hh2 (by show T.heap.size + 1 + _ ≤ _; omega) (by show T.slotsUsed + _ + _ ≤ _; omega) (fun d' acts' => ?_)
  have eS : ((T.setTop (F0 m pc ls (.int w :: .int n :: rest))).setVm vm₁).setTop { F0 m pc ls (.int w :: .int n :: rest) with stack := rest } = (T.setVm vm₁).setTop { F0 m pc ls (.int w :: .int n :: rest) with stack := rest } := by
    show ((T.setVm vm₁).setTop _).setTop _ = _
    rw [State.setTop_setTop]
  rw [eS, am_mf_setTop]
  simp only [wp_bind', W.mark, W.pushRef, State.topJava?_setTop' _ XF.here.top, Option.some.injEq, exists_eq_left', State.setTop_setTop, State.heap_setTop]
  intro acts
  simp [jvm, XF.here.top]
  rw [hTs]
  exact b1
end AMN
theorem am_owed_ok {l : Launch} {s0 : State} {a0 : Array Value} {D : va_G} {cT : FieldType → ClassId} {X : am_X} (N : am_NE s0) : am_Owed l s0 a0 D cT X := fun _ _ _ _ _ _ _ _ _ _ _ _ C htb => ⟨am_cat_ok C N htb, am_mul_ok C⟩
/-- every method that the abstract machine can run to an end, the machine runs to the same end -/
theorem am_f_all {l : Launch} {s0 : State} {a0 : Array Value} {D : va_G} {cT : FieldType → ClassId} {X : am_X} (G : am_G l s0 a0 D cT X) (Tr : am_TR s0) (N : am_NE s0) {d y : Nat} {as : List Value} {σ : am_S} {r : am_R} {σ' : am_S} (hy : y < 281) (h : am_f X d y as σ = some (r, σ')) : am_Ct l s0 D cT d y as σ r σ' :=
  am_f_ok G Tr (am_owed_ok N) d y as σ r σ' hy h
