/-! how a method ends -/
/-- words that stay true as links are made -/
def am_gw (w : Cond) : Bool := match w with
  | .castable _ _ => true
  | .declares _ => true
  | _ => goodWord w
theorem am_G.wordA {l : Launch} {s0 s : State} {a0 args : Array Value} {D : va_G} {cT : FieldType → ClassId} {X : am_X} (G : am_G l s0 a0 D cT X) (hW : s0.WarmedH s.vm) {w : Cond} (hw : w ∈ lw_tbl) (hg : am_gw w = true) : w.before args s = true := by
  have h0 := G.2.1 w hw
  unfold am_gw at hg
  split at hg
  · exact va_Nw.use (A := args) rfl (va_Nw.warmC hW (va_Nw.of rfl h0))
  · exact va_Nw.use (A := args) rfl (va_Nw.warmD hW (va_Nw.of rfl h0))
  · exact G.wordL hW hw hg
def am_nms : List String := ["java/lang/RuntimeException", "java/lang/Exception"]
def am_thOk (own : String) (ik ic : Nat) (cls : String) : Bool := (Cond.classLink own ik cls :: Cond.initialized cls :: vx_atS own ic cls am_nms).all (fun w => (decide (w ∈ lw_tbl) && am_gw w) && vx_ot w)
theorem am_th1 : am_thOk "BoxSearch$Box" 39 43 "java/lang/IllegalStateException" = true := by decide +kernel
theorem am_th2 : am_thOk "BoxSearch" 251 255 "java/lang/IllegalArgumentException" = true := by decide +kernel
theorem am_th3 : am_thOk "BoxSearch" 292 296 "java/lang/IllegalStateException" = true := by decide +kernel
theorem am_nms_fit : ∀ n ∈ am_nms, Bundle.fit n = true := by decide +kernel
/-- what a throw needs at the law's start -/
def am_TR (s0 : State) : Prop := vx_Zq Bundle.tN "UNASSIGNED_STACK" Bundle.steD (fun q => s0.heap.size ≤ q) s0 s0.heap ∧ vx_Zq Bundle.tN "SUPPRESSED_SENTINEL" Bundle.listD (fun q => s0.heap.size ≤ q) s0 s0.heap ∧
  (∃ a, vk_R "BoxSearch$Box" 41 "a box failed" a s0) ∧ (∃ a, vk_R "BoxSearch" 253 "a run is of the best (0) or of the rule (1)" a s0) ∧ (∃ a, vk_R "BoxSearch" 290 "no such shelf" a s0) ∧ ∃ a, vk_R "BoxSearch" 294 "no row there, or no such place in it" a s0
section AME
variable {p : Program} {l : Launch} {e : Env} {R : Room} {s s0 : State} {m : MethodId} {args a0 : Array Value} {below : List Frame} {meth : Method} {c : Code} {H : Heap} {locs : List Loc} {cells slots : Nat}
variable {D : va_G} {cT : FieldType → ClassId} {X : am_X} {t d pc nx tg : Nat} {σ σs σe : am_S} {ls : Array Slot} {lv : am_L} {st : List Value} {rec : am_O} {r : am_R}
theorem am_HR.S (h0 : am_HR s0 D cT σs s.heap) (h : am_HR s0 D cT σ H) (hle : am_le σs σ) (hloc : ∀ z ∈ locs, s0.heap.size ≤ z.base) : va_S (fun q => s0.heap.size ≤ q) s.heap H locs := by
  refine ⟨by rw [h0.1, h.1]; exact hle.1, fun q _ hA => ?_, hloc⟩
  have hq : q < s0.heap.size := Nat.lt_of_not_le hA
  rw [h.2.2.1 q hq, h0.2.2.1 q hq]
theorem am_Zq {C n d : String} (h0 : am_HR s0 D cT σs s.heap) (hW : s0.WarmedH s.vm) (hz : vx_Zq C n d (fun q => s0.heap.size ≤ q) s0 s0.heap) : vx_Zq C n d (fun q => s0.heap.size ≤ q) s s.heap :=
  vx_Zq.kept (vx_Zq.moved hW.alike hz) (fun a ha _ => h0.2.2.1 a ha)
theorem am_HR.thrown {U : Heap} (h : am_HR s0 D cT σ H) (hz : U.size = H.size + 1) (hq : ∀ q : Nat, q < H.size → U[q]? = H[q]?) : am_HR s0 D cT (σ.1, σ.2.1 + 1, σ.2.2 + 6) U := by
  obtain ⟨h1, h2, h3, h4⟩ := h
  refine ⟨by rw [hz, h1], Nat.le_succ_of_le h2, fun q hlt => ?_, fun a e ha => ?_⟩
  · rw [hq q (by omega)]; exact h3 q hlt
  · exact ⟨(h4 a e ha).1, (h4 a e ha).2.kept (hq a (h4 a e ha).2.lt)⟩
theorem am_fr5 {d F : Nat} (h : d + 9 ≤ F) : am_nms.length + 3 < F := by
  show 2 + 3 < F
  omega
set_option maxRecDepth 100000 in
theorem am_lc {d F w : Nat} (h : 64 * d + 576 ≤ F) (hw : w ≤ 16) : w + (13 * (am_nms.length + 1) + 43) ≤ F := by
  show w + (13 * (2 + 1) + 43) ≤ F
  omega
theorem am_thrS {own cls text : String} {k ik is ic : Nat} (C : am_Cx p l e R s m meth c s0 a0 D cT X t d) (Tr : am_TR s0) (h0 : am_HR s0 D cT σs s.heap) (hcn : cN k = cls) (ho : cN (am_own t) = own) (hok : am_thOk own ik ic cls = true) (hfit : Bundle.fit cls = true) (hstr : ∃ a, vk_R own is text a s0) (htab : ∀ x ∈ c.exceptionTable.toList, False) (hlocks : meth.locks = false)
    (d0 : decode (am_b t) pc = .ok (.new ik, 3)) (d3 : decode (am_b t) (pc + 3) = .ok (.dup, 1)) (d4 : decode (am_b t) (pc + 4) = .ok (.ldc is, 2)) (d6 : decode (am_b t) (pc + 6) = .ok (.invokespecial ic, 3)) (d9 : decode (am_b t) (pc + 9) = .ok (.athrow, 1))
    (hst : st.length ≤ 8) (hH : am_HR s0 D cT σ H) (hle : am_le σs σ) (hloc : ∀ z ∈ locs, s0.heap.size ≤ z.base) (hsz : ls.size = c.maxLocals) (hR : σ.2.1 + 1 - σs.2.1 ≤ R.cells) (hR2 : σ.2.2 + 6 - σs.2.2 ≤ R.slots) :
    W p l e R s m args below meth c H locs (σ.2.1 - σs.2.1) (σ.2.2 - σs.2.2) (vx_MQ below (am_Qc s0 D cT (.inr k) (σ.1, σ.2.1 + 1, σ.2.2 + 6)) (am_Xc s0 D cT (.inr k) (σ.1, σ.2.1 + 1, σ.2.2 + 6)) args s (σ.2.1 + 1 - σs.2.1) (σ.2.2 + 6 - σs.2.2) (fun q => s0.heap.size ≤ q)) (F0 m pc ls st) := by
  obtain ⟨G, hW, hx, hb, hml, hown, hini, hf, hl⟩ := C
  obtain ⟨sa, hsa⟩ := hstr
  have hall := fun w hw => List.all_eq_true.mp hok w hw
  simp only [Bool.and_eq_true, decide_eq_true_eq] at hall
  have hat : ∀ w ∈ Cond.classLink own ik cls :: Cond.initialized cls :: vx_atS own ic cls am_nms, w.before args s = true := fun w hw => G.wordA hW (hall w hw).1.1 (hall w hw).1.2
  obtain ⟨l1, l2⟩ := hle
  exact vx_throwS (A := fun q => s0.heap.size ≤ q) hx hb G.1 (own := own) (by rw [← ho]; exact hown) hfit am_nms_fit (hat _ List.mem_cons_self) (hat _ (List.mem_cons_of_mem _ List.mem_cons_self)) (vk_R.warm hW hsa) (fun w hw => hat w (List.mem_cons_of_mem _ (List.mem_cons_of_mem _ hw))) (fun w hw => (hall w hw).2)
    (am_Zq h0 hW Tr.1) (am_Zq h0 hW Tr.2.1) (am_HR.S h0 hH ⟨l1, l2⟩ hloc) hsz d0 d3 d4 d6 d9 (fun x hx => (htab x hx).elim) (am_fr5 hf) (am_lc hl (am_wt8 hst)) (by omega) (by omega) hlocks
    (fun T hT hz hq => ⟨k, rfl, hcn.symm, State.WarmedH.trans hW hT, am_HR.thrown hH hz hq⟩) hloc (by omega) (by omega)
theorem am_thrSW {own cls text : String} {k ik is ic : Nat} (C : am_Cx p l e R s m meth c s0 a0 D cT X t d) (Tr : am_TR s0) (h0 : am_HR s0 D cT σs s.heap) (hcn : cN k = cls) (ho : cN (am_own t) = own) (hok : am_thOk own ik ic cls = true) (hfit : Bundle.fit cls = true) (hstr : ∃ a, vk_R own is text a s0) (htab : ∀ x ∈ c.exceptionTable.toList, False) (hlocks : meth.locks = false)
    (d0 : decode (am_b t) pc = .ok (.new ik, 3)) (d3 : decode (am_b t) (pc + 3) = .ok (.dup, 1)) (d4 : decode (am_b t) (pc + 4) = .ok (.ldc_w is, 3)) (d7 : decode (am_b t) (pc + 7) = .ok (.invokespecial ic, 3)) (d10 : decode (am_b t) (pc + 10) = .ok (.athrow, 1))
    (hst : st.length ≤ 8) (hH : am_HR s0 D cT σ H) (hle : am_le σs σ) (hloc : ∀ z ∈ locs, s0.heap.size ≤ z.base) (hsz : ls.size = c.maxLocals) (hR : σ.2.1 + 1 - σs.2.1 ≤ R.cells) (hR2 : σ.2.2 + 6 - σs.2.2 ≤ R.slots) :
    W p l e R s m args below meth c H locs (σ.2.1 - σs.2.1) (σ.2.2 - σs.2.2) (vx_MQ below (am_Qc s0 D cT (.inr k) (σ.1, σ.2.1 + 1, σ.2.2 + 6)) (am_Xc s0 D cT (.inr k) (σ.1, σ.2.1 + 1, σ.2.2 + 6)) args s (σ.2.1 + 1 - σs.2.1) (σ.2.2 + 6 - σs.2.2) (fun q => s0.heap.size ≤ q)) (F0 m pc ls st) := by
  obtain ⟨G, hW, hx, hb, hml, hown, hini, hf, hl⟩ := C
  obtain ⟨sa, hsa⟩ := hstr
  have hall := fun w hw => List.all_eq_true.mp hok w hw
  simp only [Bool.and_eq_true, decide_eq_true_eq] at hall
  have hat : ∀ w ∈ Cond.classLink own ik cls :: Cond.initialized cls :: vx_atS own ic cls am_nms, w.before args s = true := fun w hw => G.wordA hW (hall w hw).1.1 (hall w hw).1.2
  obtain ⟨l1, l2⟩ := hle
  exact vx_throwSW (A := fun q => s0.heap.size ≤ q) hx hb G.1 (own := own) (by rw [← ho]; exact hown) hfit am_nms_fit (hat _ List.mem_cons_self) (hat _ (List.mem_cons_of_mem _ List.mem_cons_self)) (vk_R.warm hW hsa) (fun w hw => hat w (List.mem_cons_of_mem _ (List.mem_cons_of_mem _ hw))) (fun w hw => (hall w hw).2)
    (am_Zq h0 hW Tr.1) (am_Zq h0 hW Tr.2.1) (am_HR.S h0 hH ⟨l1, l2⟩ hloc) hsz d0 d3 d4 d7 d10 (fun x hx => (htab x hx).elim) (am_fr5 hf) (am_lc hl (am_wt8 hst)) (by omega) (by omega) hlocks
    (fun T hT hz hq => ⟨k, rfl, hcn.symm, State.WarmedH.trans hW hT, am_HR.thrown hH hz hq⟩) hloc (by omega) (by omega)
theorem am_kk39 : am_kk 6 39 = some 16 := by decide +kernel
theorem am_kk251 : am_kk 0 251 = some 17 := by decide +kernel
theorem am_kk292 : am_kk 0 292 = some 16 := by decide +kernel
theorem am_o179 : am_own 179 = 6 := by decide +kernel
theorem am_o186 : am_own 186 = 0 := by decide +kernel
theorem am_o191 : am_own 191 = 0 := by decide +kernel
theorem am_ok_inj {α β : Type} {a b : β} (x : Except α β) (h1 : x = .ok a) (h2 : x = .ok b) : a = b := by
  rw [h1] at h2
  cases h2
  rfl
theorem am_new_inj {a : ByteArray} {pc k k' : Nat} (h1 : decode a pc = .ok (.new k, 3)) (h2 : decode a pc = .ok (.new k', 3)) : k = k' := by
  have := am_ok_inj _ h1 h2
  cases this
  rfl
theorem am_thr_ok {k E : Nat} (C : am_Cx p l e R s m meth c s0 a0 D cT X t d) (Tr : am_TR s0) (h0 : am_HR s0 D cT σs s.heap) (htab : am_hh t = [] → ∀ x ∈ c.exceptionTable.toList, False) (hlocks : meth.locks = false)
    (hd : decode (am_b t) pc = .ok (.new k, 3)) (hk : am_kk (am_own t) k = some E) (hT : am_isT t pc = true)
    (hst : st.length ≤ 8) (hH : am_HR s0 D cT σ H) (hle : am_le σs σ) (hloc : ∀ z ∈ locs, s0.heap.size ≤ z.base) (hsz : ls.size = c.maxLocals) (hR : σ.2.1 + 1 - σs.2.1 ≤ R.cells) (hR2 : σ.2.2 + 6 - σs.2.2 ≤ R.slots) :
    W p l e R s m args below meth c H locs (σ.2.1 - σs.2.1) (σ.2.2 - σs.2.2) (vx_MQ below (am_Qc s0 D cT (.inr E) (σ.1, σ.2.1 + 1, σ.2.2 + 6)) (am_Xc s0 D cT (.inr E) (σ.1, σ.2.1 + 1, σ.2.2 + 6)) args s (σ.2.1 + 1 - σs.2.1) (σ.2.2 + 6 - σs.2.2) (fun q => s0.heap.size ≤ q)) (F0 m pc ls st) := by
  unfold am_isT am_thT at hT
  simp only [List.any_cons, List.any_nil, Bool.or_false, Bool.or_eq_true, Bool.and_eq_true, beq_iff_eq] at hT
  rcases hT with ⟨rfl, rfl⟩ | ⟨rfl, rfl⟩ | ⟨rfl, rfl⟩ | ⟨rfl, rfl⟩
  · have hk1 : k = 39 := am_new_inj hd (by decide +kernel)
    subst hk1
    rw [am_o179, am_kk39] at hk
    cases hk
    exact am_thrS C Tr h0 rfl (by rw [am_o179]; rfl) am_th1 (by decide +kernel) Tr.2.2.1 (htab (by decide +kernel)) hlocks hd (by decide +kernel) (by decide +kernel) (by decide +kernel) (by decide +kernel) hst hH hle hloc hsz hR hR2
  · have hk1 : k = 251 := am_new_inj hd (by decide +kernel)
    subst hk1
    rw [am_o186, am_kk251] at hk
    cases hk
    exact am_thrS C Tr h0 rfl (by rw [am_o186]; rfl) am_th2 (by decide +kernel) Tr.2.2.2.1 (htab (by decide +kernel)) hlocks hd (by decide +kernel) (by decide +kernel) (by decide +kernel) (by decide +kernel) hst hH hle hloc hsz hR hR2
  · have hk1 : k = 251 := am_new_inj hd (by decide +kernel)
    subst hk1
    rw [am_o191, am_kk251] at hk
    cases hk
    exact am_thrSW C Tr h0 rfl (by rw [am_o191]; rfl) am_th2 (by decide +kernel) Tr.2.2.2.2.1 (htab (by decide +kernel)) hlocks hd (by decide +kernel) (by decide +kernel) (by decide +kernel) (by decide +kernel) hst hH hle hloc hsz hR hR2
  · have hk1 : k = 292 := am_new_inj hd (by decide +kernel)
    subst hk1
    rw [am_o191, am_kk292] at hk
    cases hk
    exact am_thrSW C Tr h0 rfl (by rw [am_o191]; rfl) am_th3 (by decide +kernel) Tr.2.2.2.2.2 (htab (by decide +kernel)) hlocks hd (by decide +kernel) (by decide +kernel) (by decide +kernel) (by decide +kernel) hst hH hle hloc hsz hR hR2
end AME
