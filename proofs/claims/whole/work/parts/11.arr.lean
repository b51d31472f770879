/-! arrays, new cells, classes -/
section AMA
variable {p : Program} {l : Launch} {e : Env} {R : Room} {s s0 : State} {m : MethodId} {args a0 : Array Value} {below : List Frame} {meth : Method} {c : Code} {H : Heap} {locs : List Loc} {cells slots : Nat} {Q : State → Prop}
variable {D : va_G} {cT : FieldType → ClassId} {X : am_X} {t pc nx tg : Nat} {σ : am_S} {ls : Array Slot} {r : List Value}
theorem am_arrAt {a : Nat} {ty : FieldType} {x : vp_A} (hH : am_HR s0 D cT σ H) (ha : σ.1 a = some (.inl (ty, x))) : am_aty ty ∧ H[a]? = some (vp_cell (cT ty) x) := (hH.2.2.2 a _ ha).2
theorem am_locs {a k : Nat} {x : am_E} (hH : am_HR s0 D cT σ H) (ha : σ.1 a = some x) (hloc : ∀ z ∈ locs, s0.heap.size ≤ z.base) : ∀ z ∈ locs ++ [(⟨a, k⟩ : Loc)], s0.heap.size ≤ z.base := by
  intro z hz
  rcases List.mem_append.mp hz with h | h
  · exact hloc z h
  · rw [List.mem_singleton.mp h]
    exact (hH.2.2.2 a _ ha).1
theorem am_s_iaload {a : Nat} {i v : Int32} (G : am_G l s0 a0 D cT X) (hW : s0.WarmedH s.vm) (hx : p.tables.exec = Jvm.exec) (hb : c.code = am_b t) (hH : am_HR s0 D cT σ H) (hd : decode (am_b t) pc = .ok (.iaload, 1)) (hg : am_ail (σ.1 a) (X.1 a) i = some v)
    (kk : W p l e R s m args below meth c H locs cells slots Q (F0 m (pc + 1) ls (.int v :: r))) : W p l e R s m args below meth c H locs cells slots Q (F0 m pc ls (.int i :: .ref a :: r)) := by
  unfold am_ail at hg
  split at hg
  · rename_i n f ha
    split at hg
    · rename_i hin
      cases hg
      obtain ⟨hty, hc⟩ := am_arrAt hH ha
      have hin := am_in_spec hin
      have hlt : i.toNatClampNeg < n := Nat.not_le.mp fun q => hin (Or.inr q)
      exact W.iald (v := .int (f i.toNatClampNeg)) hx hb hc ((am_arr (G.K hW) hty).1 n (fun j => .int (f j))) (fun q => by cases q) (by show ¬ (i < 0 ∨ (arrV _ _ _).slots.size ≤ _); rw [arrV_size]; exact hin) (by show (arrV _ _ _).slots[_]? = _; rw [arrV_read _ _ hlt]) rfl rfl hd kk
    · cases hg
  · cases hg
  · split at hg
    · rename_i n f hX
      split at hg
      · rename_i hin
        cases hg
        obtain ⟨hlt0, cell, h1, h2, h3, h4, h5, h6⟩ := G.2.2.2.1 a n f hX
        have hin := am_in_spec hin
        have hlt : i.toNatClampNeg < n := Nat.not_le.mp fun q => hin (Or.inr q)
        exact W.iald (v := .int (f i.toNatClampNeg)) hx hb (by rw [hH.2.2.1 a hlt0]; exact h1) (State.isArrayOf_alike hW.alike h2) h3 (by rintro (q | q); exact hin (Or.inl q); omega) (h6 _ hlt) rfl rfl hd kk
      · cases hg
    · cases hg
theorem am_s_baload {a : Nat} {i v : Int32} (G : am_G l s0 a0 D cT X) (hW : s0.WarmedH s.vm) (hx : p.tables.exec = Jvm.exec) (hb : c.code = am_b t) (hH : am_HR s0 D cT σ H) (hd : decode (am_b t) pc = .ok (.baload, 1)) (hg : am_abl (σ.1 a) i = some v)
    (kk : W p l e R s m args below meth c H locs cells slots Q (F0 m (pc + 1) ls (.int v :: r))) : W p l e R s m args below meth c H locs cells slots Q (F0 m pc ls (.int i :: .ref a :: r)) := by
  unfold am_abl at hg
  split at hg
  · rename_i n f ha
    split at hg
    · rename_i hin
      cases hg
      obtain ⟨hty, hc⟩ := am_arrAt hH ha
      have hin := am_in_spec hin
      have hlt : i.toNatClampNeg < n := Nat.not_le.mp fun q => hin (Or.inr q)
      exact W.zald (v := .int (f i.toNatClampNeg)) hx hb hc ((am_arr (G.K hW) hty).1 n (fun j => .int (f j))) (fun q => by cases q) (by show ¬ (i < 0 ∨ (arrV _ _ _).slots.size ≤ _); rw [arrV_size]; exact hin) (by show (arrV _ _ _).slots[_]? = _; rw [arrV_read _ _ hlt]) rfl rfl hd kk
    · cases hg
  · cases hg
theorem am_s_laload {a : Nat} {i : Int32} {v : Int64} (G : am_G l s0 a0 D cT X) (hW : s0.WarmedH s.vm) (hx : p.tables.exec = Jvm.exec) (hb : c.code = am_b t) (hH : am_HR s0 D cT σ H) (hd : decode (am_b t) pc = .ok (.laload, 1)) (hg : am_all (σ.1 a) i = some v)
    (kk : W p l e R s m args below meth c H locs cells slots Q (F0 m (pc + 1) ls (.long v :: r))) : W p l e R s m args below meth c H locs cells slots Q (F0 m pc ls (.int i :: .ref a :: r)) := by
  unfold am_all at hg
  split at hg
  · rename_i n f ha
    split at hg
    · rename_i hin
      cases hg
      obtain ⟨hty, hc⟩ := am_arrAt hH ha
      have hin := am_in_spec hin
      have hlt : i.toNatClampNeg < n := Nat.not_le.mp fun q => hin (Or.inr q)
      exact W.lald (v := .long (f i.toNatClampNeg)) hx hb hc ((am_arr (G.K hW) hty).1 n (fun j => .long (f j))) (fun q => by cases q) (by show ¬ (i < 0 ∨ (arrV _ _ _).slots.size ≤ _); rw [arrV_size]; exact hin) (by show (arrV _ _ _).slots[_]? = _; rw [arrV_read _ _ hlt]) rfl rfl hd kk
    · cases hg
  · cases hg
theorem am_s_aaload {a : Nat} {i : Int32} {v : Value} (G : am_G l s0 a0 D cT X) (hW : s0.WarmedH s.vm) (hx : p.tables.exec = Jvm.exec) (hb : c.code = am_b t) (hH : am_HR s0 D cT σ H) (hd : decode (am_b t) pc = .ok (.aaload, 1)) (hg : am_aal (σ.1 a) i = some v)
    (kk : W p l e R s m args below meth c H locs cells slots Q (F0 m (pc + 1) ls (v :: r))) : W p l e R s m args below meth c H locs cells slots Q (F0 m pc ls (.int i :: .ref a :: r)) := by
  unfold am_aal at hg
  split at hg
  · rename_i C n f ha
    split at hg
    · rename_i hin
      cases hg
      obtain ⟨hty, hc⟩ := am_arrAt hH ha
      have hin := am_in_spec hin
      have hlt : i.toNatClampNeg < n := Nat.not_le.mp fun q => hin (Or.inr q)
      exact W.aald (v := va_rf (f i.toNatClampNeg)) (ty := .object C) hx hb hc ((am_arr (G.K hW) hty).1 n (fun j => va_rf (f j))) rfl (fun q => by cases q) (by show ¬ (i < 0 ∨ (arrV _ _ _).slots.size ≤ _); rw [arrV_size]; exact hin) (by show (arrV _ _ _).slots[_]? = _; rw [arrV_read _ _ hlt]) rfl rfl hd kk
    · cases hg
  · rename_i C n f ha
    split at hg
    · rename_i hin
      cases hg
      obtain ⟨hty, hc⟩ := am_arrAt hH ha
      have hin := am_in_spec hin
      have hlt : i.toNatClampNeg < n := Nat.not_le.mp fun q => hin (Or.inr q)
      exact W.aald (v := va_rf (f i.toNatClampNeg)) (ty := .array C) hx hb hc ((am_arr (G.K hW) hty).1 n (fun j => va_rf (f j))) rfl (fun q => by cases q) (by show ¬ (i < 0 ∨ (arrV _ _ _).slots.size ≤ _); rw [arrV_size]; exact hin) (by show (arrV _ _ _).slots[_]? = _; rw [arrV_read _ _ hlt]) rfl rfl hd kk
    · cases hg
  · cases hg
theorem vp_cell_size (cA : ClassId) (x : vp_A) : (vp_cell cA x).slots.size = x.1 := by
  obtain ⟨n, f | f | f | f | f⟩ := x
  · rw [vp_cell_i, arrV_size]
  · rw [vp_cell_l, arrV_size]
  · rw [vp_cell_f, arrV_size]
  · rw [vp_cell_d, arrV_size]
  · rw [vp_cell_q, arrV_size]
theorem vp_cell_is {ty : FieldType} {cA : ClassId} (h : ArrOfT s cA ty) (x : vp_A) : s.isArrayOf (vp_cell cA x) ty := by
  obtain ⟨n, f | f | f | f | f⟩ := x
  · exact h n (fun j => .int (f j))
  · exact h n (fun j => .long (f j))
  · exact h n (fun j => .float (f j))
  · exact h n (fun j => .double (f j))
  · exact h n (fun j => va_rf (f j))
theorem am_s_alen {a n : Nat} (G : am_G l s0 a0 D cT X) (hW : s0.WarmedH s.vm) (hx : p.tables.exec = Jvm.exec) (hb : c.code = am_b t) (hH : am_HR s0 D cT σ H) (hd : decode (am_b t) pc = .ok (.arraylength, 1)) (hg : am_aln (σ.1 a) (X.1 a) = some n)
    (kk : W p l e R s m args below meth c H locs cells slots Q (F0 m (pc + 1) ls (.int (Int32.ofNat n) :: r))) : W p l e R s m args below meth c H locs cells slots Q (F0 m pc ls (.ref a :: r)) := by
  unfold am_aln at hg
  split at hg
  · rename_i ty n' x ha
    cases hg
    obtain ⟨hty, hc⟩ := am_arrAt hH ha
    exact W.alen (n := Int32.ofNat n) hx hb hc (vp_cell_is (am_arr (G.K hW) hty).1 _) (by rw [vp_cell_size] <;> rfl) rfl rfl hd kk
  · cases hg
  · split at hg
    · rename_i n' f hX
      cases hg
      obtain ⟨hlt0, cell, h1, h2, h3, h4, h5, h6⟩ := G.2.2.2.1 a n f hX
      exact W.alen (n := Int32.ofNat n) hx hb (by rw [hH.2.2.1 a hlt0]; exact h1) (State.isArrayOf_alike hW.alike h2) h5 rfl rfl hd kk
    · cases hg
theorem am_s_iastore {a : Nat} {i x : Int32} {E : am_E} (G : am_G l s0 a0 D cT X) (hW : s0.WarmedH s.vm) (hx : p.tables.exec = Jvm.exec) (hb : c.code = am_b t) (hH : am_HR s0 D cT σ H) (hloc : ∀ z ∈ locs, s0.heap.size ≤ z.base) (hd : decode (am_b t) pc = .ok (.iastore, 1)) (hg : am_ais (σ.1 a) i x = some E)
    (kk : ∀ (H1 : Heap) (locs1 : List Loc), am_HR s0 D cT (am_up σ.1 a E, σ.2) H1 → (∀ z ∈ locs1, s0.heap.size ≤ z.base) → W p l e R s m args below meth c H1 locs1 cells slots Q (F0 m (pc + 1) ls r)) : W p l e R s m args below meth c H locs cells slots Q (F0 m pc ls (.int x :: .int i :: .ref a :: r)) := by
  unfold am_ais at hg
  split at hg
  · rename_i n f ha
    split at hg
    · rename_i hin
      cases hg
      obtain ⟨hty, hc⟩ := am_arrAt hH ha
      have hin := am_in_spec hin
      refine W.iast hx hb hc ((am_arr (G.K hW) hty).1 n (fun j => .int (f j))) (fun q => by cases q) (by show ¬ (i < 0 ∨ (arrV _ _ _).slots.size ≤ _); rw [arrV_size]; exact hin) rfl rfl hd fun H1 e z oq => ?_
      refine kk H1 _ (hH.set ha ⟨hty, ?_⟩ z oq) (am_locs hH ha hloc)
      rw [e, vp_cell_i, vp_cell_i, arrV_store]
      congr 2
      funext q
      by_cases hq : q = i.toNatClampNeg
      · subst hq; simp [updV, upd]
      · simp [updV, upd, hq]
    · cases hg
  · cases hg
theorem am_s_bastore {a : Nat} {i x : Int32} {E : am_E} (G : am_G l s0 a0 D cT X) (hW : s0.WarmedH s.vm) (hx : p.tables.exec = Jvm.exec) (hb : c.code = am_b t) (hH : am_HR s0 D cT σ H) (hloc : ∀ z ∈ locs, s0.heap.size ≤ z.base) (hd : decode (am_b t) pc = .ok (.bastore, 1)) (hg : am_abs (σ.1 a) i x = some E)
    (kk : ∀ (H1 : Heap) (locs1 : List Loc), am_HR s0 D cT (am_up σ.1 a E, σ.2) H1 → (∀ z ∈ locs1, s0.heap.size ≤ z.base) → W p l e R s m args below meth c H1 locs1 cells slots Q (F0 m (pc + 1) ls r)) : W p l e R s m args below meth c H locs cells slots Q (F0 m pc ls (.int x :: .int i :: .ref a :: r)) := by
  unfold am_abs at hg
  split at hg
  · rename_i n f ha
    split at hg
    · rename_i hin
      simp only [Bool.and_eq_true] at hin
      obtain ⟨hin, h01⟩ := hin
      have hnar : narrow .boolean (.int x) = .int x := (am_okv_spec (ty := .boolean) (v := .int x) h01).1
      cases hg
      obtain ⟨hty, hc⟩ := am_arrAt hH ha
      have hin := am_in_spec hin
      refine W.zast hx hb hc ((am_arr (G.K hW) hty).1 n (fun j => .int (f j))) (fun q => by cases q) (by show ¬ (i < 0 ∨ (arrV _ _ _).slots.size ≤ _); rw [arrV_size]; exact hin) rfl rfl hd fun H1 e z oq => ?_
      refine kk H1 _ (hH.set ha ⟨hty, ?_⟩ z oq) (am_locs hH ha hloc)
      rw [e, hnar, vp_cell_i, vp_cell_i, arrV_store]
      congr 2
      funext q
      by_cases hq : q = i.toNatClampNeg
      · subst hq; simp [updV, upd]
      · simp [updV, upd, hq]
    · cases hg
  · cases hg
theorem am_s_lastore {a : Nat} {i : Int32} {x : Int64} {E : am_E} (G : am_G l s0 a0 D cT X) (hW : s0.WarmedH s.vm) (hx : p.tables.exec = Jvm.exec) (hb : c.code = am_b t) (hH : am_HR s0 D cT σ H) (hloc : ∀ z ∈ locs, s0.heap.size ≤ z.base) (hd : decode (am_b t) pc = .ok (.lastore, 1)) (hg : am_als (σ.1 a) i x = some E)
    (kk : ∀ (H1 : Heap) (locs1 : List Loc), am_HR s0 D cT (am_up σ.1 a E, σ.2) H1 → (∀ z ∈ locs1, s0.heap.size ≤ z.base) → W p l e R s m args below meth c H1 locs1 cells slots Q (F0 m (pc + 1) ls r)) : W p l e R s m args below meth c H locs cells slots Q (F0 m pc ls (.long x :: .int i :: .ref a :: r)) := by
  unfold am_als at hg
  split at hg
  · rename_i n f ha
    split at hg
    · rename_i hin
      cases hg
      obtain ⟨hty, hc⟩ := am_arrAt hH ha
      have hin := am_in_spec hin
      refine W.last hx hb hc ((am_arr (G.K hW) hty).1 n (fun j => .long (f j))) (fun q => by cases q) (by show ¬ (i < 0 ∨ (arrV _ _ _).slots.size ≤ _); rw [arrV_size]; exact hin) rfl rfl hd fun H1 e z oq => ?_
      refine kk H1 _ (hH.set ha ⟨hty, ?_⟩ z oq) (am_locs hH ha hloc)
      rw [e, vp_cell_l, vp_cell_l, arrV_store]
      congr 2
      funext q
      by_cases hq : q = i.toNatClampNeg
      · subst hq; simp [updV, vp_updL]
      · simp [updV, vp_updL, hq]
    · cases hg
  · cases hg
theorem am_aas_inv {o : Option am_E} {i : Int32} {v : Option Nat} {E : am_E} (h : am_aas o i v = some E) : ∃ n f, o = some (.inl (.object "BoxSearch$Box", n, .inr (.inr (.inr (.inr f))))) ∧ ¬ (i < 0 ∨ n ≤ i.toNatClampNeg) ∧ E = .inl (.object "BoxSearch$Box", n, .inr (.inr (.inr (.inr (va_up f i.toNatClampNeg v))))) := by
  unfold am_aas at h
  split at h
  · rename_i n f
    split at h
    · rename_i hin
      cases h
      exact ⟨n, f, rfl, am_in_spec hin, rfl⟩
    · cases h
  · cases h
theorem am_cast_7 : Cond.castable "BoxSearch$Peep" "BoxSearch$Box" ∈ tables_1 := by decide +kernel
theorem am_cast_8 : Cond.castable "BoxSearch$Blind" "BoxSearch$Box" ∈ tables_1 := by decide +kernel
theorem am_cast_9 : Cond.castable "BoxSearch$Behind" "BoxSearch$Box" ∈ tables_1 := by decide +kernel
theorem am_cast_10 : Cond.castable "BoxSearch$Kin" "BoxSearch$Box" ∈ tables_1 := by decide +kernel
theorem am_cast_11 : Cond.castable "BoxSearch$Rival" "BoxSearch$Box" ∈ tables_1 := by decide +kernel
theorem am_box_cast {ci : Nat} (h1 : 6 ≤ ci) (h2 : ci ≤ 11) (G : am_G l s0 a0 D cT X) (hW : s0.WarmedH s.vm) {q : vw_C} (hq : am_cl[ci]? = some q) {comp : ClassId} (hcomp : s.vm.findClass "BoxSearch$Box" = some comp) : s.vm.assignable (D.1 ci) comp = true := by
  have hKc := ((G.K hW).1 ci q hq).2
  have key : ∀ C : String, q.1 = C → Cond.castable C "BoxSearch$Box" ∈ tables_1 → s.vm.assignable (D.1 ci) comp = true := by
    intro C hC hm
    have hw0 : (Cond.castable C "BoxSearch$Box").before a0 s0 = true := G.2.1 _ (List.mem_append_right _ hm)
    have hw := va_Nw.use (A := #[]) rfl (va_Nw.warmC hW (va_Nw.of rfl hw0))
    obtain ⟨c1, c2, g1, g2, g3⟩ := Cond.castable_spec hw
    rw [← hC, hKc.1] at g1
    cases g1
    rw [hcomp] at g2
    cases g2
    exact g3
  have hci : ci = 6 ∨ ci = 7 ∨ ci = 8 ∨ ci = 9 ∨ ci = 10 ∨ ci = 11 := by omega
  rcases hci with rfl | rfl | rfl | rfl | rfl | rfl
  · have hC : q.1 = "BoxSearch$Box" := by cases hq; rfl
    rw [hC] at hKc
    have : D.1 6 = comp := Option.some.inj (hKc.1.symm.trans hcomp)
    rw [← this]
    exact va_assign hKc
  · exact key "BoxSearch$Peep" (by cases hq; rfl) am_cast_7
  · exact key "BoxSearch$Blind" (by cases hq; rfl) am_cast_8
  · exact key "BoxSearch$Behind" (by cases hq; rfl) am_cast_9
  · exact key "BoxSearch$Kin" (by cases hq; rfl) am_cast_10
  · exact key "BoxSearch$Rival" (by cases hq; rfl) am_cast_11
theorem am_s_aastore {a b : Nat} {i : Int32} {E : am_E} (G : am_G l s0 a0 D cT X) (hW : s0.WarmedH s.vm) (hx : p.tables.exec = Jvm.exec) (hb : c.code = am_b t) (hH : am_HR s0 D cT σ H) (hloc : ∀ z ∈ locs, s0.heap.size ≤ z.base) (hd : decode (am_b t) pc = .ok (.aastore, 1)) (hbox : am_box (σ.1 b) = true) (hg : am_aas (σ.1 a) i (some b) = some E)
    (kk : ∀ (H1 : Heap) (locs1 : List Loc), am_HR s0 D cT (am_up σ.1 a E, σ.2) H1 → (∀ z ∈ locs1, s0.heap.size ≤ z.base) → W p l e R s m args below meth c H1 locs1 cells slots Q (F0 m (pc + 1) ls r)) : W p l e R s m args below meth c H locs cells slots Q (F0 m pc ls (.ref b :: .int i :: .ref a :: r)) := by
  obtain ⟨n, f, ha, hin, rfl⟩ := am_aas_inv hg
  obtain ⟨hty, hc⟩ := am_arrAt hH ha
  unfold am_box at hbox
  split at hbox
  · rename_i ci fs hbo
    simp only [Bool.and_eq_true, decide_eq_true_eq] at hbox
    obtain ⟨-, q, hq, -, cell, q1, q2, q3, -⟩ := am_obj hH hbo
    have hlt : i.toNatClampNeg < n := Nat.not_le.mp fun q => hin (Or.inr q)
    obtain ⟨kA, comp, k1, k2, k3, -⟩ := (am_arr (G.K hW) hty).2
    obtain ⟨kcomp, hkcomp, -⟩ := Vm.findClass_spec k3
    obtain ⟨hfc, kC, hkC, -⟩ := ((G.K hW).1 ci q hq).2
    refine W.aast hx hb hc (fun q h => by cases h) (fun h => by cases h) k1 k2 rfl hkcomp ⟨fun q => hin (Or.inl q), by show _ < (arrV _ _ _).slots.size; rw [arrV_size]; exact hlt⟩ q1 (fun q h => by rw [q3] at h; cases h) (by rw [q2]; exact hkC) (by rw [q2]; exact am_box_cast hbox.1 hbox.2 G hW hq k3) rfl rfl hd fun H1 e z oq => ?_
    refine kk H1 _ (hH.set ha ⟨hty, ?_⟩ z oq) (am_locs hH ha hloc)
    rw [e, vp_cell_q, vp_cell_q, arrV_store]
    congr 2
    funext q
    by_cases hq : q = i.toNatClampNeg
    · subst hq; simp [updV, va_up, va_rf]
    · simp [updV, va_up, hq]
  · cases hbox
theorem am_s_aastoreN {a : Nat} {i : Int32} {E : am_E} (G : am_G l s0 a0 D cT X) (hW : s0.WarmedH s.vm) (hx : p.tables.exec = Jvm.exec) (hb : c.code = am_b t) (hH : am_HR s0 D cT σ H) (hloc : ∀ z ∈ locs, s0.heap.size ≤ z.base) (hd : decode (am_b t) pc = .ok (.aastore, 1)) (hg : am_aas (σ.1 a) i none = some E)
    (kk : ∀ (H1 : Heap) (locs1 : List Loc), am_HR s0 D cT (am_up σ.1 a E, σ.2) H1 → (∀ z ∈ locs1, s0.heap.size ≤ z.base) → W p l e R s m args below meth c H1 locs1 cells slots Q (F0 m (pc + 1) ls r)) : W p l e R s m args below meth c H locs cells slots Q (F0 m pc ls (.null :: .int i :: .ref a :: r)) := by
  obtain ⟨n, f, ha, hin, rfl⟩ := am_aas_inv hg
  obtain ⟨hty, hc⟩ := am_arrAt hH ha
  refine va_WaastN (C := "BoxSearch$Box") hx hb hc ((am_arr (G.K hW) hty).1 n (fun j => va_rf (f j))) (fun h => by cases h) (by show ¬ (i < 0 ∨ (arrV _ _ _).slots.size ≤ _); rw [arrV_size]; exact hin) rfl rfl hd fun H1 e z oq => ?_
  refine kk H1 _ (hH.set ha ⟨hty, ?_⟩ z oq) (am_locs hH ha hloc)
  rw [e, vp_cell_q, vp_cell_q, arrV_store]
  congr 2
  funext q
  by_cases hq : q = i.toNatClampNeg
  · subst hq; simp [updV, va_up, va_rf]
  · simp [updV, va_up, hq]
theorem am_s_newarray {y : ArrayType} {n : Int32} {E : am_E} (G : am_G l s0 a0 D cT X) (hW : s0.WarmedH s.vm) (hx : p.tables.exec = Jvm.exec) (hb : c.code = am_b t) (hH : am_HR s0 D cT σ H) (hd : decode (am_b t) pc = .ok (.newarray y, 2)) (hn : am_in n 65537 = true) (hg : am_a0 y n.toNatClampNeg = some E)
    (hR : cells + 1 ≤ R.cells) (hR2 : slots + n.toNatClampNeg ≤ R.slots)
    (kk : ∀ H1 : Heap, am_HR s0 D cT (am_up σ.1 σ.2.1 E, σ.2.1 + 1, σ.2.2 + n.toNatClampNeg) H1 → W p l e R s m args below meth c H1 locs (cells + 1) (slots + n.toNatClampNeg) Q (F0 m (pc + 2) ls (.ref σ.2.1 :: r))) : W p l e R s m args below meth c H locs cells slots Q (F0 m pc ls (.int n :: r)) := by
  have hin := am_in_spec hn
  have h0 : ¬ n < 0 := fun q => hin (Or.inl q)
  have hle : n.toNatClampNeg ≤ 65536 := by
    have : ¬ 65537 ≤ n.toNatClampNeg := fun q => hin (Or.inr q)
    omega
  have key : ∀ ty : FieldType, newarray.typeOf y = ty → am_aty ty → componentBytes ty ≤ 8 → (Cond.arrayClass ty) ∈ tables_1 → (∀ t, ty ≠ .object t) → (∀ cA : ClassId, ∃ x : vp_A, E = .inl (ty, x) ∧ vp_cell cA x = arrV cA n.toNatClampNeg (fun _ => defaultValue ty)) → W p l e R s m args below meth c H locs cells slots Q (F0 m pc ls (.int n :: r)) := by
    intro ty hty haty hcb hw hno hE
    subst hty
    refine va_newaK hx hb (G.word hW hw rfl) rfl hd rfl h0 rfl (by have := Nat.mul_le_mul hle hcb; omega) hR hR2 hH.1 fun H1 cA e1 z1 o1 hAr hNm => ?_
    have hc : cA = cT (newarray.typeOf y) := by
      have h1 := (am_arr (G.K hW) haty).2
      have h2 : s.vm.findClass ("[" ++ (newarray.typeOf y).toString) = some (cT (newarray.typeOf y)) := by
        cases hz : newarray.typeOf y <;> rw [hz] at h1 <;> first | exact h1 | exact absurd hz (hno _)
      exact Option.some.inj (hNm.symm.trans h2)
    subst hc
    obtain ⟨x, rfl, hx2⟩ := hE (cT (newarray.typeOf y))
    exact kk H1 (hH.push ⟨haty, by rw [hx2]; exact e1⟩ z1 o1)
  unfold am_a0 at hg
  split at hg
  · cases hg
    exact key .int rfl (Or.inl rfl) (by decide) (by decide +kernel) (fun _ h => by cases h) (fun cA => ⟨_, rfl, rfl⟩)
  · cases hg
    exact key .long rfl (Or.inr (Or.inl rfl)) (by decide) (by decide +kernel) (fun _ h => by cases h) (fun cA => ⟨_, rfl, rfl⟩)
  · cases hg
    exact key .boolean rfl (Or.inr (Or.inr (Or.inl rfl))) (by decide) (by decide +kernel) (fun _ h => by cases h) (fun cA => ⟨_, rfl, rfl⟩)
  · cases hg
end AMA
