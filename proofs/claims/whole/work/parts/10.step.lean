/-! heap instructions, one by one -/
def am_isCall (i : Instr) : Bool := match i with
  | .invokevirtual _ => true
  | .invokespecial _ => true
  | .invokestatic _ => true
  | .multianewarray _ _ => true
  | _ => false
theorem am_in_spec {i : Int32} {n : Nat} (h : am_in i n = true) : ¬ (i < 0 ∨ n ≤ i.toNatClampNeg) := by
  unfold am_in at h
  simp only [Bool.and_eq_true, Bool.not_eq_true', decide_eq_false_iff_not, decide_eq_true_eq] at h
  rintro (q | q)
  · exact h.1 q
  · omega
theorem am_gf_inv {o : Option am_E} {fk : Nat → Option Nat} {v : Value} (h : am_gf o fk = some v) : ∃ ci fs j, o = some (.inr (ci, fs)) ∧ fk ci = some j ∧ fs[j]? = some v := by
  unfold am_gf at h
  split at h
  · rename_i ci fs
    split at h
    · rename_i j hj
      exact ⟨ci, fs, j, rfl, hj, h⟩
    · cases h
  · cases h
theorem am_pf_inv {o : Option am_E} {pk : Nat → Option (Nat × Bool × FieldType)} {ini : Bool} {v : Value} {e : am_E} (h : am_pf o pk ini v = some e) : ∃ ci fs j fin ty, o = some (.inr (ci, fs)) ∧ pk ci = some (j, fin, ty) ∧ (fin = true → ini = true) ∧ am_okv ty v = true ∧ j < fs.length ∧ e = .inr (ci, fs.set j v) := by
  unfold am_pf at h
  split at h
  · rename_i ci fs
    split at h
    · rename_i j fin ty hj
      split at h
      · rename_i hc
        simp only [Bool.and_eq_true, Bool.or_eq_true, Bool.not_eq_true', decide_eq_true_eq] at hc
        obtain ⟨⟨h1, h2⟩, h3⟩ := hc
        cases h
        refine ⟨ci, fs, j, fin, ty, rfl, hj, fun hf => ?_, h2, h3, rfl⟩
        rcases h1 with h1 | h1
        · rw [hf] at h1; cases h1
        · exact h1
      · cases h
    · cases h
  · cases h
theorem am_okv_spec {ty : FieldType} {v : Value} (h : am_okv ty v = true) : narrow ty v = v ∧ fits ty v = true := by
  unfold am_okv at h
  split at h
  · split at h
    · exact ⟨rfl, rfl⟩
    · cases h
  · split at h
    · exact ⟨rfl, rfl⟩
    · cases h
  · split at h
    · rename_i x
      simp only [Bool.or_eq_true, beq_iff_eq] at h
      rcases h with rfl | rfl
      · exact ⟨rfl, rfl⟩
      · exact ⟨rfl, rfl⟩
    · cases h
  · split at h
    · exact ⟨rfl, rfl⟩
    · exact ⟨rfl, rfl⟩
    · cases h
  · split at h
    · exact ⟨rfl, rfl⟩
    · exact ⟨rfl, rfl⟩
    · cases h
  · cases h
theorem am_heap_lv {X : am_X} {rec : am_O} {t pc nx pc' : Nat} {i : Instr} {lv lv' : am_L} {st st' : List Value} {σ σ' : am_S} (hc : am_isCall i = false) (h : am_heap X rec t i pc nx lv st σ = some (.inl (pc', lv', st', σ'))) : lv' = lv := by
  cases i
  case getfield k =>
    unfold am_heap at h
    simp only at h
    split at h
    · obtain ⟨v, -, e⟩ := Option.map_eq_some_iff.mp h
      cases e
      rfl
    · cases h
  case putfield k =>
    unfold am_heap at h
    simp only at h
    split at h
    · obtain ⟨v, -, e⟩ := Option.map_eq_some_iff.mp h
      cases e
      rfl
    · cases h
  case getstatic k =>
    unfold am_heap at h
    simp only at h
    split at h <;> cases h
    rfl
  case iaload =>
    unfold am_heap at h
    simp only at h
    split at h
    · obtain ⟨v, -, e⟩ := Option.map_eq_some_iff.mp h
      cases e
      rfl
    · cases h
  case baload =>
    unfold am_heap at h
    simp only at h
    split at h
    · obtain ⟨v, -, e⟩ := Option.map_eq_some_iff.mp h
      cases e
      rfl
    · cases h
  case laload =>
    unfold am_heap at h
    simp only at h
    split at h
    · obtain ⟨v, -, e⟩ := Option.map_eq_some_iff.mp h
      cases e
      rfl
    · cases h
  case aaload =>
    unfold am_heap at h
    simp only at h
    split at h
    · obtain ⟨v, -, e⟩ := Option.map_eq_some_iff.mp h
      cases e
      rfl
    · cases h
  case arraylength =>
    unfold am_heap at h
    simp only at h
    split at h
    · obtain ⟨v, -, e⟩ := Option.map_eq_some_iff.mp h
      cases e
      rfl
    · cases h
  case iastore =>
    unfold am_heap at h
    simp only at h
    split at h
    · obtain ⟨v, -, e⟩ := Option.map_eq_some_iff.mp h
      cases e
      rfl
    · cases h
  case bastore =>
    unfold am_heap at h
    simp only at h
    split at h
    · obtain ⟨v, -, e⟩ := Option.map_eq_some_iff.mp h
      cases e
      rfl
    · cases h
  case lastore =>
    unfold am_heap at h
    simp only at h
    split at h
    · obtain ⟨v, -, e⟩ := Option.map_eq_some_iff.mp h
      cases e
      rfl
    · cases h
  case aastore =>
    unfold am_heap at h
    simp only at h
    split at h
    · split at h
      · obtain ⟨v, -, e⟩ := Option.map_eq_some_iff.mp h
        cases e
        rfl
      · cases h
    · obtain ⟨v, -, e⟩ := Option.map_eq_some_iff.mp h
      cases e
      rfl
    · cases h
  case newarray a =>
    unfold am_heap at h
    simp only at h
    split at h
    · split at h
      · obtain ⟨v, -, e⟩ := Option.map_eq_some_iff.mp h
        cases e
        rfl
      · cases h
    · cases h
  case anewarray k =>
    unfold am_heap at h
    simp only at h
    split at h
    · split at h <;> cases h
      rfl
    · cases h
  case new k =>
    unfold am_heap am_new at h
    simp only at h
    split at h
    · split at h
      · cases h
        rfl
      · split at h <;> cases h
    · cases h
  case instanceof k =>
    unfold am_heap at h
    simp only at h
    split at h
    · split at h
      · obtain ⟨v, -, e⟩ := Option.map_eq_some_iff.mp h
        cases e
        rfl
      · cases h
        rfl
      · cases h
    · cases h
  case checkcast k =>
    unfold am_heap at h
    simp only at h
    split at h
    · split at h
      · split at h <;> cases h
        rfl
      · cases h
        rfl
      · cases h
    · split at h
      · unfold am_cka at h
        split at h
        · obtain ⟨v, -, e⟩ := Option.map_eq_some_iff.mp h
          cases e
          rfl
        · cases h
      · cases h
  case ireturn =>
    unfold am_heap at h
    simp only at h
    split at h
    · split at h
      · cases h
      · split at h <;> cases h
      · cases h
    · cases h
  case lreturn =>
    unfold am_heap at h
    simp only at h
    split at h
    · split at h <;> cases h
    · cases h
  case areturn =>
    unfold am_heap at h
    simp only at h
    split at h
    · split at h <;> cases h
    · split at h <;> cases h
    · cases h
  case return_ =>
    unfold am_heap at h
    simp only at h
    split at h
    · split at h <;> cases h
    · cases h
  case invokevirtual k => cases hc
  case invokespecial k => cases hc
  case invokestatic k => cases hc
  case multianewarray k d => cases hc
  all_goals cases h
section AMH
variable {p : Program} {l : Launch} {e : Env} {R : Room} {s s0 : State} {m : MethodId} {args a0 : Array Value} {below : List Frame} {meth : Method} {c : Code} {H : Heap} {locs : List Loc} {cells slots : Nat} {Q : State → Prop}
variable {D : va_G} {cT : FieldType → ClassId} {X : am_X} {t pc nx tg : Nat} {σ : am_S} {ls : Array Slot} {r : List Value}
theorem am_obj {a ci : Nat} {fs : List Value} (hH : am_HR s0 D cT σ H) (ha : σ.1 a = some (.inr (ci, fs))) : va_P D am_cl [(a, .inr (ci, fs))] H ∧ ∃ q : vw_C, am_cl[ci]? = some q ∧ fs.length = q.2.2 ∧ t_OB a (D.1 ci) q.2.2 (D.2 ci) H (vp_V fs) := by
  obtain ⟨q, h1, h2, h3⟩ := (hH.2.2.2 a _ ha).2
  refine ⟨fun k x hx => ?_, q, h1, h3, h2⟩
  have hz : k < 1 := (List.getElem?_eq_some_iff.mp hx).1
  rw [show k = 0 by omega] at hx
  cases hx
  exact ⟨q, h1, h2⟩
theorem am_same {rf : String} {T : String × String × String × Bool} (G : am_G l s0 a0 D cT X) (hW : s0.WarmedH s.vm) (h : rf = T.1 ∨ Cond.sameField rf T.1 T.2.1 T.2.2.1 ∈ tables_1) : ∀ x, s.fieldFound? T.1 T.2.1 T.2.2.1 = some x → s.fieldFound? rf T.2.1 T.2.2.1 = some x := by
  intro x hx
  rcases h with rfl | h
  · exact hx
  · exact u_same (args := #[]) (G.word hW h rfl) x hx
theorem am_s_getfield {k a : Nat} {v : Value} (G : am_G l s0 a0 D cT X) (hW : s0.WarmedH s.vm) (hx : p.tables.exec = Jvm.exec) (hb : c.code = am_b t) (hown : s.vm.findClass (cN (am_own t)) = some m.cls) (hH : am_HR s0 D cT σ H) (hd : decode (am_b t) pc = .ok (.getfield k, 3)) (hg : am_gf (σ.1 a) (am_fk (am_own t) k) = some v)
    (kk : W p l e R s m args below meth c H locs cells slots Q (F0 m (pc + 3) ls (v :: r))) : W p l e R s m args below meth c H locs cells slots Q (F0 m pc ls (.ref a :: r)) := by
  obtain ⟨ci, fs, j, h1, h2, h3⟩ := am_gf_inv hg
  obtain ⟨hP, q, hq, -, -⟩ := am_obj hH h1
  obtain ⟨q', rf, hq', hj, hl, hs⟩ := am_fk_spec h2
  cases hq.symm.trans hq'
  exact va_get (cl := am_cl) (C := q.1) (T := q.2.1) (N := q.2.2) (ref := rf) hx hb (Ts := u_ws q.1 q.2.1 q.2.2) (fun w hw => G.word hW (am_cl_in hq w hw) (am_lay_good _ _ _ w hw)) (fun _ h => h) hown (G.K hW) hP 0 rfl hq j hj (G.word hW hl rfl) (am_same G hW hs) h3 hd kk
theorem am_s_putfield {k a : Nat} {v : Value} {E : am_E} (G : am_G l s0 a0 D cT X) (hW : s0.WarmedH s.vm) (hx : p.tables.exec = Jvm.exec) (hb : c.code = am_b t) (hown : s.vm.findClass (cN (am_own t)) = some m.cls) (hin : am_ini t = true → meth.name = "<init>") (hH : am_HR s0 D cT σ H) (hloc : ∀ z ∈ locs, s0.heap.size ≤ z.base) (hd : decode (am_b t) pc = .ok (.putfield k, 3)) (hg : am_pf (σ.1 a) (am_pk (am_own t) k) (am_ini t) v = some E)
    (kk : ∀ (H1 : Heap) (locs1 : List Loc), am_HR s0 D cT (am_up σ.1 a E, σ.2) H1 → (∀ z ∈ locs1, s0.heap.size ≤ z.base) → W p l e R s m args below meth c H1 locs1 cells slots Q (F0 m (pc + 3) ls r)) : W p l e R s m args below meth c H locs cells slots Q (F0 m pc ls (v :: .ref a :: r)) := by
  obtain ⟨ci, fs, j, fin, ty, h1, h2, hf, hok, hj, rfl⟩ := am_pf_inv hg
  obtain ⟨hP, q, hq, hlen, cell, q1, q2, q3, q4⟩ := am_obj hH h1
  obtain ⟨q', rf, hq', hjn, hl, hs, hfin, hty, hown2⟩ := am_pk_spec h2
  cases hq.symm.trans hq'
  obtain ⟨hn, hfit⟩ := am_okv_spec hok
  have hK := G.K hW
  have hts : ∀ w ∈ u_ws q.1 q.2.1 q.2.2, w.before args s = true := fun w hw => G.word hW (am_cl_in hq w hw) (am_lay_good _ _ _ w hw)
  have hap := va_apart (own := q.1) (cl := am_cl) (C := q.1) (T := q.2.1) (N := q.2.2) hts (fun _ h => h) (am_ty ci) (am_cl_ty hq) (am_cl_nm hq) hK hq
  obtain ⟨hS, hfc, kC, hkC, hkind⟩ := hK.1 ci _ hq
  obtain ⟨cf, kf, fi, f, hi, hsl⟩ := hS j hjn
  have hlay := hts _ (u_in_lay hjn)
  have hst := (u_facts hfc hkC (u_lays hts (fun _ h => h) hjn) hi).1
  have hbase := (hH.2.2.2 a _ h1).1
  have fin_ : ∀ (H' : Heap), H'[a]? = some (cell.setSlot f.slot v) → H'.size = H.size → (∀ z, z ≠ a → H'[z]? = H[z]?) → W p l e R s m args below meth c H' (locs ++ [⟨a, f.slot⟩]) cells slots Q (F0 m (pc + 3) ls r) := by
    intro H' e1 e2 e3
    rw [hsl] at e1 ⊢
    refine kk H' _ (hH.set h1 ⟨q, hq, t_OB.to (V := updV (vp_V fs) j v) ⟨_, e1, q2, q3, t_set q4 hap hjn v⟩ (fun i _ => vp_updV_set hj v i), by rw [List.length_set]; exact hlen⟩ e2 e3) (fun z hz => ?_)
    rcases List.mem_append.mp hz with h | h
    · exact hloc z h
    · rw [List.mem_singleton.mp h]
      exact hbase
  cases hfv : fin with
  | false =>
    rw [hfv] at hfin
    unfold u_lay at hlay
    rw [if_neg (by rw [hfin]; decide)] at hlay
    have h6 := u_store hfc hkC hkind hlay hi hty hn hfit
    exact W.putK hx hb (f := f) ⟨hown, G.word hW hl rfl, ⟨_, _, _, am_same G hW hs _ hi⟩, hst⟩ (by rw [q2]; exact h6) q1 q3 (by rw [hsl]; exact k2_hasslot (q4 j hjn)) rfl rfl hd fin_
  | true =>
    rw [hfv] at hfin
    unfold u_lay at hlay
    rw [if_pos hfin] at hlay
    have hcf : m.cls = cf := by
      obtain ⟨_, _, c', _, _, _, -, -, hf', -, -, -, hown3, -⟩ := Cond.laysFinal_spec hlay
      have e1 : c' = cf := by have := hi.symm.trans hf'; simp at this; exact this.1.symm
      rw [hown2 hfv] at hown3
      rw [← e1]; exact Option.some.inj (hown.symm.trans hown3)
    have h6 := u_fits hfc hkC hkind (Or.inr hlay) hi hty hn hfit
    exact W.putFinK hx hb hown (G.word hW hl rfl) (am_same G hW hs _ hi) hst hcf (hin (hf hfv)) (by rw [q2]; exact h6) q1 q3 (by rw [hsl]; exact k2_hasslot (q4 j hjn)) rfl rfl hd fin_
theorem am_s_getstatic (G : am_G l s0 a0 D cT X) (hW : s0.WarmedH s.vm) (hx : p.tables.exec = Jvm.exec) (hb : c.code = am_b t) (hown : s.vm.findClass "BoxSearch$Plan" = some m.cls) (hH : am_HR s0 D cT σ H) (hd : decode (am_b t) pc = .ok (.getstatic 209, 3))
    (kk : W p l e R s m args below meth c H locs cells slots Q (F0 m (pc + 3) ls (.ref X.2 :: r))) : W p l e R s m args below meth c H locs cells slots Q (F0 m pc ls r) := by
  obtain ⟨cf, kf, fi, f, a, cell, h1, h2, h3, h4, h5, h6, h7, h8⟩ := va_Z.moved hW.alike G.2.2.2.2.1
  exact W.gets (ref := "BoxSearch$Plan") (name := "FIVES") (desc := "[I") hx hb hown (G.word hW (by decide +kernel) rfl) h1 h2 h3 h4 (by rw [hH.2.2.1 a (Array.getElem?_eq_some_iff.mp h5).1]; exact h5) (fun e => by rw [e] at h6; cases h6) h7 rfl hd kk
end AMH
