/-! the ends of methods; the contracts of all methods -/
def am_isEnd (i : Instr) : Bool := match i with
  | .ireturn => true
  | .lreturn => true
  | .areturn => true
  | .return_ => true
  | .new _ => true
  | _ => false
theorem am_call_nr {rec : am_O} {t pc nx y : Nat} {lv : am_L} {rest as : List Value} {σ : am_S} {z : am_R × am_S} (h : am_call rec t pc nx lv rest σ y as = some (.inr z)) : False := by
  unfold am_call at h
  split at h
  · split at h
    · cases h
    · unfold am_hc at h
      split at h
      · split at h
        · split at h <;> cases h
        · cases h
      · cases h
    · cases h
  · cases h
theorem am_iv_nr {rec : am_O} {t pc nx n : Nat} {lv : am_L} {st : List Value} {σ : am_S} {ct : Nat → Option Nat} {z : am_R × am_S} (h : am_iv rec t pc nx lv st σ n ct = some (.inr z)) : False := by
  unfold am_iv at h
  split at h
  · split at h
    · split at h
      · exact am_call_nr h
      · cases h
    · cases h
  · cases h
theorem am_is_nr {rec : am_O} {t pc nx n y : Nat} {lv : am_L} {st : List Value} {σ : am_S} {z : am_R × am_S} (h : am_is rec t pc nx lv st σ n y = some (.inr z)) : False := by
  unfold am_is at h
  split at h
  · exact am_call_nr h
  · cases h
theorem am_math_nr {nx k : Nat} {lv : am_L} {st : List Value} {σ : am_S} {z : am_R × am_S} (h : am_math nx lv st σ k = some (.inr z)) : False := by
  unfold am_math at h
  split at h
  all_goals first
    | (split at h
       · split at h <;> cases h
       · cases h)
    | cases h
theorem am_heap_nr {X : am_X} {rec : am_O} {t pc nx : Nat} {i : Instr} {lv : am_L} {st : List Value} {σ : am_S} {z : am_R × am_S} (h : am_heap X rec t i pc nx lv st σ = some (.inr z)) : am_isEnd i = true := by
  cases i
  case getfield k =>
    unfold am_heap at h
    simp only at h
    split at h
    · obtain ⟨v, -, e⟩ := Option.map_eq_some_iff.mp h
      cases e
    · cases h
  case putfield k =>
    unfold am_heap at h
    simp only at h
    split at h
    · obtain ⟨v, -, e⟩ := Option.map_eq_some_iff.mp h
      cases e
    · cases h
  case iaload =>
    unfold am_heap at h
    simp only at h
    split at h
    · obtain ⟨v, -, e⟩ := Option.map_eq_some_iff.mp h
      cases e
    · cases h
  case baload =>
    unfold am_heap at h
    simp only at h
    split at h
    · obtain ⟨v, -, e⟩ := Option.map_eq_some_iff.mp h
      cases e
    · cases h
  case laload =>
    unfold am_heap at h
    simp only at h
    split at h
    · obtain ⟨v, -, e⟩ := Option.map_eq_some_iff.mp h
      cases e
    · cases h
  case aaload =>
    unfold am_heap at h
    simp only at h
    split at h
    · obtain ⟨v, -, e⟩ := Option.map_eq_some_iff.mp h
      cases e
    · cases h
  case arraylength =>
    unfold am_heap at h
    simp only at h
    split at h
    · obtain ⟨v, -, e⟩ := Option.map_eq_some_iff.mp h
      cases e
    · cases h
  case iastore =>
    unfold am_heap at h
    simp only at h
    split at h
    · obtain ⟨v, -, e⟩ := Option.map_eq_some_iff.mp h
      cases e
    · cases h
  case bastore =>
    unfold am_heap at h
    simp only at h
    split at h
    · obtain ⟨v, -, e⟩ := Option.map_eq_some_iff.mp h
      cases e
    · cases h
  case lastore =>
    unfold am_heap at h
    simp only at h
    split at h
    · obtain ⟨v, -, e⟩ := Option.map_eq_some_iff.mp h
      cases e
    · cases h
  case getstatic k =>
    unfold am_heap at h
    simp only at h
    split at h <;> cases h
  case aastore =>
    unfold am_heap at h
    simp only at h
    split at h
    · split at h
      · obtain ⟨v, -, e⟩ := Option.map_eq_some_iff.mp h
        cases e
      · cases h
    · obtain ⟨v, -, e⟩ := Option.map_eq_some_iff.mp h
      cases e
    · cases h
  case newarray a =>
    unfold am_heap at h
    simp only at h
    split at h
    · split at h
      · obtain ⟨v, -, e⟩ := Option.map_eq_some_iff.mp h
        cases e
      · cases h
    · cases h
  case anewarray k =>
    unfold am_heap at h
    simp only at h
    split at h
    · split at h <;> cases h
    · cases h
  case multianewarray k d =>
    unfold am_heap at h
    simp only at h
    split at h
    · split at h <;> cases h
    · cases h
  case new k => rfl
  case instanceof k =>
    unfold am_heap at h
    simp only at h
    split at h
    · split at h
      · obtain ⟨v, -, e⟩ := Option.map_eq_some_iff.mp h
        cases e
      · cases h
      · cases h
    · cases h
  case checkcast k =>
    unfold am_heap at h
    simp only at h
    split at h
    · split at h
      · split at h <;> cases h
      · cases h
      · cases h
    · split at h
      · unfold am_cka at h
        split at h
        · obtain ⟨v, -, e⟩ := Option.map_eq_some_iff.mp h
          cases e
        · cases h
      · cases h
  case invokestatic k =>
    unfold am_heap at h
    simp only at h
    split at h
    · split at h
      · split at h
        · obtain ⟨v, -, e⟩ := Option.map_eq_some_iff.mp h
          cases e
        · cases h
      · cases h
    · split at h
      · exact (am_math_nr h).elim
      · split at h
        · exact (am_is_nr h).elim
        · cases h
  case invokespecial k =>
    unfold am_heap at h
    simp only at h
    split at h
    · split at h
      · split at h <;> cases h
      · cases h
    · split at h
      · exact (am_iv_nr h).elim
      · split at h
        · exact (am_iv_nr h).elim
        · cases h
  case invokevirtual k =>
    unfold am_heap at h
    simp only at h
    split at h
    · exact (am_iv_nr h).elim
    · split at h
      · unfold am_cln at h
        split at h
        · split at h
          · obtain ⟨v, -, e⟩ := Option.map_eq_some_iff.mp h
            cases e
          · cases h
        · cases h
      · cases h
  case ireturn => rfl
  case lreturn => rfl
  case areturn => rfl
  case return_ => rfl
  all_goals cases h
section AMF
variable {p : Program} {l : Launch} {e : Env} {R : Room} {s s0 : State} {m : MethodId} {args a0 : Array Value} {below : List Frame} {meth : Method} {c : Code} {H : Heap} {locs : List Loc} {cells slots : Nat}
variable {D : va_G} {cT : FieldType → ClassId} {X : am_X} {t d pc nx tg : Nat} {σ σs σe : am_S} {ls : Array Slot} {lv : am_L} {st : List Value} {rec : am_O} {r : am_R}
theorem am_end_ok {i : Instr} (C : am_Cx p l e R s m meth c s0 a0 D cT X t d) (Tr : am_TR s0) (h0 : am_HR s0 D cT σs s.heap) (htab : am_hh t = [] → ∀ x ∈ c.exceptionTable.toList, False) (hlocks : meth.locks = false) (hret : meth.sig.returnType = am_ret t)
    (hd : am_dc t pc = some (i, nx, tg)) (hstep : am_heap X rec t i pc nx lv st σ = some (.inr (r, σe))) (hle : am_le σs σ) (hH : am_HR s0 D cT σ H) (hloc : ∀ z ∈ locs, s0.heap.size ≤ z.base) (hsz : ls.size = c.maxLocals)
    (hR : σe.2.1 - σs.2.1 ≤ R.cells) (hR2 : σe.2.2 - σs.2.2 ≤ R.slots) :
    W p l e R s m args below meth c H locs (σ.2.1 - σs.2.1) (σ.2.2 - σs.2.2) (vx_MQ below (am_Qc s0 D cT r σe) (am_Xc s0 D cT r σe) args s (σe.2.1 - σs.2.1) (σe.2.2 - σs.2.2) (fun q => s0.heap.size ≤ q)) (F0 m pc ls st) := by
  have hq : ∀ (v : Option Value) (T : State), T.heap = H → s.WarmedH T.vm → am_Qc s0 D cT (.inl v) σ args s (.returned v) T := fun v T hT hW => ⟨v, rfl, rfl, State.WarmedH.trans C.2.1 hW, by rw [hT]; exact hH⟩
  have hx := C.2.2.1
  have hb := C.2.2.2.1
  have hend := am_heap_nr hstep
  cases i
  case ireturn =>
    unfold am_heap at hstep
    simp only at hstep
    obtain ⟨hdg, rfl⟩ := am_dc_len hd (by simp [am_len])
    split at hstep
    · rename_i v
      split at hstep
      · rename_i hr
        cases hstep
        exact vx_ret (W.iret hx hb (hret.trans hr) (hq _) hloc hdg hlocks)
      · rename_i hr
        split at hstep
        · rename_i hv
          cases hstep
          simp only [Bool.or_eq_true, beq_iff_eq] at hv
          refine vx_ret (W.zret hx hb (hret.trans hr) ?_ (hq _) hloc hdg hlocks)
          rcases hv with rfl | rfl <;> rfl
        · cases hstep
      · cases hstep
    · cases hstep
  case lreturn =>
    unfold am_heap at hstep
    simp only at hstep
    obtain ⟨hdg, rfl⟩ := am_dc_len hd (by simp [am_len])
    split at hstep
    · split at hstep
      · rename_i hr
        cases hstep
        exact vx_ret (W.lret hx hb (hret.trans hr) (hq _) hloc hdg hlocks)
      · cases hstep
    · cases hstep
  case areturn =>
    unfold am_heap at hstep
    simp only at hstep
    obtain ⟨hdg, rfl⟩ := am_dc_len hd (by simp [am_len])
    split at hstep
    · split at hstep
      · rename_i n hr
        cases hstep
        exact vx_ret (W.aret hx hb (hret.trans hr) (Or.inl ⟨_, rfl⟩) (Or.inr ⟨_, rfl⟩) (hq _) hloc hdg hlocks)
      · rename_i n hr
        cases hstep
        exact vx_ret (W.aret hx hb (hret.trans hr) (Or.inr ⟨_, rfl⟩) (Or.inr ⟨_, rfl⟩) (hq _) hloc hdg hlocks)
      · cases hstep
    · split at hstep
      · rename_i n hr
        cases hstep
        exact vx_ret (W.aret hx hb (hret.trans hr) (Or.inl ⟨_, rfl⟩) (Or.inl rfl) (hq _) hloc hdg hlocks)
      · rename_i n hr
        cases hstep
        exact vx_ret (W.aret hx hb (hret.trans hr) (Or.inr ⟨_, rfl⟩) (Or.inl rfl) (hq _) hloc hdg hlocks)
      · cases hstep
    · cases hstep
  case return_ =>
    unfold am_heap at hstep
    simp only at hstep
    obtain ⟨hdg, rfl⟩ := am_dc_len hd (by simp [am_len])
    split at hstep
    · split at hstep
      · rename_i hr
        cases hstep
        exact vx_ret (W.vret hx hb (hret.trans hr) (hq _) hloc hdg hlocks)
      · cases hstep
    · cases hstep
  case new k =>
    unfold am_heap at hstep
    simp only at hstep
    obtain ⟨hdg, rfl⟩ := am_dc_len hd (by simp [am_len])
    unfold am_new at hstep
    split at hstep
    · rename_i ci hk
      split at hstep
      · cases hstep
      · split at hstep
        · rename_i hc
          cases hstep
          simp only [Bool.and_eq_true, decide_eq_true_eq] at hc
          exact am_thr_ok C Tr h0 htab hlocks hdg hk hc.2.1 hc.2.2 hH hle hloc hsz hR hR2
        · cases hstep
    · cases hstep
  all_goals cases hend
theorem am_consts (G : am_G l s0 a0 D cT X) (hW : s0.WarmedH s.vm) : (∀ (k : Nat) (v : Int32), am_ci (am_own t) k = some v → (Jvm.Cond.constant (cN (am_own t)) k v).before args s = true) ∧ (∀ (k : Nat) (v : Int64), am_cj (am_own t) k = some v → (Jvm.Cond.constantLong (cN (am_own t)) k v).before args s = true) :=
  ⟨fun k v h => G.word hW (am_ci_spec h) rfl, fun k v h => G.word hW (am_cj_spec h) rfl⟩
end AMF
/-- where the machine's own rows are still owed: catching, and rows of rows -/
def am_Owed (l : Launch) (s0 : State) (a0 : Array Value) (D : va_G) (cT : FieldType → ClassId) (X : am_X) : Prop :=
  ∀ (p : Program) (e : Env) (R : Room) (s : State) (m : MethodId) (args : Array Value) (below : List Frame) (meth : Method) (c : Code) (t d : Nat) (Q : State → Prop), am_Cx p l e R s m meth c s0 a0 D cT X t d → c.exceptionTable.toList = tableOf (am_hh t) → am_CatOK p l e R s m args below meth c t Q ∧ am_MulOK p l e R s m args below meth c s0 D cT t Q
theorem am_ini_name {t : Nat} (h : am_ini t = true) : (am_y t).name = "<init>" := by
  unfold am_ini at h
  simpa using h
set_option maxRecDepth 100000 in
theorem am_rmL {d : Nat} : 64 * d + 576 ≤ 64 * (d + 1) + 512 := by omega
theorem am_f_ok {l : Launch} {s0 : State} {a0 : Array Value} {D : va_G} {cT : FieldType → ClassId} {X : am_X} (G : am_G l s0 a0 D cT X) (Tr : am_TR s0) (Ow : am_Owed l s0 a0 D cT X) : ∀ (d y : Nat) (as : List Value) (σ : am_S) (r : am_R) (σ' : am_S), y < 281 → am_f X d y as σ = some (r, σ') → am_Ct l s0 D cT d y as σ r σ' := by
  intro d
  induction d with
  | zero => intro y as σ r σ' _ h; cases h
  | succ d ih =>
    intro y as σ r σ' hy h
    have h' : (if (am_lay as).length ≤ am_ml y then am_I X (am_f X d) y 0 (am_lv0 (am_ml y) as) [] σ else none) = some (r, σ') := h
    split at h'
    · rename_i hlay
      obtain ⟨n, hn⟩ := am_lim_iff.mp h'
      obtain ⟨w1, w2, w3, w4, w5⟩ := am_m_spec hy
      have hlv := am_lvR.entry hlay
      have hlen : (am_lv0 (am_ml y) as).length = am_ml y := by
        unfold am_lv0
        rw [List.length_append, List.length_replicate]
        omega
      have body : ∀ p e s m args below meth c s₁, BodyLoose p l (am_y y) (headSpec [am_w y] (am_rm (d + 1) σ σ')) (am_b y) (am_ml y) (am_ret y) e s m args below meth c s₁ → c.maxLocals = am_ml y → c.exceptionTable.toList = tableOf (am_hh y) → va_Pc as (am_RS s0 D cT σ) args s →
          W p l e (headSpec [am_w y] (am_rm (d + 1) σ σ')).room s m args below meth c s.heap [] 0 0 (vx_MQ below (am_Qc s0 D cT r σ') (am_Xc s0 D cT r σ') args s (σ'.2.1 - σ.2.1) (σ'.2.2 - σ.2.2) (fun q => s0.heap.size ≤ q)) (entryFrame m args (am_ml y)) := by
        intro p e s m args below meth c s₁ B hml htb hP
        obtain ⟨rfl, hW, hH⟩ := hP
        have hown : s.vm.findClass (cN (am_own y)) = some m.cls := by rw [w3]; exact findClass_of_methodNamed B.named
        have C : am_Cx p l e (headSpec [am_w y] (am_rm (d + 1) σ σ')).room s m meth c s0 a0 D cT X y d := ⟨G, hW, B.exec, B.bytes, hml, hown, fun hi => ((name_of_methodNamed B.named B.method).1).trans (am_ini_name hi), by show d + 9 ≤ d + 1 + 8; omega, am_rmL⟩
        have hnt : am_hh y = [] → ∀ x ∈ c.exceptionTable.toList, False := fun hh x hx => by
          rw [htb, hh] at hx
          cases hx
        obtain ⟨hcat, hmul⟩ := Ow p e (headSpec [am_w y] (am_rm (d + 1) σ σ')).room s m as.toArray below meth c y d (vx_MQ below (am_Qc s0 D cT r σ') (am_Xc s0 D cT r σ') as.toArray s (σ'.2.1 - σ.2.1) (σ'.2.2 - σ.2.2) (fun q => s0.heap.size ≤ q)) C htb
        obtain ⟨hci, hcj⟩ := am_consts (t := y) (args := as.toArray) G hW
        have hrun := am_run_ok (σs := σ) C ih (am_f_mono X d) hcat hmul hci hcj (Nat.le_refl _) (Nat.le_refl _)
          (fun i pc nx tg lv st σ2 H locs ls hdc hst hle hH2 hloc hsz => am_end_ok C Tr hH hnt B.notSynchronized B.returns hdc hst hle hH2 hloc hsz (Nat.le_refl _) (Nat.le_refl _)) n 0 (am_lv0 (am_ml y) as) [] σ s.heap [] _ hn (am_le.rf σ) hH (fun z hz => nomatch hz) hlv hlen
        rw [Nat.sub_self, Nat.sub_self] at hrun
        rw [lg_entry_eq]
        exact hrun
      by_cases hh : am_hh y = []
      · refine vx_ofW (ws' := []) (cc := am_b y) (maxL := am_ml y) (ret := am_ret y) (am_plain_spec w4).1 (by unfold am_w; rw [if_pos hh]) (fun p e s m args below meth c s₁ B hml ht hP => body p e s m args below meth c s₁ B hml ?_ hP)
        rw [hh]
        show _ = []
        exact List.eq_nil_iff_forall_not_mem.mpr (fun x hx => ht x hx)
      · refine vx_ofWH (ws' := []) (cc := am_b y) (maxL := am_ml y) (ret := am_ret y) (hh := am_hh y) (am_plain_spec w4).1 (by unfold am_w; rw [if_neg hh]) (fun p e s m args below meth c s₁ B hml hP => body p e s m args below meth c s₁ B hml ?_ hP)
        exact vx_table (x := am_y y) (bytes := am_b y) (maxL' := am_ml y) (ret' := am_ret y) B (by
          have := G.word (args := args) hP.2.1 w1 (am_w_good y)
          unfold am_w at this
          rw [if_neg hh] at this
          exact this)
    · cases h'
