/-! a run of the abstract machine is one of the machine -/
section AMR
variable {p : Program} {l : Launch} {e : Env} {R : Room} {s s0 : State} {m : MethodId} {args a0 : Array Value} {below : List Frame} {meth : Method} {c : Code} {H : Heap} {locs : List Loc} {Q : State → Prop}
variable {D : va_G} {cT : FieldType → ClassId} {X : am_X} {t d pc nx tg pc' : Nat} {σ σ' : am_S} {ls : Array Slot} {lv lv' : am_L} {st st' : List Value} {rec : am_O}
/-- the instruction that makes rows of rows -/
def am_MulOK (p : Program) (l : Launch) (e : Env) (R : Room) (s : State) (m : MethodId) (args : Array Value) (below : List Frame) (meth : Method) (c : Code) (s0 : State) (D : va_G) (cT : FieldType → ClassId) (t : Nat) (Q : State → Prop) : Prop :=
  ∀ (pc k dm : Nat) (n w : Int32) (σ : am_S) (H : Heap) (locs : List Loc) (cells slots : Nat) (ls : Array Slot) (rest : List Value), decode (am_b t) pc = .ok (.multianewarray k dm, 4) → ((am_in n 257 && am_in w 257) && ((am_own t == 0 && k == 62) && dm == 2)) = true → am_HR s0 D cT σ H → (∀ z ∈ locs, s0.heap.size ≤ z.base) →
    cells + (1 + n.toNatClampNeg) ≤ R.cells → slots + (n.toNatClampNeg + n.toNatClampNeg * w.toNatClampNeg) ≤ R.slots →
    (∀ (H1 : Heap) (locs1 : List Loc), am_HR s0 D cT (am_rows σ.1 σ.2.1 n.toNatClampNeg w.toNatClampNeg, σ.2.1 + 1 + n.toNatClampNeg, σ.2.2 + n.toNatClampNeg + n.toNatClampNeg * w.toNatClampNeg) H1 → (∀ z ∈ locs1, s0.heap.size ≤ z.base) → W p l e R s m args below meth c H1 locs1 (cells + (1 + n.toNatClampNeg)) (slots + (n.toNatClampNeg + n.toNatClampNeg * w.toNatClampNeg)) Q (F0 m (pc + 4) ls (.ref σ.2.1 :: rest))) →
    W p l e R s m args below meth c H locs cells slots Q (F0 m pc ls (.int w :: .int n :: rest))
theorem am_iv_inv {rec : am_O} {t pc nx n : Nat} {lv : am_L} {st : List Value} {σ : am_S} {ct : Nat → Option Nat} {z : am_Z} (h : am_iv rec t pc nx lv st σ n ct = some z) : ∃ (b : Nat) (rest As fs : List Value) (ci y : Nat), st = As.reverse ++ .ref b :: rest ∧ As.length = n ∧ σ.1 b = some (.inr (ci, fs)) ∧ ct ci = some y ∧ am_call rec t pc nx lv rest σ y (.ref b :: As) = some z := by
  unfold am_iv at h
  split at h
  · rename_i b rest hdrop
    split at h
    · rename_i ci hci
      split at h
      · rename_i y hy
        have hst : st = (st.take n).reverse.reverse ++ .ref b :: rest := by
          rw [List.reverse_reverse, ← hdrop, List.take_append_drop]
        have hn : (st.take n).reverse.length = n := by
          have : (st.drop n).length = rest.length + 1 := by rw [hdrop]; rfl
          rw [List.length_drop] at this
          rw [List.length_reverse, List.length_take]
          omega
        obtain ⟨fs, hfs⟩ : ∃ fs, σ.1 b = some (.inr (ci, fs)) := by
          unfold am_ci1 at hci
          split at hci
          · rename_i ci' fs hq
            cases hci
            exact ⟨fs, hq⟩
          · cases hci
        exact ⟨b, rest, _, fs, ci, y, hst, hn, hfs, hy, h⟩
      · cases h
    · cases h
  · cases h
theorem am_is_inv {rec : am_O} {t pc nx n y : Nat} {lv : am_L} {st : List Value} {σ : am_S} {z : am_Z} (h : am_is rec t pc nx lv st σ n y = some z) : ∃ (rest As : List Value), st = As.reverse ++ rest ∧ As.length = n ∧ am_call rec t pc nx lv rest σ y As = some z := by
  unfold am_is at h
  split at h
  · rename_i hn
    exact ⟨st.drop n, (st.take n).reverse, by rw [List.reverse_reverse, List.take_append_drop], by rw [List.length_reverse, List.length_take]; omega, h⟩
  · cases h
theorem am_vc_lt {own k ci n y : Nat} (h : am_vc own k ci n = some y) : y < 281 := by
  obtain ⟨x, -, -, -, hy, -⟩ := am_vc_spec h
  exact hy
theorem am_1_le {d F : Nat} (h : d + 9 ≤ F) : 1 ≤ F := by omega
set_option maxRecDepth 100000 in
theorem am_64_le {d F : Nat} (h : 64 * d + 576 ≤ F) : 64 ≤ F := by omega
theorem am_callI_ok {cells slots : Nat} {i : Instr} (C : am_Cx p l e R s m meth c s0 a0 D cT X t d) (hrec : ∀ (y : Nat) (as : List Value) (σ : am_S) (r : am_R) (σ' : am_S), y < 281 → rec y as σ = some (r, σ') → am_Ct l s0 D cT d y as σ r σ') (hcat : am_CatOK p l e R s m args below meth c t Q) (hmul : am_MulOK p l e R s m args below meth c s0 D cT t Q)
    (hc : am_isCall i = true) (hd : am_dc t pc = some (i, nx, tg)) (hstep : am_heap X rec t i pc nx lv st σ = some (.inl (pc', lv', st', σ'))) (hH : am_HR s0 D cT σ H) (hlv : am_lvR ls lv) (hlen : lv.length = am_ml t) (hloc : ∀ z ∈ locs, s0.heap.size ≤ z.base)
    (hR : cells + (σ'.2.1 - σ.2.1) ≤ R.cells) (hR2 : slots + (σ'.2.2 - σ.2.2) ≤ R.slots)
    (kk : ∀ (H1 : Heap) (locs1 : List Loc) (ls' : Array Slot), am_HR s0 D cT σ' H1 → (∀ z ∈ locs1, s0.heap.size ≤ z.base) → am_lvR ls' lv' → lv'.length = am_ml t → W p l e R s m args below meth c H1 locs1 (cells + (σ'.2.1 - σ.2.1)) (slots + (σ'.2.2 - σ.2.2)) Q (F0 m pc' ls' st')) : W p l e R s m args below meth c H locs cells slots Q (F0 m pc ls st) := by
  have C' := C
  obtain ⟨G, hW, hx, hb, hml, hown, hini, hf, hl⟩ := C'
  have hsz : ls.size = c.maxLocals := by rw [hlv.1, hlen, hml]
  cases i
  case invokevirtual k =>
    unfold am_heap at hstep
    simp only at hstep
    obtain ⟨hdg, rfl⟩ := am_dc_len hd (by simp [am_len])
    split at hstep
    · rename_i n hn
      obtain ⟨b, rest, As, fs, ci, y, rfl, hAs, ha, hy, hcall⟩ := am_iv_inv hstep
      exact am_call_ok (n := 0) C hrec hcat (am_vc_lt hy) hdg hcall hH hlv hlen hloc hR hR2 (am_inv_virtual G hW hx hb hown hH ha hy hAs hdg) kk
    · split at hstep
      · rename_i hk
        simp only [Bool.and_eq_true, beq_iff_eq] at hk
        obtain ⟨hk1, rfl⟩ := hk
        unfold am_cln at hstep
        split at hstep
        · split at hstep
          · rename_i hr
            obtain ⟨v, hv, e⟩ := Option.map_eq_some_iff.mp hstep
            cases e
            simp only [Nat.add_sub_cancel_left] at kk hR hR2
            exact am_s_clone G hW hx hb hown hH hsz (am_1_le hf) (am_64_le hl) hdg hk1 hr hv hR hR2 (fun H1 h1 => kk H1 locs ls h1 hloc hlv hlen)
          · cases hstep
        · cases hstep
      · cases hstep
  case invokespecial k =>
    unfold am_heap at hstep
    simp only at hstep
    obtain ⟨hdg, rfl⟩ := am_dc_len hd (by simp [am_len])
    split at hstep
    · rename_i ho
      split at hstep
      · split at hstep
        · rename_i hr
          cases hstep
          simp only [Nat.sub_self, Nat.add_zero] at kk
          exact am_s_obj G hW hx hb hown hsz (am_1_le hf) (am_64_le hl) hdg ho hr (kk H locs ls hH hloc hlv hlen)
        · cases hstep
      · cases hstep
    · split at hstep
      · rename_i y n hy
        obtain ⟨b, rest, As, fs, ci, y', rfl, hAs, ha, hy', hcall⟩ := am_iv_inv hstep
        cases hy'
        exact am_call_ok (n := 0) C hrec hcat (am_ic_spec hy).2.2.1 hdg hcall hH hlv hlen hloc hR hR2 (am_inv_init G hW hx hb hown hy hAs hdg) kk
      · split at hstep
        · rename_i y n hy
          obtain ⟨b, rest, As, fs, ci, y', rfl, hAs, ha, hy', hcall⟩ := am_iv_inv hstep
          cases hy'
          obtain ⟨-, -, -, -, hlt, -⟩ := am_uc_spec hy
          exact am_call_ok (n := 0) C hrec hcat hlt hdg hcall hH hlv hlen hloc hR hR2 (am_inv_super G hW hx hb hown hH ha hy hAs hdg) kk
        · cases hstep
  case invokestatic k =>
    unfold am_heap at hstep
    simp only at hstep
    obtain ⟨hdg, rfl⟩ := am_dc_len hd (by simp [am_len])
    split at hstep
    · rename_i ho
      split at hstep
      · split at hstep
        · rename_i hr
          obtain ⟨v, hv, e⟩ := Option.map_eq_some_iff.mp hstep
          cases e
          simp only [Nat.sub_self, Nat.add_zero] at kk
          exact am_s_copy G hW hx hb hown hH hloc hsz (am_1_le hf) (am_64_le hl) hdg ho hr hv (fun H1 locs1 h1 h2 => kk H1 locs1 ls h1 h2 hlv hlen)
        · cases hstep
      · cases hstep
    · split at hstep
      · rename_i q hq
        have hle := am_math_mono hstep
        have e1 : σ' = σ ∧ lv' = lv := by
          obtain ⟨h1, h2, -⟩ := am_s_math (p := p) (l := l) (e := e) (R := { R with cells := 0, slots := 0 }) (s := s) (m := m) (args := args) (below := below) (meth := meth) (c := c) (H := H) (locs := locs) (cells := 0) (slots := 0) (Q := fun _ => True) (ls := ls) G hW hx hb hown hsz (am_1_le hf) (am_64_le hl) (Nat.le_refl _) (Nat.le_refl _) hdg hq hstep (fun T hT X => ⟨T.setTop (F0 m pc' ls st'), Steps.refl _, trivial⟩)
          exact ⟨h2, h1⟩
        obtain ⟨rfl, rfl⟩ := e1
        simp only [Nat.sub_self, Nat.add_zero] at kk hR hR2
        exact (am_s_math G hW hx hb hown hsz (am_1_le hf) (am_64_le hl) hR hR2 hdg hq hstep (kk H locs ls hH hloc hlv hlen)).2.2
      · split at hstep
        · rename_i y n hy
          obtain ⟨rest, As, rfl, hAs, hcall⟩ := am_is_inv hstep
          exact am_call_ok (n := 0) C hrec hcat (am_sc_spec hy).2.2.1 hdg hcall hH hlv hlen hloc hR hR2 (am_inv_static G hW hx hb hown hy hAs hdg) kk
        · cases hstep
  case multianewarray k dm =>
    unfold am_heap at hstep
    simp only at hstep
    obtain ⟨hdg, rfl⟩ := am_dc_len hd (by simp [am_len])
    split at hstep
    · rename_i w n r
      split at hstep
      · rename_i hn
        cases hstep
        have e1 : σ.2.1 + 1 + n.toNatClampNeg - σ.2.1 = 1 + n.toNatClampNeg := by omega
        have e2 : σ.2.2 + n.toNatClampNeg + n.toNatClampNeg * w.toNatClampNeg - σ.2.2 = n.toNatClampNeg + n.toNatClampNeg * w.toNatClampNeg := by omega
        simp only [e1, e2] at kk hR hR2
        exact hmul pc k dm n w σ H locs cells slots ls r hdg hn hH hloc hR hR2 (fun H1 locs1 h1 h2 => kk H1 locs1 ls h1 h2 hlv hlen)
      · cases hstep
    · cases hstep
  all_goals cases hc
theorem am_run_ok {r : am_R} {σs σe : am_S} (C : am_Cx p l e R s m meth c s0 a0 D cT X t d) (hrec : ∀ (y : Nat) (as : List Value) (σ : am_S) (r : am_R) (σ' : am_S), y < 281 → rec y as σ = some (r, σ') → am_Ct l s0 D cT d y as σ r σ') (hM : am_oM rec) (hcat : am_CatOK p l e R s m args below meth c t Q) (hmul : am_MulOK p l e R s m args below meth c s0 D cT t Q)
    (hci : ∀ (k : Nat) (v : Int32), am_ci (am_own t) k = some v → (Jvm.Cond.constant (cN (am_own t)) k v).before args s = true) (hcj : ∀ (k : Nat) (v : Int64), am_cj (am_own t) k = some v → (Jvm.Cond.constantLong (cN (am_own t)) k v).before args s = true)
    (hR : σe.2.1 - σs.2.1 ≤ R.cells) (hR2 : σe.2.2 - σs.2.2 ≤ R.slots)
    (hend : ∀ (i : Instr) (pc nx tg : Nat) (lv : am_L) (st : List Value) (σ : am_S) (H : Heap) (locs : List Loc) (ls : Array Slot), am_dc t pc = some (i, nx, tg) → am_heap X rec t i pc nx lv st σ = some (.inr (r, σe)) → am_le σs σ → am_HR s0 D cT σ H → (∀ z ∈ locs, s0.heap.size ≤ z.base) → ls.size = c.maxLocals → W p l e R s m args below meth c H locs (σ.2.1 - σs.2.1) (σ.2.2 - σs.2.2) Q (F0 m pc ls st)) :
    ∀ (n pc : Nat) (lv : am_L) (st : List Value) (σ : am_S) (H : Heap) (locs : List Loc) (ls : Array Slot), am_run X rec t n (pc, lv, st, σ) = some (r, σe) → am_le σs σ → am_HR s0 D cT σ H → (∀ z ∈ locs, s0.heap.size ≤ z.base) → am_lvR ls lv → lv.length = am_ml t → W p l e R s m args below meth c H locs (σ.2.1 - σs.2.1) (σ.2.2 - σs.2.2) Q (F0 m pc ls st) := by
  intro n
  induction n with
  | zero => intro pc lv st σ H locs ls h; simp [am_run] at h
  | succ n ih =>
    intro pc lv st σ H locs ls h hle hH hloc hlv hlen
    have hsz : ls.size = c.maxLocals := by rw [hlv.1, hlen, C.2.2.2.2.1]
    unfold am_run at h
    cases hone : am_one X rec t (pc, lv, st, σ) with
    | none => rw [hone] at h; cases h
    | some z =>
      rw [hone] at h
      have hmono := am_one_mono hM hone
      unfold am_one at hone
      simp only at hone
      cases hdc : am_dc t pc with
      | none => rw [hdc] at hone; cases hone
      | some q =>
        obtain ⟨i, nx, tg⟩ := q
        rw [hdc] at hone
        simp only at hone
        unfold am_step at hone
        split at hone
        · rename_i q hp
          obtain ⟨pc', lv', st'⟩ := q
          cases hone
          exact am_pure_ok C.2.2.1 C.2.2.2.1 C.2.2.2.2.2.1 hci hcj hdc hp hlv (fun ls' hl' => ih pc' lv' st' σ H locs ls' h hle hH hloc hl' (by rw [am_pure_len hp, hlen]))
        · cases z with
          | inr r' =>
            cases h
            exact hend i pc nx tg lv st σ H locs ls hdc hone hle hH hloc hsz
          | inl c' =>
            obtain ⟨pc', lv', st', σ'⟩ := c'
            have hle1 : am_le σ σ' := hmono
            have hle2 : am_le σ' σe := am_run_mono hM n _ _ _ h
            obtain ⟨a1, a2⟩ := hle
            obtain ⟨b1, b2⟩ := hle1
            obtain ⟨c1, c2⟩ := hle2
            have e1 : σ.2.1 - σs.2.1 + (σ'.2.1 - σ.2.1) = σ'.2.1 - σs.2.1 := by omega
            have e2 : σ.2.2 - σs.2.2 + (σ'.2.2 - σ.2.2) = σ'.2.2 - σs.2.2 := by omega
            have hR' : σ.2.1 - σs.2.1 + (σ'.2.1 - σ.2.1) ≤ R.cells := by omega
            have hR2' : σ.2.2 - σs.2.2 + (σ'.2.2 - σ.2.2) ≤ R.slots := by omega
            cases hcl : am_isCall i with
            | false =>
              have hlveq := am_heap_lv hcl hone
              subst hlveq
              refine am_heap_ok C hcl hdc hone hH hloc hR' hR2' (fun H1 locs1 h1 h2 => ?_)
              rw [e1, e2]
              exact ih pc' lv' st' σ' H1 locs1 ls h ⟨by omega, by omega⟩ h1 h2 hlv hlen
            | true =>
              refine am_callI_ok C hrec hcat hmul hcl hdc hone hH hlv hlen hloc hR' hR2' (fun H1 locs1 ls' h1 h2 h3 h4 => ?_)
              rw [e1, e2]
              exact ih pc' lv' st' σ' H1 locs1 ls' h ⟨by omega, by omega⟩ h1 h2 h3 h4
end AMR
