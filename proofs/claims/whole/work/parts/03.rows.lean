section AMJ
variable {X : am_X} {rec : am_O} {t pc nx tg : Nat} {lv : am_L} {st : List Value} {σ : am_S}
theorem J_iconst {n : Int} : am_J X rec t (some (.iconst n, nx, tg)) pc lv (st) σ = am_I X rec t nx lv (.int (Int32.ofInt n) :: st) σ := rfl
theorem J_bipush {n : Int} : am_J X rec t (some (.bipush n, nx, tg)) pc lv (st) σ = am_I X rec t nx lv (.int (Int8.ofInt n).toInt32 :: st) σ := rfl
theorem J_sipush {n : Int} : am_J X rec t (some (.sipush n, nx, tg)) pc lv (st) σ = am_I X rec t nx lv (.int (Int16.ofInt n).toInt32 :: st) σ := rfl
theorem J_lconst {n : Fin 2} : am_J X rec t (some (.lconst n, nx, tg)) pc lv (st) σ = am_I X rec t nx lv (.long (Int64.ofNat n) :: st) σ := rfl
theorem J_null : am_J X rec t (some (.aconst_null, nx, tg)) pc lv (st) σ = am_I X rec t nx lv (.null :: st) σ := rfl
theorem J_ldc {k : Nat} : am_J X rec t (some (.ldc k, nx, tg)) pc lv (st) σ = (am_ci (am_own t) k).bind (fun x => am_I X rec t nx lv (.int x :: st) σ) := by
  show am_K X rec t (am_step X rec t (.ldc k) pc nx tg lv st σ) = _
  unfold am_step
  have e : am_pure t (.ldc k) pc nx tg lv st = (am_ci (am_own t) k).map (fun x => (nx, lv, .int x :: st)) := rfl
  rw [e]
  cases am_ci (am_own t) k <;> rfl
theorem J_ldc_w {k : Nat} : am_J X rec t (some (.ldc_w k, nx, tg)) pc lv (st) σ = (am_ci (am_own t) k).bind (fun x => am_I X rec t nx lv (.int x :: st) σ) := by
  show am_K X rec t (am_step X rec t (.ldc_w k) pc nx tg lv st σ) = _
  unfold am_step
  have e : am_pure t (.ldc_w k) pc nx tg lv st = (am_ci (am_own t) k).map (fun x => (nx, lv, .int x :: st)) := rfl
  rw [e]
  cases am_ci (am_own t) k <;> rfl
theorem J_ldc2 {k : Nat} : am_J X rec t (some (.ldc2_w k, nx, tg)) pc lv (st) σ = (am_cj (am_own t) k).bind (fun x => am_I X rec t nx lv (.long x :: st) σ) := by
  show am_K X rec t (am_step X rec t (.ldc2_w k) pc nx tg lv st σ) = _
  unfold am_step
  have e : am_pure t (.ldc2_w k) pc nx tg lv st = (am_cj (am_own t) k).map (fun x => (nx, lv, .long x :: st)) := rfl
  rw [e]
  cases am_cj (am_own t) k <;> rfl
theorem J_iload {k : Nat} : am_J X rec t (some (.iload k, nx, tg)) pc lv st σ = am_K X rec t ((am_pil nx lv st (am_ld lv k)).map (fun q => .inl (q.1, q.2.1, q.2.2, σ))) := by
  show am_K X rec t (am_step X rec t (.iload k) pc nx tg lv st σ) = _
  unfold am_step
  show am_K X rec t (match am_pil nx lv st (am_ld lv k) with | some q => some (.inl (q.1, q.2.1, q.2.2, σ)) | none => none) = _
  cases am_pil nx lv st (am_ld lv k) <;> rfl
theorem J_iload_n {k : Fin 4} : am_J X rec t (some (.iload_n k, nx, tg)) pc lv st σ = am_K X rec t ((am_pil nx lv st (am_ld lv k.val)).map (fun q => .inl (q.1, q.2.1, q.2.2, σ))) := by
  show am_K X rec t (am_step X rec t (.iload_n k) pc nx tg lv st σ) = _
  unfold am_step
  show am_K X rec t (match am_pil nx lv st (am_ld lv k.val) with | some q => some (.inl (q.1, q.2.1, q.2.2, σ)) | none => none) = _
  cases am_pil nx lv st (am_ld lv k.val) <;> rfl
theorem J_lload {k : Nat} : am_J X rec t (some (.lload k, nx, tg)) pc lv st σ = am_K X rec t ((am_pll nx lv st (am_ld lv k)).map (fun q => .inl (q.1, q.2.1, q.2.2, σ))) := by
  show am_K X rec t (am_step X rec t (.lload k) pc nx tg lv st σ) = _
  unfold am_step
  show am_K X rec t (match am_pll nx lv st (am_ld lv k) with | some q => some (.inl (q.1, q.2.1, q.2.2, σ)) | none => none) = _
  cases am_pll nx lv st (am_ld lv k) <;> rfl
theorem J_lload_n {k : Fin 4} : am_J X rec t (some (.lload_n k, nx, tg)) pc lv st σ = am_K X rec t ((am_pll nx lv st (am_ld lv k.val)).map (fun q => .inl (q.1, q.2.1, q.2.2, σ))) := by
  show am_K X rec t (am_step X rec t (.lload_n k) pc nx tg lv st σ) = _
  unfold am_step
  show am_K X rec t (match am_pll nx lv st (am_ld lv k.val) with | some q => some (.inl (q.1, q.2.1, q.2.2, σ)) | none => none) = _
  cases am_pll nx lv st (am_ld lv k.val) <;> rfl
theorem J_aload {k : Nat} : am_J X rec t (some (.aload k, nx, tg)) pc lv st σ = am_K X rec t ((am_pal nx lv st (am_ld lv k)).map (fun q => .inl (q.1, q.2.1, q.2.2, σ))) := by
  show am_K X rec t (am_step X rec t (.aload k) pc nx tg lv st σ) = _
  unfold am_step
  show am_K X rec t (match am_pal nx lv st (am_ld lv k) with | some q => some (.inl (q.1, q.2.1, q.2.2, σ)) | none => none) = _
  cases am_pal nx lv st (am_ld lv k) <;> rfl
theorem J_aload_n {k : Fin 4} : am_J X rec t (some (.aload_n k, nx, tg)) pc lv st σ = am_K X rec t ((am_pal nx lv st (am_ld lv k.val)).map (fun q => .inl (q.1, q.2.1, q.2.2, σ))) := by
  show am_K X rec t (am_step X rec t (.aload_n k) pc nx tg lv st σ) = _
  unfold am_step
  show am_K X rec t (match am_pal nx lv st (am_ld lv k.val) with | some q => some (.inl (q.1, q.2.1, q.2.2, σ)) | none => none) = _
  cases am_pal nx lv st (am_ld lv k.val) <;> rfl
theorem K_il {x : Int32} : am_K X rec t ((am_pil nx lv st (some (.int x))).map (fun q => .inl (q.1, q.2.1, q.2.2, σ))) = am_I X rec t nx lv (.int x :: st) σ := rfl
theorem K_ll {x : Int64} : am_K X rec t ((am_pll nx lv st (some (.long x))).map (fun q => .inl (q.1, q.2.1, q.2.2, σ))) = am_I X rec t nx lv (.long x :: st) σ := rfl
theorem K_al {x : Nat} : am_K X rec t ((am_pal nx lv st (some (.ref x))).map (fun q => .inl (q.1, q.2.1, q.2.2, σ))) = am_I X rec t nx lv (.ref x :: st) σ := rfl
theorem K_an : am_K X rec t ((am_pal nx lv st (some .null)).map (fun q => .inl (q.1, q.2.1, q.2.2, σ))) = am_I X rec t nx lv (.null :: st) σ := rfl
theorem J_istore {k : Nat} {x : Int32} : am_J X rec t (some (.istore k, nx, tg)) pc lv (.int x :: st) σ = if k < lv.length then am_I X rec t nx (am_st1 lv k (.int x)) (st) σ else none := by
  show am_K X rec t (am_step X rec t (.istore k) pc nx tg lv (.int x :: st) σ) = _
  unfold am_step
  show am_K X rec t (match (if k < lv.length then some (nx, am_st1 lv k (.int x), st) else none) with | some q => some (.inl (q.1, q.2.1, q.2.2, σ)) | none => none) = _
  by_cases h : k < lv.length
  · rw [if_pos h, if_pos h]; rfl
  · rw [if_neg h, if_neg h]; rfl
theorem J_lstore {k : Nat} {x : Int64} : am_J X rec t (some (.lstore k, nx, tg)) pc lv (.long x :: st) σ = if k + 1 < lv.length then am_I X rec t nx (am_st2 lv k (.long x)) (st) σ else none := by
  show am_K X rec t (am_step X rec t (.lstore k) pc nx tg lv (.long x :: st) σ) = _
  unfold am_step
  show am_K X rec t (match (if k + 1 < lv.length then some (nx, am_st2 lv k (.long x), st) else none) with | some q => some (.inl (q.1, q.2.1, q.2.2, σ)) | none => none) = _
  by_cases h : k + 1 < lv.length
  · rw [if_pos h, if_pos h]; rfl
  · rw [if_neg h, if_neg h]; rfl
theorem J_astore {k : Nat} {x : Nat} : am_J X rec t (some (.astore k, nx, tg)) pc lv (.ref x :: st) σ = if k < lv.length then am_I X rec t nx (am_st1 lv k (.ref x)) (st) σ else none := by
  show am_K X rec t (am_step X rec t (.astore k) pc nx tg lv (.ref x :: st) σ) = _
  unfold am_step
  show am_K X rec t (match (if k < lv.length then some (nx, am_st1 lv k (.ref x), st) else none) with | some q => some (.inl (q.1, q.2.1, q.2.2, σ)) | none => none) = _
  by_cases h : k < lv.length
  · rw [if_pos h, if_pos h]; rfl
  · rw [if_neg h, if_neg h]; rfl
theorem J_astoreN {k : Nat} : am_J X rec t (some (.astore k, nx, tg)) pc lv (.null :: st) σ = if k < lv.length then am_I X rec t nx (am_st1 lv k (.null)) (st) σ else none := by
  show am_K X rec t (am_step X rec t (.astore k) pc nx tg lv (.null :: st) σ) = _
  unfold am_step
  show am_K X rec t (match (if k < lv.length then some (nx, am_st1 lv k (.null), st) else none) with | some q => some (.inl (q.1, q.2.1, q.2.2, σ)) | none => none) = _
  by_cases h : k < lv.length
  · rw [if_pos h, if_pos h]; rfl
  · rw [if_neg h, if_neg h]; rfl
theorem J_istore_n {k : Fin 4} {x : Int32} : am_J X rec t (some (.istore_n k, nx, tg)) pc lv (.int x :: st) σ = if k.val < lv.length then am_I X rec t nx (am_st1 lv k.val (.int x)) (st) σ else none := by
  show am_K X rec t (am_step X rec t (.istore_n k) pc nx tg lv (.int x :: st) σ) = _
  unfold am_step
  show am_K X rec t (match (if k.val < lv.length then some (nx, am_st1 lv k.val (.int x), st) else none) with | some q => some (.inl (q.1, q.2.1, q.2.2, σ)) | none => none) = _
  by_cases h : k.val < lv.length
  · rw [if_pos h, if_pos h]; rfl
  · rw [if_neg h, if_neg h]; rfl
theorem J_lstore_n {k : Fin 4} {x : Int64} : am_J X rec t (some (.lstore_n k, nx, tg)) pc lv (.long x :: st) σ = if k.val + 1 < lv.length then am_I X rec t nx (am_st2 lv k.val (.long x)) (st) σ else none := by
  show am_K X rec t (am_step X rec t (.lstore_n k) pc nx tg lv (.long x :: st) σ) = _
  unfold am_step
  show am_K X rec t (match (if k.val + 1 < lv.length then some (nx, am_st2 lv k.val (.long x), st) else none) with | some q => some (.inl (q.1, q.2.1, q.2.2, σ)) | none => none) = _
  by_cases h : k.val + 1 < lv.length
  · rw [if_pos h, if_pos h]; rfl
  · rw [if_neg h, if_neg h]; rfl
theorem J_astore_n {k : Fin 4} {x : Nat} : am_J X rec t (some (.astore_n k, nx, tg)) pc lv (.ref x :: st) σ = if k.val < lv.length then am_I X rec t nx (am_st1 lv k.val (.ref x)) (st) σ else none := by
  show am_K X rec t (am_step X rec t (.astore_n k) pc nx tg lv (.ref x :: st) σ) = _
  unfold am_step
  show am_K X rec t (match (if k.val < lv.length then some (nx, am_st1 lv k.val (.ref x), st) else none) with | some q => some (.inl (q.1, q.2.1, q.2.2, σ)) | none => none) = _
  by_cases h : k.val < lv.length
  · rw [if_pos h, if_pos h]; rfl
  · rw [if_neg h, if_neg h]; rfl
theorem J_astoreN_n {k : Fin 4} : am_J X rec t (some (.astore_n k, nx, tg)) pc lv (.null :: st) σ = if k.val < lv.length then am_I X rec t nx (am_st1 lv k.val (.null)) (st) σ else none := by
  show am_K X rec t (am_step X rec t (.astore_n k) pc nx tg lv (.null :: st) σ) = _
  unfold am_step
  show am_K X rec t (match (if k.val < lv.length then some (nx, am_st1 lv k.val (.null), st) else none) with | some q => some (.inl (q.1, q.2.1, q.2.2, σ)) | none => none) = _
  by_cases h : k.val < lv.length
  · rw [if_pos h, if_pos h]; rfl
  · rw [if_neg h, if_neg h]; rfl
theorem J_iinc {k : Nat} {n : Int} : am_J X rec t (some (.iinc k n, nx, tg)) pc lv st σ = am_K X rec t ((am_pinc nx k n lv st).map (fun q => .inl (q.1, q.2.1, q.2.2, σ))) := by
  show am_K X rec t (am_step X rec t (.iinc k n) pc nx tg lv st σ) = _
  unfold am_step
  show am_K X rec t (match am_pinc nx k n lv st with | some q => some (.inl (q.1, q.2.1, q.2.2, σ)) | none => none) = _
  cases am_pinc nx k n lv st <;> rfl
theorem pinc_go {k : Nat} {n : Int} : am_K X rec t ((am_pinc nx k n lv st).map (fun q => .inl (q.1, q.2.1, q.2.2, σ))) = (match am_ld lv k with | some (.int x) => am_I X rec t nx (am_st1 lv k (.int (x + Int32.ofInt n))) (st) σ | _ => none) := by
  unfold am_pinc
  cases am_ld lv k with
  | none => rfl
  | some v => cases v <;> rfl
theorem J_iadd {x y : Int32} : am_J X rec t (some (.iadd, nx, tg)) pc lv (.int y :: .int x :: st) σ = am_I X rec t nx lv (.int (x + y) :: st) σ := rfl
theorem J_isub {x y : Int32} : am_J X rec t (some (.isub, nx, tg)) pc lv (.int y :: .int x :: st) σ = am_I X rec t nx lv (.int (x - y) :: st) σ := rfl
theorem J_imul {x y : Int32} : am_J X rec t (some (.imul, nx, tg)) pc lv (.int y :: .int x :: st) σ = am_I X rec t nx lv (.int (x * y) :: st) σ := rfl
theorem J_iand {x y : Int32} : am_J X rec t (some (.iand, nx, tg)) pc lv (.int y :: .int x :: st) σ = am_I X rec t nx lv (.int (x &&& y) :: st) σ := rfl
theorem J_ior {x y : Int32} : am_J X rec t (some (.ior, nx, tg)) pc lv (.int y :: .int x :: st) σ = am_I X rec t nx lv (.int (x ||| y) :: st) σ := rfl
theorem J_ishl {x y : Int32} : am_J X rec t (some (.ishl, nx, tg)) pc lv (.int y :: .int x :: st) σ = am_I X rec t nx lv (.int (x <<< (y &&& 31)) :: st) σ := rfl
theorem J_ishr {x y : Int32} : am_J X rec t (some (.ishr, nx, tg)) pc lv (.int y :: .int x :: st) σ = am_I X rec t nx lv (.int (x >>> (y &&& 31)) :: st) σ := rfl
theorem J_idiv {x y : Int32} : am_J X rec t (some (.idiv, nx, tg)) pc lv (.int y :: .int x :: st) σ = if y = 0 then none else am_I X rec t nx lv (.int (x / y) :: st) σ := by
  show am_K X rec t (am_step X rec t (.idiv) pc nx tg lv (.int y :: .int x :: st) σ) = _
  unfold am_step
  show am_K X rec t (match (if y = 0 then none else some (nx, lv, .int (x / y) :: st)) with | some q => some (.inl (q.1, q.2.1, q.2.2, σ)) | none => none) = _
  by_cases h : y = 0
  · rw [if_pos h, if_pos h]; rfl
  · rw [if_neg h, if_neg h]; rfl
theorem J_irem {x y : Int32} : am_J X rec t (some (.irem, nx, tg)) pc lv (.int y :: .int x :: st) σ = if y = 0 then none else am_I X rec t nx lv (.int (x - x / y * y) :: st) σ := by
  show am_K X rec t (am_step X rec t (.irem) pc nx tg lv (.int y :: .int x :: st) σ) = _
  unfold am_step
  show am_K X rec t (match (if y = 0 then none else some (nx, lv, .int (x - x / y * y) :: st)) with | some q => some (.inl (q.1, q.2.1, q.2.2, σ)) | none => none) = _
  by_cases h : y = 0
  · rw [if_pos h, if_pos h]; rfl
  · rw [if_neg h, if_neg h]; rfl
theorem J_ladd {x y : Int64} : am_J X rec t (some (.ladd, nx, tg)) pc lv (.long y :: .long x :: st) σ = am_I X rec t nx lv (.long (x + y) :: st) σ := rfl
theorem J_lsub {x y : Int64} : am_J X rec t (some (.lsub, nx, tg)) pc lv (.long y :: .long x :: st) σ = am_I X rec t nx lv (.long (x - y) :: st) σ := rfl
theorem J_lmul {x y : Int64} : am_J X rec t (some (.lmul, nx, tg)) pc lv (.long y :: .long x :: st) σ = am_I X rec t nx lv (.long (x * y) :: st) σ := rfl
theorem J_ldiv {x y : Int64} : am_J X rec t (some (.ldiv, nx, tg)) pc lv (.long y :: .long x :: st) σ = if y = 0 then none else am_I X rec t nx lv (.long (x / y) :: st) σ := by
  show am_K X rec t (am_step X rec t (.ldiv) pc nx tg lv (.long y :: .long x :: st) σ) = _
  unfold am_step
  show am_K X rec t (match (if y = 0 then none else some (nx, lv, .long (x / y) :: st)) with | some q => some (.inl (q.1, q.2.1, q.2.2, σ)) | none => none) = _
  by_cases h : y = 0
  · rw [if_pos h, if_pos h]; rfl
  · rw [if_neg h, if_neg h]; rfl
theorem J_lrem {x y : Int64} : am_J X rec t (some (.lrem, nx, tg)) pc lv (.long y :: .long x :: st) σ = if y = 0 then none else am_I X rec t nx lv (.long (x - x / y * y) :: st) σ := by
  show am_K X rec t (am_step X rec t (.lrem) pc nx tg lv (.long y :: .long x :: st) σ) = _
  unfold am_step
  show am_K X rec t (match (if y = 0 then none else some (nx, lv, .long (x - x / y * y) :: st)) with | some q => some (.inl (q.1, q.2.1, q.2.2, σ)) | none => none) = _
  by_cases h : y = 0
  · rw [if_pos h, if_pos h]; rfl
  · rw [if_neg h, if_neg h]; rfl
theorem J_ineg {x : Int32} : am_J X rec t (some (.ineg, nx, tg)) pc lv (.int x :: st) σ = am_I X rec t nx lv (.int (-x) :: st) σ := rfl
theorem J_lneg {x : Int64} : am_J X rec t (some (.lneg, nx, tg)) pc lv (.long x :: st) σ = am_I X rec t nx lv (.long (-x) :: st) σ := rfl
theorem J_i2b {x : Int32} : am_J X rec t (some (.i2b, nx, tg)) pc lv (.int x :: st) σ = am_I X rec t nx lv (.int x.toInt8.toInt32 :: st) σ := rfl
theorem J_i2s {x : Int32} : am_J X rec t (some (.i2s, nx, tg)) pc lv (.int x :: st) σ = am_I X rec t nx lv (.int x.toInt16.toInt32 :: st) σ := rfl
theorem J_i2l {x : Int32} : am_J X rec t (some (.i2l, nx, tg)) pc lv (.int x :: st) σ = am_I X rec t nx lv (.long x.toInt64 :: st) σ := rfl
theorem J_l2i {x : Int64} : am_J X rec t (some (.l2i, nx, tg)) pc lv (.long x :: st) σ = am_I X rec t nx lv (.int x.toInt32 :: st) σ := rfl
theorem J_lcmp {x y : Int64} : am_J X rec t (some (.lcmp, nx, tg)) pc lv (.long y :: .long x :: st) σ = am_I X rec t nx lv (.int (lg_cmp x y) :: st) σ := rfl
theorem J_dup_i {x : Int32} : am_J X rec t (some (.dup, nx, tg)) pc lv (.int x :: st) σ = am_I X rec t nx lv (.int x :: .int x :: st) σ := rfl
theorem J_pop_i {x : Int32} : am_J X rec t (some (.pop, nx, tg)) pc lv (.int x :: st) σ = am_I X rec t nx lv (st) σ := rfl
theorem J_dup_r {x : Nat} : am_J X rec t (some (.dup, nx, tg)) pc lv (.ref x :: st) σ = am_I X rec t nx lv (.ref x :: .ref x :: st) σ := rfl
theorem J_pop_r {x : Nat} : am_J X rec t (some (.pop, nx, tg)) pc lv (.ref x :: st) σ = am_I X rec t nx lv (st) σ := rfl
theorem J_dup_n : am_J X rec t (some (.dup, nx, tg)) pc lv (.null :: st) σ = am_I X rec t nx lv (.null :: .null :: st) σ := rfl
theorem J_pop_n : am_J X rec t (some (.pop, nx, tg)) pc lv (.null :: st) σ = am_I X rec t nx lv (st) σ := rfl
theorem J_dup2_l {x : Int64} : am_J X rec t (some (.dup2, nx, tg)) pc lv (.long x :: st) σ = am_I X rec t nx lv (.long x :: .long x :: st) σ := rfl
theorem J_dup2_ir {x : Int32} {a : Nat} : am_J X rec t (some (.dup2, nx, tg)) pc lv (.int x :: .ref a :: st) σ = am_I X rec t nx lv (.int x :: .ref a :: .int x :: .ref a :: st) σ := rfl
theorem J_goto {k : Int} : am_J X rec t (some (.goto k, nx, tg)) pc lv (st) σ = am_I X rec t tg lv (st) σ := rfl
theorem J_if_eq {k : Int} {x : Int32} : am_J X rec t (some (.ifCond .eq k, nx, tg)) pc lv (.int x :: st) σ = if x = 0 then am_I X rec t tg lv (st) σ else am_I X rec t nx lv (st) σ := by
  show am_I X rec t (if decide (x = 0) = true then tg else nx) lv st σ = _
  by_cases h : x = 0
  · rw [if_pos h, if_pos (decide_eq_true h)]
  · rw [if_neg h, if_neg (by rw [decide_eq_false h]; exact Bool.false_ne_true)]
theorem J_icmp_eq {k : Int} {x y : Int32} : am_J X rec t (some (.if_icmp .eq k, nx, tg)) pc lv (.int y :: .int x :: st) σ = if x = y then am_I X rec t tg lv (st) σ else am_I X rec t nx lv (st) σ := by
  show am_I X rec t (if decide (x = y) = true then tg else nx) lv st σ = _
  by_cases h : x = y
  · rw [if_pos h, if_pos (decide_eq_true h)]
  · rw [if_neg h, if_neg (by rw [decide_eq_false h]; exact Bool.false_ne_true)]
theorem J_if_ne {k : Int} {x : Int32} : am_J X rec t (some (.ifCond .ne k, nx, tg)) pc lv (.int x :: st) σ = if ¬ x = 0 then am_I X rec t tg lv (st) σ else am_I X rec t nx lv (st) σ := by
  show am_I X rec t (if decide (¬ x = 0) = true then tg else nx) lv st σ = _
  by_cases h : ¬ x = 0
  · rw [if_pos h, if_pos (decide_eq_true h)]
  · rw [if_neg h, if_neg (by rw [decide_eq_false h]; exact Bool.false_ne_true)]
theorem J_icmp_ne {k : Int} {x y : Int32} : am_J X rec t (some (.if_icmp .ne k, nx, tg)) pc lv (.int y :: .int x :: st) σ = if ¬ x = y then am_I X rec t tg lv (st) σ else am_I X rec t nx lv (st) σ := by
  show am_I X rec t (if decide (¬ x = y) = true then tg else nx) lv st σ = _
  by_cases h : ¬ x = y
  · rw [if_pos h, if_pos (decide_eq_true h)]
  · rw [if_neg h, if_neg (by rw [decide_eq_false h]; exact Bool.false_ne_true)]
theorem J_if_lt {k : Int} {x : Int32} : am_J X rec t (some (.ifCond .lt k, nx, tg)) pc lv (.int x :: st) σ = if x < 0 then am_I X rec t tg lv (st) σ else am_I X rec t nx lv (st) σ := by
  show am_I X rec t (if decide (x < 0) = true then tg else nx) lv st σ = _
  by_cases h : x < 0
  · rw [if_pos h, if_pos (decide_eq_true h)]
  · rw [if_neg h, if_neg (by rw [decide_eq_false h]; exact Bool.false_ne_true)]
theorem J_icmp_lt {k : Int} {x y : Int32} : am_J X rec t (some (.if_icmp .lt k, nx, tg)) pc lv (.int y :: .int x :: st) σ = if x < y then am_I X rec t tg lv (st) σ else am_I X rec t nx lv (st) σ := by
  show am_I X rec t (if decide (x < y) = true then tg else nx) lv st σ = _
  by_cases h : x < y
  · rw [if_pos h, if_pos (decide_eq_true h)]
  · rw [if_neg h, if_neg (by rw [decide_eq_false h]; exact Bool.false_ne_true)]
theorem J_if_ge {k : Int} {x : Int32} : am_J X rec t (some (.ifCond .ge k, nx, tg)) pc lv (.int x :: st) σ = if 0 ≤ x then am_I X rec t tg lv (st) σ else am_I X rec t nx lv (st) σ := by
  show am_I X rec t (if decide (0 ≤ x) = true then tg else nx) lv st σ = _
  by_cases h : 0 ≤ x
  · rw [if_pos h, if_pos (decide_eq_true h)]
  · rw [if_neg h, if_neg (by rw [decide_eq_false h]; exact Bool.false_ne_true)]
theorem J_icmp_ge {k : Int} {x y : Int32} : am_J X rec t (some (.if_icmp .ge k, nx, tg)) pc lv (.int y :: .int x :: st) σ = if y ≤ x then am_I X rec t tg lv (st) σ else am_I X rec t nx lv (st) σ := by
  show am_I X rec t (if decide (y ≤ x) = true then tg else nx) lv st σ = _
  by_cases h : y ≤ x
  · rw [if_pos h, if_pos (decide_eq_true h)]
  · rw [if_neg h, if_neg (by rw [decide_eq_false h]; exact Bool.false_ne_true)]
theorem J_if_gt {k : Int} {x : Int32} : am_J X rec t (some (.ifCond .gt k, nx, tg)) pc lv (.int x :: st) σ = if 0 < x then am_I X rec t tg lv (st) σ else am_I X rec t nx lv (st) σ := by
  show am_I X rec t (if decide (0 < x) = true then tg else nx) lv st σ = _
  by_cases h : 0 < x
  · rw [if_pos h, if_pos (decide_eq_true h)]
  · rw [if_neg h, if_neg (by rw [decide_eq_false h]; exact Bool.false_ne_true)]
theorem J_icmp_gt {k : Int} {x y : Int32} : am_J X rec t (some (.if_icmp .gt k, nx, tg)) pc lv (.int y :: .int x :: st) σ = if y < x then am_I X rec t tg lv (st) σ else am_I X rec t nx lv (st) σ := by
  show am_I X rec t (if decide (y < x) = true then tg else nx) lv st σ = _
  by_cases h : y < x
  · rw [if_pos h, if_pos (decide_eq_true h)]
  · rw [if_neg h, if_neg (by rw [decide_eq_false h]; exact Bool.false_ne_true)]
theorem J_if_le {k : Int} {x : Int32} : am_J X rec t (some (.ifCond .le k, nx, tg)) pc lv (.int x :: st) σ = if x ≤ 0 then am_I X rec t tg lv (st) σ else am_I X rec t nx lv (st) σ := by
  show am_I X rec t (if decide (x ≤ 0) = true then tg else nx) lv st σ = _
  by_cases h : x ≤ 0
  · rw [if_pos h, if_pos (decide_eq_true h)]
  · rw [if_neg h, if_neg (by rw [decide_eq_false h]; exact Bool.false_ne_true)]
theorem J_icmp_le {k : Int} {x y : Int32} : am_J X rec t (some (.if_icmp .le k, nx, tg)) pc lv (.int y :: .int x :: st) σ = if x ≤ y then am_I X rec t tg lv (st) σ else am_I X rec t nx lv (st) σ := by
  show am_I X rec t (if decide (x ≤ y) = true then tg else nx) lv st σ = _
  by_cases h : x ≤ y
  · rw [if_pos h, if_pos (decide_eq_true h)]
  · rw [if_neg h, if_neg (by rw [decide_eq_false h]; exact Bool.false_ne_true)]
theorem J_ifnull_r {k : Int} {a : Nat} : am_J X rec t (some (.ifnull k, nx, tg)) pc lv (.ref a :: st) σ = am_I X rec t nx lv (st) σ := rfl
theorem J_ifnull_n {k : Int} : am_J X rec t (some (.ifnull k, nx, tg)) pc lv (.null :: st) σ = am_I X rec t tg lv (st) σ := rfl
theorem J_getfield {k a : Nat} : am_J X rec t (some (.getfield k, nx, tg)) pc lv (.ref a :: st) σ = (am_gf (σ.1 a) (am_fk (am_own t) k)).bind (fun v => am_I X rec t nx lv (v :: st) σ) := by
  show am_K X rec t ((am_gf (σ.1 a) (am_fk (am_own t) k)).map _) = _
  cases am_gf (σ.1 a) (am_fk (am_own t) k) <;> rfl
theorem J_putfield_i {k a : Nat} {x : Int32} : am_J X rec t (some (.putfield k, nx, tg)) pc lv (.int x :: .ref a :: st) σ = (am_pf (σ.1 a) (am_pk (am_own t) k) (am_ini t) (.int x)).bind (fun v => am_I X rec t nx lv (st) (am_up σ.1 a v, σ.2)) := by
  show am_K X rec t ((am_pf (σ.1 a) (am_pk (am_own t) k) (am_ini t) (.int x)).map _) = _
  cases am_pf (σ.1 a) (am_pk (am_own t) k) (am_ini t) (.int x) <;> rfl
theorem J_putfield_l {k a : Nat} {x : Int64} : am_J X rec t (some (.putfield k, nx, tg)) pc lv (.long x :: .ref a :: st) σ = (am_pf (σ.1 a) (am_pk (am_own t) k) (am_ini t) (.long x)).bind (fun v => am_I X rec t nx lv (st) (am_up σ.1 a v, σ.2)) := by
  show am_K X rec t ((am_pf (σ.1 a) (am_pk (am_own t) k) (am_ini t) (.long x)).map _) = _
  cases am_pf (σ.1 a) (am_pk (am_own t) k) (am_ini t) (.long x) <;> rfl
theorem J_putfield_r {k a : Nat} {x : Nat} : am_J X rec t (some (.putfield k, nx, tg)) pc lv (.ref x :: .ref a :: st) σ = (am_pf (σ.1 a) (am_pk (am_own t) k) (am_ini t) (.ref x)).bind (fun v => am_I X rec t nx lv (st) (am_up σ.1 a v, σ.2)) := by
  show am_K X rec t ((am_pf (σ.1 a) (am_pk (am_own t) k) (am_ini t) (.ref x)).map _) = _
  cases am_pf (σ.1 a) (am_pk (am_own t) k) (am_ini t) (.ref x) <;> rfl
theorem J_putfield_n {k a : Nat}  : am_J X rec t (some (.putfield k, nx, tg)) pc lv (.null :: .ref a :: st) σ = (am_pf (σ.1 a) (am_pk (am_own t) k) (am_ini t) (.null)).bind (fun v => am_I X rec t nx lv (st) (am_up σ.1 a v, σ.2)) := by
  show am_K X rec t ((am_pf (σ.1 a) (am_pk (am_own t) k) (am_ini t) (.null)).map _) = _
  cases am_pf (σ.1 a) (am_pk (am_own t) k) (am_ini t) (.null) <;> rfl
theorem J_getstatic {k : Nat} : am_J X rec t (some (.getstatic k, nx, tg)) pc lv (st) σ = if am_own t == 4 && k == 209 then am_I X rec t nx lv (.ref X.2 :: st) σ else none := by
  show am_K X rec t (if am_own t == 4 && k == 209 then _ else none) = _
  by_cases h : (am_own t == 4 && k == 209) = true
  · rw [if_pos h, if_pos h]; rfl
  · rw [if_neg h, if_neg h]; rfl
theorem J_iaload {i : Int32} {a : Nat} : am_J X rec t (some (.iaload, nx, tg)) pc lv (.int i :: .ref a :: st) σ = (am_ail (σ.1 a) (X.1 a) i).bind (fun v => am_I X rec t nx lv (.int v :: st) σ) := by
  show am_K X rec t ((am_ail (σ.1 a) (X.1 a) i).map _) = _
  cases am_ail (σ.1 a) (X.1 a) i <;> rfl
theorem J_baload {i : Int32} {a : Nat} : am_J X rec t (some (.baload, nx, tg)) pc lv (.int i :: .ref a :: st) σ = (am_abl (σ.1 a) i).bind (fun v => am_I X rec t nx lv (.int v :: st) σ) := by
  show am_K X rec t ((am_abl (σ.1 a) i).map _) = _
  cases am_abl (σ.1 a) i <;> rfl
theorem J_laload {i : Int32} {a : Nat} : am_J X rec t (some (.laload, nx, tg)) pc lv (.int i :: .ref a :: st) σ = (am_all (σ.1 a) i).bind (fun v => am_I X rec t nx lv (.long v :: st) σ) := by
  show am_K X rec t ((am_all (σ.1 a) i).map _) = _
  cases am_all (σ.1 a) i <;> rfl
theorem J_aaload {i : Int32} {a : Nat} : am_J X rec t (some (.aaload, nx, tg)) pc lv (.int i :: .ref a :: st) σ = (am_aal (σ.1 a) i).bind (fun v => am_I X rec t nx lv (v :: st) σ) := by
  show am_K X rec t ((am_aal (σ.1 a) i).map _) = _
  cases am_aal (σ.1 a) i <;> rfl
theorem J_alen {a : Nat} : am_J X rec t (some (.arraylength, nx, tg)) pc lv (.ref a :: st) σ = (am_aln (σ.1 a) (X.1 a)).bind (fun v => am_I X rec t nx lv (.int (Int32.ofNat v) :: st) σ) := by
  show am_K X rec t ((am_aln (σ.1 a) (X.1 a)).map _) = _
  cases am_aln (σ.1 a) (X.1 a) <;> rfl
theorem J_iastore {x i : Int32} {a : Nat} : am_J X rec t (some (.iastore, nx, tg)) pc lv (.int x :: .int i :: .ref a :: st) σ = (am_ais (σ.1 a) i x).bind (fun v => am_I X rec t nx lv (st) (am_up σ.1 a v, σ.2)) := by
  show am_K X rec t ((am_ais (σ.1 a) i x).map _) = _
  cases am_ais (σ.1 a) i x <;> rfl
theorem J_bastore {x i : Int32} {a : Nat} : am_J X rec t (some (.bastore, nx, tg)) pc lv (.int x :: .int i :: .ref a :: st) σ = (am_abs (σ.1 a) i x).bind (fun v => am_I X rec t nx lv (st) (am_up σ.1 a v, σ.2)) := by
  show am_K X rec t ((am_abs (σ.1 a) i x).map _) = _
  cases am_abs (σ.1 a) i x <;> rfl
theorem J_lastore {x : Int64} {i : Int32} {a : Nat} : am_J X rec t (some (.lastore, nx, tg)) pc lv (.long x :: .int i :: .ref a :: st) σ = (am_als (σ.1 a) i x).bind (fun v => am_I X rec t nx lv (st) (am_up σ.1 a v, σ.2)) := by
  show am_K X rec t ((am_als (σ.1 a) i x).map _) = _
  cases am_als (σ.1 a) i x <;> rfl
theorem J_aastore {b a : Nat} {i : Int32} : am_J X rec t (some (.aastore, nx, tg)) pc lv (.ref b :: .int i :: .ref a :: st) σ = if am_box (σ.1 b) then (am_aas (σ.1 a) i (some b)).bind (fun v => am_I X rec t nx lv (st) (am_up σ.1 a v, σ.2)) else none := by
  show am_K X rec t (if am_box (σ.1 b) then (am_aas (σ.1 a) i (some b)).map _ else none) = _
  by_cases h : am_box (σ.1 b) = true
  · rw [if_pos h, if_pos h]; cases am_aas (σ.1 a) i (some b) <;> rfl
  · rw [if_neg h, if_neg h]; rfl
theorem J_aastoreN {a : Nat} {i : Int32} : am_J X rec t (some (.aastore, nx, tg)) pc lv (.null :: .int i :: .ref a :: st) σ = (am_aas (σ.1 a) i none).bind (fun v => am_I X rec t nx lv (st) (am_up σ.1 a v, σ.2)) := by
  show am_K X rec t ((am_aas (σ.1 a) i none).map _) = _
  cases am_aas (σ.1 a) i none <;> rfl
theorem J_newarray {y : ArrayType} {n : Int32} : am_J X rec t (some (.newarray y, nx, tg)) pc lv (.int n :: st) σ = if am_in n 65537 then (am_a0 y n.toNatClampNeg).bind (fun v => am_I X rec t nx lv (.ref σ.2.1 :: st) (am_up σ.1 σ.2.1 v, σ.2.1 + 1, σ.2.2 + n.toNatClampNeg)) else none := by
  show am_K X rec t (if am_in n 65537 then (am_a0 y n.toNatClampNeg).map _ else none) = _
  by_cases h : am_in n 65537 = true
  · rw [if_pos h, if_pos h]; cases am_a0 y n.toNatClampNeg <;> rfl
  · rw [if_neg h, if_neg h]; rfl
theorem J_anewarray {k : Nat} {n : Int32} : am_J X rec t (some (.anewarray k, nx, tg)) pc lv (.int n :: st) σ = am_K X rec t (am_heap X rec t (.anewarray k) pc nx lv (.int n :: st) σ) := rfl
theorem J_mna {k d : Nat} {m n : Int32} : am_J X rec t (some (.multianewarray k d, nx, tg)) pc lv (.int m :: .int n :: st) σ = am_K X rec t (am_heap X rec t (.multianewarray k d) pc nx lv (.int m :: .int n :: st) σ) := rfl
theorem J_new {k : Nat} : am_J X rec t (some (.new k, nx, tg)) pc lv (st) σ = am_K X rec t (am_new t pc nx lv st σ (am_kk (am_own t) k)) := rfl
theorem J_instof {k a : Nat} : am_J X rec t (some (.instanceof k, nx, tg)) pc lv (.ref a :: st) σ = am_K X rec t (am_heap X rec t (.instanceof k) pc nx lv (.ref a :: st) σ) := rfl
theorem J_instofN {k : Nat} : am_J X rec t (some (.instanceof k, nx, tg)) pc lv (.null :: st) σ = am_K X rec t (am_heap X rec t (.instanceof k) pc nx lv (.null :: st) σ) := rfl
theorem J_cast {k a : Nat} : am_J X rec t (some (.checkcast k, nx, tg)) pc lv (.ref a :: st) σ = am_K X rec t (am_heap X rec t (.checkcast k) pc nx lv (.ref a :: st) σ) := rfl
theorem J_static {k : Nat} : am_J X rec t (some (.invokestatic k, nx, tg)) pc lv (st) σ = am_K X rec t (am_heap X rec t (.invokestatic k) pc nx lv st σ) := rfl
theorem J_special {k : Nat} : am_J X rec t (some (.invokespecial k, nx, tg)) pc lv (st) σ = am_K X rec t (am_heap X rec t (.invokespecial k) pc nx lv st σ) := rfl
theorem J_virtual {k : Nat} : am_J X rec t (some (.invokevirtual k, nx, tg)) pc lv (st) σ = am_K X rec t (am_heap X rec t (.invokevirtual k) pc nx lv st σ) := rfl
theorem J_ireturn {v : Int32} : am_J X rec t (some (.ireturn, nx, tg)) pc lv ([.int v]) σ = am_K X rec t (am_heap X rec t .ireturn pc nx lv [.int v] σ) := rfl
theorem J_lreturn {v : Int64} : am_J X rec t (some (.lreturn, nx, tg)) pc lv ([.long v]) σ = am_K X rec t (am_heap X rec t .lreturn pc nx lv [.long v] σ) := rfl
theorem J_areturn {v : Nat} : am_J X rec t (some (.areturn, nx, tg)) pc lv ([.ref v]) σ = am_K X rec t (am_heap X rec t .areturn pc nx lv [.ref v] σ) := rfl
theorem J_areturnN : am_J X rec t (some (.areturn, nx, tg)) pc lv ([.null]) σ = am_K X rec t (am_heap X rec t .areturn pc nx lv [.null] σ) := rfl
theorem J_return : am_J X rec t (some (.return_, nx, tg)) pc lv ([]) σ = am_K X rec t (am_heap X rec t .return_ pc nx lv [] σ) := rfl
theorem J_tsw {d lo hi : Int} {offs : Array Int} : am_J X rec t (some (.tableswitch d lo hi offs, nx, tg)) pc lv (st) σ = am_K X rec t ((am_pure t (.tableswitch d lo hi offs) pc nx tg lv st).map (fun q => .inl (q.1, q.2.1, q.2.2, σ))) := by
  show am_K X rec t (am_step X rec t (.tableswitch d lo hi offs) pc nx tg lv st σ) = _
  unfold am_step
  cases am_pure t (.tableswitch d lo hi offs) pc nx tg lv st <;> rfl
theorem J_lsw {d : Int} {ps : Array (Int × Int)} : am_J X rec t (some (.lookupswitch d ps, nx, tg)) pc lv (st) σ = am_K X rec t ((am_pure t (.lookupswitch d ps) pc nx tg lv st).map (fun q => .inl (q.1, q.2.1, q.2.2, σ))) := by
  show am_K X rec t (am_step X rec t (.lookupswitch d ps) pc nx tg lv st σ) = _
  unfold am_step
  cases am_pure t (.lookupswitch d ps) pc nx tg lv st <;> rfl
theorem J_iload_0 : am_J X rec t (some (.iload_n 0, nx, tg)) pc lv st σ = am_K X rec t ((am_pil nx lv st (am_ld lv 0)).map (fun q => .inl (q.1, q.2.1, q.2.2, σ))) := J_iload_n
theorem J_iload_1 : am_J X rec t (some (.iload_n 1, nx, tg)) pc lv st σ = am_K X rec t ((am_pil nx lv st (am_ld lv 1)).map (fun q => .inl (q.1, q.2.1, q.2.2, σ))) := J_iload_n
theorem J_iload_2 : am_J X rec t (some (.iload_n 2, nx, tg)) pc lv st σ = am_K X rec t ((am_pil nx lv st (am_ld lv 2)).map (fun q => .inl (q.1, q.2.1, q.2.2, σ))) := J_iload_n
theorem J_iload_3 : am_J X rec t (some (.iload_n 3, nx, tg)) pc lv st σ = am_K X rec t ((am_pil nx lv st (am_ld lv 3)).map (fun q => .inl (q.1, q.2.1, q.2.2, σ))) := J_iload_n
theorem J_lload_0 : am_J X rec t (some (.lload_n 0, nx, tg)) pc lv st σ = am_K X rec t ((am_pll nx lv st (am_ld lv 0)).map (fun q => .inl (q.1, q.2.1, q.2.2, σ))) := J_lload_n
theorem J_lload_1 : am_J X rec t (some (.lload_n 1, nx, tg)) pc lv st σ = am_K X rec t ((am_pll nx lv st (am_ld lv 1)).map (fun q => .inl (q.1, q.2.1, q.2.2, σ))) := J_lload_n
theorem J_lload_2 : am_J X rec t (some (.lload_n 2, nx, tg)) pc lv st σ = am_K X rec t ((am_pll nx lv st (am_ld lv 2)).map (fun q => .inl (q.1, q.2.1, q.2.2, σ))) := J_lload_n
theorem J_lload_3 : am_J X rec t (some (.lload_n 3, nx, tg)) pc lv st σ = am_K X rec t ((am_pll nx lv st (am_ld lv 3)).map (fun q => .inl (q.1, q.2.1, q.2.2, σ))) := J_lload_n
theorem J_aload_0 : am_J X rec t (some (.aload_n 0, nx, tg)) pc lv st σ = am_K X rec t ((am_pal nx lv st (am_ld lv 0)).map (fun q => .inl (q.1, q.2.1, q.2.2, σ))) := J_aload_n
theorem J_aload_1 : am_J X rec t (some (.aload_n 1, nx, tg)) pc lv st σ = am_K X rec t ((am_pal nx lv st (am_ld lv 1)).map (fun q => .inl (q.1, q.2.1, q.2.2, σ))) := J_aload_n
theorem J_aload_2 : am_J X rec t (some (.aload_n 2, nx, tg)) pc lv st σ = am_K X rec t ((am_pal nx lv st (am_ld lv 2)).map (fun q => .inl (q.1, q.2.1, q.2.2, σ))) := J_aload_n
theorem J_aload_3 : am_J X rec t (some (.aload_n 3, nx, tg)) pc lv st σ = am_K X rec t ((am_pal nx lv st (am_ld lv 3)).map (fun q => .inl (q.1, q.2.1, q.2.2, σ))) := J_aload_n
theorem J_istore_0 {x : Int32} : am_J X rec t (some (.istore_n 0, nx, tg)) pc lv (.int x :: st) σ = if 0 < lv.length then am_I X rec t nx (am_st1 lv 0 (.int x)) st σ else none := J_istore_n
theorem J_lstore_0 {x : Int64} : am_J X rec t (some (.lstore_n 0, nx, tg)) pc lv (.long x :: st) σ = if 0 + 1 < lv.length then am_I X rec t nx (am_st2 lv 0 (.long x)) st σ else none := J_lstore_n
theorem J_astore_0 {x : Nat} : am_J X rec t (some (.astore_n 0, nx, tg)) pc lv (.ref x :: st) σ = if 0 < lv.length then am_I X rec t nx (am_st1 lv 0 (.ref x)) st σ else none := J_astore_n
theorem J_astoreN_0 : am_J X rec t (some (.astore_n 0, nx, tg)) pc lv (.null :: st) σ = if 0 < lv.length then am_I X rec t nx (am_st1 lv 0 .null) st σ else none := J_astoreN_n
theorem J_istore_1 {x : Int32} : am_J X rec t (some (.istore_n 1, nx, tg)) pc lv (.int x :: st) σ = if 1 < lv.length then am_I X rec t nx (am_st1 lv 1 (.int x)) st σ else none := J_istore_n
theorem J_lstore_1 {x : Int64} : am_J X rec t (some (.lstore_n 1, nx, tg)) pc lv (.long x :: st) σ = if 1 + 1 < lv.length then am_I X rec t nx (am_st2 lv 1 (.long x)) st σ else none := J_lstore_n
theorem J_astore_1 {x : Nat} : am_J X rec t (some (.astore_n 1, nx, tg)) pc lv (.ref x :: st) σ = if 1 < lv.length then am_I X rec t nx (am_st1 lv 1 (.ref x)) st σ else none := J_astore_n
theorem J_astoreN_1 : am_J X rec t (some (.astore_n 1, nx, tg)) pc lv (.null :: st) σ = if 1 < lv.length then am_I X rec t nx (am_st1 lv 1 .null) st σ else none := J_astoreN_n
theorem J_istore_2 {x : Int32} : am_J X rec t (some (.istore_n 2, nx, tg)) pc lv (.int x :: st) σ = if 2 < lv.length then am_I X rec t nx (am_st1 lv 2 (.int x)) st σ else none := J_istore_n
theorem J_lstore_2 {x : Int64} : am_J X rec t (some (.lstore_n 2, nx, tg)) pc lv (.long x :: st) σ = if 2 + 1 < lv.length then am_I X rec t nx (am_st2 lv 2 (.long x)) st σ else none := J_lstore_n
theorem J_astore_2 {x : Nat} : am_J X rec t (some (.astore_n 2, nx, tg)) pc lv (.ref x :: st) σ = if 2 < lv.length then am_I X rec t nx (am_st1 lv 2 (.ref x)) st σ else none := J_astore_n
theorem J_astoreN_2 : am_J X rec t (some (.astore_n 2, nx, tg)) pc lv (.null :: st) σ = if 2 < lv.length then am_I X rec t nx (am_st1 lv 2 .null) st σ else none := J_astoreN_n
theorem J_istore_3 {x : Int32} : am_J X rec t (some (.istore_n 3, nx, tg)) pc lv (.int x :: st) σ = if 3 < lv.length then am_I X rec t nx (am_st1 lv 3 (.int x)) st σ else none := J_istore_n
theorem J_lstore_3 {x : Int64} : am_J X rec t (some (.lstore_n 3, nx, tg)) pc lv (.long x :: st) σ = if 3 + 1 < lv.length then am_I X rec t nx (am_st2 lv 3 (.long x)) st σ else none := J_lstore_n
theorem J_astore_3 {x : Nat} : am_J X rec t (some (.astore_n 3, nx, tg)) pc lv (.ref x :: st) σ = if 3 < lv.length then am_I X rec t nx (am_st1 lv 3 (.ref x)) st σ else none := J_astore_n
theorem J_astoreN_3 : am_J X rec t (some (.astore_n 3, nx, tg)) pc lv (.null :: st) σ = if 3 < lv.length then am_I X rec t nx (am_st1 lv 3 .null) st σ else none := J_astoreN_n
end AMJ
theorem ld_0 {x0 : Option Value} {l : am_L} : am_ld (x0 :: l) 0 = x0 := by simp [am_ld]
theorem ld_1 {x0 x1 : Option Value} {l : am_L} : am_ld (x0 :: x1 :: l) 1 = x1 := by simp [am_ld]
theorem ld_2 {x0 x1 x2 : Option Value} {l : am_L} : am_ld (x0 :: x1 :: x2 :: l) 2 = x2 := by simp [am_ld]
theorem ld_3 {x0 x1 x2 x3 : Option Value} {l : am_L} : am_ld (x0 :: x1 :: x2 :: x3 :: l) 3 = x3 := by simp [am_ld]
theorem ld_4 {x0 x1 x2 x3 x4 : Option Value} {l : am_L} : am_ld (x0 :: x1 :: x2 :: x3 :: x4 :: l) 4 = x4 := by simp [am_ld]
theorem ld_5 {x0 x1 x2 x3 x4 x5 : Option Value} {l : am_L} : am_ld (x0 :: x1 :: x2 :: x3 :: x4 :: x5 :: l) 5 = x5 := by simp [am_ld]
theorem ld_6 {x0 x1 x2 x3 x4 x5 x6 : Option Value} {l : am_L} : am_ld (x0 :: x1 :: x2 :: x3 :: x4 :: x5 :: x6 :: l) 6 = x6 := by simp [am_ld]
theorem ld_7 {x0 x1 x2 x3 x4 x5 x6 x7 : Option Value} {l : am_L} : am_ld (x0 :: x1 :: x2 :: x3 :: x4 :: x5 :: x6 :: x7 :: l) 7 = x7 := by simp [am_ld]
theorem ld_8 {x0 x1 x2 x3 x4 x5 x6 x7 x8 : Option Value} {l : am_L} : am_ld (x0 :: x1 :: x2 :: x3 :: x4 :: x5 :: x6 :: x7 :: x8 :: l) 8 = x8 := by simp [am_ld]
theorem ld_9 {x0 x1 x2 x3 x4 x5 x6 x7 x8 x9 : Option Value} {l : am_L} : am_ld (x0 :: x1 :: x2 :: x3 :: x4 :: x5 :: x6 :: x7 :: x8 :: x9 :: l) 9 = x9 := by simp [am_ld]
theorem ld_10 {x0 x1 x2 x3 x4 x5 x6 x7 x8 x9 x10 : Option Value} {l : am_L} : am_ld (x0 :: x1 :: x2 :: x3 :: x4 :: x5 :: x6 :: x7 :: x8 :: x9 :: x10 :: l) 10 = x10 := by simp [am_ld]
theorem ld_11 {x0 x1 x2 x3 x4 x5 x6 x7 x8 x9 x10 x11 : Option Value} {l : am_L} : am_ld (x0 :: x1 :: x2 :: x3 :: x4 :: x5 :: x6 :: x7 :: x8 :: x9 :: x10 :: x11 :: l) 11 = x11 := by simp [am_ld]
theorem ld_12 {x0 x1 x2 x3 x4 x5 x6 x7 x8 x9 x10 x11 x12 : Option Value} {l : am_L} : am_ld (x0 :: x1 :: x2 :: x3 :: x4 :: x5 :: x6 :: x7 :: x8 :: x9 :: x10 :: x11 :: x12 :: l) 12 = x12 := by simp [am_ld]
theorem ld_13 {x0 x1 x2 x3 x4 x5 x6 x7 x8 x9 x10 x11 x12 x13 : Option Value} {l : am_L} : am_ld (x0 :: x1 :: x2 :: x3 :: x4 :: x5 :: x6 :: x7 :: x8 :: x9 :: x10 :: x11 :: x12 :: x13 :: l) 13 = x13 := by simp [am_ld]
theorem ld_14 {x0 x1 x2 x3 x4 x5 x6 x7 x8 x9 x10 x11 x12 x13 x14 : Option Value} {l : am_L} : am_ld (x0 :: x1 :: x2 :: x3 :: x4 :: x5 :: x6 :: x7 :: x8 :: x9 :: x10 :: x11 :: x12 :: x13 :: x14 :: l) 14 = x14 := by simp [am_ld]
theorem ld_15 {x0 x1 x2 x3 x4 x5 x6 x7 x8 x9 x10 x11 x12 x13 x14 x15 : Option Value} {l : am_L} : am_ld (x0 :: x1 :: x2 :: x3 :: x4 :: x5 :: x6 :: x7 :: x8 :: x9 :: x10 :: x11 :: x12 :: x13 :: x14 :: x15 :: l) 15 = x15 := by simp [am_ld]
def am_kl (x : Option Value) : Option Value := match x with
  | some w => if am_c2 w then none else some w
  | none => none
theorem kl_i {x : Int32} : am_kl (some (.int x)) = some (.int x) := rfl
theorem kl_l {x : Int64} : am_kl (some (.long x)) = none := rfl
theorem kl_r {x : Nat} : am_kl (some (.ref x)) = some (.ref x) := rfl
theorem kl_0 : am_kl (some .null) = some .null := rfl
theorem kl_n : am_kl none = none := rfl
theorem st1_0 {x : Option Value} {l : am_L} {v : Value} : am_st1 (x :: l) 0 v = some v :: l := rfl
theorem st1_1 {x y : Option Value} {l : am_L} {v : Value} : am_st1 (x :: y :: l) 1 v = am_kl x :: some v :: l := by
  cases x with
  | none => rfl
  | some w =>
    show (am_kill (some w :: y :: l) 1).set 1 (some v) = _
    unfold am_kill am_kl
    simp only [List.getElem?_cons_zero]
    by_cases h : am_c2 w = true
    · simp [h]
    · simp [h]
theorem st1_s {x y : Option Value} {l : am_L} {v : Value} {i : Nat} : am_st1 (x :: y :: l) (i + 2) v = x :: am_st1 (y :: l) (i + 1) v := by
  unfold am_st1 am_kill
  simp only [List.getElem?_cons_succ]
  cases h : (y :: l)[i]? with
  | none => simp
  | some o =>
    cases o with
    | none => simp
    | some w =>
      by_cases h2 : am_c2 w = true
      · simp [h2]
      · simp [h2]
theorem st2_0 {x y : Option Value} {l : am_L} {v : Value} : am_st2 (x :: y :: l) 0 v = some v :: none :: l := rfl
theorem st2_e {lv : am_L} {v : Value} {i : Nat} : am_st2 lv i v = (am_st1 lv i v).set (i + 1) none := rfl
theorem st2_1 {x y z : Option Value} {l : am_L} {v : Value} : am_st2 (x :: y :: z :: l) 1 v = am_kl x :: some v :: none :: l := by
  rw [st2_e, st1_1]
  rfl
theorem st2_s {x y : Option Value} {l : am_L} {v : Value} {i : Nat} : am_st2 (x :: y :: l) (i + 2) v = x :: am_st2 (y :: l) (i + 1) v := by
  rw [st2_e, st1_s, st2_e]
  rfl
