/-! AN ABSTRACT MACHINE for the methods of this claim: objects and arrays as lists and functions, constants and links by tables; one step a function; a run its limit. -/
abbrev am_E : Type := (FieldType × vp_A) ⊕ (Nat × List Value)
abbrev am_H : Type := Nat → Option am_E
abbrev am_S : Type := am_H × Nat × Nat
abbrev am_L : Type := List (Option Value)
abbrev am_R : Type := Option Value ⊕ Nat
abbrev am_X : Type := (Nat → Option (Nat × (Nat → Int32))) × Nat
abbrev am_O : Type := Nat → List Value → am_S → Option (am_R × am_S)
abbrev am_F : Type := Nat × am_L × List Value × am_S
abbrev am_Z : Type := am_F ⊕ (am_R × am_S)
/-! the methods' table -/
def am_own (t : Nat) : Nat := match am_mt[t]? with
  | some q => q.1
  | none => 99
def am_y (t : Nat) : MethodName := match am_mt[t]? with
  | some q => q.2.1
  | none => ⟨"", "", ""⟩
def am_b (t : Nat) : ByteArray := match am_mt[t]? with
  | some q => q.2.2.1
  | none => ByteArray.empty
def am_ml (t : Nat) : Nat := match am_mt[t]? with
  | some q => q.2.2.2.1
  | none => 0
def am_ret (t : Nat) : Option FieldType := match am_mt[t]? with
  | some q => q.2.2.2.2.1
  | none => none
def am_hh (t : Nat) : List (Nat × Nat × Nat × Nat) := match am_mt[t]? with
  | some q => q.2.2.2.2.2.1
  | none => []
def am_ini (t : Nat) : Bool := (am_y t).name == "<init>"
/-! links -/
def am_fk (own k ci : Nat) : Option Nat := (am_fT.find? (fun q => q.1 == own && (q.2.1 == k && q.2.2.1 == ci))).map (fun q => q.2.2.2.1)
def am_pk (own k ci : Nat) : Option (Nat × Bool × FieldType) := (am_pT.find? (fun q => q.1 == own && (q.2.1 == k && q.2.2.1 == ci))).map (fun q => (q.2.2.2.1, q.2.2.2.2.1, q.2.2.2.2.2.1))
def am_sc (own k : Nat) : Option (Nat × Nat) := (am_sT.find? (fun q => q.1 == own && q.2.1 == k)).map (fun q => (q.2.2.1, q.2.2.2.1))
def am_ic (own k : Nat) : Option (Nat × Nat) := (am_iT.find? (fun q => q.1 == own && q.2.1 == k)).map (fun q => (q.2.2.1, q.2.2.2.1))
def am_uc (own k : Nat) : Option (Nat × Nat) := (am_uT.find? (fun q => q.1 == own && q.2.1 == k)).map (fun q => (q.2.2.1, q.2.2.2.1))
def am_vn (own k : Nat) : Option Nat := (am_vT.find? (fun q => q.1 == own && q.2.1 == k)).map (fun q => q.2.2.2.2.1)
def am_vc (own k ci n : Nat) : Option Nat := (am_vT.find? (fun q => q.1 == own && (q.2.1 == k && (q.2.2.1 == ci && q.2.2.2.2.1 == n)))).map (fun q => q.2.2.2.1)
def am_oi (own k : Nat) : Bool := am_oT.any (fun q => q.1 == own && q.2.1 == k)
def am_ac (own k : Nat) : Bool := am_aT.any (fun q => q.1 == own && q.2.1 == k)
def am_mk (own k : Nat) : Option Nat := (am_hT.find? (fun q => q.1 == own && q.2.1 == k)).map (fun q => q.2.2.1)
def am_kk (own k : Nat) : Option Nat := (am_kT.find? (fun q => q.1 == own && q.2.1 == k)).map (fun q => q.2.2.1)
def am_ci (own k : Nat) : Option Int32 := (am_cT.find? (fun q => q.1 == own && q.2.1 == k)).map (fun q => q.2.2.1)
def am_cj (own k : Nat) : Option Int64 := (am_jT.find? (fun q => q.1 == own && q.2.1 == k)).map (fun q => q.2.2.1)
/-! decoding -/
def am_off (i : Instr) : Option Int := match i with
  | .goto o => some o
  | .ifCond _ o => some o
  | .if_icmp _ o => some o
  | .ifnull o => some o
  | .ifnonnull o => some o
  | _ => none
def am_len (i : Instr) : Nat := match i with
  | .aload _ => 2
  | .iload _ => 2
  | .lload _ => 2
  | .astore _ => 2
  | .istore _ => 2
  | .lstore _ => 2
  | .bipush _ => 2
  | .newarray _ => 2
  | .ldc _ => 2
  | .iinc _ _ => 3
  | .sipush _ => 3
  | .getfield _ => 3
  | .putfield _ => 3
  | .getstatic _ => 3
  | .invokevirtual _ => 3
  | .invokespecial _ => 3
  | .invokestatic _ => 3
  | .new _ => 3
  | .anewarray _ => 3
  | .instanceof _ => 3
  | .checkcast _ => 3
  | .ldc_w _ => 3
  | .ldc2_w _ => 3
  | .goto _ => 3
  | .ifCond _ _ => 3
  | .if_icmp _ _ => 3
  | .ifnull _ => 3
  | .ifnonnull _ => 3
  | .multianewarray _ _ => 4
  | .tableswitch _ _ _ _ => 0
  | .lookupswitch _ _ => 0
  | _ => 1
def am_dc (t pc : Nat) : Option (Instr × Nat × Nat) := match decode (am_b t) pc with
  | .ok (i, n) => if n = am_len i ∨ am_len i = 0 then (match am_off i with
    | some o => if 0 ≤ (pc : Int) + o then some (i, pc + n, ((pc : Int) + o).toNat) else none
    | none => some (i, pc + n, 0)) else none
  | .error _ => none
/-! locals -/
def am_c2 (v : Value) : Bool := match v with
  | .long _ => true
  | .double _ => true
  | _ => false
def am_kill (lv : am_L) (i : Nat) : am_L := match i with
  | 0 => lv
  | j + 1 => match lv[j]? with
    | some (some w) => if am_c2 w then lv.set j none else lv
    | _ => lv
def am_st1 (lv : am_L) (i : Nat) (v : Value) : am_L := (am_kill lv i).set i (some v)
def am_st2 (lv : am_L) (i : Nat) (v : Value) : am_L := ((am_kill lv i).set i (some v)).set (i + 1) none
def am_ld (lv : am_L) (i : Nat) : Option Value := (lv[i]?).join
def am_lay (vs : List Value) : am_L := match vs with
  | [] => []
  | v :: r => some v :: (if am_c2 v then none :: am_lay r else am_lay r)
def am_lv0 (n : Nat) (vs : List Value) : am_L := am_lay vs ++ List.replicate (n - (am_lay vs).length) none
/-! instructions that touch no heap -/
abbrev am_P : Type := Nat × am_L × List Value
def am_pil (nx : Nat) (lv : am_L) (st : List Value) (o : Option Value) : Option am_P := match o with
  | some (.int x) => some (nx, lv, .int x :: st)
  | _ => none
def am_pll (nx : Nat) (lv : am_L) (st : List Value) (o : Option Value) : Option am_P := match o with
  | some (.long x) => some (nx, lv, .long x :: st)
  | _ => none
def am_pal (nx : Nat) (lv : am_L) (st : List Value) (o : Option Value) : Option am_P := match o with
  | some (.ref x) => some (nx, lv, .ref x :: st)
  | some .null => some (nx, lv, .null :: st)
  | _ => none
def am_pis (nx k : Nat) (lv : am_L) (st : List Value) : Option am_P := match st with
  | .int x :: r => if k < lv.length then some (nx, am_st1 lv k (.int x), r) else none
  | _ => none
def am_pls (nx k : Nat) (lv : am_L) (st : List Value) : Option am_P := match st with
  | .long x :: r => if k + 1 < lv.length then some (nx, am_st2 lv k (.long x), r) else none
  | _ => none
def am_pas (nx k : Nat) (lv : am_L) (st : List Value) : Option am_P := match st with
  | .ref x :: r => if k < lv.length then some (nx, am_st1 lv k (.ref x), r) else none
  | .null :: r => if k < lv.length then some (nx, am_st1 lv k .null, r) else none
  | _ => none
def am_pinc (nx k : Nat) (n : Int) (lv : am_L) (st : List Value) : Option am_P := match am_ld lv k with
  | some (.int x) => some (nx, am_st1 lv k (.int (x + Int32.ofInt n)), st)
  | _ => none
def am_i1 (f : Int32 → Int32) (nx : Nat) (lv : am_L) (st : List Value) : Option am_P := match st with
  | .int x :: r => some (nx, lv, .int (f x) :: r)
  | _ => none
def am_i2 (f : Int32 → Int32 → Int32) (nx : Nat) (lv : am_L) (st : List Value) : Option am_P := match st with
  | .int y :: .int x :: r => some (nx, lv, .int (f x y) :: r)
  | _ => none
def am_i2z (f : Int32 → Int32 → Int32) (nx : Nat) (lv : am_L) (st : List Value) : Option am_P := match st with
  | .int y :: .int x :: r => if y = 0 then none else some (nx, lv, .int (f x y) :: r)
  | _ => none
def am_l1 (f : Int64 → Int64) (nx : Nat) (lv : am_L) (st : List Value) : Option am_P := match st with
  | .long x :: r => some (nx, lv, .long (f x) :: r)
  | _ => none
def am_l2 (f : Int64 → Int64 → Int64) (nx : Nat) (lv : am_L) (st : List Value) : Option am_P := match st with
  | .long y :: .long x :: r => some (nx, lv, .long (f x y) :: r)
  | _ => none
def am_l2z (f : Int64 → Int64 → Int64) (nx : Nat) (lv : am_L) (st : List Value) : Option am_P := match st with
  | .long y :: .long x :: r => if y = 0 then none else some (nx, lv, .long (f x y) :: r)
  | _ => none
def am_cmp (c : ClassFile.Cond) (x y : Int32) : Bool := match c with
  | .eq => decide (x = y)
  | .ne => decide (¬ x = y)
  | .lt => decide (x < y)
  | .ge => decide (y ≤ x)
  | .gt => decide (y < x)
  | .le => decide (x ≤ y)
def am_pure (t : Nat) (i : Instr) (pc nx tg : Nat) (lv : am_L) (st : List Value) : Option am_P := match i with
  | .iconst n => some (nx, lv, .int (Int32.ofInt n) :: st)
  | .bipush n => some (nx, lv, .int (Int8.ofInt n).toInt32 :: st)
  | .sipush n => some (nx, lv, .int (Int16.ofInt n).toInt32 :: st)
  | .lconst n => some (nx, lv, .long (Int64.ofNat n) :: st)
  | .aconst_null => some (nx, lv, .null :: st)
  | .ldc k => (am_ci (am_own t) k).map (fun x => (nx, lv, .int x :: st))
  | .ldc_w k => (am_ci (am_own t) k).map (fun x => (nx, lv, .int x :: st))
  | .ldc2_w k => (am_cj (am_own t) k).map (fun x => (nx, lv, .long x :: st))
  | .iload k => am_pil nx lv st (am_ld lv k)
  | .iload_n k => am_pil nx lv st (am_ld lv k.val)
  | .lload k => am_pll nx lv st (am_ld lv k)
  | .lload_n k => am_pll nx lv st (am_ld lv k.val)
  | .aload k => am_pal nx lv st (am_ld lv k)
  | .aload_n k => am_pal nx lv st (am_ld lv k.val)
  | .istore k => am_pis nx k lv st
  | .istore_n k => am_pis nx k.val lv st
  | .lstore k => am_pls nx k lv st
  | .lstore_n k => am_pls nx k.val lv st
  | .astore k => am_pas nx k lv st
  | .astore_n k => am_pas nx k.val lv st
  | .iinc k n => am_pinc nx k n lv st
  | .iadd => am_i2 (fun x y => x + y) nx lv st
  | .isub => am_i2 (fun x y => x - y) nx lv st
  | .imul => am_i2 (fun x y => x * y) nx lv st
  | .iand => am_i2 (fun x y => x &&& y) nx lv st
  | .ior => am_i2 (fun x y => x ||| y) nx lv st
  | .ishl => am_i2 (fun x y => x <<< (y &&& 31)) nx lv st
  | .ishr => am_i2 (fun x y => x >>> (y &&& 31)) nx lv st
  | .idiv => am_i2z (fun x y => x / y) nx lv st
  | .irem => am_i2z (fun x y => x - x / y * y) nx lv st
  | .ineg => am_i1 (fun x => -x) nx lv st
  | .i2b => am_i1 (fun x => x.toInt8.toInt32) nx lv st
  | .i2s => am_i1 (fun x => x.toInt16.toInt32) nx lv st
  | .ladd => am_l2 (fun x y => x + y) nx lv st
  | .lsub => am_l2 (fun x y => x - y) nx lv st
  | .lmul => am_l2 (fun x y => x * y) nx lv st
  | .ldiv => am_l2z (fun x y => x / y) nx lv st
  | .lrem => am_l2z (fun x y => x - x / y * y) nx lv st
  | .lneg => am_l1 (fun x => -x) nx lv st
  | .i2l => (match st with
    | .int x :: r => some (nx, lv, .long x.toInt64 :: r)
    | _ => none)
  | .l2i => (match st with
    | .long x :: r => some (nx, lv, .int x.toInt32 :: r)
    | _ => none)
  | .lcmp => (match st with
    | .long y :: .long x :: r => some (nx, lv, .int (lg_cmp x y) :: r)
    | _ => none)
  | .dup => (match st with
    | v :: r => if am_c2 v then none else some (nx, lv, v :: v :: r)
    | _ => none)
  | .dup2 => (match st with
    | v :: r => if am_c2 v then some (nx, lv, v :: v :: r) else (match r with
      | w :: r2 => if am_c2 w then none else some (nx, lv, v :: w :: v :: w :: r2)
      | [] => none)
    | _ => none)
  | .pop => (match st with
    | v :: r => if am_c2 v then none else some (nx, lv, r)
    | _ => none)
  | .goto _ => some (tg, lv, st)
  | .ifCond c _ => (match st with
    | .int x :: r => some (if am_cmp c x 0 then tg else nx, lv, r)
    | _ => none)
  | .if_icmp c _ => (match st with
    | .int y :: .int x :: r => some (if am_cmp c x y then tg else nx, lv, r)
    | _ => none)
  | .ifnull _ => (match st with
    | .ref _ :: r => some (nx, lv, r)
    | .null :: r => some (tg, lv, r)
    | _ => none)
  | .tableswitch dflt lo hi offs => (match st with
    | .int x :: r => (if x.toInt < lo ∨ hi < x.toInt then (if 0 ≤ (pc : Int) + dflt then some (((pc : Int) + dflt).toNat, lv, r) else none)
      else (match offs[(x.toInt - lo).toNat]? with
        | some o => if 0 ≤ (pc : Int) + o then some (((pc : Int) + o).toNat, lv, r) else none
        | none => none))
    | _ => none)
  | .lookupswitch dflt ps => (match st with
    | .int x :: r => if (ps.toList.zip (ps.toList.drop 1)).all (fun (a, next) => a.1 < next.1) = true ∧ 0 ≤ (pc : Int) + Op.lookupswitch.offset ps.toList dflt x.toInt then some (((pc : Int) + Op.lookupswitch.offset ps.toList dflt x.toInt).toNat, lv, r) else none
    | _ => none)
  | _ => none
/-! the heap -/
def am_up (h : am_H) (a : Nat) (e : am_E) : am_H := fun q => if q = a then some e else h q
def am_in (i : Int32) (n : Nat) : Bool := !(decide (i < 0)) && decide (i.toNatClampNeg < n)
def am_okv (ty : FieldType) (v : Value) : Bool := match ty with
  | .int => (match v with
    | .int _ => true
    | _ => false)
  | .long => (match v with
    | .long _ => true
    | _ => false)
  | .boolean => (match v with
    | .int x => x == 0 || x == 1
    | _ => false)
  | .object _ => (match v with
    | .ref _ => true
    | .null => true
    | _ => false)
  | .array _ => (match v with
    | .ref _ => true
    | .null => true
    | _ => false)
  | _ => false
def am_gf (o : Option am_E) (fk : Nat → Option Nat) : Option Value := match o with
  | some (.inr (ci, fs)) => (match fk ci with
    | some j => fs[j]?
    | none => none)
  | _ => none
def am_pf (o : Option am_E) (pk : Nat → Option (Nat × Bool × FieldType)) (ini : Bool) (v : Value) : Option am_E := match o with
  | some (.inr (ci, fs)) => (match pk ci with
    | some (j, fin, ty) => if ((!fin || ini) && am_okv ty v) && decide (j < fs.length) then some (.inr (ci, fs.set j v)) else none
    | none => none)
  | _ => none
def am_ail (o : Option am_E) (x : Option (Nat × (Nat → Int32))) (i : Int32) : Option Int32 := match o with
  | some (.inl (.int, n, .inl f)) => if am_in i n then some (f i.toNatClampNeg) else none
  | some _ => none
  | none => (match x with
    | some (n, f) => if am_in i n then some (f i.toNatClampNeg) else none
    | none => none)
def am_abl (o : Option am_E) (i : Int32) : Option Int32 := match o with
  | some (.inl (.boolean, n, .inl f)) => if am_in i n then some (f i.toNatClampNeg) else none
  | _ => none
def am_all (o : Option am_E) (i : Int32) : Option Int64 := match o with
  | some (.inl (.long, n, .inr (.inl f))) => if am_in i n then some (f i.toNatClampNeg) else none
  | _ => none
def am_aal (o : Option am_E) (i : Int32) : Option Value := match o with
  | some (.inl (.object _, n, .inr (.inr (.inr (.inr f))))) => if am_in i n then some (va_rf (f i.toNatClampNeg)) else none
  | some (.inl (.array _, n, .inr (.inr (.inr (.inr f))))) => if am_in i n then some (va_rf (f i.toNatClampNeg)) else none
  | _ => none
def am_aln (o : Option am_E) (x : Option (Nat × (Nat → Int32))) : Option Nat := match o with
  | some (.inl (_, n, _)) => some n
  | some (.inr _) => none
  | none => (match x with
    | some (n, _) => some n
    | none => none)
def am_ais (o : Option am_E) (i x : Int32) : Option am_E := match o with
  | some (.inl (.int, n, .inl f)) => if am_in i n then some (.inl (.int, n, .inl (upd f i.toNatClampNeg x))) else none
  | _ => none
def am_abs (o : Option am_E) (i x : Int32) : Option am_E := match o with
  | some (.inl (.boolean, n, .inl f)) => if am_in i n && (x == 0 || x == 1) then some (.inl (.boolean, n, .inl (upd f i.toNatClampNeg x))) else none
  | _ => none
def am_als (o : Option am_E) (i : Int32) (x : Int64) : Option am_E := match o with
  | some (.inl (.long, n, .inr (.inl f))) => if am_in i n then some (.inl (.long, n, .inr (.inl (vp_updL f i.toNatClampNeg x)))) else none
  | _ => none
def am_box (o : Option am_E) : Bool := match o with
  | some (.inr (ci, _)) => decide (6 ≤ ci) && decide (ci ≤ 11)
  | _ => false
def am_aas (o : Option am_E) (i : Int32) (v : Option Nat) : Option am_E := match o with
  | some (.inl (.object "BoxSearch$Box", n, .inr (.inr (.inr (.inr f))))) => if am_in i n then some (.inl (.object "BoxSearch$Box", n, .inr (.inr (.inr (.inr (va_up f i.toNatClampNeg v)))))) else none
  | _ => none
def am_a0 (a : ArrayType) (n : Nat) : Option am_E := match a with
  | .int => some (.inl (.int, n, .inl (fun _ => 0)))
  | .long => some (.inl (.long, n, .inr (.inl (fun _ => 0))))
  | .boolean => some (.inl (.boolean, n, .inl (fun _ => 0)))
  | _ => none
def am_rows (h : am_H) (b n k : Nat) : am_H := fun q => if q = b then some (.inl (.array .int, n, .inr (.inr (.inr (.inr (fun i => if i < n then some (b + 1 + i) else none)))))) else if b < q ∧ q ≤ b + n then some (.inl (.int, k, .inl (fun _ => 0))) else h q
def am_cpy (o0 o1 : Option am_E) (sp dp n : Int32) : Option am_E := match o0 with
  | some (.inl (.int, n0, .inl f)) => (match o1 with
    | some (.inl (.int, n1, .inl g)) => if ((!(decide (sp < 0)) && !(decide (dp < 0))) && !(decide (n < 0))) && (decide (sp.toNatClampNeg + n.toNatClampNeg ≤ n0) && decide (dp.toNatClampNeg + n.toNatClampNeg ≤ n1)) then some (.inl (.int, n1, .inl (va_cpy f g sp.toNatClampNeg dp.toNatClampNeg n.toNatClampNeg))) else none
    | _ => none)
  | _ => none
def am_kin (o : Option am_E) : Option Bool := match o with
  | some (.inr (ci, _)) => some (ci == 10)
  | _ => none
/-! calls -/
def am_hd (t pc E : Nat) : Option Nat := ((am_hh t).find? (fun q => (decide (q.1 ≤ pc) && decide (pc < q.2.1)) && am_kk (am_own t) q.2.2.2 == some E)).map (fun q => q.2.2.1)
def am_hk (t h : Nat) : Option (Nat × Nat) := match am_dc t h with
  | some (.astore k, nx, _) => some (nx, k)
  | some (.astore_n k, nx, _) => some (nx, k.val)
  | _ => none
def am_hc (t : Nat) (lv : am_L) (σ : am_S) (h : Option Nat) : Option am_Z := match h with
  | some h => (match am_hk t h with
    | some (nx, k) => if k < lv.length then some (.inl (nx, (am_kill lv k).set k none, [], σ)) else none
    | none => none)
  | none => none
def am_call (rec : am_O) (t pc nx : Nat) (lv : am_L) (rest : List Value) (σ : am_S) (y : Nat) (args : List Value) : Option am_Z :=
  if rest.length ≤ 8 then (match rec y args σ with
    | some (.inl v, σ') => some (.inl (nx, lv, v.toList ++ rest, σ'))
    | some (.inr E, σ') => am_hc t lv σ' (am_hd t pc E)
    | none => none) else none
def am_ci1 (o : Option am_E) : Option Nat := match o with
  | some (.inr (ci, _)) => some ci
  | _ => none
def am_iv (rec : am_O) (t pc nx : Nat) (lv : am_L) (st : List Value) (σ : am_S) (n : Nat) (ct : Nat → Option Nat) : Option am_Z := match st.drop n with
  | .ref b :: rest => (match am_ci1 (σ.1 b) with
    | some ci => (match ct ci with
      | some y => am_call rec t pc nx lv rest σ y (.ref b :: (st.take n).reverse)
      | none => none)
    | none => none)
  | _ => none
def am_is (rec : am_O) (t pc nx : Nat) (lv : am_L) (st : List Value) (σ : am_S) (n y : Nat) : Option am_Z :=
  if n ≤ st.length then am_call rec t pc nx lv (st.drop n) σ y (st.take n).reverse else none
/-- where the class makes what it throws -/
def am_thT : List (Nat × Nat) := [(179, 7), (186, 9), (191, 7), (191, 42)]
def am_isT (t pc : Nat) : Bool := am_thT.any (fun q => q.1 == t && q.2 == pc)
def am_math (nx : Nat) (lv : am_L) (st : List Value) (σ : am_S) (k : Nat) : Option am_Z := match k with
  | 0 => (match st with
    | .int y :: .int x :: r => if r.length ≤ 8 then some (.inl (nx, lv, .int (if x < y then y else x) :: r, σ)) else none
    | _ => none)
  | 1 => (match st with
    | .int y :: .int x :: r => if r.length ≤ 8 then some (.inl (nx, lv, .int (if y < x then y else x) :: r, σ)) else none
    | _ => none)
  | 2 => (match st with
    | .long y :: .long x :: r => if r.length ≤ 8 then some (.inl (nx, lv, .long (if y < x then x else y) :: r, σ)) else none
    | _ => none)
  | 3 => (match st with
    | .long y :: .long x :: r => if r.length ≤ 8 then some (.inl (nx, lv, .long (if y < x then y else x) :: r, σ)) else none
    | _ => none)
  | 4 => (match st with
    | .long x :: r => if r.length ≤ 8 then some (.inl (nx, lv, .long (if 0 < x then x else -x) :: r, σ)) else none
    | _ => none)
  | _ => none
def am_new (t pc nx : Nat) (lv : am_L) (st : List Value) (σ : am_S) (k : Option Nat) : Option am_Z := match k with
  | some ci => if ci < 13 then some (.inl (nx, lv, .ref σ.2.1 :: st, (am_up σ.1 σ.2.1 (.inr (ci, am_df ci)), σ.2.1 + 1, σ.2.2 + (am_df ci).length)))
    else if (ci == 16 || ci == 17) && (am_isT t pc && decide (st.length ≤ 8)) then some (.inr (.inr ci, (σ.1, σ.2.1 + 1, σ.2.2 + 6))) else none
  | none => none
/-- a copy of an array of ints; a cast to that -/
def am_arrI (o : Option am_E) : Option (Nat × (Nat → Int32)) := match o with
  | some (.inl (.int, n, .inl f)) => some (n, f)
  | _ => none
def am_cln (nx : Nat) (lv : am_L) (st : List Value) (σ : am_S) : Option am_Z := match st with
  | .ref a :: r => if r.length ≤ 8 then (am_arrI (σ.1 a)).map (fun q => .inl (nx, lv, .ref σ.2.1 :: r, (am_up σ.1 σ.2.1 (.inl (.int, q.1, .inl q.2)), σ.2.1 + 1, σ.2.2 + q.1))) else none
  | _ => none
def am_cka (nx : Nat) (lv : am_L) (st : List Value) (σ : am_S) : Option am_Z := match st with
  | .ref a :: r => (am_arrI (σ.1 a)).map (fun _ => .inl (nx, lv, .ref a :: r, σ))
  | _ => none
def am_heap (X : am_X) (rec : am_O) (t : Nat) (i : Instr) (pc nx : Nat) (lv : am_L) (st : List Value) (σ : am_S) : Option am_Z := match i with
  | .getfield k => (match st with
    | .ref a :: r => (am_gf (σ.1 a) (am_fk (am_own t) k)).map (fun v => .inl (nx, lv, v :: r, σ))
    | _ => none)
  | .putfield k => (match st with
    | v :: .ref a :: r => (am_pf (σ.1 a) (am_pk (am_own t) k) (am_ini t) v).map (fun e => .inl (nx, lv, r, (am_up σ.1 a e, σ.2)))
    | _ => none)
  | .getstatic k => if am_own t == 4 && k == 209 then some (.inl (nx, lv, .ref X.2 :: st, σ)) else none
  | .iaload => (match st with
    | .int i :: .ref a :: r => (am_ail (σ.1 a) (X.1 a) i).map (fun x => .inl (nx, lv, .int x :: r, σ))
    | _ => none)
  | .baload => (match st with
    | .int i :: .ref a :: r => (am_abl (σ.1 a) i).map (fun x => .inl (nx, lv, .int x :: r, σ))
    | _ => none)
  | .laload => (match st with
    | .int i :: .ref a :: r => (am_all (σ.1 a) i).map (fun x => .inl (nx, lv, .long x :: r, σ))
    | _ => none)
  | .aaload => (match st with
    | .int i :: .ref a :: r => (am_aal (σ.1 a) i).map (fun x => .inl (nx, lv, x :: r, σ))
    | _ => none)
  | .arraylength => (match st with
    | .ref a :: r => (am_aln (σ.1 a) (X.1 a)).map (fun n => .inl (nx, lv, .int (Int32.ofNat n) :: r, σ))
    | _ => none)
  | .iastore => (match st with
    | .int x :: .int i :: .ref a :: r => (am_ais (σ.1 a) i x).map (fun e => .inl (nx, lv, r, (am_up σ.1 a e, σ.2)))
    | _ => none)
  | .bastore => (match st with
    | .int x :: .int i :: .ref a :: r => (am_abs (σ.1 a) i x).map (fun e => .inl (nx, lv, r, (am_up σ.1 a e, σ.2)))
    | _ => none)
  | .lastore => (match st with
    | .long x :: .int i :: .ref a :: r => (am_als (σ.1 a) i x).map (fun e => .inl (nx, lv, r, (am_up σ.1 a e, σ.2)))
    | _ => none)
  | .aastore => (match st with
    | .ref b :: .int i :: .ref a :: r => if am_box (σ.1 b) then (am_aas (σ.1 a) i (some b)).map (fun e => .inl (nx, lv, r, (am_up σ.1 a e, σ.2))) else none
    | .null :: .int i :: .ref a :: r => (am_aas (σ.1 a) i none).map (fun e => .inl (nx, lv, r, (am_up σ.1 a e, σ.2)))
    | _ => none)
  | .newarray a => (match st with
    | .int n :: r => if am_in n 65537 then (am_a0 a n.toNatClampNeg).map (fun e => .inl (nx, lv, .ref σ.2.1 :: r, (am_up σ.1 σ.2.1 e, σ.2.1 + 1, σ.2.2 + n.toNatClampNeg))) else none
    | _ => none)
  | .anewarray k => (match st with
    | .int n :: r => if am_in n 65537 && am_kk (am_own t) k == some 6 then some (.inl (nx, lv, .ref σ.2.1 :: r, (am_up σ.1 σ.2.1 (.inl (.object "BoxSearch$Box", n.toNatClampNeg, .inr (.inr (.inr (.inr (fun _ => none)))))), σ.2.1 + 1, σ.2.2 + n.toNatClampNeg))) else none
    | _ => none)
  | .multianewarray k d => (match st with
    | .int m :: .int n :: r => if (am_in n 257 && am_in m 257) && ((am_own t == 0 && k == 62) && d == 2) then some (.inl (nx, lv, .ref σ.2.1 :: r, (am_rows σ.1 σ.2.1 n.toNatClampNeg m.toNatClampNeg, σ.2.1 + 1 + n.toNatClampNeg, σ.2.2 + n.toNatClampNeg + n.toNatClampNeg * m.toNatClampNeg))) else none
    | _ => none)
  | .new k => am_new t pc nx lv st σ (am_kk (am_own t) k)
  | .instanceof k => if am_kk (am_own t) k == some 10 then (match st with
    | .ref a :: r => (am_kin (σ.1 a)).map (fun b => .inl (nx, lv, .int (if b then 1 else 0) :: r, σ))
    | .null :: r => some (.inl (nx, lv, .int 0 :: r, σ))
    | _ => none) else none
  | .checkcast k => if am_kk (am_own t) k == some 10 then (match st with
    | .ref a :: r => if am_kin (σ.1 a) == some true then some (.inl (nx, lv, .ref a :: r, σ)) else none
    | .null :: r => some (.inl (nx, lv, .null :: r, σ))
    | _ => none) else if am_own t == 15 && k == 317 then am_cka nx lv st σ else none
  | .invokestatic k => if am_ac (am_own t) k then (match st with
      | .int n :: .int dp :: .ref a :: .int sp :: .ref a0 :: r => if r.length ≤ 8 then (am_cpy (σ.1 a0) (σ.1 a) sp dp n).map (fun e => .inl (nx, lv, r, (am_up σ.1 a e, σ.2))) else none
      | _ => none)
    else (match am_mk (am_own t) k with
      | some q => am_math nx lv st σ q
      | none => (match am_sc (am_own t) k with
        | some (y, n) => am_is rec t pc nx lv st σ n y
        | none => none))
  | .invokespecial k => if am_oi (am_own t) k then (match st with
      | .ref _ :: r => if r.length ≤ 8 then some (.inl (nx, lv, r, σ)) else none
      | _ => none)
    else (match am_ic (am_own t) k with
      | some (y, n) => am_iv rec t pc nx lv st σ n (fun _ => some y)
      | none => (match am_uc (am_own t) k with
        | some (y, n) => am_iv rec t pc nx lv st σ n (fun _ => some y)
        | none => none))
  | .invokevirtual k => (match am_vn (am_own t) k with
    | some n => am_iv rec t pc nx lv st σ n (fun ci => am_vc (am_own t) k ci n)
    | none => if am_own t == 15 && k == 316 then am_cln nx lv st σ else none)
  | .ireturn => (match st with
    | [.int v] => (match am_ret t with
      | some .int => some (.inr (.inl (some (.int v)), σ))
      | some .boolean => if v == 0 || v == 1 then some (.inr (.inl (some (.int v)), σ)) else none
      | _ => none)
    | _ => none)
  | .lreturn => (match st with
    | [.long v] => (match am_ret t with
      | some .long => some (.inr (.inl (some (.long v)), σ))
      | _ => none)
    | _ => none)
  | .areturn => (match st with
    | [.ref v] => (match am_ret t with
      | some (.object _) => some (.inr (.inl (some (.ref v)), σ))
      | some (.array _) => some (.inr (.inl (some (.ref v)), σ))
      | _ => none)
    | [.null] => (match am_ret t with
      | some (.object _) => some (.inr (.inl (some .null), σ))
      | some (.array _) => some (.inr (.inl (some .null), σ))
      | _ => none)
    | _ => none)
  | .return_ => (match st with
    | [] => (match am_ret t with
      | none => some (.inr (.inl none, σ))
      | _ => none)
    | _ => none)
  | _ => none
/-! steps, runs -/
def am_step (X : am_X) (rec : am_O) (t : Nat) (i : Instr) (pc nx tg : Nat) (lv : am_L) (st : List Value) (σ : am_S) : Option am_Z := match am_pure t i pc nx tg lv st with
  | some q => some (.inl (q.1, q.2.1, q.2.2, σ))
  | none => am_heap X rec t i pc nx lv st σ
def am_one (X : am_X) (rec : am_O) (t : Nat) (c : am_F) : Option am_Z := match am_dc t c.1 with
  | some (i, nx, tg) => am_step X rec t i c.1 nx tg c.2.1 c.2.2.1 c.2.2.2
  | none => none
def am_run (X : am_X) (rec : am_O) (t : Nat) : Nat → am_F → Option (am_R × am_S)
  | 0, _ => none
  | n + 1, c => match am_one X rec t c with
    | some (.inl c') => am_run X rec t n c'
    | some (.inr r) => some r
    | none => none
theorem am_run_more {X : am_X} {rec : am_O} {t : Nat} : ∀ (n : Nat) (c : am_F) (r : am_R × am_S), am_run X rec t n c = some r → ∀ k, am_run X rec t (n + k) c = some r
  | 0, c, r, h, k => by simp [am_run] at h
  | n + 1, c, r, h, k => by
    rw [show n + 1 + k = (n + k) + 1 by omega]
    unfold am_run at h ⊢
    cases ho : am_one X rec t c with
    | none => rw [ho] at h; cases h
    | some z =>
      rw [ho] at h
      cases z with
      | inl c' => exact am_run_more n c' r h k
      | inr r' => exact h
noncomputable def am_lim (X : am_X) (rec : am_O) (t : Nat) (c : am_F) : Option (am_R × am_S) := by
  classical exact if h : ∃ r, ∃ n, am_run X rec t n c = some r then some (Classical.choose h) else none
theorem am_lim_iff {X : am_X} {rec : am_O} {t : Nat} {c : am_F} {r : am_R × am_S} : am_lim X rec t c = some r ↔ ∃ n, am_run X rec t n c = some r := by
  unfold am_lim
  constructor
  · intro h
    split at h
    · rename_i hx
      have := Classical.choose_spec hx
      cases h
      exact this
    · cases h
  · rintro ⟨n, h⟩
    have hx : ∃ r, ∃ n, am_run X rec t n c = some r := ⟨r, n, h⟩
    rw [dif_pos hx]
    obtain ⟨m, hm⟩ := Classical.choose_spec hx
    have h1 := am_run_more n c r h m
    have h2 := am_run_more m c _ hm n
    rw [Nat.add_comm] at h2
    rw [h1] at h2
    exact h2.symm
theorem am_lim_step {X : am_X} {rec : am_O} {t : Nat} (c : am_F) : am_lim X rec t c = match am_one X rec t c with
    | some (.inl c') => am_lim X rec t c'
    | some (.inr r) => some r
    | none => none := by
  apply Option.ext
  intro r
  rw [am_lim_iff]
  cases ho : am_one X rec t c with
  | none =>
    simp only [reduceCtorEq, iff_false, not_exists]
    intro n h
    cases n with
    | zero => simp [am_run] at h
    | succ n => unfold am_run at h; rw [ho] at h; cases h
  | some z =>
    cases z with
    | inl c' =>
      show _ ↔ am_lim X rec t c' = some r
      rw [am_lim_iff]
      constructor
      · rintro ⟨n, h⟩
        cases n with
        | zero => simp [am_run] at h
        | succ n => unfold am_run at h; rw [ho] at h; exact ⟨n, h⟩
      · rintro ⟨n, h⟩
        exact ⟨n + 1, by unfold am_run; rw [ho]; exact h⟩
    | inr r' =>
      show _ ↔ some r' = some r
      constructor
      · rintro ⟨n, h⟩
        cases n with
        | zero => simp [am_run] at h
        | succ n => unfold am_run at h; rw [ho] at h; exact h
      · intro h
        exact ⟨1, by unfold am_run; rw [ho]; exact h⟩
/-- a method from a place on -/
noncomputable def am_I (X : am_X) (rec : am_O) (t pc : Nat) (lv : am_L) (st : List Value) (σ : am_S) : Option (am_R × am_S) := am_lim X rec t (pc, lv, st, σ)
/-- one instruction, then on -/
noncomputable def am_K (X : am_X) (rec : am_O) (t : Nat) (z : Option am_Z) : Option (am_R × am_S) := match z with
  | some (.inl c) => am_I X rec t c.1 c.2.1 c.2.2.1 c.2.2.2
  | some (.inr r) => some r
  | none => none
noncomputable def am_J (X : am_X) (rec : am_O) (t : Nat) (o : Option (Instr × Nat × Nat)) (pc : Nat) (lv : am_L) (st : List Value) (σ : am_S) : Option (am_R × am_S) := match o with
  | some (i, nx, tg) => am_K X rec t (am_step X rec t i pc nx tg lv st σ)
  | none => none
theorem am_I_go (X : am_X) (rec : am_O) (t pc : Nat) (lv : am_L) (st : List Value) (σ : am_S) : am_I X rec t pc lv st σ = am_J X rec t (am_dc t pc) pc lv st σ := by
  unfold am_I
  rw [am_lim_step]
  unfold am_one am_J
  show (match (match am_dc t pc with
    | some (i, nx, tg) => am_step X rec t i pc nx tg lv st σ
    | none => none) with
    | some (.inl c') => am_lim X rec t c'
    | some (.inr r) => some r
    | none => none) = _
  cases am_dc t pc with
  | none => rfl
  | some q =>
    obtain ⟨i, nx, tg⟩ := q
    show _ = am_K X rec t (am_step X rec t i pc nx tg lv st σ)
    unfold am_K am_I
    show (match am_step X rec t i pc nx tg lv st σ with
    | some (.inl c') => am_lim X rec t c'
    | some (.inr r) => some r
    | none => none) = _
    cases am_step X rec t i pc nx tg lv st σ with
    | none => rfl
    | some z => cases z <;> rfl
/-- the methods, to a depth -/
noncomputable def am_f (X : am_X) : Nat → am_O
  | 0 => fun _ _ _ => none
  | d + 1 => fun t args σ => if (am_lay args).length ≤ am_ml t then am_I X (am_f X d) t 0 (am_lv0 (am_ml t) args) [] σ else none
