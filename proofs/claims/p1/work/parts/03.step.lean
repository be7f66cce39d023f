/-! THE INTERPRETER: a machine over closed data (references are places in a list of cells), whose plain steps are sound for W. -/
def xv (ρ : Nat → Nat) : Value → Value
  | .ref i => .ref (ρ i)
  | v => v
abbrev x_E : Type := (Nat × vp_A) ⊕ (Nat × List Value)
def xe (ρ : Nat → Nat) (cA : Nat → ClassId) : x_E → va_E
  | .inl (t, a) => .inl (cA t, a)
  | .inr (c, fs) => .inr (c, fs.map (xv ρ))
def xw (ρ : Nat → Nat) (cA : Nat → ClassId) (hp : List x_E) : va_W := hp.mapIdx (fun i c => (ρ i, xe ρ cA c))
def xq (ρ : Nat → Nat) (q : Nat × Value) : Nat × Value := (q.1, xv ρ q.2)
def x_tys (cA : Nat → ClassId) : List (ClassId × FieldType) := [(cA 0, .int), (cA 1, .long), (cA 2, .byte), (cA 3, .char), (cA 4, .boolean)]
def xty (q : vw_C) (k : Nat) : FieldType := (parseFieldDescriptor (q.2.1 k).2.2.1).getD .int
abbrev x_R : Type := Option (Nat × List (Nat × Value) × List Value × List x_E)
def xK (a b : Nat) (r : x_R) : x_R := if a = b then r else none
def xTg (pc : Nat) (off : Int) : Option Nat := match (pc : Int) + off with
  | .ofNat t => some t
  | .negSucc _ => none
def xLd : List (Nat × Value) → Nat → Option Value
  | [], _ => none
  | q :: r, i => if q.1 = i then some q.2 else xLd r i
def xS1 (lv : List (Nat × Value)) (i : Nat) (v : Value) : List (Nat × Value) := (i, v) :: lv.filter (fun q => !(q.1 == i) && !(q.1 + 1 == i && q.2.category == 2))
def xS2 (lv : List (Nat × Value)) (i : Nat) (v : Value) : List (Nat × Value) := (i, v) :: lv.filter (fun q => !(q.1 == i) && (!(q.1 == i + 1) && !(q.1 + 1 == i && q.2.category == 2)))
def xI2 (f : Int32 → Int32 → Int32) : List Value → Option (List Value)
  | .int y :: .int x :: r => some (.int (f x y) :: r)
  | _ => none
def xI2z (f : Int32 → Int32 → Int32) : List Value → Option (List Value)
  | .int y :: .int x :: r => if y = 0 then none else some (.int (f x y) :: r)
  | _ => none
def xL2 (f : Int64 → Int64 → Int64) : List Value → Option (List Value)
  | .long y :: .long x :: r => some (.long (f x y) :: r)
  | _ => none
def xLI (f : Int64 → Int32 → Int64) : List Value → Option (List Value)
  | .int y :: .long x :: r => some (.long (f x y) :: r)
  | _ => none
def xLL (f : Int64 → Int64 → Int32) : List Value → Option (List Value)
  | .long y :: .long x :: r => some (.int (f x y) :: r)
  | _ => none
def xII (f : Int32 → Int32) : List Value → Option (List Value)
  | .int x :: r => some (.int (f x) :: r)
  | _ => none
def xIL (f : Int32 → Int64) : List Value → Option (List Value)
  | .int x :: r => some (.long (f x) :: r)
  | _ => none
def xLi (f : Int64 → Int32) : List Value → Option (List Value)
  | .long x :: r => some (.int (f x) :: r)
  | _ => none
def xLIv (i : Nat) (lv : List (Nat × Value)) : Option Value := match xLd lv i with
  | some (.int x) => some (.int x)
  | _ => none
def xLLv (i : Nat) (lv : List (Nat × Value)) : Option Value := match xLd lv i with
  | some (.long x) => some (.long x)
  | _ => none
def xLAv (i : Nat) (lv : List (Nat × Value)) : Option Value := match xLd lv i with
  | some (.ref x) => some (.ref x)
  | some .null => some .null
  | _ => none
def xCn (c : ClassFile.Cond) (x y : Int32) : Bool := match c with
  | .eq => decide (x = y)
  | .ne => !decide (x = y)
  | .lt => decide (x < y)
  | .ge => decide (y ≤ x)
  | .gt => decide (y < x)
  | .le => decide (x ≤ y)
def xGet (fl : Nat → Option (Nat × Nat)) (idx : Nat) (hp : List x_E) : List Value → Option (List Value)
  | .ref i :: r => match fl idx with
    | none => none
    | some (ci, k) => match hp[i]? with
      | some (.inr (c, fs)) => if c = ci then (match fs[k]? with
        | some v => some (v :: r)
        | none => none) else none
      | _ => none
  | _ => none
def xPut (cl : List vw_C) (ini : Bool) (fl : Nat → Option (Nat × Nat)) (idx : Nat) (hp : List x_E) : List Value → Option (List Value × List x_E)
  | v :: .ref i :: r => match fl idx with
    | none => none
    | some (ci, k) => match hp[i]?, cl[ci]? with
      | some (.inr (c, fs)), some q => if c = ci ∧ k < fs.length ∧ narrow (xty q k) v = v ∧ fits (xty q k) v = true ∧ ((q.2.1 k).2.2.2 = false ∨ ini = true) then some (r, hp.set i (.inr (c, fs.set k v))) else none
      | _, _ => none
  | _ => none
def xAld (t : Nat) (hp : List x_E) : List Value → Option (List Value)
  | .int i :: .ref a :: r => match hp[a]? with
    | some (.inl (t', n, .inl f)) => if t' = t ∧ ¬ (i < 0 ∨ n ≤ i.toNatClampNeg) then some (.int (f i.toNatClampNeg) :: r) else none
    | _ => none
  | _ => none
def xAldL (hp : List x_E) : List Value → Option (List Value)
  | .int i :: .ref a :: r => match hp[a]? with
    | some (.inl (t', n, .inr (.inl f))) => if t' = 1 ∧ ¬ (i < 0 ∨ n ≤ i.toNatClampNeg) then some (.long (f i.toNatClampNeg) :: r) else none
    | _ => none
  | _ => none
def xAst (t : Nat) (g : Int32 → Int32) (hp : List x_E) : List Value → Option (List Value × List x_E)
  | .int x :: .int i :: .ref a :: r => match hp[a]? with
    | some (.inl (t', n, .inl f)) => if t' = t ∧ ¬ (i < 0 ∨ n ≤ i.toNatClampNeg) then some (r, hp.set a (.inl (t', n, .inl (upd f i.toNatClampNeg (g x))))) else none
    | _ => none
  | _ => none
def xAstL (hp : List x_E) : List Value → Option (List Value × List x_E)
  | .long x :: .int i :: .ref a :: r => match hp[a]? with
    | some (.inl (t', n, .inr (.inl f))) => if t' = 1 ∧ ¬ (i < 0 ∨ n ≤ i.toNatClampNeg) then some (r, hp.set a (.inl (t', n, .inr (.inl (vp_updL f i.toNatClampNeg x))))) else none
    | _ => none
  | _ => none
def xAlen (hp : List x_E) : List Value → Option (List Value)
  | .ref a :: r => match hp[a]? with
    | some (.inl (t, x)) => if t < 5 then some (.int (Int32.ofNat x.1) :: r) else none
    | _ => none
  | _ => none
def xDup : List Value → Option (List Value)
  | v :: r => if v.category = 1 then some (v :: v :: r) else none
  | _ => none
def xPop : List Value → Option (List Value)
  | v :: r => if v.category = 1 then some r else none
  | _ => none
def xDupX1 : List Value → Option (List Value)
  | v :: w :: r => if v.category = 1 ∧ w.category = 1 then some (v :: w :: v :: r) else none
  | _ => none
def xDupX2 : List Value → Option (List Value)
  | v :: w :: u :: r => if v.category = 1 ∧ w.category = 1 ∧ u.category = 1 then some (v :: w :: u :: v :: r) else none
  | _ => none
def xDup2 : List Value → Option (List Value)
  | v :: w :: r => if v.category = 1 ∧ w.category = 1 then some (v :: w :: v :: w :: r) else none
  | _ => none
def xPop2 : List Value → Option (List Value)
  | v :: r => if v.category = 2 then some r else none
  | _ => none

def xPopI : List Value → Option (Int32 × List Value)
  | .int x :: r => some (x, r)
  | _ => none
def xPopL : List Value → Option (Int64 × List Value)
  | .long x :: r => some (x, r)
  | _ => none
def xPopA : List Value → Option (Value × List Value)
  | .ref x :: r => some (.ref x, r)
  | .null :: r => some (.null, r)
  | _ => none

def xLIn (i : Nat) (lv : List (Nat × Value)) : Option Int32 := match xLd lv i with
  | some (.int x) => some x
  | _ => none

def xTab (d lo hi : Int) (offs : Array Int) (x : Int32) : Option Int := if x.toInt < lo ∨ hi < x.toInt then some d else offs[(x.toInt - lo).toNat]?

def xs1 (cl : List vw_C) (ini : Bool) (nL : Nat) (fl : Nat → Option (Nat × Nat)) (kc : Nat → Option Int32) (kl : Nat → Option Int64) (i : Instr) (len pc : Nat) (lv : List (Nat × Value)) (st : List Value) (hp : List x_E) : x_R :=
  match i with
  | .iadd => xK len 1 ((xI2 (fun x y => x + y) st).map fun t => (pc + 1, lv, t, hp))
  | .isub => xK len 1 ((xI2 (fun x y => x - y) st).map fun t => (pc + 1, lv, t, hp))
  | .imul => xK len 1 ((xI2 (fun x y => x * y) st).map fun t => (pc + 1, lv, t, hp))
  | .iand => xK len 1 ((xI2 (fun x y => x &&& y) st).map fun t => (pc + 1, lv, t, hp))
  | .ior => xK len 1 ((xI2 (fun x y => x ||| y) st).map fun t => (pc + 1, lv, t, hp))
  | .ixor => xK len 1 ((xI2 (fun x y => x ^^^ y) st).map fun t => (pc + 1, lv, t, hp))
  | .ishl => xK len 1 ((xI2 (fun x y => x <<< (y &&& 31)) st).map fun t => (pc + 1, lv, t, hp))
  | .ishr => xK len 1 ((xI2 (fun x y => x >>> (y &&& 31)) st).map fun t => (pc + 1, lv, t, hp))
  | .iushr => xK len 1 ((xI2 (fun x y => (x.toUInt32 >>> (y.toUInt32 &&& Int32.toUInt32 31)).toInt32) st).map fun t => (pc + 1, lv, t, hp))
  | .idiv => xK len 1 ((xI2z (fun x y => x / y) st).map fun t => (pc + 1, lv, t, hp))
  | .irem => xK len 1 ((xI2z (fun x y => x - x / y * y) st).map fun t => (pc + 1, lv, t, hp))
  | .ladd => xK len 1 ((xL2 (fun x y => x + y) st).map fun t => (pc + 1, lv, t, hp))
  | .lsub => xK len 1 ((xL2 (fun x y => x - y) st).map fun t => (pc + 1, lv, t, hp))
  | .lmul => xK len 1 ((xL2 (fun x y => x * y) st).map fun t => (pc + 1, lv, t, hp))
  | .land => xK len 1 ((xL2 (fun x y => x &&& y) st).map fun t => (pc + 1, lv, t, hp))
  | .lor => xK len 1 ((xL2 (fun x y => x ||| y) st).map fun t => (pc + 1, lv, t, hp))
  | .lxor => xK len 1 ((xL2 (fun x y => x ^^^ y) st).map fun t => (pc + 1, lv, t, hp))
  | .lshl => xK len 1 ((xLI (fun x y => x <<< (y.toInt64 &&& 63)) st).map fun t => (pc + 1, lv, t, hp))
  | .lshr => xK len 1 ((xLI (fun x y => x >>> (y.toInt64 &&& 63)) st).map fun t => (pc + 1, lv, t, hp))
  | .lushr => xK len 1 ((xLI (fun x y => (x.toUInt64 >>> (y.toInt64.toUInt64 &&& Int64.toUInt64 63)).toInt64) st).map fun t => (pc + 1, lv, t, hp))
  | .lcmp => xK len 1 ((xLL lg_cmp st).map fun t => (pc + 1, lv, t, hp))
  | .ineg => xK len 1 ((xII (fun x => -x) st).map fun t => (pc + 1, lv, t, hp))
  | .i2b => xK len 1 ((xII (fun x => x.toInt8.toInt32) st).map fun t => (pc + 1, lv, t, hp))
  | .i2s => xK len 1 ((xII (fun x => x.toInt16.toInt32) st).map fun t => (pc + 1, lv, t, hp))
  | .i2c => xK len 1 ((xII (fun x => (x.toUInt32 % 65536).toInt32) st).map fun t => (pc + 1, lv, t, hp))
  | .i2l => xK len 1 ((xIL Int32.toInt64 st).map fun t => (pc + 1, lv, t, hp))
  | .l2i => xK len 1 ((xLi Int64.toInt32 st).map fun t => (pc + 1, lv, t, hp))
  | .iconst n => xK len 1 (some (pc + 1, lv, .int (Int32.ofInt n) :: st, hp))
  | .bipush n => xK len 2 (some (pc + 2, lv, .int (Int8.ofInt n).toInt32 :: st, hp))
  | .sipush n => xK len 3 (some (pc + 3, lv, .int (Int16.ofInt n).toInt32 :: st, hp))
  | .lconst n => xK len 1 (some (pc + 1, lv, .long (Int64.ofNat (n : Nat)) :: st, hp))
  | .aconst_null => xK len 1 (some (pc + 1, lv, .null :: st, hp))
  | .ldc idx => xK len 2 ((kc idx).map fun v => (pc + 2, lv, .int v :: st, hp))
  | .ldc_w idx => xK len 3 ((kc idx).map fun v => (pc + 3, lv, .int v :: st, hp))
  | .ldc2_w idx => xK len 3 ((kl idx).map fun v => (pc + 3, lv, .long v :: st, hp))
  | .iload i => xK len 2 ((xLIv i lv).map fun v => (pc + 2, lv, v :: st, hp))
  | .iload_n i => xK len 1 ((xLIv i.val lv).map fun v => (pc + 1, lv, v :: st, hp))
  | .lload i => xK len 2 ((xLLv i lv).map fun v => (pc + 2, lv, v :: st, hp))
  | .lload_n i => xK len 1 ((xLLv i.val lv).map fun v => (pc + 1, lv, v :: st, hp))
  | .aload i => xK len 2 ((xLAv i lv).map fun v => (pc + 2, lv, v :: st, hp))
  | .aload_n i => xK len 1 ((xLAv i.val lv).map fun v => (pc + 1, lv, v :: st, hp))
  | .istore i => xK len 2 ((xPopI st).bind fun q => if i < nL then some (pc + 2, xS1 lv i (.int q.1), q.2, hp) else none)
  | .istore_n i => xK len 1 ((xPopI st).bind fun q => if i.val < nL then some (pc + 1, xS1 lv (i.val) (.int q.1), q.2, hp) else none)
  | .lstore i => xK len 2 ((xPopL st).bind fun q => if i + 1 < nL then some (pc + 2, xS2 lv i (.long q.1), q.2, hp) else none)
  | .lstore_n i => xK len 1 ((xPopL st).bind fun q => if i.val + 1 < nL then some (pc + 1, xS2 lv (i.val) (.long q.1), q.2, hp) else none)
  | .astore i => xK len 2 ((xPopA st).bind fun q => if i < nL then some (pc + 2, xS1 lv i q.1, q.2, hp) else none)
  | .astore_n i => xK len 1 ((xPopA st).bind fun q => if i.val < nL then some (pc + 1, xS1 lv (i.val) q.1, q.2, hp) else none)
  | .iinc i n => xK len 3 ((xLIn i lv).bind fun x => if i < nL then some (pc + 3, xS1 lv i (.int (x + Int32.ofInt n)), st, hp) else none)
  | .ifCond cn off => xK len 3 ((xPopI st).bind fun q => (xTg pc off).map fun t => (if xCn cn q.1 0 then t else pc + 3, lv, q.2, hp))
  | .if_icmp cn off => xK len 3 ((xPopI st).bind fun q => (xPopI q.2).bind fun q2 => (xTg pc off).map fun t => (if xCn cn q2.1 q.1 then t else pc + 3, lv, q2.2, hp))
  | .goto off => xK len 3 ((xTg pc off).map fun t => (t, lv, st, hp))
  | .ifnull off => xK len 3 ((xPopA st).bind fun q => (xTg pc off).map fun t => (if q.1 = .null then t else pc + 3, lv, q.2, hp))
  | .ifnonnull off => xK len 3 ((xPopA st).bind fun q => (xTg pc off).map fun t => (if q.1 = .null then pc + 3 else t, lv, q.2, hp))
  | .tableswitch d lo hi offs => (xPopI st).bind fun q => (xTab d lo hi offs q.1).bind fun off => (xTg pc off).map fun t => (t, lv, q.2, hp)
  | .lookupswitch d ps => if (ps.toList.zip (ps.toList.drop 1)).all (fun (a, next) => a.1 < next.1) = true then (xPopI st).bind fun q => (xTg pc (Op.lookupswitch.offset ps.toList d q.1.toInt)).map fun t => (t, lv, q.2, hp) else none
  | .dup => xK len 1 ((xDup st).map fun t => (pc + 1, lv, t, hp))
  | .pop => xK len 1 ((xPop st).map fun t => (pc + 1, lv, t, hp))
  | .dup_x1 => xK len 1 ((xDupX1 st).map fun t => (pc + 1, lv, t, hp))
  | .dup_x2 => xK len 1 ((xDupX2 st).map fun t => (pc + 1, lv, t, hp))
  | .dup2 => xK len 1 ((xDup2 st).map fun t => (pc + 1, lv, t, hp))
  | .pop2 => xK len 1 ((xPop2 st).map fun t => (pc + 1, lv, t, hp))
  | .getfield idx => xK len 3 ((xGet fl idx hp st).map fun t => (pc + 3, lv, t, hp))
  | .putfield idx => xK len 3 ((xPut cl ini fl idx hp st).map fun t => (pc + 3, lv, t.1, t.2))
  | .iaload => xK len 1 ((xAld 0 hp st).map fun t => (pc + 1, lv, t, hp))
  | .caload => xK len 1 ((xAld 3 hp st).map fun t => (pc + 1, lv, t, hp))
  | .baload => xK len 1 (((xAld 2 hp st).or (xAld 4 hp st)).map fun t => (pc + 1, lv, t, hp))
  | .laload => xK len 1 ((xAldL hp st).map fun t => (pc + 1, lv, t, hp))
  | .iastore => xK len 1 ((xAst 0 (fun x => x) hp st).map fun t => (pc + 1, lv, t.1, t.2))
  | .castore => xK len 1 ((xAst 3 (vp_nar .char) hp st).map fun t => (pc + 1, lv, t.1, t.2))
  | .bastore => xK len 1 (((xAst 2 (vp_nar .byte) hp st).or (xAst 4 (vp_nar .boolean) hp st)).map fun t => (pc + 1, lv, t.1, t.2))
  | .lastore => xK len 1 ((xAstL hp st).map fun t => (pc + 1, lv, t.1, t.2))
  | .arraylength => xK len 1 ((xAlen hp st).map fun t => (pc + 1, lv, t, hp))
  | _ => none

theorem xv_cat (ρ : Nat → Nat) (v : Value) : (xv ρ v).category = v.category := by cases v <;> rfl
theorem xK_eq {a b : Nat} {r : x_R} {z : Nat × List (Nat × Value) × List Value × List x_E} (h : xK a b r = some z) : a = b ∧ r = some z := by
  unfold xK at h
  split at h
  · rename_i e; exact ⟨e, h⟩
  · cases h
theorem xTg_eq {pc t : Nat} {off : Int} (h : xTg pc off = some t) : (pc : Int) + off = (t : Int) := by
  unfold xTg at h
  split at h
  · rename_i e; cases h; exact e
  · cases h
theorem xLd_mem {lv : List (Nat × Value)} {i : Nat} {v : Value} (h : xLd lv i = some v) : (i, v) ∈ lv := by
  induction lv with
  | nil => cases h
  | cons q r ih =>
    unfold xLd at h
    split at h
    · rename_i e; cases h; subst e; exact List.mem_cons_self
    · exact List.mem_cons_of_mem _ (ih h)
theorem xat {ρ : Nat → Nat} {ls : Array Slot} {nL : Nat} {lv : List (Nat × Value)} (hl : lv_has ls nL (lv.map (xq ρ))) {i : Nat} {v : Value} (hm : (i, v) ∈ lv) : ls[i]? = some (.val (xv ρ v)) := hl.2.2 (i, xv ρ v) (List.mem_map.mpr ⟨(i, v), hm, rfl⟩)
theorem xS1_map (ρ : Nat → Nat) (lv : List (Nat × Value)) (i : Nat) (v : Value) : (xS1 lv i v).map (xq ρ) = (i, xv ρ v) :: (lv.map (xq ρ)).filter (fun q => !(q.1 == i) && !(q.1 + 1 == i && q.2.category == 2)) := by
  simp only [xS1, List.map_cons, List.filter_map, Function.comp_def, xq, xv_cat]
theorem xS2_map (ρ : Nat → Nat) (lv : List (Nat × Value)) (i : Nat) (v : Value) : (xS2 lv i v).map (xq ρ) = (i, xv ρ v) :: (lv.map (xq ρ)).filter (fun q => !(q.1 == i) && (!(q.1 == i + 1) && !(q.1 + 1 == i && q.2.category == 2))) := by
  simp only [xS2, List.map_cons, List.filter_map, Function.comp_def, xq, xv_cat]
theorem xw_get {ρ : Nat → Nat} {cA : Nat → ClassId} {hp : List x_E} {i : Nat} : (xw ρ cA hp)[i]? = (hp[i]?).map (fun c => (ρ i, xe ρ cA c)) := by
  simp [xw, List.getElem?_mapIdx]
theorem xw_len {ρ : Nat → Nat} {cA : Nat → ClassId} {hp : List x_E} : (xw ρ cA hp).length = hp.length := by simp [xw]
theorem xw_set {ρ : Nat → Nat} {cA : Nat → ClassId} {hp : List x_E} {i : Nat} (h : i < hp.length) {x : x_E} : (xw ρ cA hp).set i (ρ i, xe ρ cA x) = xw ρ cA (hp.set i x) := by
  apply List.ext_getElem?
  intro j
  rw [List.getElem?_set, xw_get, xw_get, List.getElem?_set, xw_len]
  by_cases e : i = j
  · subst e; simp [h]
  · simp [e]
theorem xsetA {ρ : Nat → Nat} {cA : Nat → ClassId} {hp : List x_E} {i t : Nat} (h : i < hp.length) {x : vp_A} : (xw ρ cA hp).set i (ρ i, .inl (cA t, x)) = xw ρ cA (hp.set i (.inl (t, x))) := xw_set (x := .inl (t, x)) h
theorem xor {α : Type} {a b : Option α} {t : α} (h : a.or b = some t) : a = some t ∨ b = some t := by
  cases a with
  | none => exact Or.inr h
  | some x => exact Or.inl h
theorem xnar {ρ : Nat → Nat} {ty : FieldType} {v : Value} (h : narrow ty v = v) : narrow ty (xv ρ v) = xv ρ v := by
  cases v with
  | ref i => cases ty <;> rfl
  | _ => exact h
theorem xfit {ρ : Nat → Nat} {ty : FieldType} {v : Value} (h : fits ty v = true) : fits ty (xv ρ v) = true := by
  cases v with
  | ref i => cases ty <;> first | rfl | exact h
  | _ => exact h
theorem xtys5 (cA : Nat → ClassId) {t : Nat} (h : t < 5) : ∃ ty, (x_tys cA)[t]? = some (cA t, ty) := by
  match t, h with
  | 0, _ => exact ⟨_, rfl⟩
  | 1, _ => exact ⟨_, rfl⟩
  | 2, _ => exact ⟨_, rfl⟩
  | 3, _ => exact ⟨_, rfl⟩
  | 4, _ => exact ⟨_, rfl⟩

theorem xI2_inv {f : Int32 → Int32 → Int32} {st t : List Value} (h : xI2 f st = some t) : ∃ x y r, st = .int y :: .int x :: r ∧ t = .int (f x y) :: r := by
  unfold xI2 at h
  split at h
  · cases h; exact ⟨_, _, _, rfl, rfl⟩
  · cases h

theorem xI2z_inv {f : Int32 → Int32 → Int32} {st t : List Value} (h : xI2z f st = some t) : ∃ x y r, ¬ y = 0 ∧ st = .int y :: .int x :: r ∧ t = .int (f x y) :: r := by
  unfold xI2z at h
  split at h
  · split at h
    · cases h
    · rename_i hz; cases h; exact ⟨_, _, _, hz, rfl, rfl⟩
  · cases h

theorem xL2_inv {f : Int64 → Int64 → Int64} {st t : List Value} (h : xL2 f st = some t) : ∃ x y r, st = .long y :: .long x :: r ∧ t = .long (f x y) :: r := by
  unfold xL2 at h
  split at h
  · cases h; exact ⟨_, _, _, rfl, rfl⟩
  · cases h

theorem xLI_inv {f : Int64 → Int32 → Int64} {st t : List Value} (h : xLI f st = some t) : ∃ x y r, st = .int y :: .long x :: r ∧ t = .long (f x y) :: r := by
  unfold xLI at h
  split at h
  · cases h; exact ⟨_, _, _, rfl, rfl⟩
  · cases h

theorem xLL_inv {f : Int64 → Int64 → Int32} {st t : List Value} (h : xLL f st = some t) : ∃ x y r, st = .long y :: .long x :: r ∧ t = .int (f x y) :: r := by
  unfold xLL at h
  split at h
  · cases h; exact ⟨_, _, _, rfl, rfl⟩
  · cases h

theorem xII_inv {f : Int32 → Int32} {st t : List Value} (h : xII f st = some t) : ∃ x r, st = .int x :: r ∧ t = .int (f x) :: r := by
  unfold xII at h
  split at h
  · cases h; exact ⟨_, _, rfl, rfl⟩
  · cases h

theorem xIL_inv {f : Int32 → Int64} {st t : List Value} (h : xIL f st = some t) : ∃ x r, st = .int x :: r ∧ t = .long (f x) :: r := by
  unfold xIL at h
  split at h
  · cases h; exact ⟨_, _, rfl, rfl⟩
  · cases h

theorem xLi_inv {f : Int64 → Int32} {st t : List Value} (h : xLi f st = some t) : ∃ x r, st = .long x :: r ∧ t = .int (f x) :: r := by
  unfold xLi at h
  split at h
  · cases h; exact ⟨_, _, rfl, rfl⟩
  · cases h

theorem xPopI_inv {st : List Value} {t : Int32 × List Value} (h : xPopI st = some t) : ∃ x r, st = .int x :: r ∧ t = (x, r) := by
  unfold xPopI at h
  split at h
  · cases h; exact ⟨_, _, rfl, rfl⟩
  · cases h

theorem xPopL_inv {st : List Value} {t : Int64 × List Value} (h : xPopL st = some t) : ∃ x r, st = .long x :: r ∧ t = (x, r) := by
  unfold xPopL at h
  split at h
  · cases h; exact ⟨_, _, rfl, rfl⟩
  · cases h

theorem xPopA_inv {st : List Value} {t : Value × List Value} (h : xPopA st = some t) : (∃ x r, st = .ref x :: r ∧ t = (.ref x, r)) ∨ ∃ r, st = .null :: r ∧ t = (.null, r) := by
  unfold xPopA at h
  split at h
  · cases h; exact Or.inl ⟨_, _, rfl, rfl⟩
  · cases h; exact Or.inr ⟨_, rfl, rfl⟩
  · cases h

theorem xLIv_inv {i : Nat} {lv : List (Nat × Value)} {t : Value} (h : xLIv i lv = some t) : ∃ x, t = .int x ∧ (i, .int x) ∈ lv := by
  unfold xLIv at h
  split at h
  · rename_i e; cases h; exact ⟨_, rfl, xLd_mem e⟩
  · cases h

theorem xLLv_inv {i : Nat} {lv : List (Nat × Value)} {t : Value} (h : xLLv i lv = some t) : ∃ x, t = .long x ∧ (i, .long x) ∈ lv := by
  unfold xLLv at h
  split at h
  · rename_i e; cases h; exact ⟨_, rfl, xLd_mem e⟩
  · cases h

theorem xLIn_inv {i : Nat} {lv : List (Nat × Value)} {t : Int32} (h : xLIn i lv = some t) : (i, .int t) ∈ lv := by
  unfold xLIn at h
  split at h
  · rename_i e; cases h; exact xLd_mem e
  · cases h

theorem xLAv_inv {i : Nat} {lv : List (Nat × Value)} {t : Value} (h : xLAv i lv = some t) : (∃ x, t = .ref x ∧ (i, .ref x) ∈ lv) ∨ (t = .null ∧ (i, .null) ∈ lv) := by
  unfold xLAv at h
  split at h
  · rename_i e; cases h; exact Or.inl ⟨_, rfl, xLd_mem e⟩
  · rename_i e; cases h; exact Or.inr ⟨rfl, xLd_mem e⟩
  · cases h

theorem xDup_inv {st t : List Value} (h : xDup st = some t) : ∃ v r, v.category = 1 ∧ st = v :: r ∧ t = v :: v :: r := by
  unfold xDup at h
  split at h
  · split at h
    · rename_i c1; cases h; exact ⟨_, _, c1, rfl, rfl⟩
    · cases h
  · cases h

theorem xPop_inv {st t : List Value} (h : xPop st = some t) : ∃ v r, v.category = 1 ∧ st = v :: r ∧ t = r := by
  unfold xPop at h
  split at h
  · split at h
    · rename_i c1; cases h; exact ⟨_, _, c1, rfl, rfl⟩
    · cases h
  · cases h

theorem xDupX1_inv {st t : List Value} (h : xDupX1 st = some t) : ∃ v w r, v.category = 1 ∧ w.category = 1 ∧ st = v :: w :: r ∧ t = v :: w :: v :: r := by
  unfold xDupX1 at h
  split at h
  · split at h
    · rename_i c1; cases h; exact ⟨_, _, _, c1.1, c1.2, rfl, rfl⟩
    · cases h
  · cases h

theorem xDupX2_inv {st t : List Value} (h : xDupX2 st = some t) : ∃ v w u r, v.category = 1 ∧ w.category = 1 ∧ u.category = 1 ∧ st = v :: w :: u :: r ∧ t = v :: w :: u :: v :: r := by
  unfold xDupX2 at h
  split at h
  · split at h
    · rename_i c1; cases h; exact ⟨_, _, _, _, c1.1, c1.2.1, c1.2.2, rfl, rfl⟩
    · cases h
  · cases h

theorem xDup2_inv {st t : List Value} (h : xDup2 st = some t) : ∃ v w r, v.category = 1 ∧ w.category = 1 ∧ st = v :: w :: r ∧ t = v :: w :: v :: w :: r := by
  unfold xDup2 at h
  split at h
  · split at h
    · rename_i c1; cases h; exact ⟨_, _, _, c1.1, c1.2, rfl, rfl⟩
    · cases h
  · cases h

theorem xPop2_inv {st t : List Value} (h : xPop2 st = some t) : ∃ v r, v.category = 2 ∧ st = v :: r ∧ t = r := by
  unfold xPop2 at h
  split at h
  · split at h
    · rename_i c1; cases h; exact ⟨_, _, c1, rfl, rfl⟩
    · cases h
  · cases h

theorem xGet_inv {fl : Nat → Option (Nat × Nat)} {idx : Nat} {hp : List x_E} {st t : List Value} (h : xGet fl idx hp st = some t) : ∃ i r ci k fs v, st = .ref i :: r ∧ fl idx = some (ci, k) ∧ hp[i]? = some (.inr (ci, fs)) ∧ fs[k]? = some v ∧ t = v :: r := by
  unfold xGet at h
  split at h
  · split at h
    · cases h
    · rename_i hf
      split at h
      · rename_i hi
        split at h
        · rename_i hc
          split at h
          · rename_i hv
            cases h
            subst hc
            exact ⟨_, _, _, _, _, _, rfl, hf, hi, hv, rfl⟩
          · cases h
        · cases h
      · cases h
  · cases h

theorem xPut_inv {cl : List vw_C} {ini : Bool} {fl : Nat → Option (Nat × Nat)} {idx : Nat} {hp : List x_E} {st : List Value} {t : List Value × List x_E} (h : xPut cl ini fl idx hp st = some t) : ∃ v i r ci k fs q, st = v :: .ref i :: r ∧ fl idx = some (ci, k) ∧ hp[i]? = some (.inr (ci, fs)) ∧ cl[ci]? = some q ∧ k < fs.length ∧ narrow (xty q k) v = v ∧ fits (xty q k) v = true ∧ ((q.2.1 k).2.2.2 = false ∨ ini = true) ∧ t = (r, hp.set i (.inr (ci, fs.set k v))) := by
  unfold xPut at h
  split at h
  · split at h
    · cases h
    · rename_i hf
      split at h
      · rename_i hi hc
        split at h
        · rename_i hq
          cases h
          obtain ⟨rfl, h1, h2, h3, h4⟩ := hq
          exact ⟨_, _, _, _, _, _, _, rfl, hf, hi, hc, h1, h2, h3, h4, rfl⟩
        · cases h
      · cases h
  · cases h

theorem xAld_inv {t0 : Nat} {hp : List x_E} {st t : List Value} (h : xAld t0 hp st = some t) : ∃ i a r n f, st = .int i :: .ref a :: r ∧ hp[a]? = some (.inl (t0, n, .inl f)) ∧ vp_in i n ∧ t = .int (f i.toNatClampNeg) :: r := by
  unfold xAld at h
  split at h
  · split at h
    · rename_i ha
      split at h
      · rename_i hq
        cases h
        obtain ⟨rfl, h1⟩ := hq
        exact ⟨_, _, _, _, _, rfl, ha, h1, rfl⟩
      · cases h
    · cases h
  · cases h

theorem xAldL_inv {hp : List x_E} {st t : List Value} (h : xAldL hp st = some t) : ∃ i a r n f, st = .int i :: .ref a :: r ∧ hp[a]? = some (.inl (1, n, .inr (.inl f))) ∧ vp_in i n ∧ t = .long (f i.toNatClampNeg) :: r := by
  unfold xAldL at h
  split at h
  · split at h
    · rename_i ha
      split at h
      · rename_i hq
        cases h
        obtain ⟨rfl, h1⟩ := hq
        exact ⟨_, _, _, _, _, rfl, ha, h1, rfl⟩
      · cases h
    · cases h
  · cases h

theorem xAst_inv {t0 : Nat} {g : Int32 → Int32} {hp : List x_E} {st : List Value} {t : List Value × List x_E} (h : xAst t0 g hp st = some t) : ∃ x i a r n f, st = .int x :: .int i :: .ref a :: r ∧ hp[a]? = some (.inl (t0, n, .inl f)) ∧ vp_in i n ∧ t = (r, hp.set a (.inl (t0, n, .inl (upd f i.toNatClampNeg (g x))))) := by
  unfold xAst at h
  split at h
  · split at h
    · rename_i ha
      split at h
      · rename_i hq
        cases h
        obtain ⟨rfl, h1⟩ := hq
        exact ⟨_, _, _, _, _, _, rfl, ha, h1, rfl⟩
      · cases h
    · cases h
  · cases h

theorem xAstL_inv {hp : List x_E} {st : List Value} {t : List Value × List x_E} (h : xAstL hp st = some t) : ∃ x i a r n f, st = .long x :: .int i :: .ref a :: r ∧ hp[a]? = some (.inl (1, n, .inr (.inl f))) ∧ vp_in i n ∧ t = (r, hp.set a (.inl (1, n, .inr (.inl (vp_updL f i.toNatClampNeg x))))) := by
  unfold xAstL at h
  split at h
  · split at h
    · rename_i ha
      split at h
      · rename_i hq
        cases h
        obtain ⟨rfl, h1⟩ := hq
        exact ⟨_, _, _, _, _, _, rfl, ha, h1, rfl⟩
      · cases h
    · cases h
  · cases h

theorem xAlen_inv {hp : List x_E} {st t : List Value} (h : xAlen hp st = some t) : ∃ a r t0 y, st = .ref a :: r ∧ hp[a]? = some (.inl (t0, y)) ∧ t0 < 5 ∧ t = .int (Int32.ofNat y.1) :: r := by
  unfold xAlen at h
  split at h
  · split at h
    · rename_i ha
      split at h
      · rename_i hq
        cases h
        exact ⟨_, _, _, _, rfl, ha, hq, rfl⟩
      · cases h
    · cases h
  · cases h

/-- what the tables say of the links of an owner, and of the classes -/
def xFok (own : String) (fl : Nat → Option (Nat × Nat)) (cl : List vw_C) (Ts : List Cond) : Prop := ∀ (idx ci k : Nat), fl idx = some (ci, k) → ∃ q : vw_C, cl[ci]? = some q ∧ k < q.2.2 ∧ Cond.fieldLink own idx (q.2.1 k).1 (q.2.1 k).2.1 (q.2.1 k).2.2.1 ∈ Ts ∧ (q.2.1 k).1 = own
def xCok (cl : List vw_C) (Ts : List Cond) : Prop := ∀ (ci : Nat) (q : vw_C), cl[ci]? = some q → (∀ w ∈ u_ws q.1 q.2.1 q.2.2, w ∈ Ts) ∧ (∀ k, k < q.2.2 → parseFieldDescriptor (q.2.1 k).2.2.1 = some (xty q k)) ∧ (∀ a, a < q.2.2 → ∀ b, b < q.2.2 → a ≠ b → (q.2.1 a).2.1 ≠ (q.2.1 b).2.1)
section XS
variable {p : Program} {l : Launch} {e : Env} {R : Room} {s : State} {m : MethodId} {args : Array Value} {below : List Frame} {meth : Method} {c : Code} {H : Heap} {locs : List Loc} {cells slots : Nat} {Q : State → Prop}
set_option maxHeartbeats 4000000 in
set_option maxRecDepth 20000 in
/-- a plain step is sound -/
theorem xs1_ok {cc : ByteArray} {own : String} {Ts : List Cond} {cl : List vw_C} {D : va_G} {cA : Nat → ClassId} {A : Nat → Prop} {H0 : Heap} {ρ : Nat → Nat} {ini : Bool} {nL : Nat} {fl : Nat → Option (Nat × Nat)} {kc : Nat → Option Int32} {kl : Nat → Option Int64} {i : Instr} {len pc : Nat} {lv : List (Nat × Value)} {st : List Value} {hp : List x_E} {pc' : Nat} {lv' : List (Nat × Value)} {st' : List Value} {hp' : List x_E} {ls : Array Slot}
    (hx : p.tables.exec = Jvm.exec) (hb : c.code = cc) (hts : ∀ w ∈ Ts, w.before args s = true) (hown : s.vm.findClass own = some m.cls) (hK : va_K D cl (x_tys cA) s) (hini : ini = true → meth.name = "<init>") (hcl : xCok cl Ts) (hfl : xFok own fl cl Ts) (hkc : ∀ idx v, kc idx = some v → (Cond.constant own idx v).before args s = true) (hkl : ∀ idx v, kl idx = some v → (Cond.constantLong own idx v).before args s = true)
    (hw : va_P D cl (xw ρ cA hp) H ∧ va_D A (xw ρ cA hp) ∧ va_S A H0 H locs) (hl : lv_has ls nL (lv.map (xq ρ))) (hdg : decode cc pc = .ok (i, len)) (h : xs1 cl ini nL fl kc kl i len pc lv st hp = some (pc', lv', st', hp'))
    (kk : ∀ (H1 : Heap) (locs1 : List Loc) (ls1 : Array Slot), (va_P D cl (xw ρ cA hp') H1 ∧ va_D A (xw ρ cA hp') ∧ va_S A H0 H1 locs1) → lv_has ls1 nL (lv'.map (xq ρ)) → W p l e R s m args below meth c H1 locs1 cells slots Q (F0 m pc' ls1 (st'.map (xv ρ)))) : W p l e R s m args below meth c H locs cells slots Q (F0 m pc ls (st.map (xv ρ))) := by
  cases i with
  | iadd =>
    obtain ⟨rfl, h⟩ := xK_eq h
    obtain ⟨t, ht, he⟩ := Option.map_eq_some_iff.mp h
    obtain ⟨x, y, r, rfl, rfl⟩ := xI2_inv ht
    cases he
    exact lv_iadd hx hb hdg (kk H locs ls hw hl)
  | isub =>
    obtain ⟨rfl, h⟩ := xK_eq h
    obtain ⟨t, ht, he⟩ := Option.map_eq_some_iff.mp h
    obtain ⟨x, y, r, rfl, rfl⟩ := xI2_inv ht
    cases he
    exact lv_isub hx hb hdg (kk H locs ls hw hl)
  | imul =>
    obtain ⟨rfl, h⟩ := xK_eq h
    obtain ⟨t, ht, he⟩ := Option.map_eq_some_iff.mp h
    obtain ⟨x, y, r, rfl, rfl⟩ := xI2_inv ht
    cases he
    exact lv_imul hx hb hdg (kk H locs ls hw hl)
  | iand =>
    obtain ⟨rfl, h⟩ := xK_eq h
    obtain ⟨t, ht, he⟩ := Option.map_eq_some_iff.mp h
    obtain ⟨x, y, r, rfl, rfl⟩ := xI2_inv ht
    cases he
    exact lv_iand hx hb hdg (kk H locs ls hw hl)
  | ior =>
    obtain ⟨rfl, h⟩ := xK_eq h
    obtain ⟨t, ht, he⟩ := Option.map_eq_some_iff.mp h
    obtain ⟨x, y, r, rfl, rfl⟩ := xI2_inv ht
    cases he
    exact lv_ior hx hb hdg (kk H locs ls hw hl)
  | ixor =>
    obtain ⟨rfl, h⟩ := xK_eq h
    obtain ⟨t, ht, he⟩ := Option.map_eq_some_iff.mp h
    obtain ⟨x, y, r, rfl, rfl⟩ := xI2_inv ht
    cases he
    exact lv_ixor hx hb hdg (kk H locs ls hw hl)
  | ishl =>
    obtain ⟨rfl, h⟩ := xK_eq h
    obtain ⟨t, ht, he⟩ := Option.map_eq_some_iff.mp h
    obtain ⟨x, y, r, rfl, rfl⟩ := xI2_inv ht
    cases he
    exact lv_ishl hx hb hdg (kk H locs ls hw hl)
  | ishr =>
    obtain ⟨rfl, h⟩ := xK_eq h
    obtain ⟨t, ht, he⟩ := Option.map_eq_some_iff.mp h
    obtain ⟨x, y, r, rfl, rfl⟩ := xI2_inv ht
    cases he
    exact lv_ishr hx hb hdg (kk H locs ls hw hl)
  | iushr =>
    obtain ⟨rfl, h⟩ := xK_eq h
    obtain ⟨t, ht, he⟩ := Option.map_eq_some_iff.mp h
    obtain ⟨x, y, r, rfl, rfl⟩ := xI2_inv ht
    cases he
    exact lv_iushr hx hb hdg rfl (kk H locs ls hw hl)
  | idiv =>
    obtain ⟨rfl, h⟩ := xK_eq h
    obtain ⟨t, ht, he⟩ := Option.map_eq_some_iff.mp h
    obtain ⟨x, y, r, hz, rfl, rfl⟩ := xI2z_inv ht
    cases he
    exact lv_idiv hx hb hdg hz (kk H locs ls hw hl)
  | irem =>
    obtain ⟨rfl, h⟩ := xK_eq h
    obtain ⟨t, ht, he⟩ := Option.map_eq_some_iff.mp h
    obtain ⟨x, y, r, hz, rfl, rfl⟩ := xI2z_inv ht
    cases he
    exact lv_irem hx hb hdg hz (kk H locs ls hw hl)
  | ladd =>
    obtain ⟨rfl, h⟩ := xK_eq h
    obtain ⟨t, ht, he⟩ := Option.map_eq_some_iff.mp h
    obtain ⟨x, y, r, rfl, rfl⟩ := xL2_inv ht
    cases he
    exact lv_ladd hx hb hdg (kk H locs ls hw hl)
  | lsub =>
    obtain ⟨rfl, h⟩ := xK_eq h
    obtain ⟨t, ht, he⟩ := Option.map_eq_some_iff.mp h
    obtain ⟨x, y, r, rfl, rfl⟩ := xL2_inv ht
    cases he
    exact lv_lsub hx hb hdg (kk H locs ls hw hl)
  | lmul =>
    obtain ⟨rfl, h⟩ := xK_eq h
    obtain ⟨t, ht, he⟩ := Option.map_eq_some_iff.mp h
    obtain ⟨x, y, r, rfl, rfl⟩ := xL2_inv ht
    cases he
    exact lv_lmul hx hb hdg (kk H locs ls hw hl)
  | land =>
    obtain ⟨rfl, h⟩ := xK_eq h
    obtain ⟨t, ht, he⟩ := Option.map_eq_some_iff.mp h
    obtain ⟨x, y, r, rfl, rfl⟩ := xL2_inv ht
    cases he
    exact lv_land hx hb hdg (kk H locs ls hw hl)
  | lor =>
    obtain ⟨rfl, h⟩ := xK_eq h
    obtain ⟨t, ht, he⟩ := Option.map_eq_some_iff.mp h
    obtain ⟨x, y, r, rfl, rfl⟩ := xL2_inv ht
    cases he
    exact lv_lor hx hb hdg (kk H locs ls hw hl)
  | lxor =>
    obtain ⟨rfl, h⟩ := xK_eq h
    obtain ⟨t, ht, he⟩ := Option.map_eq_some_iff.mp h
    obtain ⟨x, y, r, rfl, rfl⟩ := xL2_inv ht
    cases he
    exact lv_lxor hx hb hdg (kk H locs ls hw hl)
  | lshl =>
    obtain ⟨rfl, h⟩ := xK_eq h
    obtain ⟨t, ht, he⟩ := Option.map_eq_some_iff.mp h
    obtain ⟨x, y, r, rfl, rfl⟩ := xLI_inv ht
    cases he
    exact lv_lshl hx hb hdg rfl (kk H locs ls hw hl)
  | lshr =>
    obtain ⟨rfl, h⟩ := xK_eq h
    obtain ⟨t, ht, he⟩ := Option.map_eq_some_iff.mp h
    obtain ⟨x, y, r, rfl, rfl⟩ := xLI_inv ht
    cases he
    exact lv_lshr hx hb hdg rfl (kk H locs ls hw hl)
  | lushr =>
    obtain ⟨rfl, h⟩ := xK_eq h
    obtain ⟨t, ht, he⟩ := Option.map_eq_some_iff.mp h
    obtain ⟨x, y, r, rfl, rfl⟩ := xLI_inv ht
    cases he
    exact lv_lushr hx hb hdg rfl (kk H locs ls hw hl)
  | lcmp =>
    obtain ⟨rfl, h⟩ := xK_eq h
    obtain ⟨t, ht, he⟩ := Option.map_eq_some_iff.mp h
    obtain ⟨x, y, r, rfl, rfl⟩ := xLL_inv ht
    cases he
    exact W.lcmp hx hb hdg (kk H locs ls hw hl)
  | ineg =>
    obtain ⟨rfl, h⟩ := xK_eq h
    obtain ⟨t, ht, he⟩ := Option.map_eq_some_iff.mp h
    obtain ⟨x, r, rfl, rfl⟩ := xII_inv ht
    cases he
    exact lv_ineg hx hb hdg (kk H locs ls hw hl)
  | i2b =>
    obtain ⟨rfl, h⟩ := xK_eq h
    obtain ⟨t, ht, he⟩ := Option.map_eq_some_iff.mp h
    obtain ⟨x, r, rfl, rfl⟩ := xII_inv ht
    cases he
    exact lv_i2b hx hb hdg rfl (kk H locs ls hw hl)
  | i2s =>
    obtain ⟨rfl, h⟩ := xK_eq h
    obtain ⟨t, ht, he⟩ := Option.map_eq_some_iff.mp h
    obtain ⟨x, r, rfl, rfl⟩ := xII_inv ht
    cases he
    exact lv_i2s hx hb hdg rfl (kk H locs ls hw hl)
  | i2c =>
    obtain ⟨rfl, h⟩ := xK_eq h
    obtain ⟨t, ht, he⟩ := Option.map_eq_some_iff.mp h
    obtain ⟨x, r, rfl, rfl⟩ := xII_inv ht
    cases he
    exact lv_i2c hx hb hdg rfl (kk H locs ls hw hl)
  | i2l =>
    obtain ⟨rfl, h⟩ := xK_eq h
    obtain ⟨t, ht, he⟩ := Option.map_eq_some_iff.mp h
    obtain ⟨x, r, rfl, rfl⟩ := xIL_inv ht
    cases he
    exact lv_i2l hx hb hdg rfl (kk H locs ls hw hl)
  | l2i =>
    obtain ⟨rfl, h⟩ := xK_eq h
    obtain ⟨t, ht, he⟩ := Option.map_eq_some_iff.mp h
    obtain ⟨x, r, rfl, rfl⟩ := xLi_inv ht
    cases he
    exact lv_l2i hx hb hdg rfl (kk H locs ls hw hl)
  | iconst n =>
    obtain ⟨rfl, h⟩ := xK_eq h
    cases h
    exact lv_iconst hx hb hdg rfl (kk H locs ls hw hl)
  | bipush n =>
    obtain ⟨rfl, h⟩ := xK_eq h
    cases h
    exact lv_bipush hx hb hdg rfl (kk H locs ls hw hl)
  | sipush n =>
    obtain ⟨rfl, h⟩ := xK_eq h
    cases h
    exact lv_sipush hx hb hdg rfl (kk H locs ls hw hl)
  | lconst n =>
    obtain ⟨rfl, h⟩ := xK_eq h
    cases h
    exact lv_lconst hx hb hdg rfl (kk H locs ls hw hl)
  | aconst_null =>
    obtain ⟨rfl, h⟩ := xK_eq h
    cases h
    exact lv_null hx hb hdg (kk H locs ls hw hl)
  | ldc idx =>
    obtain ⟨rfl, h⟩ := xK_eq h
    obtain ⟨t, ht, he⟩ := Option.map_eq_some_iff.mp h
    cases he
    exact lv_ldc hx hb hown (hkc _ _ ht) hdg (kk H locs ls hw hl)
  | ldc_w idx =>
    obtain ⟨rfl, h⟩ := xK_eq h
    obtain ⟨t, ht, he⟩ := Option.map_eq_some_iff.mp h
    cases he
    exact lv_ldcw hx hb hown (hkc _ _ ht) hdg (kk H locs ls hw hl)
  | ldc2_w idx =>
    obtain ⟨rfl, h⟩ := xK_eq h
    obtain ⟨t, ht, he⟩ := Option.map_eq_some_iff.mp h
    cases he
    exact lv_ldc2 hx hb hown (hkl _ _ ht) hdg (kk H locs ls hw hl)
  | iload i =>
    obtain ⟨rfl, h⟩ := xK_eq h
    obtain ⟨t, ht, he⟩ := Option.map_eq_some_iff.mp h
    obtain ⟨x, rfl, hm⟩ := xLIv_inv ht
    cases he
    exact lv_iload hx hb hdg (xat hl hm) (kk H locs ls hw hl)
  | iload_n i =>
    obtain ⟨rfl, h⟩ := xK_eq h
    obtain ⟨t, ht, he⟩ := Option.map_eq_some_iff.mp h
    obtain ⟨x, rfl, hm⟩ := xLIv_inv ht
    cases he
    exact lv_iload_n hx hb hdg rfl (xat hl hm) (kk H locs ls hw hl)
  | lload i =>
    obtain ⟨rfl, h⟩ := xK_eq h
    obtain ⟨t, ht, he⟩ := Option.map_eq_some_iff.mp h
    obtain ⟨x, rfl, hm⟩ := xLLv_inv ht
    cases he
    exact lv_lload hx hb hdg (xat hl hm) (kk H locs ls hw hl)
  | lload_n i =>
    obtain ⟨rfl, h⟩ := xK_eq h
    obtain ⟨t, ht, he⟩ := Option.map_eq_some_iff.mp h
    obtain ⟨x, rfl, hm⟩ := xLLv_inv ht
    cases he
    exact lv_lload_n hx hb hdg rfl (xat hl hm) (kk H locs ls hw hl)
  | aload i =>
    obtain ⟨rfl, h⟩ := xK_eq h
    obtain ⟨t, ht, he⟩ := Option.map_eq_some_iff.mp h
    rcases xLAv_inv ht with ⟨x, rfl, hm⟩ | ⟨rfl, hm⟩
    · cases he
      exact lv_aload hx hb hdg (xat hl hm) (kk H locs ls hw hl)
    · cases he
      exact lv_aloadN hx hb hdg (xat hl hm) (kk H locs ls hw hl)
  | aload_n i =>
    obtain ⟨rfl, h⟩ := xK_eq h
    obtain ⟨t, ht, he⟩ := Option.map_eq_some_iff.mp h
    rcases xLAv_inv ht with ⟨x, rfl, hm⟩ | ⟨rfl, hm⟩
    · cases he
      exact lv_aload_n hx hb hdg rfl (xat hl hm) (kk H locs ls hw hl)
    · cases he
      exact lv_aload_nN hx hb hdg rfl (xat hl hm) (kk H locs ls hw hl)
  | istore i =>
    obtain ⟨rfl, h⟩ := xK_eq h
    obtain ⟨q, hq, h⟩ := Option.bind_eq_some_iff.mp h
    obtain ⟨x, r, rfl, rfl⟩ := xPopI_inv hq
    split at h
    · rename_i hlt
      cases h
      exact lv_istore hx hb hdg hl hlt (xS1_map ρ lv _ (.int x)).symm (fun ls' hl' => kk H locs ls' hw hl')
    · cases h
  | istore_n i =>
    obtain ⟨rfl, h⟩ := xK_eq h
    obtain ⟨q, hq, h⟩ := Option.bind_eq_some_iff.mp h
    obtain ⟨x, r, rfl, rfl⟩ := xPopI_inv hq
    split at h
    · rename_i hlt
      cases h
      exact lv_istore_n hx hb hdg rfl hl hlt (xS1_map ρ lv _ (.int x)).symm (fun ls' hl' => kk H locs ls' hw hl')
    · cases h
  | lstore i =>
    obtain ⟨rfl, h⟩ := xK_eq h
    obtain ⟨q, hq, h⟩ := Option.bind_eq_some_iff.mp h
    obtain ⟨x, r, rfl, rfl⟩ := xPopL_inv hq
    split at h
    · rename_i hlt
      cases h
      exact lv_lstore hx hb hdg hl hlt (xS2_map ρ lv _ (.long x)).symm (fun ls' hl' => kk H locs ls' hw hl')
    · cases h
  | lstore_n i =>
    obtain ⟨rfl, h⟩ := xK_eq h
    obtain ⟨q, hq, h⟩ := Option.bind_eq_some_iff.mp h
    obtain ⟨x, r, rfl, rfl⟩ := xPopL_inv hq
    split at h
    · rename_i hlt
      cases h
      exact lv_lstore_n hx hb hdg rfl hl hlt (xS2_map ρ lv _ (.long x)).symm (fun ls' hl' => kk H locs ls' hw hl')
    · cases h
  | astore i =>
    obtain ⟨rfl, h⟩ := xK_eq h
    obtain ⟨q, hq, h⟩ := Option.bind_eq_some_iff.mp h
    split at h
    · rename_i hlt
      rcases xPopA_inv hq with ⟨x, r, rfl, rfl⟩ | ⟨r, rfl, rfl⟩
      · cases h
        exact lv_astore hx hb hdg hl hlt (xS1_map ρ lv _ (.ref x)).symm (fun ls' hl' => kk H locs ls' hw hl')
      · cases h
        exact lv_astoreN hx hb hdg hl hlt (xS1_map ρ lv _ .null).symm (fun ls' hl' => kk H locs ls' hw hl')
    · cases h
  | astore_n i =>
    obtain ⟨rfl, h⟩ := xK_eq h
    obtain ⟨q, hq, h⟩ := Option.bind_eq_some_iff.mp h
    split at h
    · rename_i hlt
      rcases xPopA_inv hq with ⟨x, r, rfl, rfl⟩ | ⟨r, rfl, rfl⟩
      · cases h
        exact lv_astore_n hx hb hdg rfl hl hlt (xS1_map ρ lv _ (.ref x)).symm (fun ls' hl' => kk H locs ls' hw hl')
      · cases h
        exact lv_astore_nN hx hb hdg rfl hl hlt (xS1_map ρ lv _ .null).symm (fun ls' hl' => kk H locs ls' hw hl')
    · cases h
  | iinc i n =>
    obtain ⟨rfl, h⟩ := xK_eq h
    obtain ⟨x, hq, h⟩ := Option.bind_eq_some_iff.mp h
    have hm := xLIn_inv hq
    split at h
    · rename_i hlt
      cases h
      obtain ⟨k, hk⟩ := List.getElem?_of_mem (List.mem_map.mpr ⟨_, hm, rfl⟩ : xq ρ (i, .int x) ∈ lv.map (xq ρ))
      exact lv_iinc hx hb hdg hl (k := k) hk rfl hlt (xS1_map ρ lv _ (.int (x + Int32.ofInt n))).symm (fun ls' hl' => kk H locs ls' hw hl')
    · cases h
  | ifCond cn off =>
    obtain ⟨rfl, h⟩ := xK_eq h
    obtain ⟨q, hq, h⟩ := Option.bind_eq_some_iff.mp h
    obtain ⟨x, r, rfl, rfl⟩ := xPopI_inv hq
    obtain ⟨t, ht, he⟩ := Option.map_eq_some_iff.mp h
    have htg := xTg_eq ht
    cases he
    cases cn with
    | eq => exact lv_if_eq hx hb hdg htg (fun hc => by have K := kk H locs ls hw hl; rw [if_pos (by simp [xCn, hc])] at K; exact K) (fun hc => by have K := kk H locs ls hw hl; rw [if_neg (by simp [xCn, hc])] at K; exact K)
    | ne => exact lv_if_ne hx hb hdg htg (fun hc => by have K := kk H locs ls hw hl; rw [if_pos (by simp [xCn, hc])] at K; exact K) (fun hc => by have K := kk H locs ls hw hl; rw [if_neg (by simp [xCn, hc])] at K; exact K)
    | lt => exact lv_if_lt hx hb hdg htg (fun hc => by have K := kk H locs ls hw hl; rw [if_pos (by simp [xCn, hc])] at K; exact K) (fun hc => by have K := kk H locs ls hw hl; rw [if_neg (by simp [xCn, hc])] at K; exact K)
    | ge => exact lv_if_ge hx hb hdg htg (fun hc => by have K := kk H locs ls hw hl; rw [if_pos (by simp [xCn, hc])] at K; exact K) (fun hc => by have K := kk H locs ls hw hl; rw [if_neg (by simp [xCn, hc])] at K; exact K)
    | gt => exact lv_if_gt hx hb hdg htg (fun hc => by have K := kk H locs ls hw hl; rw [if_pos (by simp [xCn, hc])] at K; exact K) (fun hc => by have K := kk H locs ls hw hl; rw [if_neg (by simp [xCn, hc])] at K; exact K)
    | le => exact lv_if_le hx hb hdg htg (fun hc => by have K := kk H locs ls hw hl; rw [if_pos (by simp [xCn, hc])] at K; exact K) (fun hc => by have K := kk H locs ls hw hl; rw [if_neg (by simp [xCn, hc])] at K; exact K)
  | if_icmp cn off =>
    obtain ⟨rfl, h⟩ := xK_eq h
    obtain ⟨q, hq, h⟩ := Option.bind_eq_some_iff.mp h
    obtain ⟨y, r, rfl, rfl⟩ := xPopI_inv hq
    obtain ⟨q2, hq2, h⟩ := Option.bind_eq_some_iff.mp h
    obtain ⟨x, r2, rfl, rfl⟩ := xPopI_inv hq2
    obtain ⟨t, ht, he⟩ := Option.map_eq_some_iff.mp h
    have htg := xTg_eq ht
    cases he
    cases cn with
    | eq => exact lv_icmp_eq hx hb hdg htg (fun hc => by have K := kk H locs ls hw hl; rw [if_pos (by simp [xCn, hc])] at K; exact K) (fun hc => by have K := kk H locs ls hw hl; rw [if_neg (by simp [xCn, hc])] at K; exact K)
    | ne => exact lv_icmp_ne hx hb hdg htg (fun hc => by have K := kk H locs ls hw hl; rw [if_pos (by simp [xCn, hc])] at K; exact K) (fun hc => by have K := kk H locs ls hw hl; rw [if_neg (by simp [xCn, hc])] at K; exact K)
    | lt => exact lv_icmp_lt hx hb hdg htg (fun hc => by have K := kk H locs ls hw hl; rw [if_pos (by simp [xCn, hc])] at K; exact K) (fun hc => by have K := kk H locs ls hw hl; rw [if_neg (by simp [xCn, hc])] at K; exact K)
    | ge => exact lv_icmp_ge hx hb hdg htg (fun hc => by have K := kk H locs ls hw hl; rw [if_pos (by simp [xCn, hc])] at K; exact K) (fun hc => by have K := kk H locs ls hw hl; rw [if_neg (by simp [xCn, hc])] at K; exact K)
    | gt => exact lv_icmp_gt hx hb hdg htg (fun hc => by have K := kk H locs ls hw hl; rw [if_pos (by simp [xCn, hc])] at K; exact K) (fun hc => by have K := kk H locs ls hw hl; rw [if_neg (by simp [xCn, hc])] at K; exact K)
    | le => exact lv_icmp_le hx hb hdg htg (fun hc => by have K := kk H locs ls hw hl; rw [if_pos (by simp [xCn, hc])] at K; exact K) (fun hc => by have K := kk H locs ls hw hl; rw [if_neg (by simp [xCn, hc])] at K; exact K)
  | goto off =>
    obtain ⟨rfl, h⟩ := xK_eq h
    obtain ⟨t, ht, he⟩ := Option.map_eq_some_iff.mp h
    cases he
    exact lv_goto hx hb hdg (xTg_eq ht) (kk H locs ls hw hl)
  | ifnull off =>
    obtain ⟨rfl, h⟩ := xK_eq h
    obtain ⟨q, hq, h⟩ := Option.bind_eq_some_iff.mp h
    obtain ⟨t, ht, he⟩ := Option.map_eq_some_iff.mp h
    rcases xPopA_inv hq with ⟨x, r, rfl, rfl⟩ | ⟨r, rfl, rfl⟩
    · cases he
      exact lv_ifnull hx hb hdg (by have K := kk H locs ls hw hl; rw [if_neg (by simp)] at K; exact K)
    · cases he
      exact lv_ifnullN hx hb hdg (xTg_eq ht) (by have K := kk H locs ls hw hl; rw [if_pos rfl] at K; exact K)
  | ifnonnull off =>
    obtain ⟨rfl, h⟩ := xK_eq h
    obtain ⟨q, hq, h⟩ := Option.bind_eq_some_iff.mp h
    obtain ⟨t, ht, he⟩ := Option.map_eq_some_iff.mp h
    rcases xPopA_inv hq with ⟨x, r, rfl, rfl⟩ | ⟨r, rfl, rfl⟩
    · cases he
      exact lv_ifnonnull hx hb hdg (xTg_eq ht) (by have K := kk H locs ls hw hl; rw [if_neg (by simp)] at K; exact K)
    · cases he
      exact lv_ifnonnullN hx hb hdg (by have K := kk H locs ls hw hl; rw [if_pos rfl] at K; exact K)
  | tableswitch d lo hi offs =>
    obtain ⟨q, hq, h⟩ := Option.bind_eq_some_iff.mp h
    obtain ⟨x, r, rfl, rfl⟩ := xPopI_inv hq
    obtain ⟨off, ho, h⟩ := Option.bind_eq_some_iff.mp h
    obtain ⟨t, ht, he⟩ := Option.map_eq_some_iff.mp h
    have htg := xTg_eq ht
    cases he
    unfold xTab at ho
    split at ho
    · rename_i hc
      cases ho
      exact lv_tableOut hx hb hdg hc htg (kk H locs ls hw hl)
    · rename_i hc
      exact lv_tableIn hx hb hdg (fun z => hc (Or.inl z)) (fun z => hc (Or.inr z)) ho htg (kk H locs ls hw hl)
  | lookupswitch d ps =>
    dsimp only [xs1] at h
    split at h
    · rename_i hp'
      obtain ⟨q, hq, h⟩ := Option.bind_eq_some_iff.mp h
      obtain ⟨x, r, rfl, rfl⟩ := xPopI_inv hq
      obtain ⟨t, ht, he⟩ := Option.map_eq_some_iff.mp h
      have htg := xTg_eq ht
      cases he
      exact lv_lookup hx hb hdg hp' rfl htg (kk H locs ls hw hl)
    · cases h
  | dup =>
    obtain ⟨rfl, h⟩ := xK_eq h
    obtain ⟨t, ht, he⟩ := Option.map_eq_some_iff.mp h
    obtain ⟨v, r, c1, rfl, rfl⟩ := xDup_inv ht
    cases he
    exact lv_dup hx hb hdg ((xv_cat ρ v).trans c1) (kk H locs ls hw hl)
  | pop =>
    obtain ⟨rfl, h⟩ := xK_eq h
    obtain ⟨t, ht, he⟩ := Option.map_eq_some_iff.mp h
    obtain ⟨v, r, c1, rfl, rfl⟩ := xPop_inv ht
    cases he
    exact lv_pop hx hb hdg ((xv_cat ρ v).trans c1) (kk H locs ls hw hl)
  | dup_x1 =>
    obtain ⟨rfl, h⟩ := xK_eq h
    obtain ⟨t, ht, he⟩ := Option.map_eq_some_iff.mp h
    obtain ⟨v, w, r, c1, c2, rfl, rfl⟩ := xDupX1_inv ht
    cases he
    exact lv_dup_x1 hx hb hdg ((xv_cat ρ v).trans c1) ((xv_cat ρ w).trans c2) (kk H locs ls hw hl)
  | dup_x2 =>
    obtain ⟨rfl, h⟩ := xK_eq h
    obtain ⟨t, ht, he⟩ := Option.map_eq_some_iff.mp h
    obtain ⟨v, w, u, r, c1, c2, c3, rfl, rfl⟩ := xDupX2_inv ht
    cases he
    exact lv_dup_x2 hx hb hdg ((xv_cat ρ v).trans c1) ((xv_cat ρ w).trans c2) ((xv_cat ρ u).trans c3) (kk H locs ls hw hl)
  | dup2 =>
    obtain ⟨rfl, h⟩ := xK_eq h
    obtain ⟨t, ht, he⟩ := Option.map_eq_some_iff.mp h
    obtain ⟨v, w, r, c1, c2, rfl, rfl⟩ := xDup2_inv ht
    cases he
    exact lv_dup2_11 hx hb hdg ((xv_cat ρ v).trans c1) ((xv_cat ρ w).trans c2) (kk H locs ls hw hl)
  | pop2 =>
    obtain ⟨rfl, h⟩ := xK_eq h
    obtain ⟨t, ht, he⟩ := Option.map_eq_some_iff.mp h
    obtain ⟨v, r, c1, rfl, rfl⟩ := xPop2_inv ht
    cases he
    exact lv_pop2_2 hx hb hdg ((xv_cat ρ v).trans c1) (kk H locs ls hw hl)
  | getfield idx =>
    obtain ⟨rfl, h⟩ := xK_eq h
    obtain ⟨t, ht, he⟩ := Option.map_eq_some_iff.mp h
    obtain ⟨i, r, ci, k, fs, v, rfl, hf, hi, hv, rfl⟩ := xGet_inv ht
    cases he
    obtain ⟨⟨C, T, N⟩, hc, hk, hlk, hd⟩ := hfl idx ci k hf
    obtain ⟨hin, -, -⟩ := hcl ci _ hc
    exact va_get (v := xv ρ v) hx hb hts hin hown hK hw.1 i (by rw [xw_get, hi]; rfl) hc k hk (hts _ hlk) (fun _ z => z) (by rw [List.getElem?_map, hv]; rfl) hdg (kk H locs ls hw hl)
  | putfield idx =>
    obtain ⟨rfl, h⟩ := xK_eq h
    obtain ⟨t, ht, he⟩ := Option.map_eq_some_iff.mp h
    obtain ⟨v, i, r, ci, k, fs, ⟨C, T, N⟩, rfl, hf, hi, hc, hlen, hn, hft, hfin, rfl⟩ := xPut_inv ht
    cases he
    obtain ⟨q', hc', hk, hlk, hd⟩ := hfl idx ci k hf
    rw [hc] at hc'
    cases hc'
    obtain ⟨hin, hty, hnm⟩ := hcl ci _ hc
    have hi' : (xw ρ cA hp)[i]? = some (ρ i, .inr (ci, fs.map (xv ρ))) := by rw [xw_get, hi]; rfl
    have hlt : i < hp.length := (List.getElem?_eq_some_iff.mp hi).1
    have hset : (xw ρ cA hp).set i (ρ i, .inr (ci, (fs.map (xv ρ)).set k (xv ρ v))) = xw ρ cA (hp.set i (.inr (ci, fs.set k v))) := by
      rw [← xw_set hlt]
      show _ = (xw ρ cA hp).set i (ρ i, .inr (ci, (fs.set k v).map (xv ρ)))
      rw [List.map_set]
    by_cases hF : (T k).2.2.2 = false
    · refine va_put (v := xv ρ v) hx hb hts hin (xty (C, T, N)) hty hnm hown hK hw.1 hw.2.1 hw.2.2 i hi' hc k hk (hts _ hlk) (fun _ z => z) hF (hty k hk) (xnar hn) (xfit hft) (by rw [List.length_map]; exact hlen) hdg (fun H1 locs1 a1 a2 a3 => ?_)
      rw [hset] at a1 a2
      exact kk H1 locs1 ls ⟨a1, a2, a3⟩ hl
    · have hini' : ini = true := hfin.resolve_left hF
      refine va_putF (v := xv ρ v) hx hb hts hin (xty (C, T, N)) hty hnm hown hK hw.1 hw.2.1 hw.2.2 i hi' hc k hk (hts _ hlk) (fun _ z => z) (by simpa using hF) (hini hini') hd (hty k hk) (xnar hn) (xfit hft) (by rw [List.length_map]; exact hlen) hdg (fun H1 locs1 a1 a2 a3 => ?_)
      rw [hset] at a1 a2
      exact kk H1 locs1 ls ⟨a1, a2, a3⟩ hl
  | iaload =>
    obtain ⟨rfl, h⟩ := xK_eq h
    obtain ⟨t, ht, he⟩ := Option.map_eq_some_iff.mp h
    obtain ⟨i, a, r, n, f, rfl, ha, hb2, rfl⟩ := xAld_inv ht
    cases he
    exact va_iald hx hb hK hw.1 a 0 (by rw [xw_get, ha]; rfl) rfl hb2 hdg (kk H locs ls hw hl)
  | caload =>
    obtain ⟨rfl, h⟩ := xK_eq h
    obtain ⟨t, ht, he⟩ := Option.map_eq_some_iff.mp h
    obtain ⟨i, a, r, n, f, rfl, ha, hb2, rfl⟩ := xAld_inv ht
    cases he
    exact va_cald hx hb hK hw.1 a 3 (by rw [xw_get, ha]; rfl) rfl hb2 hdg (kk H locs ls hw hl)
  | baload =>
    obtain ⟨rfl, h⟩ := xK_eq h
    obtain ⟨t, ht, he⟩ := Option.map_eq_some_iff.mp h
    rcases xor ht with ht | ht
    · obtain ⟨i, a, r, n, f, rfl, ha, hb2, rfl⟩ := xAld_inv ht
      cases he
      exact va_bald hx hb hK hw.1 a 2 (by rw [xw_get, ha]; rfl) rfl hb2 hdg (kk H locs ls hw hl)
    · obtain ⟨i, a, r, n, f, rfl, ha, hb2, rfl⟩ := xAld_inv ht
      cases he
      exact va_zald hx hb hK hw.1 a 4 (by rw [xw_get, ha]; rfl) rfl hb2 hdg (kk H locs ls hw hl)
  | laload =>
    obtain ⟨rfl, h⟩ := xK_eq h
    obtain ⟨t, ht, he⟩ := Option.map_eq_some_iff.mp h
    obtain ⟨i, a, r, n, f, rfl, ha, hb2, rfl⟩ := xAldL_inv ht
    cases he
    exact va_lald hx hb hK hw.1 a 1 (by rw [xw_get, ha]; rfl) rfl hb2 hdg (kk H locs ls hw hl)
  | iastore =>
    obtain ⟨rfl, h⟩ := xK_eq h
    obtain ⟨t, ht, he⟩ := Option.map_eq_some_iff.mp h
    obtain ⟨x, i, a, r, n, f, rfl, ha, hb2, rfl⟩ := xAst_inv ht
    cases he
    have hlt : a < hp.length := (List.getElem?_eq_some_iff.mp ha).1
    refine va_iast hx hb hK hw.1 hw.2.1 hw.2.2 a 0 (by rw [xw_get, ha]; rfl) rfl hb2 hdg (fun H1 locs1 a1 a2 a3 => ?_)
    rw [xsetA hlt] at a1 a2
    exact kk H1 locs1 ls ⟨a1, a2, a3⟩ hl
  | castore =>
    obtain ⟨rfl, h⟩ := xK_eq h
    obtain ⟨t, ht, he⟩ := Option.map_eq_some_iff.mp h
    obtain ⟨x, i, a, r, n, f, rfl, ha, hb2, rfl⟩ := xAst_inv ht
    cases he
    have hlt : a < hp.length := (List.getElem?_eq_some_iff.mp ha).1
    refine va_cast hx hb hK hw.1 hw.2.1 hw.2.2 a 3 (by rw [xw_get, ha]; rfl) rfl hb2 hdg (fun H1 locs1 a1 a2 a3 => ?_)
    rw [xsetA hlt] at a1 a2
    exact kk H1 locs1 ls ⟨a1, a2, a3⟩ hl
  | bastore =>
    obtain ⟨rfl, h⟩ := xK_eq h
    obtain ⟨t, ht, he⟩ := Option.map_eq_some_iff.mp h
    rcases xor ht with ht | ht
    ·
      obtain ⟨x, i, a, r, n, f, rfl, ha, hb2, rfl⟩ := xAst_inv ht
      cases he
      have hlt : a < hp.length := (List.getElem?_eq_some_iff.mp ha).1
      refine va_bast hx hb hK hw.1 hw.2.1 hw.2.2 a 2 (by rw [xw_get, ha]; rfl) rfl hb2 hdg (fun H1 locs1 a1 a2 a3 => ?_)
      rw [xsetA hlt] at a1 a2
      exact kk H1 locs1 ls ⟨a1, a2, a3⟩ hl
    ·
      obtain ⟨x, i, a, r, n, f, rfl, ha, hb2, rfl⟩ := xAst_inv ht
      cases he
      have hlt : a < hp.length := (List.getElem?_eq_some_iff.mp ha).1
      refine va_zast hx hb hK hw.1 hw.2.1 hw.2.2 a 4 (by rw [xw_get, ha]; rfl) rfl hb2 hdg (fun H1 locs1 a1 a2 a3 => ?_)
      rw [xsetA hlt] at a1 a2
      exact kk H1 locs1 ls ⟨a1, a2, a3⟩ hl
  | lastore =>
    obtain ⟨rfl, h⟩ := xK_eq h
    obtain ⟨t, ht, he⟩ := Option.map_eq_some_iff.mp h
    obtain ⟨x, i, a, r, n, f, rfl, ha, hb2, rfl⟩ := xAstL_inv ht
    cases he
    have hlt : a < hp.length := (List.getElem?_eq_some_iff.mp ha).1
    refine va_last hx hb hK hw.1 hw.2.1 hw.2.2 a 1 (by rw [xw_get, ha]; rfl) rfl hb2 hdg (fun H1 locs1 a1 a2 a3 => ?_)
    rw [xsetA hlt] at a1 a2
    exact kk H1 locs1 ls ⟨a1, a2, a3⟩ hl
  | arraylength =>
    obtain ⟨rfl, h⟩ := xK_eq h
    obtain ⟨t, ht, he⟩ := Option.map_eq_some_iff.mp h
    obtain ⟨a, r, t0, y, rfl, ha, ht5, rfl⟩ := xAlen_inv ht
    cases he
    obtain ⟨ty, hty⟩ := xtys5 cA ht5
    exact va_alen hx hb hK hw.1 a t0 (by rw [xw_get, ha]; rfl) hty rfl hdg (kk H locs ls hw hl)
  | _ => cases h
end XS
