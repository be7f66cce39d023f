/-! THE SAME INTERPRETER, MADE TO BE COUNTED OUT: values are brought to their least form at each step. -/
def xs1F (i : Instr) : (cl : List vw_C) → (ini : Bool) → (nL : Nat) → (fl : Nat → Option (Nat × Nat)) → (kc : Nat → Option Int32) → (kl : Nat → Option Int64) → (len pc : Nat) → (lv : List (Nat × Value)) → (st : List Value) → (hp : List x_E) → x_R := match i with
  | .iadd => fun cl ini nL fl kc kl len pc lv st hp => xK len 1 ((xI2 (fun x y => x + y) st).map fun t => (pc + 1, lv, t, hp))
  | .isub => fun cl ini nL fl kc kl len pc lv st hp => xK len 1 ((xI2 (fun x y => x - y) st).map fun t => (pc + 1, lv, t, hp))
  | .imul => fun cl ini nL fl kc kl len pc lv st hp => xK len 1 ((xI2 (fun x y => x * y) st).map fun t => (pc + 1, lv, t, hp))
  | .iand => fun cl ini nL fl kc kl len pc lv st hp => xK len 1 ((xI2 (fun x y => x &&& y) st).map fun t => (pc + 1, lv, t, hp))
  | .ior => fun cl ini nL fl kc kl len pc lv st hp => xK len 1 ((xI2 (fun x y => x ||| y) st).map fun t => (pc + 1, lv, t, hp))
  | .ixor => fun cl ini nL fl kc kl len pc lv st hp => xK len 1 ((xI2 (fun x y => x ^^^ y) st).map fun t => (pc + 1, lv, t, hp))
  | .ishl => fun cl ini nL fl kc kl len pc lv st hp => xK len 1 ((xI2 (fun x y => x <<< (y &&& 31)) st).map fun t => (pc + 1, lv, t, hp))
  | .ishr => fun cl ini nL fl kc kl len pc lv st hp => xK len 1 ((xI2 (fun x y => x >>> (y &&& 31)) st).map fun t => (pc + 1, lv, t, hp))
  | .iushr => fun cl ini nL fl kc kl len pc lv st hp => xK len 1 ((xI2 (fun x y => (x.toUInt32 >>> (y.toUInt32 &&& Int32.toUInt32 31)).toInt32) st).map fun t => (pc + 1, lv, t, hp))
  | .idiv => fun cl ini nL fl kc kl len pc lv st hp => xK len 1 ((xI2z (fun x y => x / y) st).map fun t => (pc + 1, lv, t, hp))
  | .irem => fun cl ini nL fl kc kl len pc lv st hp => xK len 1 ((xI2z (fun x y => x - x / y * y) st).map fun t => (pc + 1, lv, t, hp))
  | .ladd => fun cl ini nL fl kc kl len pc lv st hp => xK len 1 ((xL2 (fun x y => x + y) st).map fun t => (pc + 1, lv, t, hp))
  | .lsub => fun cl ini nL fl kc kl len pc lv st hp => xK len 1 ((xL2 (fun x y => x - y) st).map fun t => (pc + 1, lv, t, hp))
  | .lmul => fun cl ini nL fl kc kl len pc lv st hp => xK len 1 ((xL2 (fun x y => x * y) st).map fun t => (pc + 1, lv, t, hp))
  | .land => fun cl ini nL fl kc kl len pc lv st hp => xK len 1 ((xL2 (fun x y => x &&& y) st).map fun t => (pc + 1, lv, t, hp))
  | .lor => fun cl ini nL fl kc kl len pc lv st hp => xK len 1 ((xL2 (fun x y => x ||| y) st).map fun t => (pc + 1, lv, t, hp))
  | .lxor => fun cl ini nL fl kc kl len pc lv st hp => xK len 1 ((xL2 (fun x y => x ^^^ y) st).map fun t => (pc + 1, lv, t, hp))
  | .lshl => fun cl ini nL fl kc kl len pc lv st hp => xK len 1 ((xLI (fun x y => x <<< (y.toInt64 &&& 63)) st).map fun t => (pc + 1, lv, t, hp))
  | .lshr => fun cl ini nL fl kc kl len pc lv st hp => xK len 1 ((xLI (fun x y => x >>> (y.toInt64 &&& 63)) st).map fun t => (pc + 1, lv, t, hp))
  | .lushr => fun cl ini nL fl kc kl len pc lv st hp => xK len 1 ((xLI (fun x y => (x.toUInt64 >>> (y.toInt64.toUInt64 &&& Int64.toUInt64 63)).toInt64) st).map fun t => (pc + 1, lv, t, hp))
  | .lcmp => fun cl ini nL fl kc kl len pc lv st hp => xK len 1 ((xLL lg_cmp st).map fun t => (pc + 1, lv, t, hp))
  | .ineg => fun cl ini nL fl kc kl len pc lv st hp => xK len 1 ((xII (fun x => -x) st).map fun t => (pc + 1, lv, t, hp))
  | .i2b => fun cl ini nL fl kc kl len pc lv st hp => xK len 1 ((xII (fun x => x.toInt8.toInt32) st).map fun t => (pc + 1, lv, t, hp))
  | .i2s => fun cl ini nL fl kc kl len pc lv st hp => xK len 1 ((xII (fun x => x.toInt16.toInt32) st).map fun t => (pc + 1, lv, t, hp))
  | .i2c => fun cl ini nL fl kc kl len pc lv st hp => xK len 1 ((xII (fun x => (x.toUInt32 % 65536).toInt32) st).map fun t => (pc + 1, lv, t, hp))
  | .i2l => fun cl ini nL fl kc kl len pc lv st hp => xK len 1 ((xIL Int32.toInt64 st).map fun t => (pc + 1, lv, t, hp))
  | .l2i => fun cl ini nL fl kc kl len pc lv st hp => xK len 1 ((xLi Int64.toInt32 st).map fun t => (pc + 1, lv, t, hp))
  | .iconst n => fun cl ini nL fl kc kl len pc lv st hp => xK len 1 (some (pc + 1, lv, .int (Int32.ofInt n) :: st, hp))
  | .bipush n => fun cl ini nL fl kc kl len pc lv st hp => xK len 2 (some (pc + 2, lv, .int (Int8.ofInt n).toInt32 :: st, hp))
  | .sipush n => fun cl ini nL fl kc kl len pc lv st hp => xK len 3 (some (pc + 3, lv, .int (Int16.ofInt n).toInt32 :: st, hp))
  | .lconst n => fun cl ini nL fl kc kl len pc lv st hp => xK len 1 (some (pc + 1, lv, .long (Int64.ofNat (n : Nat)) :: st, hp))
  | .aconst_null => fun cl ini nL fl kc kl len pc lv st hp => xK len 1 (some (pc + 1, lv, .null :: st, hp))
  | .ldc idx => fun cl ini nL fl kc kl len pc lv st hp => xK len 2 ((kc idx).map fun v => (pc + 2, lv, .int v :: st, hp))
  | .ldc_w idx => fun cl ini nL fl kc kl len pc lv st hp => xK len 3 ((kc idx).map fun v => (pc + 3, lv, .int v :: st, hp))
  | .ldc2_w idx => fun cl ini nL fl kc kl len pc lv st hp => xK len 3 ((kl idx).map fun v => (pc + 3, lv, .long v :: st, hp))
  | .iload i => fun cl ini nL fl kc kl len pc lv st hp => xK len 2 ((xLIv i lv).map fun v => (pc + 2, lv, v :: st, hp))
  | .iload_n i => fun cl ini nL fl kc kl len pc lv st hp => xK len 1 ((xLIv i.val lv).map fun v => (pc + 1, lv, v :: st, hp))
  | .lload i => fun cl ini nL fl kc kl len pc lv st hp => xK len 2 ((xLLv i lv).map fun v => (pc + 2, lv, v :: st, hp))
  | .lload_n i => fun cl ini nL fl kc kl len pc lv st hp => xK len 1 ((xLLv i.val lv).map fun v => (pc + 1, lv, v :: st, hp))
  | .aload i => fun cl ini nL fl kc kl len pc lv st hp => xK len 2 ((xLAv i lv).map fun v => (pc + 2, lv, v :: st, hp))
  | .aload_n i => fun cl ini nL fl kc kl len pc lv st hp => xK len 1 ((xLAv i.val lv).map fun v => (pc + 1, lv, v :: st, hp))
  | .istore i => fun cl ini nL fl kc kl len pc lv st hp => xK len 2 ((xPopI st).bind fun q => if i < nL then some (pc + 2, xS1 lv i (.int q.1), q.2, hp) else none)
  | .istore_n i => fun cl ini nL fl kc kl len pc lv st hp => xK len 1 ((xPopI st).bind fun q => if i.val < nL then some (pc + 1, xS1 lv (i.val) (.int q.1), q.2, hp) else none)
  | .lstore i => fun cl ini nL fl kc kl len pc lv st hp => xK len 2 ((xPopL st).bind fun q => if i + 1 < nL then some (pc + 2, xS2 lv i (.long q.1), q.2, hp) else none)
  | .lstore_n i => fun cl ini nL fl kc kl len pc lv st hp => xK len 1 ((xPopL st).bind fun q => if i.val + 1 < nL then some (pc + 1, xS2 lv (i.val) (.long q.1), q.2, hp) else none)
  | .astore i => fun cl ini nL fl kc kl len pc lv st hp => xK len 2 ((xPopA st).bind fun q => if i < nL then some (pc + 2, xS1 lv i q.1, q.2, hp) else none)
  | .astore_n i => fun cl ini nL fl kc kl len pc lv st hp => xK len 1 ((xPopA st).bind fun q => if i.val < nL then some (pc + 1, xS1 lv (i.val) q.1, q.2, hp) else none)
  | .iinc i n => fun cl ini nL fl kc kl len pc lv st hp => xK len 3 ((xLIn i lv).bind fun x => if i < nL then some (pc + 3, xS1 lv i (.int (x + Int32.ofInt n)), st, hp) else none)
  | .ifCond cn off => fun cl ini nL fl kc kl len pc lv st hp => xK len 3 ((xPopI st).bind fun q => (xTg pc off).map fun t => (if xCn cn q.1 0 then t else pc + 3, lv, q.2, hp))
  | .if_icmp cn off => fun cl ini nL fl kc kl len pc lv st hp => xK len 3 ((xPopI st).bind fun q => (xPopI q.2).bind fun q2 => (xTg pc off).map fun t => (if xCn cn q2.1 q.1 then t else pc + 3, lv, q2.2, hp))
  | .goto off => fun cl ini nL fl kc kl len pc lv st hp => xK len 3 ((xTg pc off).map fun t => (t, lv, st, hp))
  | .ifnull off => fun cl ini nL fl kc kl len pc lv st hp => xK len 3 ((xPopA st).bind fun q => (xTg pc off).map fun t => (if q.1 = .null then t else pc + 3, lv, q.2, hp))
  | .ifnonnull off => fun cl ini nL fl kc kl len pc lv st hp => xK len 3 ((xPopA st).bind fun q => (xTg pc off).map fun t => (if q.1 = .null then pc + 3 else t, lv, q.2, hp))
  | .tableswitch d lo hi offs => fun cl ini nL fl kc kl len pc lv st hp => (xPopI st).bind fun q => (xTab d lo hi offs q.1).bind fun off => (xTg pc off).map fun t => (t, lv, q.2, hp)
  | .lookupswitch d ps => fun cl ini nL fl kc kl len pc lv st hp => if (ps.toList.zip (ps.toList.drop 1)).all (fun (a, next) => a.1 < next.1) = true then (xPopI st).bind fun q => (xTg pc (Op.lookupswitch.offset ps.toList d q.1.toInt)).map fun t => (t, lv, q.2, hp) else none
  | .dup => fun cl ini nL fl kc kl len pc lv st hp => xK len 1 ((xDup st).map fun t => (pc + 1, lv, t, hp))
  | .pop => fun cl ini nL fl kc kl len pc lv st hp => xK len 1 ((xPop st).map fun t => (pc + 1, lv, t, hp))
  | .dup_x1 => fun cl ini nL fl kc kl len pc lv st hp => xK len 1 ((xDupX1 st).map fun t => (pc + 1, lv, t, hp))
  | .dup_x2 => fun cl ini nL fl kc kl len pc lv st hp => xK len 1 ((xDupX2 st).map fun t => (pc + 1, lv, t, hp))
  | .dup2 => fun cl ini nL fl kc kl len pc lv st hp => xK len 1 ((xDup2 st).map fun t => (pc + 1, lv, t, hp))
  | .pop2 => fun cl ini nL fl kc kl len pc lv st hp => xK len 1 ((xPop2 st).map fun t => (pc + 1, lv, t, hp))
  | .getfield idx => fun cl ini nL fl kc kl len pc lv st hp => xK len 3 ((xGet fl idx hp st).map fun t => (pc + 3, lv, t, hp))
  | .putfield idx => fun cl ini nL fl kc kl len pc lv st hp => xK len 3 ((xPut cl ini fl idx hp st).map fun t => (pc + 3, lv, t.1, t.2))
  | .iaload => fun cl ini nL fl kc kl len pc lv st hp => xK len 1 ((xAld 0 hp st).map fun t => (pc + 1, lv, t, hp))
  | .caload => fun cl ini nL fl kc kl len pc lv st hp => xK len 1 ((xAld 3 hp st).map fun t => (pc + 1, lv, t, hp))
  | .baload => fun cl ini nL fl kc kl len pc lv st hp => xK len 1 (((xAld 2 hp st).or (xAld 4 hp st)).map fun t => (pc + 1, lv, t, hp))
  | .laload => fun cl ini nL fl kc kl len pc lv st hp => xK len 1 ((xAldL hp st).map fun t => (pc + 1, lv, t, hp))
  | .iastore => fun cl ini nL fl kc kl len pc lv st hp => xK len 1 ((xAst 0 (fun x => x) hp st).map fun t => (pc + 1, lv, t.1, t.2))
  | .castore => fun cl ini nL fl kc kl len pc lv st hp => xK len 1 ((xAst 3 (vp_nar .char) hp st).map fun t => (pc + 1, lv, t.1, t.2))
  | .bastore => fun cl ini nL fl kc kl len pc lv st hp => xK len 1 (((xAst 2 (vp_nar .byte) hp st).or (xAst 4 (vp_nar .boolean) hp st)).map fun t => (pc + 1, lv, t.1, t.2))
  | .lastore => fun cl ini nL fl kc kl len pc lv st hp => xK len 1 ((xAstL hp st).map fun t => (pc + 1, lv, t.1, t.2))
  | .arraylength => fun cl ini nL fl kc kl len pc lv st hp => xK len 1 ((xAlen hp st).map fun t => (pc + 1, lv, t, hp))
  | _ => fun cl ini nL fl kc kl len pc lv st hp => none
theorem xs1F_eq (cl : List vw_C) (ini : Bool) (nL : Nat) (fl : Nat → Option (Nat × Nat)) (kc : Nat → Option Int32) (kl : Nat → Option Int64) (i : Instr) (len pc : Nat) (lv : List (Nat × Value)) (st : List Value) (hp : List x_E) : xs1F i cl ini nL fl kc kl len pc lv st hp = xs1 cl ini nL fl kc kl i len pc lv st hp := by
  cases i <;> rfl
def fN {α : Type} (n : Nat) (k : Nat → α) : α := match n with
  | 0 => k 0
  | m + 1 => k (m + 1)
theorem fN_eq {α : Type} (n : Nat) (k : Nat → α) : fN n k = k n := by cases n <;> rfl
def fI {α : Type} (x : Int32) (k : Int32 → α) : α := fN x.toBitVec.toNat fun n => k (Int32.ofNat n)
theorem fI_eq {α : Type} (x : Int32) (k : Int32 → α) : fI x k = k x := by
  unfold fI
  rw [fN_eq]
  congr 1
  apply Int32.toBitVec_inj.mp
  simp
def fL {α : Type} (x : Int64) (k : Int64 → α) : α := fN x.toBitVec.toNat fun n => k (Int64.ofNat n)
theorem fL_eq {α : Type} (x : Int64) (k : Int64 → α) : fL x k = k x := by
  unfold fL
  rw [fN_eq]
  congr 1
  apply Int64.toBitVec_inj.mp
  simp
def fV {α : Type} (v : Value) (k : Value → α) : α := match v with
  | .int x => fI x fun y => k (.int y)
  | .long x => fL x fun y => k (.long y)
  | .ref i => fN i fun j => k (.ref j)
  | v => k v
theorem fV_eq {α : Type} (v : Value) (k : Value → α) : fV v k = k v := by
  cases v with
  | int x => exact fI_eq x (fun y => k (.int y))
  | long x => exact fL_eq x (fun y => k (.long y))
  | ref i => exact fN_eq i (fun j => k (.ref j))
  | _ => rfl
def fS {α : Type} (st : List Value) (k : List Value → α) : α := match st with
  | [] => k []
  | v :: r => fV v fun w => fS r fun q => k (w :: q)
theorem fS_eq {α : Type} (st : List Value) (k : List Value → α) : fS st k = k st := by
  induction st generalizing k with
  | nil => rfl
  | cons v r ih => unfold fS; rw [fV_eq, ih]
def fG {α : Type} (lv : List (Nat × Value)) (k : List (Nat × Value) → α) : α := match lv with
  | [] => k []
  | (i, v) :: r => fN i fun i => fV v fun w => fG r fun q => k ((i, w) :: q)
theorem fG_eq {α : Type} (lv : List (Nat × Value)) (k : List (Nat × Value) → α) : fG lv k = k lv := by
  induction lv generalizing k with
  | nil => rfl
  | cons v r ih => obtain ⟨i, v⟩ := v; unfold fG; rw [fN_eq, fV_eq, ih]
def fP {α β : Type} (l : List β) (k : List β → α) : α := match l with
  | [] => k []
  | x :: r => fP r fun q => k (x :: q)
theorem fP_eq {α β : Type} (l : List β) (k : List β → α) : fP l k = k l := by
  induction l generalizing k with
  | nil => rfl
  | cons v r ih => unfold fP; rw [ih]
def fE {α : Type} (x : x_E) (k : x_E → α) : α := match x with
  | .inl a => k (.inl a)
  | .inr (c, fs) => fP fs fun fs => k (.inr (c, fs))
theorem fE_eq {α : Type} (x : x_E) (k : x_E → α) : fE x k = k x := by
  cases x with
  | inl a => rfl
  | inr o => obtain ⟨c, fs⟩ := o; exact fP_eq fs (fun fs => k (.inr (c, fs)))
def fH {α : Type} (hp : List x_E) (k : List x_E → α) : α := match hp with
  | [] => k []
  | x :: r => fE x fun y => fH r fun q => k (y :: q)
theorem fH_eq {α : Type} (hp : List x_E) (k : List x_E → α) : fH hp k = k hp := by
  induction hp generalizing k with
  | nil => rfl
  | cons x r ih => unfold fH; rw [fE_eq, ih]
abbrev x_F : Type := Nat → x_M → Nat → List (Nat × Value) → List Value → List x_E → Nat → Nat → Option (Option Value × List x_E)
abbrev x_H : Type := x_F → x_T → x_Y → Nat → x_F
def hPl (i : Instr) : x_H := fun rc Z Y len d M pc lv st hp k n => match xs1F i (zcl Z) ((xy M).name == "<init>") (xn M) (zF Z (xo M)) (zKc Z (xo M)) (zKl Z (xo M)) len pc lv st hp with
  | none => none
  | some (pc', lv', st', hp') => rc d M pc' lv' st' hp' k n
def hWr (i : Instr) : x_H := fun rc Z Y len d M pc lv st hp k n => match xs1F i (zcl Z) ((xy M).name == "<init>") (xn M) (zF Z (xo M)) (zKc Z (xo M)) (zKl Z (xo M)) len pc lv st hp with
  | none => none
  | some (pc', lv', st', hp') => fH hp' fun hp' => rc d M pc' lv' st' hp' k n
def hWa (i : Instr) : x_H := fun rc Z Y len d M pc lv st hp k n => match xs1F i (zcl Z) ((xy M).name == "<init>") (xn M) (zF Z (xo M)) (zKc Z (xo M)) (zKl Z (xo M)) len pc lv st hp with
  | none => none
  | some (pc', lv', st', hp') => fP hp' fun hp' => rc d M pc' lv' st' hp' k n
def hTx (i : Instr) : x_H := fun rc Z Y len d M pc lv st hp k n => match xs2 Y (xo M) i len pc st with
  | some (pc', st') => rc d M pc' lv st' hp k n
  | none => hPl i rc Z Y len d M pc lv st hp k n
def hRt (i : Instr) : x_H := fun rc Z Y len d M pc lv st hp k n => match xRet M i len st with
  | some rv => some (rv, hp)
  | none => none
def hAl (i : Instr) : x_H := fun rc Z Y len d M pc lv st hp k n => match xAlo Z M i len st with
  | some (x, sl, r, w) => if (hp.all (xokE hp.length) && lv.all (fun q => xok hp.length q.2) && r.all (xok hp.length) && decide (hp.length < 1000000) && decide (k + 1 ≤ xmc M) && decide (n + sl ≤ xms M)) = true then fN (k + 1) fun k => fN (n + sl) fun n => fP (hp ++ [x]) fun hp' => rc d M (pc + w) lv (.ref hp.length :: r) hp' k n else none
  | none => none
def hIn (ki idx : Nat) : x_H := fun rc Z Y len d M pc lv st hp k n => if len = 3 then (if xObj Z M ki idx = true then (match st with
          | .ref _ :: r => if 1 ≤ d ∧ (r.map fun v => v.category).sum ≤ 8 then rc d M (pc + 3) lv r hp k n else none
          | _ => none)
        else match xMth Z M ki idx st with
        | some st' => if 1 ≤ d ∧ (st'.map fun v => v.category).sum ≤ 8 then rc d M (pc + 3) lv st' hp k n else none
        | none => match d with
          | 0 => none
          | d' + 1 => match xReq Z Y M ki idx st hp with
            | none => none
            | some (M', avs, r) => if xChk M M' lv r avs hp k n = true then (match rc d' M' 0 (lv_args 0 avs) [] hp 0 0 with
              | none => none
              | some (rv, hp1) => if hp.length ≤ hp1.length then fN (k + xmc M') fun k => fN (n + xms M') fun n => rc (d' + 1) M (pc + 3) lv (rv.toList ++ r) hp1 k n else none) else none) else none
def sH (i : Instr) : x_H := match i with
  | .invokevirtual idx => hIn 0 idx
  | .invokestatic idx => hIn 1 idx
  | .invokespecial idx => hIn 2 idx
  | .return_ => hRt .return_
  | .ireturn => hRt .ireturn
  | .lreturn => hRt .lreturn
  | .areturn => hRt .areturn
  | .new idx => hAl (.new idx)
  | .newarray t => hAl (.newarray t)
  | .ldc idx => hTx (.ldc idx)
  | .getstatic idx => hTx (.getstatic idx)
  | .getfield idx => hTx (.getfield idx)
  | .baload => hTx .baload
  | .arraylength => hTx .arraylength
  | .putfield idx => hWr (.putfield idx)
  | .iastore => hWa .iastore
  | .castore => hWa .castore
  | .bastore => hWa .bastore
  | .lastore => hWa .lastore
  | i => hPl i
def sst (rc : x_F) (Z : x_T) (Y : x_Y) : x_F := fun d M pc lv st hp k n => fN pc fun pc => fG lv fun lv => fS st fun st => match decode (xb M) pc with
  | .error _ => none
  | .ok (i, len) => sH i rc Z Y len d M pc lv st hp k n
def srun (Z : x_T) (Y : x_Y) : Nat → x_F
  | 0 => fun _ _ _ _ _ _ _ _ => none
  | f + 1 => sst (srun Z Y f) Z Y
set_option maxHeartbeats 4000000 in
theorem srun_eq (Z : x_T) (Y : x_Y) : ∀ (f d : Nat) (M : x_M) (pc : Nat) (lv : List (Nat × Value)) (st : List Value) (hp : List x_E) (k n : Nat), srun Z Y f d M pc lv st hp k n = brun Z Y f d M pc lv st hp k n := by
  intro f
  induction f with
  | zero => intros; rfl
  | succ f ih =>
    intro d M pc lv st hp k n
    have e : srun Z Y f = brun Z Y f := by
      funext d M pc lv st hp k n
      exact ih d M pc lv st hp k n
    show sst (srun Z Y f) Z Y d M pc lv st hp k n = _
    rw [e]
    unfold sst brun
    rw [fN_eq, fG_eq, fS_eq]
    cases hd : decode (xb M) pc with
    | error z => rfl
    | ok z =>
      obtain ⟨i, len⟩ := z
      dsimp only
      cases i <;> (simp only [sH, hPl, hWr, hWa, hTx, hRt, hAl, hIn, xKi, xRet, xAlo, xs2, xs1F_eq, fN_eq, fH_eq, fP_eq]; try rfl)
