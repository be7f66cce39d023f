/-! THE INTERPRETER: calls, makings, ends; and its soundness: a run gives a contract. -/
abbrev x_M : Type := MethodName × ByteArray × Nat × Option FieldType × Nat × Nat × Nat × Nat
abbrev xy (M : x_M) : MethodName := M.1
abbrev xb (M : x_M) : ByteArray := M.2.1
abbrev xn (M : x_M) : Nat := M.2.2.1
abbrev xr (M : x_M) : Option FieldType := M.2.2.2.1
abbrev xo (M : x_M) : Nat := M.2.2.2.2.1
abbrev xa (M : x_M) : Nat := M.2.2.2.2.2.1
abbrev xmc (M : x_M) : Nat := M.2.2.2.2.2.2.1
abbrev xms (M : x_M) : Nat := M.2.2.2.2.2.2.2
abbrev x_T : Type := (Nat → Option x_M) × (Nat → Nat → Option (Nat × Nat)) × (Nat → Nat → Option (Nat × Nat)) × (Nat → Nat → Option Nat) × (Nat → Nat → Option Int32) × (Nat → Nat → Option Int64) × List vw_C × (Nat → String)
abbrev zM (Z : x_T) : Nat → Option x_M := Z.1
abbrev zF (Z : x_T) : Nat → Nat → Option (Nat × Nat) := Z.2.1
abbrev zL (Z : x_T) : Nat → Nat → Option (Nat × Nat) := Z.2.2.1
abbrev zC (Z : x_T) : Nat → Nat → Option Nat := Z.2.2.2.1
abbrev zKc (Z : x_T) : Nat → Nat → Option Int32 := Z.2.2.2.2.1
abbrev zKl (Z : x_T) : Nat → Nat → Option Int64 := Z.2.2.2.2.2.1
abbrev zcl (Z : x_T) : List vw_C := Z.2.2.2.2.2.2.1
abbrev znm (Z : x_T) : Nat → String := Z.2.2.2.2.2.2.2
/-- texts and statics: which text an ldc names, which of a text's fields a link names, what a static holds (its value, owner, name, sort), how many texts, their lengths and bytes -/
abbrev x_Y : Type := (Nat → Nat → Option Nat) × (Nat → Nat → Option Nat) × (Nat → Nat → Option (Value × String × String × String)) × Nat × List Nat × List (List Int32) × List (String × Nat × MethodName × String)
abbrev yS (Y : x_Y) : Nat → Nat → Option Nat := Y.1
abbrev yF (Y : x_Y) : Nat → Nat → Option Nat := Y.2.1
abbrev yG (Y : x_Y) : Nat → Nat → Option (Value × String × String × String) := Y.2.2.1
abbrev yN (Y : x_Y) : Nat := Y.2.2.2.1
abbrev yl (Y : x_Y) : List Nat := Y.2.2.2.2.1
abbrev yb (Y : x_Y) : List (List Int32) := Y.2.2.2.2.2.1
/-- links to a nest mate's own members -/
abbrev yNw (Y : x_Y) : List (String × Nat × MethodName × String) := Y.2.2.2.2.2.2
/-- the text whose cell, or whose bytes' cell, a place above 1000000 is -/
def xTx (Y : x_Y) (b w : Nat) : Option Nat := if 1000000 ≤ b ∧ (b - 1000000) % 2 = w ∧ (b - 1000000) / 2 < yN Y then some ((b - 1000000) / 2) else none
def xs2 (Y : x_Y) (o : Nat) (i : Instr) (len pc : Nat) (st : List Value) : Option (Nat × List Value) := match i with
  | .ldc idx => if len = 2 then (yS Y o idx).map fun k => (pc + 2, .ref (1000000 + 2 * k) :: st) else none
  | .getstatic idx => if len = 3 then (yG Y o idx).map fun g => (pc + 3, g.1 :: st) else none
  | .getfield idx => match st with
    | .ref b :: r => if len = 3 then (match xTx Y b 0, yF Y o idx with
      | some k, some 0 => some (pc + 3, .ref (1000001 + 2 * k) :: r)
      | some _, some 1 => some (pc + 3, .int 0 :: r)
      | _, _ => none) else none
    | _ => none
  | .baload => match st with
    | .int j :: .ref b :: r => match xTx Y b 1 with
      | some k => if len = 1 ∧ ¬ (j < 0 ∨ (yl Y).getD k 0 ≤ j.toNatClampNeg) then some (pc + 1, .int (((yb Y).getD k []).getD j.toNatClampNeg 0) :: r) else none
      | none => none
    | _ => none
  | .arraylength => match st with
    | .ref b :: r => match xTx Y b 1 with
      | some k => if len = 1 then some (pc + 1, .int (Int32.ofNat ((yl Y).getD k 0)) :: r) else none
      | none => none
    | _ => none
  | _ => none
def xok (n : Nat) : Value → Bool
  | .ref i => decide (i < n) || decide (1000000 ≤ i)
  | _ => true
def xokE (n : Nat) : x_E → Bool
  | .inl _ => true
  | .inr (_, fs) => fs.all (xok n)
def xSplit (n : Nat) (st : List Value) : Option (List Value × List Value) := if n ≤ st.length then some ((st.take n).reverse, st.drop n) else none
def xKi : Instr → Option (Nat × Nat)
  | .invokevirtual i => some (0, i)
  | .invokestatic i => some (1, i)
  | .invokespecial i => some (2, i)
  | _ => none
def xReq (Z : x_T) (Y : x_Y) (M : x_M) (ki idx : Nat) (st : List Value) (hp : List x_E) : Option (x_M × List Value × List Value) :=
  match zL Z (xo M) idx with
  | none => none
  | some (kd, j) => match zM Z j with
    | none => none
    | some M' => match xSplit (xa M') st with
      | none => none
      | some (As, r) => if ki = 1 then (if kd = 1 then some (M', As, r) else none) else
        match r with
        | .ref b :: r' => if ki = 0 then (match hp[b]? with
          | some (.inr (ci, _)) => if kd = 0 ∧ ci = xo M' then some (M', .ref b :: As, r') else none
          | _ => if kd = 5 ∧ (xTx Y b 0).isSome = true then some (M', .ref b :: As, r') else none) else (if kd = 2 ∨ kd = 3 then some (M', .ref b :: As, r') else none)
        | _ => none
def xChk (M M' : x_M) (lv : List (Nat × Value)) (r avs : List Value) (hp : List x_E) (k n : Nat) : Bool :=
  lv.all (fun q => xok hp.length q.2) && r.all (xok hp.length) && decide (k + xmc M' ≤ xmc M) && decide (n + xms M' ≤ xms M) && decide ((r.map fun v => v.category).sum ≤ 8) && decide ((lg_sl avs).length ≤ xn M')
def xRet (M : x_M) (i : Instr) (len : Nat) (st : List Value) : Option (Option Value) := match i with
  | .return_ => if len = 1 ∧ xr M = none ∧ st = [] then some none else none
  | .ireturn => match st, xr M with
    | [.int v], some ty => if len = 1 ∧ narrow ty (.int v) = .int v then some (some (.int v)) else none
    | _, _ => none
  | .lreturn => match st, xr M with
    | [.long v], some ty => if len = 1 ∧ ty = .long then some (some (.long v)) else none
    | _, _ => none
  | .areturn => match st, xr M with
    | [.ref a], some ty => if len = 1 ∧ ty = .array .long then some (some (.ref a)) else none
    | _, _ => none
  | _ => none
def xAt : ArrayType → Option (Nat × ((Nat → Int32) ⊕ (Nat → Int64) ⊕ (Nat → UInt32) ⊕ (Nat → UInt64) ⊕ (Nat → Option Nat)))
  | .int => some (0, .inl fun _ => 0)
  | .long => some (1, .inr (.inl fun _ => 0))
  | .byte => some (2, .inl fun _ => 0)
  | .char => some (3, .inl fun _ => 0)
  | .boolean => some (4, .inl fun _ => 0)
  | _ => none
def xAlo (Z : x_T) (M : x_M) (i : Instr) (len : Nat) (st : List Value) : Option (x_E × Nat × List Value × Nat) := match i with
  | .new idx => if len = 3 then (match zC Z (xo M) idx with
    | none => none
    | some ci => match (zcl Z)[ci]? with
      | none => none
      | some q => some (.inr (ci, (List.range q.2.2).map fun k => defaultValue (xty q k)), q.2.2, st, 3)) else none
  | .newarray t => match st with
    | .int cnt :: r => if len = 2 ∧ ¬ cnt < 0 ∧ cnt.toNatClampNeg * componentBytes (newarray.typeOf t) ≤ 536870912 then (match xAt t with
      | none => none
      | some (tn, a0) => some (.inl (tn, cnt.toNatClampNeg, a0), cnt.toNatClampNeg, r, 2)) else none
    | _ => none
  | _ => none
def xObj (Z : x_T) (M : x_M) (ki idx : Nat) : Bool := ki == 2 && (match zL Z (xo M) idx with
  | some (kd, _) => kd == 4
  | none => false)
/-- Math.min, Math.max of ints, Math.min of longs -/
def xMth (Z : x_T) (M : x_M) (ki idx : Nat) (st : List Value) : Option (List Value) := if ki = 1 then (match zL Z (xo M) idx with
  | some (6, _) => (match st with
    | .int y :: .int x :: r => some (.int (if y < x then y else x) :: r)
    | _ => none)
  | some (7, _) => (match st with
    | .int y :: .int x :: r => some (.int (if x < y then y else x) :: r)
    | _ => none)
  | some (8, _) => (match st with
    | .long y :: .long x :: r => some (.long (if y < x then y else x) :: r)
    | _ => none)
  | _ => none) else none
def brun (Z : x_T) (Y : x_Y) : Nat → Nat → x_M → Nat → List (Nat × Value) → List Value → List x_E → Nat → Nat → Option (Option Value × List x_E)
  | 0, _, _, _, _, _, _, _, _ => none
  | f + 1, d, M, pc, lv, st, hp, k, n => match decode (xb M) pc with
    | .error _ => none
    | .ok (i, len) => match xKi i with
      | some (ki, idx) => if len = 3 then (if xObj Z M ki idx = true then (match st with
          | .ref _ :: r => if 1 ≤ d ∧ (r.map fun v => v.category).sum ≤ 8 then brun Z Y f d M (pc + 3) lv r hp k n else none
          | _ => none)
        else match xMth Z M ki idx st with
        | some st' => if 1 ≤ d ∧ (st'.map fun v => v.category).sum ≤ 8 then brun Z Y f d M (pc + 3) lv st' hp k n else none
        | none => match d with
          | 0 => none
          | d' + 1 => match xReq Z Y M ki idx st hp with
            | none => none
            | some (M', avs, r) => if xChk M M' lv r avs hp k n = true then (match brun Z Y f d' M' 0 (lv_args 0 avs) [] hp 0 0 with
              | none => none
              | some (rv, hp1) => if hp.length ≤ hp1.length then brun Z Y f (d' + 1) M (pc + 3) lv (rv.toList ++ r) hp1 (k + xmc M') (n + xms M') else none) else none) else none
      | none => match xRet M i len st with
        | some rv => some (rv, hp)
        | none => match xAlo Z M i len st with
          | some (x, sl, r, w) => if (hp.all (xokE hp.length) && lv.all (fun q => xok hp.length q.2) && r.all (xok hp.length) && decide (hp.length < 1000000) && decide (k + 1 ≤ xmc M) && decide (n + sl ≤ xms M)) = true then brun Z Y f d M (pc + w) lv (.ref hp.length :: r) (hp ++ [x]) (k + 1) (n + sl) else none
          | none => match xs2 Y (xo M) i len pc st with
            | some (pc', st') => brun Z Y f d M pc' lv st' hp k n
            | none => match xs1 (zcl Z) ((xy M).name == "<init>") (xn M) (zF Z (xo M)) (zKc Z (xo M)) (zKl Z (xo M)) i len pc lv st hp with
              | none => none
              | some (pc', lv', st', hp') => brun Z Y f d M pc' lv' st' hp' k n
/-- what the tables must say -/
def xZok (Z : x_T) (Y : x_Y) (Ts : List Cond) : Prop :=
  xCok (zcl Z) Ts ∧ (∀ o, xFok (znm Z o) (zF Z o) (zcl Z) Ts) ∧ (∀ o idx v, zKc Z o idx = some v → Cond.constant (znm Z o) idx v ∈ Ts) ∧ (∀ o idx v, zKl Z o idx = some v → Cond.constantLong (znm Z o) idx v ∈ Ts) ∧
  (∀ (o idx ci : Nat), zC Z o idx = some ci → ∃ q : vw_C, (zcl Z)[ci]? = some q ∧ Cond.classLink (znm Z o) idx q.1 ∈ Ts ∧ Cond.instantiable q.1 q.2.2 ∈ Ts ∧ Cond.initialized q.1 ∈ Ts) ∧
  (∀ j M, zM Z j = some M → Cond.code (xy M) (xb M) (xn M) (xr M) ∈ Ts ∧ Cond.initialized (xy M).cls ∈ Ts ∧ plainName (xy M).cls = true ∧ (xy M).cls = znm Z (xo M) ∧ ((xy M).cls ≠ "java/lang/invoke/MethodHandle" ∧ (xy M).cls ≠ "java/lang/invoke/VarHandle" ∧ (parseMethodDescriptor (xy M).desc).map (fun d => d.parameters.length) = some (xa M)) ∧ xn M ≤ 45) ∧
  (∀ (o idx j kd : Nat) M, zL Z o idx = some (kd, j) → zM Z j = some M → (kd = 0 → Cond.methodLink (znm Z o) idx (xy M) ∈ Ts ∧ Cond.instanceMethod (xy M) ∈ Ts ∧ Cond.selects (xy M).cls (xy M) (xy M) ∈ Ts) ∧ (kd = 1 → Cond.methodLink (znm Z o) idx (xy M) ∈ Ts ∧ Cond.static (xy M) ∈ Ts) ∧ (kd = 2 → Cond.methodLink (znm Z o) idx (xy M) ∈ Ts ∧ Cond.instanceMethod (xy M) ∈ Ts ∧ (xy M).name = "<init>" ∧ xr M = none) ∧ (kd = 3 → (∃ host, (znm Z o, idx, xy M, host) ∈ yNw Y) ∧ Cond.instanceMethod (xy M) ∈ Ts ∧ (xy M).name = "<init>" ∧ xr M = none) ∧ (kd = 5 → Cond.methodLink (znm Z o) idx (xy M) ∈ Ts ∧ Cond.instanceMethod (xy M) ∈ Ts ∧ Cond.selects (xy M).cls (xy M) (xy M) ∈ Ts ∧ (xy M).cls = "java/lang/String")) ∧
  (∀ (o idx j kd : Nat), zL Z o idx = some (kd, j) → (kd = 6 → Cond.methodLink (znm Z o) idx Lib.Math.min.name ∈ Ts ∧ Cond.static Lib.Math.min.name ∈ Ts ∧ Cond.initialized "java/lang/Math" ∈ Ts ∧ Cond.code Lib.Math.min.name Lib.Math.min.code 2 (some .int) ∈ Ts) ∧ (kd = 7 → Cond.methodLink (znm Z o) idx Lib.Math.max.name ∈ Ts ∧ Cond.static Lib.Math.max.name ∈ Ts ∧ Cond.initialized "java/lang/Math" ∈ Ts ∧ Cond.code Lib.Math.max.name Lib.Math.max.code 2 (some .int) ∈ Ts) ∧ (kd = 8 → Cond.methodLink (znm Z o) idx Lib.MathLoose.min_long.x ∈ Ts ∧ Cond.static Lib.MathLoose.min_long.x ∈ Ts ∧ Cond.initialized "java/lang/Math" ∈ Ts ∧ Cond.code Lib.MathLoose.min_long.x Lib.MathLoose.min_long.code 4 (some .long) ∈ Ts)) ∧
  (∀ (o idx j : Nat), zL Z o idx = some (4, j) → Cond.methodLink (znm Z o) idx objectInit ∈ Ts) ∧ (Cond.instanceMethod objectInit ∈ Ts ∧ Cond.code objectInit ⟨#[0xb1]⟩ 1 none ∈ Ts) ∧
  (Cond.arrayClass .int ∈ Ts ∧ Cond.arrayClass .long ∈ Ts ∧ Cond.arrayClass .byte ∈ Ts ∧ Cond.arrayClass .char ∈ Ts ∧ Cond.arrayClass .boolean ∈ Ts) ∧ (∀ w ∈ Ts, goodWord w = true) ∧ (∀ (o : Nat) (q : vw_C), (zcl Z)[o]? = some q → q.1 = znm Z o) ∧
  (∀ (o idx k : Nat), yF Y o idx = some k → (k = 0 → Cond.fieldLink (znm Z o) idx "java/lang/String" "value" "[B" ∈ Ts) ∧ (k = 1 → Cond.fieldLink (znm Z o) idx "java/lang/String" "coder" "B" ∈ Ts)) ∧
  (∀ (o idx : Nat) g, yG Y o idx = some g → Cond.fieldLink (znm Z o) idx g.2.1 g.2.2.1 g.2.2.2 ∈ Ts ∧ xok 0 g.1 = true)
/-- texts and statics as they stand, at places above 1000000, unwritten -/
def xEnv (Z : x_T) (Y : x_Y) (ρ : Nat → Nat) (A : Nat → Prop) (U : State) (H : Heap) : Prop :=
  vk_S (yN Y) (yl Y) (yb Y) (fun i => ρ (1000000 + 2 * i)) (fun i => ρ (1000001 + 2 * i)) A U H ∧ (∀ (o idx i : Nat), yS Y o idx = some i → ∃ tx, vk_R (znm Z o) idx tx (ρ (1000000 + 2 * i)) U) ∧ (∀ (o idx : Nat) g, yG Y o idx = some g → va_Z g.2.1 g.2.2.1 g.2.2.2 (xv ρ g.1) A U H) ∧ (∀ q ∈ yNw Y, va_Nw (.methodLinkNest q.1 q.2.1 q.2.2.1 q.2.2.2) U)
def xrm (d mc ms : Nat) : Room := { frames := d, cells := mc, slots := ms, locals := 64 * d }
def xPc (Z : x_T) (Y : x_Y) (D : va_G) (cl : List vw_C) (cA : Nat → ClassId) (ρ : Nat → Nat) (hp : List x_E) (avs : List Value) (sz : Nat) : Array Value → State → Prop :=
  va_Pc (avs.map (xv ρ)) (fun U => U.heap.size = sz ∧ va_P D cl (xw ρ cA hp) U.heap ∧ va_K D cl (x_tys cA) U ∧ va_D (fun _ => True) (xw ρ cA hp) ∧ xEnv Z Y ρ (va_A (xw ρ cA hp) sz) U U.heap)
def xQc (D : va_G) (cl : List vw_C) (cA : Nat → ClassId) (ρ0 : Nat → Nat) (n0 : Nat) (rv : Option Value) (hp' : List x_E) (A : Nat → Prop) : Array Value → State → Outcome → State → Prop := fun _ st oc t =>
  (∃ ρ : Nat → Nat, oc = .returned (rv.map (xv ρ)) ∧ (∀ i, i < n0 ∨ 1000000 ≤ i → ρ i = ρ0 i) ∧ va_P D cl (xw ρ cA hp') t.heap ∧ va_K D cl (x_tys cA) t ∧ va_D A (xw ρ cA hp')) ∧ va_F A st t
