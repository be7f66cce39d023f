/-! A METHOD THAT NEVER RETURNS (for the refutation): its run comes to a state from which its invocation can't end by returning. -/
def dzQ (p : Program) (below : List Frame) : State → Prop := fun t => Refuse.Cert p.tables below t
def dzM (l : Launch) (y : MethodName) (ws : List Cond) (rm : Room) (Pc : Array Value → State → Prop) : Prop :=
  ∀ (p : Program) (e : Env), l.admits e → FairCas e.choices → FairClock e.choices → ∀ (s : State) (m : MethodId) (args : Array Value) (below : List Frame), s.frames = .invoking m args :: below → (headSpec ws rm).appliesLoose y e.platform s = true → Pc args s → ∃ t, Steps p.tables e below s t ∧ dzQ p below t
/-- from the walk of its body -/
theorem dz_ofW {l : Launch} {y : MethodName} {ws ws' : List Cond} {rm : Room} {Pc : Array Value → State → Prop} {cc : ByteArray} {maxL : Nat} {ret : Option FieldType} (hy : plainName y.cls = true) (hw : ws = Cond.code y cc maxL ret :: ws')
    (body : ∀ (p : Program) (e : Env) (s : State) (m : MethodId) (args : Array Value) (below : List Frame) (meth : Method) (c : Code) (s₁ : State), BodyLoose p l y (headSpec ws rm) cc maxL ret e s m args below meth c s₁ → c.maxLocals = maxL → c.exceptionTable = #[] → Pc args s → W p l e (headSpec ws rm).room s m args below meth c s.heap [] 0 0 (dzQ p below) (entryFrame m args maxL)) : dzM l y ws rm Pc := by
  intro p e ha hc hk s m args below hf happ hP
  obtain ⟨hrun, hable, halone, hname, hhears, hinit, hroom, hpre⟩ := (Spec.appliesLoose_iff hf).mp happ
  obtain ⟨meth, c, hmeth, hcode, hbytes, hlocals, hret, hlocks, hempty, -⟩ := Cond.code_spec hname (atoms_spec (ws := ws) hpre _ (by rw [hw]; exact List.mem_cons_self))
  have hcur := State.cur_lt_of_frames hf
  generalize hs1 : s.setFrames (.java (entryFrame m args maxL) :: below) = s₁
  have hf1 : s₁.frames = .java (entryFrame m args maxL) :: below := by rw [← hs1]; exact State.frames_setFrames _ hcur
  have ht1 := State.topJava?_of_frames hf1
  have hplain : s₁.plainMethod m := by
    refine State.plainMethod.of_name ?_
    intro k hk
    obtain ⟨k', hk', hn⟩ := className_of_methodNamed hname
    have hk2 : s.vm.classes[m.cls]? = some k := by rw [← hs1] at hk; exact hk
    cases hk2.symm.trans hk'
    rw [hn]; exact hy
  have hc1 : s₁.code? m = some c := by rw [← hs1, State.code?_eq]; simp [State.setFrames, hmeth, hcode]
  have hAt : At s₁ m c below := ⟨by rw [ht1]; rfl, ⟨[], by rw [hf1]; rfl⟩, by rw [← hs1]; exact hrun, by rw [← hs1]; simpa using hable, by rw [← hs1]; simpa using halone, hc1, hplain⟩
  have B : BodyLoose p l y (headSpec ws rm) cc maxL ret e s m args below meth c s₁ := ⟨ha, hc, hk, by cases p <;> rfl, hf, hname, hhears, hinit, hroom, hpre, hmeth, hret, hlocks, hbytes, hs1.symm, hAt⟩
  have hh0 : s₁.heap = s.heap := by rw [← hs1]; rfl
  obtain ⟨t, a1, b1⟩ := body p e s m args below meth c s₁ B hlocals (by simpa using hempty) hP s₁ hh0 (Stand.of_body B)
  have hfull : e.platform.stackFull (s.setFrames below).me (s.setFrames below).frames c.maxLocals = false := by
    obtain ⟨-, h1, -, h2⟩ := State.hasRoom_stack hroom
    rw [hf, List.length_cons] at h1
    rw [State.localsInUse_invoking hf hmeth hcode] at h2
    have hw := stackUse_le_stackWeight below
    rw [State.frames_setFrames _ hcur]
    exact Platform.stackFull_eq_false (by rw [State.stackLimits_setFrames]; omega) (by rw [State.stackLimits_setFrames]; omega)
  have hstep : (stepThread p.tables e s).1 = s₁.setTop (entryFrame m args maxL) := by
    rw [stepThread_invoking hf, (doInvoke_java (s := s.setFrames below) (e := e) (meth := meth) (code := c) hmeth hcode hlocks hfull).1, State.setTop_self ht1, ← hs1]
    simp only [State.pushFrame, State.frames_setFrames _ hcur, State.setFrames_setFrames, hlocals, entryFrame]
  exact ⟨t, Steps.head (tb := p.tables) (e := e) ⟨hrun, hable, halone⟩ ⟨[.invoking m args], hf, by simp, by simp⟩ (hstep ▸ a1), b1⟩
/-- the invoked method dies: so the invoker comes to such a state, too -/
theorem dz_via {l : Launch} {y : MethodName} {ws : List Cond} {rm : Room} {Pc : Array Value → State → Prop} (hY : dzM l y ws rm Pc) (p : Program) {e : Env} (ha : l.admits e) (hc : FairCas e.choices) (hk : FairClock e.choices)
    {s : State} {my : MethodId} {args : Array Value} {below : List Frame} {g : JFrame} {m : MethodId} {meth : Method} {c : Code} (acts : List Action)
    (hfr : s.frames = .java g :: below) (happ : (headSpec ws rm).appliesLoose y e.platform (s.pushFrame (.invoking my args)) = true) (hP : Pc args (s.pushFrame (.invoking my args)))
    (hx : c.exceptionTable = #[]) (hm : s.vm.method? m = some meth) (hcode : meth.code = some c) (hl : meth.locks = false) (hgm : g.method = m) (h1 : g.locked = none) (h2 : g.entered = []) : ∃ s₂, Steps p.tables e below (doInvoke e s acts my args).1 s₂ ∧ dzQ p below s₂ := by
  have hcur := State.cur_lt_of_frames hfr
  obtain ⟨t, ht, -⟩ := State.frames_cons hfr
  have hf' : (s.pushFrame (.invoking my args)).frames = .invoking my args :: s.frames := State.frames_setFrames _ hcur
  obtain ⟨hrun, hable, halone, -⟩ := (Spec.appliesLoose_iff hf').mp happ
  have hgo : (s.pushFrame (.invoking my args)).goesOn := ⟨hrun, hable, halone⟩
  have hstep : (stepThread p.tables e (s.pushFrame (.invoking my args))).1 = (doInvoke e s acts my args).1 := by
    rw [stepThread_invoking hf', doInvoke_state e s acts, State.pushFrame, State.setFrames_setFrames, State.setFrames_self ht]
  obtain ⟨s₂, ⟨n, hn, wn⟩, V, I, H, hv, hi⟩ := hY p e ha hc hk (s.pushFrame (.invoking my args)) my args s.frames hf' happ hP
  rw [hfr] at H wn
  have hM : Refuse.Misses c g.pc := Refuse.Misses.of_empty hx
  have up := Refuse.holds_via H hM hcode hl hgm h1 h2
  have hm0 : (s.pushFrame (.invoking my args)).vm.method? m = some meth := hm
  have hw0 : Within (s.pushFrame (.invoking my args)) (.java g :: below) := ⟨[.invoking my args], by rw [hf', hfr]; rfl, by simp, by simp⟩
  cases n with
  | zero =>
    cases hn
    exact ⟨_, Steps.refl _, _, _, up, by rw [← hstep]; exact ⟨H.vm e _ hv, stepThread_method? p.tables e hm0⟩, by rw [← hstep]; exact Or.inl (H.step e _ hv hi hw0)⟩
  | succ k =>
    rw [stepsAlone_succ _ hgo, hstep] at hn
    refine ⟨s₂, ⟨k, hn, fun j hj => ?_⟩, _, _, up, ⟨hv, ?_⟩, Or.inl hi⟩
    · have := wn (j + 1) (by omega)
      rw [stepsAlone_succ _ hgo, hstep] at this
      exact Within.weaken (mid := [.java g]) this
    · rw [← hn, ← hstep]
      exact Refuse.stepsAlone_method? p.tables e k (stepThread_method? p.tables e hm0)
section DZ
variable {p : Program} {l : Launch} {e : Env} {R : Room} {s : State} {m : MethodId} {args : Array Value} {below : List Frame} {meth : Method} {c : Code} {H : Heap} {locs : List Loc} {cells slots : Nat}
variable {y : MethodName} {bytes cc : ByteArray} {maxL nL mc ms n index : Nat} {ret : Option FieldType} {ws : List Cond} {rm : Room} {Pc : Array Value → State → Prop} {Ts : List Cond} {own C : String} {b : Addr} {As rest : List Value} {g : JFrame}
/-- a call of a method that dies -/
theorem dz_runV (S : CallFix p m c cc nL s args Ts own) (hM : dzM l y ws rm Pc) (cw : CallW R s args own C index y bytes maxL ret ws rm mc ms n) (hp : PreV s H C b Pc As) (hxt : c.exceptionTable = #[]) (hlk : meth.locks = false) (h1 : g.locked = none) (h2 : g.entered = [])
    (hg : g.method = m) (hn : As.length = n) (hsize : g.locals.size = nL) (hstack : g.stack = As.reverse ++ .ref b :: rest) (hW : 2 * g.monitorRoom + (rest.map fun v => v.category).sum ≤ 8) (hdg : decode cc g.pc = .ok (.invokevirtual index, 3)) (hf : cells + mc ≤ R.cells ∧ slots + ms ≤ R.slots) :
    W p l e R s m args below meth c H locs cells slots (dzQ p below) g := by
  obtain ⟨⟨hrc, hrs, hfr, hlc, hws, hcw, hcode, hini, hy, hlen, hl⟩, hin, hse⟩ := cw
  obtain ⟨hx, hb, hml, ho, -⟩ := S
  obtain ⟨hbl, ⟨cellB, hcB, hoB, hclB⟩, hPc⟩ := hp
  intro T hT X
  obtain ⟨mk, methM, hnamed, hmethM, hstM, habM⟩ := Cond.instanceMethod_spec hin
  obtain ⟨methM', cM, hmethM', -, -, -, -, -, -, hsigM⟩ := Cond.code_spec hnamed hcode
  cases hmethM.symm.trans hmethM'
  obtain ⟨c2, r2, m2, q1, q2, q3, q4, kP, hkP, hkPi⟩ := Cond.selects_spec hse
  cases hclB.symm.trans q1
  cases (State.methodFound?_of_named hnamed hy).symm.trans q2
  cases hnamed.symm.trans q3
  have hselP : selectMethod e.platform s.vm cellB.cls mk = .method mk := by rw [Launch.admits_selectMethod X.admits]; exact q4
  obtain ⟨vm₁, X₁, hstep₁⟩ := X.invokevirtual hx ho hl hnamed hmethM hstM hkP hkPi hy (a := b) (cell := cellB) (by rw [hT]; exact hcB) (fun z h => by rw [h] at hoB; cases hoB) hselP hmethM habM hkP hkPi (g := g) hg (argsL := As) (rest := rest) (hn.trans (hlen _ hsigM)) hstack (by rw [hb]; exact hdg)
  have hn1 : (T.setVm vm₁).methodNamed? y = some mk := X₁.named hnamed
  have w1 : (Cond.code y bytes maxL ret).before (Value.ref b :: As).toArray (T.setVm vm₁) = true := hws _ hcw _ _ X₁.warmed
  obtain ⟨methY, cY, hmY, hcY, -, hlY, -, -, -, -⟩ := Cond.code_spec hn1 w1
  obtain ⟨kY, hkY, -⟩ := className_of_methodNamed hn1
  have w2 : (Cond.initialized y.cls).before (Value.ref b :: As).toArray (T.setVm vm₁) = true := word_at X₁.warmed (Or.inl (by first | rfl | simp [Cond.onTables, Cond.keeps, Cond.steady])) hini
  have hinitY : kY.init = .initialized := Cond.initialized_spec (findClass_of_methodNamed hn1) hkY w2
  subst hg
  have hA : At (T.setVm vm₁) ({ g with stack := rest } : JFrame).method c below := X₁.here
  have happ : (headSpec ws rm).appliesLoose y e.platform ((T.setVm vm₁).calling { g with stack := rest } mk (Value.ref b :: As).toArray) = true :=
    Spec.appliesLoose_calling (g := { g with stack := rest }) hA (by rw [hb]; exact hdg) hn1 hkY hinitY (X₁.room_calling (g := { g with stack := rest }) (R' := (headSpec ws rm).room) (hsize.trans hml.symm) hmY hcY hfr (by show 2 * g.monitorRoom + (rest.map fun v => v.category).sum + (cY.maxLocals + 11) + rm.locals ≤ R.locals; rw [hlY]; omega) (by show cells + rm.cells ≤ _; rw [hrc]; exact hf.1) (by show slots + rm.slots ≤ _; rw [hrs]; exact hf.2)) (atoms_intro fun w hw => hws w hw _ _ X₁.warmed)
  have hfrm : ((T.setVm vm₁).setTop { g with stack := rest }).frames = .java { g with stack := rest } :: below := by
    rw [State.frames_setTop' _ hA.top, X₁.tail]
  obtain ⟨s₂, st, hq⟩ := dz_via hM p X.admits X.cas X.clock (s := (T.setVm vm₁).setTop { g with stack := rest }) (my := mk) (args := (Value.ref b :: As).toArray) (g := { g with stack := rest }) (m := g.method) (meth := meth) (c := c) [] hfrm happ (hbl _ _ _ _ (hPc (T.setVm vm₁) hT X₁.warmed)) hxt X₁.method' X₁.code hlk rfl h1 h2
  exact ⟨s₂, hstep₁ _ fun acts => by rw [doInvoke_state]; exact st, hq⟩
/-- a call of a static method that dies -/
theorem dz_runS (S : CallFix p m c cc nL s args Ts own) (hM : dzM l y ws rm Pc) (cw : CallB R s args own index y bytes maxL ret ws rm mc ms n ∧ (Cond.static y).before args s = true) (hp : PreS s H Pc As) (hxt : c.exceptionTable = #[]) (hlk : meth.locks = false) (h1 : g.locked = none) (h2 : g.entered = [])
    (hg : g.method = m) (hn : As.length = n) (hsize : g.locals.size = nL) (hstack : g.stack = As.reverse ++ rest) (hW : 2 * g.monitorRoom + (rest.map fun v => v.category).sum ≤ 8) (hdg : decode cc g.pc = .ok (.invokestatic index, 3)) (hf : cells + mc ≤ R.cells ∧ slots + ms ≤ R.slots) :
    W p l e R s m args below meth c H locs cells slots (dzQ p below) g := by
  obtain ⟨⟨hrc, hrs, hfr, hlc, hws, hcw, hcode, hini, hy, hlen, hl⟩, hstt⟩ := cw
  obtain ⟨hx, hb, hml, ho, -⟩ := S
  obtain ⟨hbl, hPc⟩ := hp
  intro T hT X
  obtain ⟨mk, hnamed⟩ := Cond.code_named hcode
  obtain ⟨methM, cM, hmethM, -, -, -, -, -, -, hsigM⟩ := Cond.code_spec hnamed hcode
  have hstatic : methM.isStatic = true := Cond.static_spec hnamed hmethM hstt
  obtain ⟨kP, hkP, -⟩ := className_of_methodNamed hnamed
  have hinitP : kP.init = .initialized := Cond.initialized_spec (findClass_of_methodNamed hnamed) hkP hini
  obtain ⟨vm₁, X₁, hstep₁⟩ := X.invokestatic hx ho hl hnamed hmethM hstatic hkP hinitP hy (g := g) hg (argsL := As) (rest := rest) (hn.trans (hlen _ hsigM)) hstack (by rw [hb]; exact hdg)
  have hn1 : (T.setVm vm₁).methodNamed? y = some mk := X₁.named hnamed
  have w1 : (Cond.code y bytes maxL ret).before As.toArray (T.setVm vm₁) = true := hws _ hcw _ _ X₁.warmed
  obtain ⟨methY, cY, hmY, hcY, -, hlY, -, -, -, -⟩ := Cond.code_spec hn1 w1
  obtain ⟨kY, hkY, -⟩ := className_of_methodNamed hn1
  have w2 : (Cond.initialized y.cls).before As.toArray (T.setVm vm₁) = true := word_at X₁.warmed (Or.inl (by first | rfl | simp [Cond.onTables, Cond.keeps, Cond.steady])) hini
  have hinitY : kY.init = .initialized := Cond.initialized_spec (findClass_of_methodNamed hn1) hkY w2
  subst hg
  have hA : At (T.setVm vm₁) ({ g with stack := rest } : JFrame).method c below := X₁.here
  have happ : (headSpec ws rm).appliesLoose y e.platform ((T.setVm vm₁).calling { g with stack := rest } mk As.toArray) = true :=
    Spec.appliesLoose_calling (g := { g with stack := rest }) hA (by rw [hb]; exact hdg) hn1 hkY hinitY (X₁.room_calling (g := { g with stack := rest }) (R' := (headSpec ws rm).room) (hsize.trans hml.symm) hmY hcY hfr (by show 2 * g.monitorRoom + (rest.map fun v => v.category).sum + (cY.maxLocals + 11) + rm.locals ≤ R.locals; rw [hlY]; omega) (by show cells + rm.cells ≤ _; rw [hrc]; exact hf.1) (by show slots + rm.slots ≤ _; rw [hrs]; exact hf.2)) (atoms_intro fun w hw => hws w hw _ _ X₁.warmed)
  have hfrm : ((T.setVm vm₁).setTop { g with stack := rest }).frames = .java { g with stack := rest } :: below := by
    rw [State.frames_setTop' _ hA.top, X₁.tail]
  obtain ⟨s₂, st, hq⟩ := dz_via hM p X.admits X.cas X.clock (s := (T.setVm vm₁).setTop { g with stack := rest }) (my := mk) (args := As.toArray) (g := { g with stack := rest }) (m := g.method) (meth := meth) (c := c) [] hfrm happ (hbl _ _ _ _ (hPc (T.setVm vm₁) hT X₁.warmed)) hxt X₁.method' X₁.code hlk rfl h1 h2
  exact ⟨s₂, hstep₁ _ fun acts => by rw [doInvoke_state]; exact st, hq⟩
/-- an array read beyond its end -/
theorem dz_iald {a : Addr} {cell : Cell} {ty : FieldType} {j : Int32} (hx : p.tables.exec = Jvm.exec) (hb : c.code = cc) (hcell : H[a]? = some cell) (harr : s.isArrayOf cell ty) (hout : j < 0 ∨ cell.slots.size ≤ j.toNatClampNeg) (hxt : c.exceptionTable = #[]) (hlk : meth.locks = false) (h1 : g.locked = none) (h2 : g.entered = []) (hg : g.method = m) (hstack : g.stack = .int j :: .ref a :: rest) (hdg : decode cc g.pc = .ok (.iaload, 1)) : W p l e R s m args below meth c H locs cells slots (dzQ p below) g := by
  intro T hT X
  subst hg
  have hgo := X.ialoadOut hx (by rw [hT]; exact hcell) harr hout (g := g) rfl hstack (by rw [hb]; exact hdg)
  refine ⟨_, hgo _ (Steps.refl _), ?_⟩
  have hA : At T g.method c below := X.here
  have hfrm : (T.setTop { g with stack := rest }).frames = .java { g with stack := rest } :: below := by rw [State.frames_setTop' _ hA.top, X.tail]
  have hcur := State.cur_lt_of_frames hfrm
  refine Refuse.cert_raise (m := g.method) (meth := meth) (c := c) (f := { g with stack := rest }) (Refuse.Misses.of_empty hxt) ?_ X.code hlk (State.frames_setFrames _ hcur |>.trans (by rw [hfrm])) ?_ rfl h1 h2
  · exact X.method'
  · exact trivial
end DZ
