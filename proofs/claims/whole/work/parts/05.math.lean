/-! MATH: abs, max, min of doubles, which the machine runs by entries of its own (no NaN: nothing is drawn). One law for an entry with any arguments, then its three uses. -/
section MyMath
theorem n64_notNaN {a : UInt64} (h : n64 a = true) : a &&& 0x7fffffffffffffff ≤ 0x7ff0000000000000 := of_decide_eq_true h
/-- the frame of a method of Math that has an entry: the entry runs -/
theorem my_over {tb : Tables} {e : Env} {s : State} {f : JFrame} {k : Class} {x : Method} {row : NativeRow} (hpc : f.pc = 0) (hk : s.vm.classes[f.method.cls]? = some k) (hn : k.name = "java/lang/Math") (hboot : k.loader = none) (hx : k.methods[f.method.idx]? = some x) (hrow : NativeRow.find? tb.natives "java/lang/Math" x.name x.desc = some row) : overridden tb e s f = some row := by
  have h9 : overriddenIn.contains "java/lang/Math" = true := by decide +kernel
  unfold overridden
  rw [hpc, hk]
  simp only [bne_self_eq_false, Bool.false_eq_true, if_false, hn, h9, Bool.true_or, Bool.not_true, hboot, Option.isSome_none, Bool.or_self, hx]
  exact hrow
theorem my_nat (p : Program) {e : Env} {below : List Frame} {s target : State} {g : JFrame} {c : Code}
    (htop : s.topJava?.isSome) (habove : ∃ mid, s.frames.tail = mid ++ below) (hrunning : s.status = .running) (hrunnable : s.curStatus? = some .runnable) (halone : s.alone = true) (hcodeG : s.code? g.method = some c)
    {m : MethodId} {meth : Method} {k : Class} {cm : Code} {args : Array Value} {L : Nat} {v : Value} {row : NativeRow}
    (hk : s.vm.classes[m.cls]? = some k) (hx : k.methods[m.idx]? = some meth) (hboot : k.loader = none) (hkn : k.name = "java/lang/Math")
    (hc : meth.code = some cm) (hml : cm.maxLocals = L) (hl : meth.locks = false) (hroom : (s.calling g m args).hasRoom e.platform {} = true)
    (hrow : NativeRow.find? p.tables.natives "java/lang/Math" meth.name meth.desc = some row) (hrun : ∀ S : State, ∃ acts, (row.sem args).run e S = .ok (some v) S acts)
    (hargs : ∀ n : Nat, (((argsToLocals args L).toList.filterMap fun | .val w => some w | _ => none).toArray).extract 0 (args.size + n) = args) (hcnt : meth.sig.parameters.length = args.size)
    {ig : Instr} {len : Nat} (hdg : decode c.code g.pc = .ok (ig, len))
    (hrest : Steps p.tables e below (s.setTop { g with pc := g.pc + len, stack := v :: g.stack }) target) :
    Steps p.tables e below (doInvoke e (s.setTop g) [] m args).1 target := by
  obtain ⟨g0, hg0⟩ := Option.isSome_iff_exists.mp htop
  obtain ⟨r, hr⟩ := State.topJava?_eq_some.mp hg0
  obtain ⟨mid, hmid⟩ := habove
  have hcur : s.cur < s.threads.size := State.cur_lt_of_frames hr
  have hm : s.vm.method? m = some meth := by simp [Vm.method?, hk, hx]
  have htopG : s.setTop g = s.setFrames (.java g :: r) := State.setTop_of_frames _ hr
  have htail : s.frames.tail = r := by rw [hr]; rfl
  have hfull : e.platform.stackFull (s.setTop g).me (s.setTop g).frames cm.maxLocals = false := by
    have hfc := State.frames_calling htop g m args
    obtain ⟨-, r2, -, r4⟩ := State.hasRoom_stack hroom
    rw [State.localsInUse_invoking hfc (meth := meth) (c := cm) hm hc] at r4
    rw [hfc, htail] at r2
    rw [htail] at r4
    have hw := stackUse_le_stackWeight (.java g :: r)
    rw [State.calling_eq htop, State.stackLimits_setFrames] at r2 r4
    rw [htopG, State.frames_setFrames _ hcur]
    refine Platform.stackFull_eq_false (by rw [State.stackLimits_setFrames]; simp only [List.length_cons] at r2 ⊢; have : ({} : Room).frames = 0 := rfl; omega) (by rw [State.stackLimits_setFrames]; have : ({} : Room).locals = 0 := rfl; omega)
  have h1 := (doInvoke_java (s := s.setTop g) (e := e) (acts := []) (args := args) (meth := meth) (code := cm) hm hc hl hfull).1
  have hU : (s.setTop g).pushFrame (.java (entryFrame m args L)) = s.setFrames (.java (entryFrame m args L) :: .java g :: r) := by
    rw [State.pushFrame, State.frames_setTop _ hr, htopG, State.setFrames_setFrames]
  have h2 : (doInvoke e (s.setTop g) [] m args).1 = s.setFrames (.java (entryFrame m args L) :: .java g :: r) := by
    rw [h1, ← hU, ← hml]
    rfl
  rw [h2]
  have hf1 : (s.setFrames (.java (entryFrame m args L) :: .java g :: r)).frames = .java (entryFrame m args L) :: .java g :: r := State.frames_setFrames _ hcur
  have hov : overridden p.tables e (s.setFrames (.java (entryFrame m args L) :: .java g :: r)) (entryFrame m args L) = some row := my_over (k := k) (x := meth) rfl hk hkn hboot hx hrow
  obtain ⟨acts2, hr2⟩ := hrun (s.setFrames (.native { method := m, args := args } :: .java g :: r))
  have hcode : ∀ F : List Frame, (s.setFrames F).code? g.method = some c := by
    intro F
    have h3 := hcodeG
    rw [State.code?_eq] at h3 ⊢
    simpa [State.setFrames] using h3
  have hfs : handOver (s.setFrames (.native { method := m, args := args } :: .java g :: r)) (some v) (.java g :: r) = some (.java { g with pc := g.pc + len, stack := v :: g.stack } :: r) := by
    simp [handOver, hcode, hdg, Except.toOption]
  have hac : ∃ n : Nat, argCount (s.setFrames (.java (entryFrame m args L) :: .java g :: r)) m = args.size + n := by
    refine ⟨if meth.isStatic then 0 else 1, ?_⟩
    have hb2 : ((s.setFrames (.java (entryFrame m args L) :: .java g :: r)).vm.classes[m.cls]?.bind fun y => y.methods[m.idx]?) = some meth := by
      show (s.vm.classes[m.cls]?.bind fun y => y.methods[m.idx]?) = some meth
      simp [hk, hx]
    unfold argCount
    rw [hb2]
    show meth.sig.parameters.length + _ = _
    rw [hcnt]
  obtain ⟨n, hn⟩ := hac
  have hstep2 : (stepThread p.tables e (s.setFrames (.java (entryFrame m args L) :: .java g :: r))).1 = s.setTop { g with pc := g.pc + len, stack := v :: g.stack } := by
    have hgiven : (((entryFrame m args L).locals.toList.filterMap fun | .val w => some w | _ => none).toArray.extract 0 (argCount (s.setFrames (.java (entryFrame m args L) :: .java g :: r)) (entryFrame m args L).method)) = args := by
      show (((argsToLocals args L).toList.filterMap fun | .val w => some w | _ => none).toArray.extract 0 (argCount (s.setFrames (.java (entryFrame m args L) :: .java g :: r)) m)) = args
      rw [hn]
      exact hargs n
    unfold stepThread
    simp only [hf1, hov]
    erw [hgiven]
    show (afterNative e { method := m, args := args, locked := none } (.java g :: r) ((row.sem args).run e ((s.setFrames (.java (entryFrame m args L) :: .java g :: r)).setFrames (.native { method := m, args := args, locked := none } :: .java g :: r)))).1 = _
    rw [State.setFrames_setFrames, hr2]
    simp only [afterNative]
    rw [doReturn_native (f := { method := m, args := args }) (below := .java g :: r) (State.frames_setFrames _ hcur) rfl hfs, State.setFrames_setFrames, ← State.setTop_of_frames _ hr]
  refine Steps.head ⟨hrunning, by simpa using hrunnable, by simpa using halone⟩ ⟨.java (entryFrame m args L) :: .java g :: mid, by rw [hf1]; rw [hr] at hmid; simp at hmid; simp [hmid], by simp, by simp⟩ ?_
  rw [hstep2]
  exact hrest
theorem my_back {l : Launch} {R : Room} {p : Program} {e : Env} {below : List Frame} {s : State} {sargs : Array Value} {y : MethodName} {bytes : ByteArray} {L : Nat} {ret : Option FieldType} {len W9 : Nat} {args : Array Value} {v : Value} {row : NativeRow} {ps : List FieldType}
    (hy : y.cls = "java/lang/Math") (hcode : (Cond.code y bytes L ret).before sargs s = true) (hps : parseMethodDescriptor y.desc = some ⟨ps, ret⟩) (hcnt : ps.length = args.size)
    (hrow : ∀ p : Program, NativeRow.find? p.tables.natives "java/lang/Math" y.name y.desc = some row) (hrun : ∀ (e : Env) (S : State), ∃ acts, (row.sem args).run e S = .ok (some v) S acts)
    (hargs : ∀ n : Nat, (((argsToLocals args L).toList.filterMap fun | .val w => some w | _ => none).toArray).extract 0 (args.size + n) = args) (hfr : 1 ≤ R.frames) (hlo : W9 + (L + 11) ≤ R.locals) :
    Back l R p e below s sargs y len W9 (fun A a' => A.cells ≤ R.cells ∧ A.slots ≤ R.slots ∧ a' = args) (fun A _ w B => w = some v ∧ B = A) := by
  intro m meth c A g ig mk a' X hg hsize hdg hW hnamed hpre
  obtain ⟨hc, hs, rfl⟩ := hpre
  have hcodeU : (Cond.code y bytes L ret).before sargs A.U = true := Cond.tabsOnly_warm (args' := sargs) (T := A.U) X.warmed _ rfl hcode
  obtain ⟨methM, cM, hmethM, hcodeM, -, hlocalsM, -, hlocksM, -, hsigM⟩ := Cond.code_spec hnamed hcodeU
  obtain ⟨kP, hkP, hkname⟩ := className_of_methodNamed hnamed
  obtain ⟨hmn, hmd⟩ := name_of_methodNamed hnamed hmethM
  have hxP : kP.methods[mk.idx]? = some methM := by simpa [Vm.method?, hkP] using hmethM
  have hbootP : kP.loader = none := Vm.bootOf_findClass (findClass_of_methodNamed hnamed) hkP
  have hcnt2 : methM.sig.parameters.length = a'.size := by
    rw [hps] at hsigM
    rw [← Option.some.inj hsigM]
    exact hcnt
  refine ⟨some v, A, X, ⟨rfl, rfl⟩, ?_⟩
  exact my_nat p X.here.top X.here.above X.here.running X.here.runnable X.here.alone (by rw [hg]; exact X.here.code) hkP hxP hbootP (hkname.trans hy) hcodeM hlocalsM hlocksM
    (X.room_calling hsize hmethM hcodeM (R' := {}) (by show 0 + 1 ≤ R.frames; omega) (by rw [hlocalsM]; show _ + (L + 11) + 0 ≤ R.locals; omega) (by show A.cells + 0 ≤ R.cells; omega) (by show A.slots + 0 ≤ R.slots; omega)) (by rw [hmn, hmd]; exact hrow p) (hrun e) hargs hcnt2 hdg (Steps.refl _)
section MyRows
variable {p : Program} {l : Launch} {e : Env} {R : Room} {s : State} {m : MethodId} {sargs : Array Value} {below : List Frame} {meth : Method} {c : Code} {H : Heap} {locs : List Loc} {cells slots : Nat} {Q : State → Prop} {pc : Nat} {ls : Array Slot} {rest : List Value} {cc : ByteArray}
theorem my_call {y : MethodName} {bytes : ByteArray} {L : Nat} {args : List Value} {v : Value} {row : NativeRow} {ps : List FieldType} {ret : Option FieldType} {st0 : List Value} (hexec : p.tables.exec = Jvm.exec) (hb : c.code = cc) (hml : c.maxLocals = ls.size) {own : String} {index : Nat} (hown : s.vm.findClass own = some m.cls) (hlink : (Cond.methodLink own index y).before sargs s = true) (hstat : (Cond.static y).before sargs s = true) (hini : (Cond.initialized y.cls).before sargs s = true) (hcode : (Cond.code y bytes L ret).before sargs s = true)
    (hy : y.cls = "java/lang/Math") (hps : parseMethodDescriptor y.desc = some ⟨ps, ret⟩) (hcnt : ps.length = args.length)
    (hrow : ∀ p : Program, NativeRow.find? p.tables.natives "java/lang/Math" y.name y.desc = some row) (hrun : ∀ (e : Env) (S : State), ∃ acts, (row.sem args.toArray).run e S = .ok (some v) S acts)
    (hargs : ∀ n : Nat, (((argsToLocals args.toArray L).toList.filterMap fun | .val w => some w | _ => none).toArray).extract 0 (args.toArray.size + n) = args.toArray) (hfr : 1 ≤ R.frames) (hlo : (rest.map fun v => v.category).sum + (L + 11) ≤ R.locals) (hc : cells ≤ R.cells) (hs : slots ≤ R.slots) (hdg : decode cc pc = .ok (.invokestatic index, 3)) (hst : st0 = args.reverse ++ rest)
    (kk : W p l e R s m sargs below meth c H locs cells slots Q (F0 m (pc + 3) ls (v :: rest))) : W p l e R s m sargs below meth c H locs cells slots Q (F0 m pc ls st0) := by
  intro T hT X
  have hK := my_back (l := l) (R := R) (p := p) (e := e) (below := below) (s := s) (sargs := sargs) (len := 3) (W9 := (rest.map fun v => v.category).sum) hy hcode hps (by simpa using hcnt) hrow hrun hargs hfr hlo
  obtain ⟨w, vm₁, B, hW₁, X', ⟨hw, hB⟩, st⟩ := callS X hexec (bytes := bytes) (maxL := L) (ret := ret) hown hlink hstat hini hcode (by rw [hy]; decide +kernel) hK (g := F0 m pc ls st0) rfl hml.symm (argsL := args) (rest := rest) (fun sig h => by rw [hps] at h; rw [← Option.some.inj h]; exact hcnt.symm) hst (by show 2 * 0 + _ ≤ _; omega) (by rw [hb]; exact hdg) (fun vm₁ hW₁ => ⟨hc, hs, rfl⟩)
  subst hw
  subst hB
  obtain ⟨t, a1, b1⟩ := kk (T.setVm vm₁) hT X'
  exact ⟨t, st t a1, b1⟩
end MyRows
def rowAbs : NativeRow := (NativeRow.find? Native.java_lang_Math.nans.rows "java/lang/Math" "abs" "(D)D").get (by decide +kernel)
def rowMax : NativeRow := (NativeRow.find? Native.java_lang_Math.nans.rows "java/lang/Math" "max" "(DD)D").get (by decide +kernel)
def rowMin : NativeRow := (NativeRow.find? Native.java_lang_Math.nans.rows "java/lang/Math" "min" "(DD)D").get (by decide +kernel)
set_option maxRecDepth 100000 in
theorem rowAbs_p (p : Program) : NativeRow.find? p.tables.natives "java/lang/Math" "abs" "(D)D" = some rowAbs := by cases p <;> rfl
set_option maxRecDepth 100000 in
theorem rowMax_p (p : Program) : NativeRow.find? p.tables.natives "java/lang/Math" "max" "(DD)D" = some rowMax := by cases p <;> rfl
set_option maxRecDepth 100000 in
theorem rowMin_p (p : Program) : NativeRow.find? p.tables.natives "java/lang/Math" "min" "(DD)D" = some rowMin := by cases p <;> rfl
/-- a run of an entry that only answers -/
theorem run_of_wp {α : Type} {M : Sem α} {v : α} {e : Env} {S : State} (h : wpRun M (fun w s₂ _ => w = v ∧ s₂ = S) (fun _ _ _ => False) e S) : ∃ acts, M.run e S = .ok v S acts := by
  have h' := (wpRun_iff_run _ _ _ _ _).mp h
  cases hr : M.run e S with
  | ok w s₂ acts₂ => rw [hr] at h'; obtain ⟨rfl, rfl⟩ := h'; exact ⟨_, rfl⟩
  | ctl x s₂ acts₂ => rw [hr] at h'; cases x <;> exact h'.elim
theorem n64_dIsNaN {a : UInt64} (h : n64 a = true) : FP.dIsNaN a = false := by
  have h1 := UInt64.le_iff_toNat_le.mp (n64_notNaN h)
  have h2 : (a &&& 0x7fffffffffffffff).toNat = a.toNat % 2 ^ 63 := by
    rw [UInt64.toNat_and]
    exact Nat.and_two_pow_sub_one_eq_mod a.toNat 63
  rw [h2] at h1
  have h3 : a.toNat % 2 ^ 63 ≤ 2047 * 2 ^ 52 := h1
  show decide (FP.Core.decode FP.Core.b64 a.toNat = FP.Core.Datum.nan) = false
  refine decide_eq_false ?_
  unfold FP.Core.decode FP.Core.fieldE FP.Core.fieldT
  have e1 : FP.Core.Fmt.tails FP.Core.b64 = 2 ^ 52 := rfl
  have e2 : FP.Core.Fmt.exps FP.Core.b64 = 2048 := rfl
  rw [e1, e2]
  split
  · rename_i h5
    split
    · intro h6; cases h6
    · rename_i h6
      omega
  · split <;> (intro h6; cases h6)
theorem abs_run {a : UInt64} (ha : n64 a = true) (e : Env) (S : State) : ∃ acts, (rowAbs.sem #[.double a]).run e S = .ok (some (.double (dabs a))) S acts := by
  refine run_of_wp ?_
  have hsem : rowAbs.sem #[.double a] = (do let r ← anyNaN64 (a &&& 0x7fffffffffffffff); mark "nat.java_lang_Math.abs"; Pure.pure (some (.double r))) := rfl
  have hn : (a &&& 0x7fffffffffffffff) &&& 0x7fffffffffffffff ≤ 0x7ff0000000000000 := by rw [UInt64.and_assoc, UInt64.and_self]; exact n64_notNaN ha
  rw [hsem]
  simp [jvm, wpRun, anyNaN64, hn, dabs]
theorem max_run {a b : UInt64} (ha : n64 a = true) (hb : n64 b = true) (e : Env) (S : State) : ∃ acts, (rowMax.sem #[.double a, .double b]).run e S = .ok (some (.double (dmax a b))) S acts := by
  refine run_of_wp ?_
  have hsem : rowMax.sem #[.double a, .double b] = (do
      let r ← if FP.dIsNaN a then anyNaN64 a else if FP.dIsNaN b then anyNaN64 b else Pure.pure (Native.java_lang_Math.nans.pick64 true a b)
      mark "nat.java_lang_Math.max"
      Pure.pure (some (.double r))) := rfl
  rw [hsem]
  simp [jvm, wpRun, n64_dIsNaN ha, n64_dIsNaN hb, dmax]
theorem min_run {a b : UInt64} (ha : n64 a = true) (hb : n64 b = true) (e : Env) (S : State) : ∃ acts, (rowMin.sem #[.double a, .double b]).run e S = .ok (some (.double (dmin a b))) S acts := by
  refine run_of_wp ?_
  have hsem : rowMin.sem #[.double a, .double b] = (do
      let r ← if FP.dIsNaN a then anyNaN64 a else if FP.dIsNaN b then anyNaN64 b else Pure.pure (Native.java_lang_Math.nans.pick64 false a b)
      mark "nat.java_lang_Math.min"
      Pure.pure (some (.double r))) := rfl
  rw [hsem]
  simp [jvm, wpRun, n64_dIsNaN ha, n64_dIsNaN hb, dmin]
theorem args_1 (a : UInt64) (n : Nat) : (((argsToLocals ([.double a] : List Value).toArray 2).toList.filterMap fun | .val w => some w | _ => none).toArray).extract 0 (([.double a] : List Value).toArray.size + n) = ([.double a] : List Value).toArray := by
  show (#[Value.double a]).extract 0 (1 + n) = #[Value.double a]
  exact Array.extract_eq_self_of_le (by simp)
theorem args_2 (a b : UInt64) (n : Nat) : (((argsToLocals ([.double a, .double b] : List Value).toArray 4).toList.filterMap fun | .val w => some w | _ => none).toArray).extract 0 (([.double a, .double b] : List Value).toArray.size + n) = ([.double a, .double b] : List Value).toArray := by
  show (#[Value.double a, Value.double b]).extract 0 (2 + n) = #[Value.double a, Value.double b]
  exact Array.extract_eq_self_of_le (by simp)
section MyRows2
variable {p : Program} {l : Launch} {e : Env} {R : Room} {s : State} {m : MethodId} {args : Array Value} {below : List Frame} {meth : Method} {c : Code} {H : Heap} {locs : List Loc} {cells slots : Nat} {Q : State → Prop} {pc : Nat} {ls : Array Slot} {rest : List Value} {cc : ByteArray}
theorem my_abs (hexec : p.tables.exec = Jvm.exec) (hb : c.code = cc) (hml : c.maxLocals = ls.size) {own : String} {index : Nat} (hown : s.vm.findClass own = some m.cls) (hlink : (Cond.methodLink own index yJ9_abs_294c1).before args s = true) (hstat : (Cond.static yJ9_abs_294c1).before args s = true) (hini : (Cond.initialized RJ9).before args s = true) (hcode : (Cond.code yJ9_abs_294c1 cJ9_abs_294c1 2 (some .double)).before args s = true)
    (hframes : 1 ≤ R.frames) (hlocals : (rest.map fun v => v.category).sum + 13 ≤ R.locals) (hc : cells ≤ R.cells) (hs : slots ≤ R.slots) {a : UInt64} (ha : n64 a = true) (hdg : decode cc pc = .ok (.invokestatic index, 3))
    (kk : W p l e R s m args below meth c H locs cells slots Q (F0 m (pc + 3) ls (.double (dabs a) :: rest))) : W p l e R s m args below meth c H locs cells slots Q (F0 m pc ls (.double a :: rest)) :=
  my_call (args := [.double a]) (ps := [.double]) hexec hb hml hown hlink hstat hini hcode rfl (by decide +kernel) rfl rowAbs_p (abs_run ha) (args_1 a) hframes hlocals hc hs hdg rfl kk
theorem my_max (hexec : p.tables.exec = Jvm.exec) (hb : c.code = cc) (hml : c.maxLocals = ls.size) {own : String} {index : Nat} (hown : s.vm.findClass own = some m.cls) (hlink : (Cond.methodLink own index yJ9_max_eb370).before args s = true) (hstat : (Cond.static yJ9_max_eb370).before args s = true) (hini : (Cond.initialized RJ9).before args s = true) (hcode : (Cond.code yJ9_max_eb370 cJ9_max_eb370 4 (some .double)).before args s = true)
    (hframes : 1 ≤ R.frames) (hlocals : (rest.map fun v => v.category).sum + 15 ≤ R.locals) (hc : cells ≤ R.cells) (hs : slots ≤ R.slots) {a b : UInt64} (ha : n64 a = true) (hb2 : n64 b = true) (hdg : decode cc pc = .ok (.invokestatic index, 3))
    (kk : W p l e R s m args below meth c H locs cells slots Q (F0 m (pc + 3) ls (.double (dmax a b) :: rest))) : W p l e R s m args below meth c H locs cells slots Q (F0 m pc ls (.double b :: .double a :: rest)) :=
  my_call (args := [.double a, .double b]) (ps := [.double, .double]) hexec hb hml hown hlink hstat hini hcode rfl (by decide +kernel) rfl rowMax_p (max_run ha hb2) (args_2 a b) hframes hlocals hc hs hdg rfl kk
theorem my_min (hexec : p.tables.exec = Jvm.exec) (hb : c.code = cc) (hml : c.maxLocals = ls.size) {own : String} {index : Nat} (hown : s.vm.findClass own = some m.cls) (hlink : (Cond.methodLink own index yJ9_min_eb370).before args s = true) (hstat : (Cond.static yJ9_min_eb370).before args s = true) (hini : (Cond.initialized RJ9).before args s = true) (hcode : (Cond.code yJ9_min_eb370 cJ9_min_eb370 4 (some .double)).before args s = true)
    (hframes : 1 ≤ R.frames) (hlocals : (rest.map fun v => v.category).sum + 15 ≤ R.locals) (hc : cells ≤ R.cells) (hs : slots ≤ R.slots) {a b : UInt64} (ha : n64 a = true) (hb2 : n64 b = true) (hdg : decode cc pc = .ok (.invokestatic index, 3))
    (kk : W p l e R s m args below meth c H locs cells slots Q (F0 m (pc + 3) ls (.double (dmin a b) :: rest))) : W p l e R s m args below meth c H locs cells slots Q (F0 m pc ls (.double b :: .double a :: rest)) :=
  my_call (args := [.double a, .double b]) (ps := [.double, .double]) hexec hb hml hown hlink hstat hini hcode rfl (by decide +kernel) rfl rowMin_p (min_run ha hb2) (args_2 a b) hframes hlocals hc hs hdg rfl kk
end MyRows2
end MyMath
