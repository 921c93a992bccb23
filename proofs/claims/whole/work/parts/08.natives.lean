/-! calls that the machine answers itself: two of java.lang.Math's, run by an entry of the table of natives though they have code -/
theorem zn_steps (p : Program) {e : Env} {below : List Frame} {s target : State} {g : JFrame} {c : Code} {m0 : MethodId} (hA : At s m0 c below) (hg0 : g.method = m0)
    {m : MethodId} {meth : Method} {k : Class} {cm : Code} {av : Array Value} {x : UInt64} {ml n : Nat} {row : NativeRow} (acts : List Action)
    (hk : s.vm.classes[m.cls]? = some k) (hx : k.methods[m.idx]? = some meth) (hboot : k.loader = none) (hkn : overriddenIn.contains k.name = true)
    (hrow : NativeRow.find? p.tables.natives k.name meth.name meth.desc = some row) (hst : meth.isStatic = true) (hn : meth.sig.parameters.length = n)
    (hc : meth.code = some cm) (hml : cm.maxLocals = ml) (hl : meth.locks = false) (hroom : (s.calling g m av).hasRoom e.platform {} = true)
    (hgiven : ∀ f : Slot → Option Value, (∀ v, f (.val v) = some v) → f .unset = none → f .second = none → ((entryFrame m av ml).locals.toList.filterMap f).toArray.extract 0 n = av)
    (hrun : ∀ S : State, ∃ acts, (row.sem av).run e S = .ok (some (.double x)) S acts)
    {ig : Instr} {len : Nat} (hdg : decode c.code g.pc = .ok (ig, len))
    (hrest : Steps p.tables e below (s.setTop { g with pc := g.pc + len, stack := .double x :: g.stack }) target) :
    Steps p.tables e below (doInvoke e (s.setTop g) acts m av).1 target := by
  obtain ⟨g₀, hg⟩ := Option.isSome_iff_exists.mp hA.top
  obtain ⟨r, hr⟩ := State.topJava?_eq_some.mp hg
  obtain ⟨mid, hmid⟩ := hA.above
  have hcur : s.cur < s.threads.size := State.cur_lt_of_frames hr
  have hm : s.vm.method? m = some meth := by simp [Vm.method?, hk, hx]
  have htop : s.setTop g = s.setFrames (.java g :: r) := State.setTop_of_frames _ hr
  have htail : s.frames.tail = r := by rw [hr]; rfl
  have hfull : e.platform.stackFull (s.setTop g).me (s.setTop g).frames cm.maxLocals = false := by
    have hfc := State.frames_calling hA.top g m av
    obtain ⟨-, r2, -, r4⟩ := State.hasRoom_stack hroom
    rw [State.localsInUse_invoking hfc (meth := meth) (c := cm) hm hc] at r4
    rw [hfc, htail] at r2
    rw [htail] at r4
    have hw := stackUse_le_stackWeight (.java g :: r)
    rw [State.calling_eq hA.top, State.stackLimits_setFrames] at r2 r4
    rw [htop, State.frames_setFrames _ hcur]
    refine Platform.stackFull_eq_false (by rw [State.stackLimits_setFrames]; simp only [List.length_cons] at r2 ⊢; have : ({} : Room).frames = 0 := rfl; omega) (by rw [State.stackLimits_setFrames]; have : ({} : Room).locals = 0 := rfl; omega)
  rw [(doInvoke_java (s := s.setTop g) (e := e) (acts := acts) (args := av) (meth := meth) (code := cm) hm hc hl hfull).1, hml]
  have hU : (s.setTop g).pushFrame (.java { method := m, pc := 0, locals := argsToLocals av ml, stack := [], locked := none }) = s.setFrames (.java (entryFrame m av ml) :: .java g :: r) := by
    rw [State.pushFrame, State.frames_setTop _ hr, htop, State.setFrames_setFrames]
    rfl
  rw [hU]
  have hf1 : (s.setFrames (.java (entryFrame m av ml) :: .java g :: r)).frames = .java (entryFrame m av ml) :: .java g :: r := State.frames_setFrames _ hcur
  have hov : overridden p.tables e (s.setFrames (.java (entryFrame m av ml) :: .java g :: r)) (entryFrame m av ml) = some row := by
    unfold overridden
    have h1 : s.vm.classes[(entryFrame m av ml).method.cls]? = some k := hk
    have h2 : k.methods[(entryFrame m av ml).method.idx]? = some meth := hx
    have h0 : (entryFrame m av ml).pc = 0 := rfl
    have hkn' : k.name ∈ overriddenIn := by simpa using hkn
    simp [h0, h1, h2, hkn', hboot, hrow]
  have hb2 : argCount (s.setFrames (.java (entryFrame m av ml) :: .java g :: r)) m = n := by
    unfold argCount
    have h1 : (s.setFrames (.java (entryFrame m av ml) :: .java g :: r)).vm.classes[m.cls]? = some k := hk
    rw [h1]
    simp [hx, hn, hst]
  obtain ⟨acts₂, hr2⟩ := hrun (s.setFrames (.native { method := m, args := av, locked := none } :: .java g :: r))
  have hcode : ∀ F : List Frame, (s.setFrames F).code? g.method = some c := by
    intro F
    have h := hA.code
    rw [← hg0] at h
    rw [State.code?_eq] at h ⊢
    simpa [State.setFrames] using h
  have hfs : handOver (s.setFrames (.native { method := m, args := av, locked := none } :: .java g :: r)) (some (.double x)) (.java g :: r)
      = some (.java { g with pc := g.pc + len, stack := .double x :: g.stack } :: r) := by
    simp [handOver, hcode, hdg, Except.toOption]
  have hstep2 : (stepThread p.tables e (s.setFrames (.java (entryFrame m av ml) :: .java g :: r))).1 = s.setTop { g with pc := g.pc + len, stack := .double x :: g.stack } := by
    unfold stepThread
    simp only [hf1, hov]
    have hm2 : (entryFrame m av ml).method = m := rfl
    have hk2 : (entryFrame m av ml).locked = none := rfl
    rw [hm2, hk2, hb2, hgiven _ (fun _ => rfl) rfl rfl, State.setFrames_setFrames]
    simp only [hr2, afterNative]
    rw [doReturn_native (f := { method := m, args := av, locked := none }) (below := .java g :: r) (State.frames_setFrames _ hcur) rfl hfs, State.setFrames_setFrames, ← State.setTop_of_frames _ hr]
  refine Steps.head ⟨hA.running, by simpa using hA.runnable, by simpa using hA.alone⟩ ⟨.java (entryFrame m av ml) :: .java g :: mid, by rw [hf1]; rw [hr] at hmid; simp at hmid; simp [hmid], by simp, by simp⟩ ?_
  rw [hstep2]
  exact hrest
theorem zn_back {l : Launch} {R : Room} {p : Program} {e : Env} {below : List Frame} {s : State} {sargs : Array Value} {len W : Nat} {y : MethodName} {bytes : ByteArray} {ml n : Nat} {ret : Option FieldType} {av : Array Value} {x : UInt64} {row : NativeRow}
    (hcode : (Cond.code y bytes ml ret).before sargs s = true) (hstat : (Cond.static y).before sargs s = true) (hov : overriddenIn.contains y.cls = true) (hrow : NativeRow.find? p.tables.natives y.cls y.name y.desc = some row)
    (hn : (parseMethodDescriptor y.desc).map (fun d => d.parameters.length) = some n) (hgiven : ∀ (m : MethodId) (f : Slot → Option Value), (∀ v, f (.val v) = some v) → f .unset = none → f .second = none → ((entryFrame m av ml).locals.toList.filterMap f).toArray.extract 0 n = av)
    (hrun : ∀ S : State, ∃ acts, (row.sem av).run e S = .ok (some (.double x)) S acts) (hfr : 1 ≤ R.frames) (hlo : W + (ml + 11) ≤ R.locals) :
    Back l R p e below s sargs y len W (fun A a' => A.cells ≤ R.cells ∧ A.slots ≤ R.slots ∧ a' = av) (fun A _ v B => v = some (.double x) ∧ B = A) := by
  intro m meth c A g ig mk a' X hg hsize hdg hW hnamed ⟨hc, hs, ha'⟩
  subst ha'
  have hcodeU : (Cond.code y bytes ml ret).before sargs A.U = true := Cond.tabsOnly_warm (args' := sargs) (T := A.U) X.warmed _ rfl hcode
  have hstatU : (Cond.static y).before sargs A.U = true := Cond.tabsOnly_warm (args' := sargs) (T := A.U) X.warmed _ rfl hstat
  obtain ⟨methM, cM, hmethM, hcodeM', -, hlocalsM, -, hlocksM, -, hsigM⟩ := Cond.code_spec hnamed hcodeU
  have hstM : methM.isStatic = true := Cond.static_spec hnamed hmethM hstatU
  obtain ⟨kP, hkP, hkname⟩ := className_of_methodNamed hnamed
  obtain ⟨hmnM, hmdM⟩ := name_of_methodNamed hnamed hmethM
  have hxP : kP.methods[mk.idx]? = some methM := by simpa [Vm.method?, hkP] using hmethM
  have hbootP : kP.loader = none := Vm.bootOf_findClass (findClass_of_methodNamed hnamed) hkP
  have hpar : methM.sig.parameters.length = n := by
    rw [hsigM] at hn
    exact Option.some.inj hn
  refine ⟨some (.double x), A, X, ⟨rfl, rfl⟩, ?_⟩
  exact zn_steps p X.here hg [] hkP hxP hbootP (by rw [hkname]; exact hov) (by rw [hkname, hmnM, hmdM]; exact hrow) hstM hpar hcodeM' hlocalsM hlocksM
    (X.room_calling hsize hmethM hcodeM' (R' := {}) (by show 0 + 1 ≤ R.frames; omega) (by rw [hlocalsM]; show _ + (ml + 11) + 0 ≤ R.locals; omega) (by show A.cells + 0 ≤ R.cells; omega) (by show A.slots + 0 ≤ R.slots; omega)) (hgiven mk) hrun hdg (Steps.refl _)
def zn_absRow : NativeRow := (NativeRow.find? Native.java_lang_Math.nans.rows "java/lang/Math" "abs" "(D)D").get (by decide +kernel)
def zn_maxRow : NativeRow := (NativeRow.find? Native.java_lang_Math.nans.rows "java/lang/Math" "max" "(DD)D").get (by decide +kernel)
set_option maxRecDepth 100000 in
theorem zn_absFind (p : Program) : NativeRow.find? p.tables.natives "java/lang/Math" "abs" "(D)D" = some zn_absRow := by
  cases p <;> rfl
set_option maxRecDepth 100000 in
theorem zn_maxFind (p : Program) : NativeRow.find? p.tables.natives "java/lang/Math" "max" "(DD)D" = some zn_maxRow := by
  cases p <;> rfl
theorem zn_ok {r : NativeRow} {av : Array Value} {v : Value} {e : Env} {S : State} (hw : wpRun (r.sem av) (fun w s₂ _ => w = some v ∧ s₂ = S) (fun _ _ _ => False) e S) : ∃ acts, (r.sem av).run e S = .ok (some v) S acts := by
  have hw' := (wpRun_iff_run _ _ _ _ _).mp hw
  cases hr : (r.sem av).run e S with
  | ok w s₂ a₂ => rw [hr] at hw'; obtain ⟨rfl, rfl⟩ := hw'; exact ⟨_, rfl⟩
  | ctl w s₂ a₂ => rw [hr] at hw'; cases w <;> exact hw'.elim
theorem zn_absRun {a : UInt64} (ha : a &&& 0x7fffffffffffffff ≤ 0x7ff0000000000000) (e : Env) (S : State) : ∃ acts, (zn_absRow.sem #[.double a]).run e S = .ok (some (.double (a &&& 0x7fffffffffffffff))) S acts := by
  have hs : zn_absRow.sem #[.double a] = (do
      let r ← anyNaN64 (a &&& 0x7fffffffffffffff)
      mark "nat.java_lang_Math.abs"
      Pure.pure (some (.double r))) := rfl
  have hn : (a &&& 0x7fffffffffffffff) &&& 0x7fffffffffffffff ≤ 0x7ff0000000000000 := by rw [UInt64.and_assoc, UInt64.and_self]; exact ha
  refine zn_ok ?_
  rw [hs]
  simp [jvm, wpRun, anyNaN64, hn]
theorem zn_and {a : UInt64} : (a &&& 0x7fffffffffffffff).toNat = a.toNat % 2 ^ 63 := by
  rw [UInt64.toNat_and]
  exact Nat.and_two_pow_sub_one_eq_mod a.toNat 63
theorem zn_notNaN {a : UInt64} (ha : a &&& 0x7fffffffffffffff ≤ 0x7ff0000000000000) : FP.dIsNaN a = false := by
  have h1 : a.toNat % 2 ^ 63 ≤ 0x7ff0000000000000 := by
    rw [← zn_and]
    exact UInt64.le_iff_toNat_le.mp ha
  show decide (FP.Core.decode FP.Core.b64 a.toNat = .nan) = false
  rw [decide_eq_false_iff_not]
  intro h
  unfold FP.Core.decode at h
  split at h
  · rename_i he
    split at h
    · cases h
    · rename_i ht
      have e1 : FP.Core.fieldE FP.Core.b64 a.toNat = a.toNat / 2 ^ 52 % 2 ^ 11 := rfl
      have e2 : FP.Core.fieldT FP.Core.b64 a.toNat = a.toNat % 2 ^ 52 := rfl
      have e3 : FP.Core.b64.exps - 1 = 2047 := by decide
      rw [e1, e3] at he
      rw [e2] at ht
      omega
  · split at h <;> cases h
theorem zn_maxRun {a b : UInt64} (ha : a &&& 0x7fffffffffffffff ≤ 0x7ff0000000000000) (hb : b &&& 0x7fffffffffffffff ≤ 0x7ff0000000000000) (e : Env) (S : State) : ∃ acts, (zn_maxRow.sem #[.double a, .double b]).run e S = .ok (some (.double (Native.java_lang_Math.nans.pick64 true a b))) S acts := by
  have hs : zn_maxRow.sem #[.double a, .double b] = (do
      let r ← if FP.dIsNaN a then anyNaN64 a else if FP.dIsNaN b then anyNaN64 b else Pure.pure (Native.java_lang_Math.nans.pick64 true a b)
      mark "nat.java_lang_Math.max"
      Pure.pure (some (.double r))) := rfl
  refine zn_ok ?_
  rw [hs, zn_notNaN ha, zn_notNaN hb]
  simp [jvm, wpRun]
theorem zn_call {p : Program} {l : Launch} {e : Env} {R : Room} {s : State} {m : MethodId} {args : Array Value} {below : List Frame} {meth : Method} {c : Code} {H : Heap} {locs : List Loc} {cells slots : Nat} {Q : State → Prop} {pc : Nat} {ls : Array Slot} {rest : List Value} {cc : ByteArray}
    {own : String} {index : Nat} {y : MethodName} {bytes : ByteArray} {ml n : Nat} {ret : Option FieldType} {As : List Value} {x : UInt64} {row : NativeRow} (hx : p.tables.exec = Jvm.exec) (hb : c.code = cc) (hml : c.maxLocals = ls.size) (hown : s.vm.findClass own = some m.cls)
    (hl : (Cond.methodLink own index y).before args s = true) (hst : (Cond.static y).before args s = true) (hini : (Cond.initialized y.cls).before args s = true) (hcode : (Cond.code y bytes ml ret).before args s = true) (hy : y.cls ≠ "java/lang/invoke/MethodHandle" ∧ y.cls ≠ "java/lang/invoke/VarHandle")
    (hov : overriddenIn.contains y.cls = true) (hrow : NativeRow.find? p.tables.natives y.cls y.name y.desc = some row) (hn : (parseMethodDescriptor y.desc).map (fun d => d.parameters.length) = some n) (hAs : As.length = n)
    (hgiven : ∀ (m : MethodId) (f : Slot → Option Value), (∀ v, f (.val v) = some v) → f .unset = none → f .second = none → ((entryFrame m As.toArray ml).locals.toList.filterMap f).toArray.extract 0 n = As.toArray) (hrun : ∀ S : State, ∃ acts, (row.sem As.toArray).run e S = .ok (some (.double x)) S acts)
    (hfr : 1 ≤ R.frames) (hlo : 8 + (ml + 11) ≤ R.locals) (hW : (rest.map fun v => v.category).sum ≤ 8) (hf : cells ≤ R.cells ∧ slots ≤ R.slots) (hdg : decode cc pc = .ok (.invokestatic index, 3))
    (kk : W p l e R s m args below meth c H locs cells slots Q (F0 m (pc + 3) ls (.double x :: rest))) : W p l e R s m args below meth c H locs cells slots Q (F0 m pc ls (As.reverse ++ rest)) := by
  intro T hT X
  obtain ⟨v, vm₁, B, hW₁, X', ⟨e1, e2⟩, st⟩ := callS X hx (bytes := bytes) (maxL := ml) (ret := ret) hown hl hst hini hcode hy (zn_back (len := 3) (W := 8) hcode hst hov hrow hn hgiven hrun hfr hlo) (g := F0 m pc ls (As.reverse ++ rest)) rfl (by rw [hml]) (argsL := As) (rest := rest)
    (fun sig h => by rw [h] at hn; exact hAs.trans (Option.some.inj hn).symm) rfl (by show 2 * 0 + _ ≤ _; omega) (by rw [hb]; exact hdg) (fun vm₁ hW₁ => ⟨hf.1, hf.2, rfl⟩)
  subst e2
  cases e1
  obtain ⟨t, a1, b1⟩ := kk (T.setVm vm₁) hT X'
  exact ⟨t, st t a1, b1⟩
