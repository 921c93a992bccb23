section ZCALL
theorem zgood {w : Cond} (h : w ∈ zall) : w ∈ zall ∧ ((w.onTables && w.keeps) = true ∨ ∃ ty, w = .arrayClass ty) := ⟨h, good_of_word (zall_good h)⟩
theorem zws_good {z : Nat} (h : Cond.code (zname z) (zbytes z) (zml z) (zret z) ∈ zall) : GoodIn zall (zws z) := by
  intro w hw
  rcases List.mem_cons.mp hw with rfl | hw
  · exact zgood h
  · exact zgood hw
/-- what the checks say of a callee -/
theorem zcal_of {z : Nat} (hz : z < 184) : (Cond.code (zname z) (zbytes z) (zml z) (zret z) ∈ zall ∧ Cond.initialized (zname z).cls ∈ zall) ∧ ((zname z).cls ≠ "java/lang/invoke/MethodHandle" ∧ (zname z).cls ≠ "java/lang/invoke/VarHandle" ∧ (parseMethodDescriptor (zname z).desc).map (fun d => d.parameters.length) = some (znarg z)) ∧ plainFor (zname z) = true ∧
    (if (zps z).2.2.2.2.2 = 1 then Cond.static (zname z) ∈ zall else Cond.instanceMethod (zname z) ∈ zall) := by
  have h := zcal_all z hz
  unfold zcal at h
  simp only [Bool.and_eq_true, decide_eq_true_eq] at h
  obtain ⟨⟨⟨⟨⟨⟨h1, h2⟩, h3⟩, h4⟩, h5⟩, h6⟩, h7⟩ := h
  refine ⟨⟨zw_in h1, zw_in h2⟩, ⟨h3, h4, h6⟩, h5, ?_⟩
  split
  · rename_i q
    rw [if_pos q] at h7
    exact zw_in h7
  · rename_i q
    rw [if_neg q] at h7
    exact zw_in h7
theorem zlv_args (AD : Nat → Nat) : ∀ (vs : List zAV) (i j : Nat) (u : zAV), (zsl vs).getD j none = some u → (i + j, zC AD u) ∈ lv_args i (vs.map (zC AD)) := by
  intro vs
  induction vs with
  | nil =>
    intro i j u h
    have e : (zsl []) = [] := rfl
    rw [e] at h
    cases h
  | cons v vs ih =>
    intro i j u h
    have e : zsl (v :: vs) = (if zcat v = 2 then [some v, none] else [some v]) ++ zsl vs := by
      unfold zsl
      rw [List.flatMap_cons]
    rw [e] at h
    show (i + j, zC AD u) ∈ (i, zC AD v) :: lv_args (if (zC AD v).category = 2 then i + 2 else i + 1) (vs.map (zC AD))
    rw [zC_cat]
    by_cases hc : zcat v = 2
    · rw [if_pos hc] at h ⊢
      rcases j with _ | _ | j
      · have h2 : v = u := by simpa using h
        subst h2
        exact List.mem_cons_self
      · have h2 : (none : Option zAV) = some u := by simpa using h
        cases h2
      · refine List.mem_cons_of_mem _ ?_
        rw [show i + (j + 1 + 1) = (i + 2) + j by omega]
        exact ih (i + 2) j u (by simpa using h)
    · rw [if_neg hc] at h ⊢
      rcases j with _ | j
      · have h2 : v = u := by simpa using h
        subst h2
        exact List.mem_cons_self
      · refine List.mem_cons_of_mem _ ?_
        rw [show i + (j + 1) = (i + 1) + j by omega]
        exact ih (i + 1) j u (by simpa using h)
theorem zsl_len (AD : Nat → Nat) (vs : List zAV) : (lg_sl (vs.map (zC AD))).length = (zsl vs).length := by
  induction vs with
  | nil => rfl
  | cons v vs ih =>
    have e1 : zsl (v :: vs) = (if zcat v = 2 then [some v, none] else [some v]) ++ zsl vs := by
      unfold zsl; rw [List.flatMap_cons]
    have e2 : lg_sl ((v :: vs).map (zC AD)) = (if (zC AD v).category = 2 then [Slot.val (zC AD v), .second] else [Slot.val (zC AD v)]) ++ lg_sl (vs.map (zC AD)) := by
      unfold lg_sl; rw [List.map_cons, List.flatMap_cons]
    rw [e1, e2, List.length_append, List.length_append, ih, zC_cat]
    by_cases hc : zcat v = 2
    · rw [if_pos hc, if_pos hc]; rfl
    · rw [if_neg hc, if_neg hc]; rfl
theorem zent_has {AD : Nat → Nat} {z : Nat} {vs : List zAV} {ls : Array Slot} (h : lv_has ls (zml z) (lv_args 0 (vs.map (zC AD)))) : lv_has ls (zml z) (zlv AD (zent z vs)) := by
  refine ⟨h.1, h.2.1, fun q hq => h.2.2 q ?_⟩
  obtain ⟨u, h1, h2⟩ := zlv_mem.mp hq
  unfold zent at h1
  rw [List.getD_eq_getElem?_getD] at h1
  rcases Nat.lt_or_ge q.1 (zsl vs).length with g | g
  · rw [List.getElem?_append_left g, ← List.getD_eq_getElem?_getD] at h1
    have h3 := zlv_args AD vs 0 q.1 u h1
    rw [Nat.zero_add] at h3
    rw [show q = (q.1, zC AD u) by rw [← h2]]
    exact h3
  · rw [List.getElem?_append_right g, List.getElem?_replicate] at h1
    split at h1 <;> cases h1
theorem zent_len {z : Nat} {vs : List zAV} (h : (zsl vs).length ≤ zml z) : (zent z vs).length = zml z := by
  unfold zent
  rw [List.length_append, List.length_replicate]
  omega
/-- a method's start, and its end -/
def zPc (base t b : Nat) (D : va_G) (dA : Nat → ClassId) (zx : Nat → Int) (Ln : Nat) (vs : List zAV) (M : zM) : Array Value → State → Prop := va_Pc (vs.map (zC (zAD base t b))) (fun U => zH base t b D dA zx Ln M U.heap ∧ zK D dA U ∧ zSt base t b zx Ln U U.heap ∧ base ≤ U.heap.size)
def zQc (base t b : Nat) (D : va_G) (dA : Nat → ClassId) (zx : Nat → Int) (Ln : Nat) (v : Option zAV) (M : zM) : Array Value → State → Outcome → State → Prop := fun _ st oc tt => oc = .returned (v.map (zC (zAD base t b))) ∧ zH base t b D dA zx Ln M tt.heap ∧ va_F (fun q => base ≤ q) st tt
theorem zK_moved {D : va_G} {dA : Nat → ClassId} {s U : State} (hW : s.WarmedH U.vm) (h : zK D dA s) : zK D dA U := by
  refine ⟨va_K.moved hW.alike h.1, fun w hw => ?_, va_AO.moved hW.alike h.2.2⟩
  have h1 := h.2.1 w hw
  unfold znest at hw
  have h2 := (List.mem_filter.mp hw).2
  revert h1 h2
  cases w <;> intro h1 h2 <;> first | exact va_Nw.warmM hW h1 | cases h2
theorem zSt_moved {base t b : Nat} {zx : Nat → Int} {Ln : Nat} {s U : State} {H : Heap} (hvm : s.vm.Alike U.vm) (h : zSt base t b zx Ln s s.heap) (hS : s.heap.size ≤ H.size ∧ ∀ q : Nat, q < s.heap.size → ¬ base ≤ q → H[q]? = s.heap[q]?) (hbs : base ≤ s.heap.size) : zSt base t b zx Ln U H := by
  obtain ⟨h1, h2, h3, h4, h5, h6⟩ := h
  have hk : ∀ a : Nat, a < s.heap.size → ¬ base ≤ a → H[a]? = s.heap[a]? := hS.2
  exact ⟨(h1.moved hvm).kept hk, (h2.moved hvm).kept hk, (h3.moved hvm).kept hk, (h4.moved hvm).kept (hk b (by omega) (by omega)), h5, h6⟩
theorem zPc_blind {base t b : Nat} {D : va_G} {dA : Nat → ClassId} {zx : Nat → Int} {Ln : Nat} {vs : List zAV} {M : zM} : FrameBlind (zPc base t b D dA zx Ln vs M) := by
  intro a U g mk h
  obtain ⟨h1, h2, h3, h4, h5⟩ := h
  refine ⟨h1, h2, ⟨va_K.moved (u := U) (U := U.calling g mk a) (Vm.Alike.refl U.vm) h3.1, fun w hw => ?_, va_AO.moved (u := U) (U := U.calling g mk a) (Vm.Alike.refl U.vm) h3.2.2⟩, ?_, h5⟩
  · have h6 := h3.2.1 w hw
    unfold znest at hw
    have h7 := (List.mem_filter.mp hw).2
    revert h6 h7
    cases w <;> intro h6 h7 <;> first | exact va_Nw.same rfl rfl h6 | cases h7
  · exact zSt_moved (s := U) (U := U.calling g mk a) (Vm.Alike.refl U.vm) h4 ⟨Nat.le_refl _, fun _ _ _ => rfl⟩ h5
variable {p : Program} {l : Launch} {e : Env} {R : Room} {s : State} {m : MethodId} {args : Array Value} {below : List Frame} {meth : Method} {c : Code} {Q : State → Prop} {base t b : Nat} {D : va_G} {dA : Nat → ClassId} {zx : Nat → Int} {Ln n0 s0 y : Nat} {pc : Nat} {L : zLs} {st : List zAV} {M : zM}
/-- behind a call -/
theorem zcall_W (C : zCtx p R s m args meth c base t b D dA zx Ln y) {v : Option zAV} {M1 : zM} {a : Array Value} {H : Heap} {locs : List Loc} {ls : Array Slot} {st0 : List Value} {rest : List zAV} (hm1 : M.1.length ≤ M1.1.length) (hm2 : zslots M.1 ≤ zslots M1.1) (h2 : va_S (fun q => base ≤ q) s.heap H locs) (h3 : lv_has ls (zml y) (zlv (zAD base t b) L)) (h4 : L.length = zml y) (h5 : n0 ≤ M.1.length) (h6 : s0 ≤ zslots M.1)
    (hr : va_Run p l e R s m args below meth c H locs (M.1.length - n0) (zslots M.1 - s0) (M1.1.length - M.1.length) (zslots M1.1 - zslots M.1) (F0 m pc ls st0) (rest.map (zC (zAD base t b))) (zQc base t b D dA zx Ln v M1 a) (fun q => base ≤ q))
    (h : zGo p l e R s m args below meth c Q base t b D dA zx Ln n0 s0 y (pc + 3) L (v.toList ++ rest) M1) : W p l e R s m args below meth c H locs (M.1.length - n0) (zslots M.1 - s0) Q (F0 m pc ls st0) := by
  intro T hT X
  obtain ⟨w, st₀, t', T', L9, g0, X', hL, e1, e2, ⟨hv, hH, hz, hk⟩, stp⟩ := hr T hT X
  cases hv
  rw [g0] at hz hk
  rw [show M.1.length - n0 + (M1.1.length - M.1.length) = M1.1.length - n0 by omega, show zslots M.1 - s0 + (zslots M1.1 - zslots M.1) = zslots M1.1 - s0 by omega] at X'
  obtain ⟨t2, a1, b1⟩ := h T'.heap (locs ++ L9) ls (by rw [e1]; exact hH) ⟨Nat.le_trans h2.1 (by rw [e1]; exact hz), fun q g1 g2 => by rw [e1, hk q (Nat.lt_of_lt_of_le g1 h2.1) g2]; exact h2.2.1 q g1 g2, fun q hq => by
      rcases List.mem_append.mp hq with g | g
      · exact h2.2.2 q g
      · exact hL q g⟩ h3 h4 (by omega) (by omega) T' rfl X'
  refine ⟨t2, stp t2 ?_, b1⟩
  have e3 : (v.map (zC (zAD base t b))).toList ++ rest.map (zC (zAD base t b)) = (v.toList ++ rest).map (zC (zAD base t b)) := by
    rw [List.map_append]
    cases v <;> rfl
  rw [e3]
  exact a1
/-- a method's leave -/
theorem zleave_W (C : zCtx p R s m args meth c base t b D dA zx Ln y) (hrt : meth.sig.returnType = zret y) (hlk : meth.locks = false) {I : Instr} {n : Nat} {r : zRes} {v : Option zAV} {mc ms : Nat} (hok : zokI y (pc, I, n, r) = true) (hl : zleave I r st = some v) (hmc : M.1.length - n0 = mc) (hms : zslots M.1 - s0 = ms) :
    zGo p l e R s m args below meth c (MQ below (zQc base t b D dA zx Ln v M) args s mc ms (fun q => base ≤ q)) base t b D dA zx Ln n0 s0 y pc L st M := by
  subst hmc
  subst hms
  intro H locs ls h1 h2 h3 h4 h5 h6
  obtain ⟨hx, hb, hml, hown, hts, hK, hS, hnm, hfr, hlo, hbs⟩ := C
  obtain ⟨a, f, w, x9⟩ := r
  unfold zokI at hok
  rw [Bool.and_eq_true, decide_eq_true_eq] at hok
  obtain ⟨hd, hok⟩ := hok
  unfold zleave at hl
  split at hl
  · split at hl
    · rename_i x hq
      cases hl
      by_cases ha : a = 0
      · dsimp only at hok
        rw [if_pos ha] at hok
        obtain ⟨hn, hr0⟩ := of_decide_eq_true hok
        subst hn
        exact W.iret hx hb (hrt.trans hr0) (fun tt ht hW => ⟨rfl, by rw [ht]; exact h1, h2.F ht⟩) h2.2.2 hd hlk
      · dsimp only at hok
        rw [if_neg ha] at hok
        obtain ⟨hn, hr0⟩ := of_decide_eq_true hok
        subst hn
        exact W.zret hx hb (hrt.trans hr0) (z1_nar (hq.resolve_left ha)).1 (fun tt ht hW => ⟨rfl, by rw [ht]; exact h1, h2.F ht⟩) h2.2.2 hd hlk
    · cases hl
  · cases hl
    obtain ⟨hn, hr0⟩ := of_decide_eq_true hok
    subst hn
    exact W.lret hx hb (hrt.trans hr0) (fun tt ht hW => ⟨rfl, by rw [ht]; exact h1, h2.F ht⟩) h2.2.2 hd hlk
  · cases hl
    obtain ⟨hn, hr0⟩ := of_decide_eq_true hok
    subst hn
    exact W.fret hx hb (hrt.trans hr0) (fun tt ht hW => ⟨rfl, by rw [ht]; exact h1, h2.F ht⟩) h2.2.2 hd hlk
  · cases hl
    obtain ⟨hn, hr0⟩ := of_decide_eq_true hok
    subst hn
    exact W.dret hx hb (hrt.trans hr0) (fun tt ht hW => ⟨rfl, by rw [ht]; exact h1, h2.F ht⟩) h2.2.2 hd hlk
  · cases hl
    obtain ⟨hn, hr0⟩ := of_decide_eq_true hok
    subst hn
    exact W.vret hx hb (hrt.trans hr0) (fun tt ht hW => ⟨rfl, by rw [ht]; exact h1, h2.F ht⟩) h2.2.2 hd hlk
  · cases hl
/-- a contract out of a walk: the plain names' law, with the table of natives asked for the rest -/
theorem zMet_of {y : MethodName} {ws ws' : List Cond} {rm : Room} {Pc : Array Value → State → Prop} {Qc : Array Value → State → Outcome → State → Prop} {mc ms : Nat} {free : Addr → Prop} {cc : ByteArray} {maxL : Nat} {ret : Option FieldType}
    (hy : plainFor y = true) (hw : ws = Cond.code y cc maxL ret :: ws')
    (body : ∀ p e s m args below meth c s₁, BodyLoose p l y (headSpec ws rm) cc maxL ret e s m args below meth c s₁ → c.maxLocals = maxL → Pc args s →
      W p l e (headSpec ws rm).room s m args below meth c s.heap [] 0 0 (MQ below Qc args s mc ms free) (entryFrame m args maxL)) : Met l y ws rm Pc Qc mc ms free := by
  refine MetFree.of_bodySF (code := cc) (maxLocals := maxL) (ret := ret) hy ?_ ?_
  · intro args s m h hn
    obtain ⟨meth, c, h1, h2, h3, h4, h5, h6, -, -⟩ := Cond.code_spec hn (atoms_spec (ws := ws) h _ (by rw [hw]; exact List.mem_cons_self))
    exact ⟨meth, c, h1, h2, h3, h4, h5, h6⟩
  · intro p e s m args below meth c s₁ B hml hP _
    have hh0 : s₁.heap = s.heap := by rw [B.state]; rfl
    obtain ⟨t, a1, o, b1, b2, b3⟩ := body p e s m args below meth c s₁ B hml hP s₁ hh0 (Stand.of_body B)
    exact ⟨t, o, a1, b1, b2, ⟨b3.1, b3.2⟩⟩
/-- the walk of a run, for all contexts: what the induction gives -/
def zWalks (f : Nat) : Prop := ∀ (p : Program) (l : Launch) (e : Env) (R : Room) (s : State) (m : MethodId) (args : Array Value) (below : List Frame) (meth : Method) (c : Code) (Q : State → Prop) (base t b : Nat) (D : va_G) (dA : Nat → ClassId) (zx : Nat → Int) (Ln n0 s0 y pc : Nat) (L : zLs) (st : List zAV) (M : zM) (v : Option zAV) (M' : zM),
  y < 185 → zrun f y pc L st M = some (v, M') → zCtx p R s m args meth c base t b D dA zx Ln y → n0 ≤ M.1.length → s0 ≤ zslots M.1 → M'.1.length - n0 ≤ R.cells → zslots M'.1 - s0 ≤ R.slots →
  (∀ (pc' : Nat) (L' : zLs) (st' : List zAV) (I : Instr) (n : Nat) (r : zRes), zokI y (pc', I, n, r) = true → zleave I r st' = some v → zGo p l e R s m args below meth c Q base t b D dA zx Ln n0 s0 y pc' L' st' M') →
  zGo p l e R s m args below meth c Q base t b D dA zx Ln n0 s0 y pc L st M
/-- a method's contract out of its run -/
theorem zMet_run {f : Nat} (ih : zWalks f) (l : Launch) {z : Nat} (hz : z < 184) {vs : List zAV} {M M' : zM} {v : Option zAV} (hl : (zsl vs).length ≤ zml z) (hrun : zrun f z 0 (zent z vs) [] M = some (v, M')) :
    Met l (zname z) (zws z) ({ frames := (zrm z).1, cells := M'.1.length - M.1.length, slots := zslots M'.1 - zslots M.1, locals := (zrm z).2 }) (zPc base t b D dA zx Ln vs M) (zQc base t b D dA zx Ln v M') (M'.1.length - M.1.length) (zslots M'.1 - zslots M.1) (fun q => base ≤ q) := by
  obtain ⟨-, -, hpl, -⟩ := zcal_of hz
  refine zMet_of (cc := zbytes z) (maxL := zml z) (ret := zret z) hpl rfl ?_
  intro p e s m args below meth c s₁ B hml hv
  obtain ⟨rfl, hH, hK, hS, hbs⟩ := hv
  have hts0 := atoms_spec (ws := zws z) B.pre
  have hts : ∀ w ∈ zall, w.before _ s = true := fun w hw => hts0 w (List.mem_cons_of_mem _ hw)
  have hown : s.vm.findClass (zname z).cls = some m.cls := findClass_of_methodNamed B.named
  have hin : meth.name = (zname z).name := (name_of_methodNamed B.named B.method).1
  have C : zCtx p (headSpec (zws z) ({ frames := (zrm z).1, cells := M'.1.length - M.1.length, slots := zslots M'.1 - zslots M.1, locals := (zrm z).2 })).room s m (vs.map (zC (zAD base t b))).toArray meth c base t b D dA zx Ln z :=
    ⟨B.exec, B.bytes, hml, hown, hts, hK, hS, fun h => hin.trans h, Nat.le_refl _, Nat.le_refl _, hbs⟩
  have hle := zsl_len (zAD base t b) vs
  have hlv := lv_entry (vs.map (zC (zAD base t b))) (n := zml z) (by omega)
  rw [lg_entry_eq]
  have g := ih p l e _ s m _ below meth c (MQ below (zQc base t b D dA zx Ln v M') (vs.map (zC (zAD base t b))).toArray s (M'.1.length - M.1.length) (zslots M'.1 - zslots M.1) (fun q => base ≤ q)) base t b D dA zx Ln M.1.length (zslots M.1) z 0 (zent z vs) [] M v M' (by omega) hrun C (Nat.le_refl _) (Nat.le_refl _) (Nat.le_refl _) (Nat.le_refl _)
    (fun pc' L' st' I n r hok hlv => zleave_W C B.returns B.notSynchronized hok hlv rfl rfl)
  have g2 := g s.heap [] _ hH va_S.rf (zent_has hlv) (zent_len hl) (Nat.le_refl _) (Nat.le_refl _)
  rw [Nat.sub_self, Nat.sub_self] at g2
  exact g2
end ZCALL
