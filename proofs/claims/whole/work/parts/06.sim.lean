/-! THE SIMULATION: what the abstract machine does, the machine does -/
def zAD (base t b k : Nat) : Nat := if k = 1000 then t else if k = 1001 then b else base + k
def zC (AD : Nat → Nat) : zAV → Value
  | .inl x => .int (Int32.ofInt x)
  | .inr (.inl x) => .long (Int64.ofInt x)
  | .inr (.inr (.inl x)) => .float x
  | .inr (.inr (.inr (.inl x))) => .double x
  | .inr (.inr (.inr (.inr k))) => .ref (AD k)
theorem zC_cat (AD : Nat → Nat) (v : zAV) : (zC AD v).category = zcat v := by rcases v with x | x | x | x | x <;> rfl
theorem zC_sum (AD : Nat → Nat) (st : List zAV) : ((st.map (zC AD)).map fun v => v.category).sum = (st.map zcat).sum := by
  rw [List.map_map]
  congr 1
  exact List.map_congr_left fun v _ => zC_cat AD v
def zlv (AD : Nat → Nat) (L : zLs) : List (Nat × Value) := (List.range L.length).filterMap fun i => (L.getD i none).map fun v => (i, zC AD v)
theorem zlv_mem {AD : Nat → Nat} {L : zLs} {q : Nat × Value} : q ∈ zlv AD L ↔ ∃ v, L.getD q.1 none = some v ∧ q.2 = zC AD v := by
  unfold zlv
  rw [List.mem_filterMap]
  constructor
  · rintro ⟨i, -, h⟩
    obtain ⟨v, h1, h2⟩ := Option.map_eq_some_iff.mp h
    subst h2
    exact ⟨v, h1, rfl⟩
  · rintro ⟨v, h1, h2⟩
    refine ⟨q.1, List.mem_range.mpr ?_, ?_⟩
    · rcases Nat.lt_or_ge q.1 L.length with h | h
      · exact h
      · rw [List.getD_eq_getElem?_getD, List.getElem?_eq_none h] at h1
        cases h1
    · rw [h1, Option.map_some, ← h2]
theorem zlv_at {AD : Nat → Nat} {L : zLs} {ls : Array Slot} {n i : Nat} {v : zAV} (h : lv_has ls n (zlv AD L)) (hv : L.getD i none = some v) : ls[i]? = some (.val (zC AD v)) :=
  h.2.2 (i, zC AD v) (zlv_mem.mpr ⟨v, hv, rfl⟩)
theorem zcut_succ (L : zLs) (j : Nat) : zcut L (j + 1) = (match L.getD j none with
    | some (.inr (.inl _)) => L.set j none
    | some (.inr (.inr (.inr (.inl _)))) => L.set j none
    | _ => L) := rfl
theorem zcut_len (L : zLs) (i : Nat) : (zcut L i).length = L.length := by
  cases i with
  | zero => rfl
  | succ j =>
    rw [zcut_succ]
    split <;> simp
theorem zcut_get {L : zLs} {i j : Nat} {u : zAV} (h : (zcut L i).getD j none = some u) : L.getD j none = some u ∧ ¬ (j + 1 = i ∧ zcat u = 2) := by
  cases i with
  | zero => exact ⟨h, fun q => absurd q.1 (by omega)⟩
  | succ m =>
    rw [zcut_succ] at h
    split at h
    · rename_i x hx
      rw [List.getD_eq_getElem?_getD, List.getElem?_set] at h
      by_cases e : m = j
      · rw [if_pos e] at h
        split at h <;> cases h
      · rw [if_neg e, ← List.getD_eq_getElem?_getD] at h
        exact ⟨h, fun q => e (by omega)⟩
    · rename_i x hx
      rw [List.getD_eq_getElem?_getD, List.getElem?_set] at h
      by_cases e : m = j
      · rw [if_pos e] at h
        split at h <;> cases h
      · rw [if_neg e, ← List.getD_eq_getElem?_getD] at h
        exact ⟨h, fun q => e (by omega)⟩
    · rename_i h1 h2
      refine ⟨h, fun q => ?_⟩
      obtain ⟨q1, q2⟩ := q
      have e : m = j := by omega
      subst e
      rcases u with x | x | x | x | x
      · cases q2
      · exact h1 x h
      · cases q2
      · exact h2 x h
      · cases q2
theorem zset1_len (L : zLs) (i : Nat) (v : zAV) : (zset1 L i v).length = L.length := by
  unfold zset1; rw [List.length_set, zcut_len]
theorem zset2_len (L : zLs) (i : Nat) (v : zAV) : (zset2 L i v).length = L.length := by
  unfold zset2; rw [List.length_set, List.length_set, zcut_len]
theorem zset1_has {AD : Nat → Nat} {L : zLs} {ls : Array Slot} {n i : Nat} {v : zAV} (h : lv_has ls n ((i, zC AD v) :: (zlv AD L).filter (fun q => !(q.1 == i) && !(q.1 + 1 == i && q.2.category == 2)))) : lv_has ls n (zlv AD (zset1 L i v)) := by
  refine ⟨h.1, h.2.1, fun q hq => h.2.2 q ?_⟩
  obtain ⟨u, h1, h2⟩ := zlv_mem.mp hq
  unfold zset1 at h1
  rw [List.getD_eq_getElem?_getD, List.getElem?_set] at h1
  by_cases e : i = q.1
  · rw [if_pos e] at h1
    split at h1
    · have h3 : v = u := by simpa using h1
      subst h3
      rw [← h2, e]
      exact List.mem_cons_self
    · cases h1
  · rw [if_neg e, ← List.getD_eq_getElem?_getD] at h1
    obtain ⟨h3, h4⟩ := zcut_get h1
    refine List.mem_cons_of_mem _ (List.mem_filter.mpr ⟨zlv_mem.mpr ⟨u, h3, h2⟩, ?_⟩)
    rw [h2, zC_cat]
    simp only [Bool.and_eq_true, Bool.not_eq_true', beq_eq_false_iff_ne, ne_eq, Bool.and_eq_false_iff]
    refine ⟨fun q => e q.symm, ?_⟩
    by_cases g : q.1 + 1 = i
    · exact Or.inr fun g2 => h4 ⟨g, g2⟩
    · exact Or.inl g
theorem zset2_has {AD : Nat → Nat} {L : zLs} {ls : Array Slot} {n i : Nat} {v : zAV} (h : lv_has ls n ((i, zC AD v) :: (zlv AD L).filter (fun q => !(q.1 == i) && (!(q.1 == i + 1) && !(q.1 + 1 == i && q.2.category == 2))))) : lv_has ls n (zlv AD (zset2 L i v)) := by
  refine ⟨h.1, h.2.1, fun q hq => h.2.2 q ?_⟩
  obtain ⟨u, h1, h2⟩ := zlv_mem.mp hq
  unfold zset2 at h1
  rw [List.getD_eq_getElem?_getD, List.getElem?_set] at h1
  by_cases e : i = q.1
  · rw [if_pos e] at h1
    split at h1
    · have h3 : v = u := by simpa using h1
      subst h3
      rw [← h2, e]
      exact List.mem_cons_self
    · cases h1
  · rw [if_neg e, List.getElem?_set] at h1
    by_cases e2 : i + 1 = q.1
    · rw [if_pos e2] at h1
      split at h1 <;> cases h1
    · rw [if_neg e2, ← List.getD_eq_getElem?_getD] at h1
      obtain ⟨h3, h4⟩ := zcut_get h1
      refine List.mem_cons_of_mem _ (List.mem_filter.mpr ⟨zlv_mem.mpr ⟨u, h3, h2⟩, ?_⟩)
      rw [h2, zC_cat]
      simp only [Bool.and_eq_true, Bool.not_eq_true', beq_eq_false_iff_ne, ne_eq, Bool.and_eq_false_iff]
      refine ⟨fun q => e q.symm, fun q => e2 q.symm, ?_⟩
      by_cases g : q.1 + 1 = i
      · exact Or.inr fun g2 => h4 ⟨g, g2⟩
      · exact Or.inl g
/-- the words of numbers -/
theorem z32_eq {x y : Int} (hx : -2147483648 ≤ x ∧ x ≤ 2147483647) (hy : -2147483648 ≤ y ∧ y ≤ 2147483647) : Int32.ofInt x = Int32.ofInt y ↔ x = y := by
  constructor
  · intro h
    have e := congrArg Int32.toInt h
    rwa [Int32.toInt_ofInt_of_le (by omega) (by omega), Int32.toInt_ofInt_of_le (by omega) (by omega)] at e
  · rintro rfl; rfl
theorem z32_lt {x y : Int} (hx : -2147483648 ≤ x ∧ x ≤ 2147483647) (hy : -2147483648 ≤ y ∧ y ≤ 2147483647) : Int32.ofInt x < Int32.ofInt y ↔ x < y := by
  rw [Int32.lt_iff_toInt_lt, Int32.toInt_ofInt_of_le (by omega) (by omega), Int32.toInt_ofInt_of_le (by omega) (by omega)]
theorem z32_le {x y : Int} (hx : -2147483648 ≤ x ∧ x ≤ 2147483647) (hy : -2147483648 ≤ y ∧ y ≤ 2147483647) : Int32.ofInt x ≤ Int32.ofInt y ↔ x ≤ y := by
  rw [Int32.le_iff_toInt_le, Int32.toInt_ofInt_of_le (by omega) (by omega), Int32.toInt_ofInt_of_le (by omega) (by omega)]
theorem z32_0 : (0 : Int32) = Int32.ofInt 0 := by decide
theorem z32_in {i : Int} {n : Nat} (h : 0 ≤ i ∧ i < (n : Int) ∧ i < 2147483648) : vp_in (Int32.ofInt i) n ∧ (Int32.ofInt i).toNatClampNeg = i.toNat := by
  have e : (Int32.ofInt i).toNatClampNeg = i.toNat := Int32.toNatClampNeg_ofInt_of_le (by omega) (by omega)
  refine ⟨?_, e⟩
  unfold vp_in
  rw [e, z32_0, z32_lt (by omega) (by omega)]
  omega
theorem z64_cmp {x y : Int} (hx : -9223372036854775808 ≤ x ∧ x ≤ 9223372036854775807) (hy : -9223372036854775808 ≤ y ∧ y ≤ 9223372036854775807) : lg_cmp (Int64.ofInt x) (Int64.ofInt y) = Int32.ofInt (zcmp x y) := by
  have h1 : (Int64.ofInt x > Int64.ofInt y) ↔ y < x := by
    rw [gt_iff_lt, Int64.lt_iff_toInt_lt, Int64.toInt_ofInt_of_le (by omega) (by omega), Int64.toInt_ofInt_of_le (by omega) (by omega)]
  have h2 : (Int64.ofInt x = Int64.ofInt y) ↔ x = y := by
    rw [← Int64.toInt_inj, Int64.toInt_ofInt_of_le (by omega) (by omega), Int64.toInt_ofInt_of_le (by omega) (by omega)]
  unfold lg_cmp zcmp
  simp only [h1, h2]
  by_cases a : y < x
  · rw [if_pos a, if_neg (by omega), if_neg (by omega)]; decide
  · by_cases b : x = y
    · rw [if_neg a, if_pos b, if_neg (by omega), if_pos b]; decide
    · rw [if_neg a, if_neg b, if_pos (by omega)]; decide
theorem z64_div {x y : Int} (h : 0 < y ∧ y ≤ 9223372036854775807 ∧ -9223372036854775808 ≤ x ∧ x ≤ 9223372036854775807) : ¬ Int64.ofInt y = 0 ∧ Int64.ofInt x / Int64.ofInt y = Int64.ofInt (x.tdiv y) ∧ Int64.ofInt x - Int64.ofInt x / Int64.ofInt y * Int64.ofInt y = Int64.ofInt (x.tmod y) := by
  have hm : Int64.minValue.toInt = -9223372036854775808 := by decide
  have hM : Int64.maxValue.toInt = 9223372036854775807 := by decide
  have e : Int64.ofInt x / Int64.ofInt y = Int64.ofInt (x.tdiv y) := (Int64.ofInt_tdiv (by omega) (by omega) (by omega) (by omega)).symm
  refine ⟨fun q => ?_, e, ?_⟩
  · have q2 := congrArg Int64.toInt q
    rw [Int64.toInt_ofInt_of_le (by omega) (by omega)] at q2
    rw [Int64.toInt_zero] at q2
    omega
  · rw [e, ← Int64.ofInt_mul, ← Int64.ofInt_sub]
    congr 1
    have := Int.mul_tdiv_add_tmod x y
    rw [Int.mul_comm] at this
    omega
/-- the heap of the abstract machine in the machine's -/
def zval (AD : Nat → Nat) (c : Nat) (R : List (List (Option Nat))) (Z : zMem) (k i : Nat) : Value :=
  if c = 1 then .long (Int64.ofInt (Z k i)) else if c = 2 then .float (UInt32.ofNat (Z k i).toNat) else if c = 5 then va_rf ((zrd R k i).map AD) else .int (Int32.ofInt (Z k i))
def zrow (AD : Nat → Nat) (c : Nat) (R : List (List (Option Nat))) (Z : zMem) (k : Nat) : (Nat → Int32) ⊕ (Nat → Int64) ⊕ (Nat → UInt32) ⊕ (Nat → UInt64) ⊕ (Nat → Option Nat) :=
  if c = 11 then .inr (.inl fun i => Int64.ofInt (Z k i)) else if c = 12 then .inr (.inr (.inl fun i => UInt32.ofNat (Z k i).toNat)) else if c = 15 then .inr (.inr (.inr (.inr fun i => (zrd R k i).map AD))) else .inl fun i => Int32.ofInt (Z k i)
def zflds (AD : Nat → Nat) (c : Nat) (R : List (List (Option Nat))) (Z : zMem) (k : Nat) : List Value := (List.range (zcls c).2.2).map (fun i => zval AD ((zfk.getD c []).getD i 9) R Z k i)
def zel (AD : Nat → Nat) (dA : Nat → ClassId) (d : Nat × Nat) (k : Nat) (R : List (List (Option Nat))) (Z : zMem) : va_E :=
  if d.1 < 10 then .inr (d.1, zflds AD d.1 R Z k) else .inl (dA d.1, d.2, zrow AD d.1 R Z k)
def zdsl (d : Nat × Nat) : Nat := if d.1 < 10 then (zcls d.1).2.2 else d.2
def zslots (T : List (Nat × Nat)) : Nat := (T.map zdsl).sum
def zH (base t b : Nat) (D : va_G) (dA : Nat → ClassId) (zx : Nat → Int) (Ln : Nat) (M : zM) (H : Heap) : Prop :=
  H.size = base + M.1.length ∧ M.1.length ≤ 900 ∧ (∀ (k : Nat) (d : Nat × Nat), M.1[k]? = some d → va_at D zcl (base + k, zel (zAD base t b) dA d k M.2.1 M.2.2) H) ∧ (∀ j, M.2.2 1001 j = zx j) ∧ M.2.2 1002 0 = Ln
def zty (dA : Nat → ClassId) : List (ClassId × FieldType) := [(dA 10, .int), (dA 11, .long), (dA 12, .float), (dA 13, .byte), (dA 14, .boolean), (dA 15, .object "EstateVessels$Tape")]
def znest : List Cond := lw_tbl.filter fun w => match w with | .methodLinkNest .. => true | _ => false
def zK (D : va_G) (dA : Nat → ClassId) (U : State) : Prop := va_K D zcl (zty dA) U ∧ (∀ w ∈ znest, va_Nw w U) ∧ va_AO "EstateVessels$Tape" U
def zSt (base t b : Nat) (zx : Nat → Int) (Ln : Nat) (U : State) (H : Heap) : Prop :=
  va_Z "EstateVessels$Group" "ORDERS" "[I" (.ref t) (fun q => base ≤ q) U H ∧ va_Z "java/lang/Math" "negativeZeroDoubleBits" "J" (.long (Int64.ofInt (-9223372036854775808))) (fun q => base ≤ q) U H ∧
  va_T .int t 7 (fun j => .int (Int32.ofInt (([1, 1, 2, 6, 24, 120, 720] : List Int).getD j 0))) (fun q => base ≤ q) U H ∧ va_X b Ln (fun j => Int32.ofInt (zx j)) U H ∧ b < base ∧ Ln < 2147483648
section ZSIM
variable {p : Program} {l : Launch} {e : Env} {R : Room} {s : State} {m : MethodId} {args : Array Value} {below : List Frame} {meth : Method} {c : Code} {Q : State → Prop} {base t b : Nat} {D : va_G} {dA : Nat → ClassId} {zx : Nat → Int} {Ln n0 s0 y : Nat} {pc : Nat} {L : zLs} {st : List zAV} {M : zM}
def zCtx (p : Program) (R : Room) (s : State) (m : MethodId) (args : Array Value) (meth : Method) (c : Code) (base t b : Nat) (D : va_G) (dA : Nat → ClassId) (zx : Nat → Int) (Ln y : Nat) : Prop :=
  p.tables.exec = Jvm.exec ∧ c.code = zbytes y ∧ c.maxLocals = zml y ∧ s.vm.findClass (zname y).cls = some m.cls ∧ (∀ w ∈ zall, w.before args s = true) ∧ zK D dA s ∧ zSt base t b zx Ln s s.heap ∧ ((zname y).name = "<init>" → meth.name = "<init>") ∧ (zrm y).1 ≤ R.frames ∧ (zrm y).2 ≤ R.locals ∧ base ≤ s.heap.size
def zGo (p : Program) (l : Launch) (e : Env) (R : Room) (s : State) (m : MethodId) (args : Array Value) (below : List Frame) (meth : Method) (c : Code) (Q : State → Prop) (base t b : Nat) (D : va_G) (dA : Nat → ClassId) (zx : Nat → Int) (Ln n0 s0 y : Nat) (pc : Nat) (L : zLs) (st : List zAV) (M : zM) : Prop :=
  ∀ (H : Heap) (locs : List Loc) (ls : Array Slot), zH base t b D dA zx Ln M H → va_S (fun q => base ≤ q) s.heap H locs → lv_has ls (zml y) (zlv (zAD base t b) L) → L.length = zml y → n0 ≤ M.1.length → s0 ≤ zslots M.1 →
    W p l e R s m args below meth c H locs (M.1.length - n0) (zslots M.1 - s0) Q (F0 m pc ls (st.map (zC (zAD base t b))))
theorem zs_iconst (C : zCtx p R s m args meth c base t b D dA zx Ln y) {k : Int} (hd : decode (zbytes y) pc = .ok (.iconst k, 1)) (h : zGo p l e R s m args below meth c Q base t b D dA zx Ln n0 s0 y (pc + 1) L (zI k :: st) M) : zGo p l e R s m args below meth c Q base t b D dA zx Ln n0 s0 y pc L st M := by
  intro H locs ls h1 h2 h3 h4 h5 h6
  obtain ⟨hx, hb, hml, hown, hts, hK, hS, hnm, hfr, hlo, hbs⟩ := C
  exact lv_iconst hx hb hd rfl (h H locs ls h1 h2 h3 h4 h5 h6)

theorem zs_bipush (C : zCtx p R s m args meth c base t b D dA zx Ln y) {k : Int} (hk : -128 ≤ k ∧ k < 128) (hd : decode (zbytes y) pc = .ok (.bipush k, 2)) (h : zGo p l e R s m args below meth c Q base t b D dA zx Ln n0 s0 y (pc + 2) L (zI k :: st) M) : zGo p l e R s m args below meth c Q base t b D dA zx Ln n0 s0 y pc L st M := by
  intro H locs ls h1 h2 h3 h4 h5 h6
  obtain ⟨hx, hb, hml, hown, hts, hK, hS, hnm, hfr, hlo, hbs⟩ := C
  refine lv_bipush hx hb hd (v := Int32.ofInt k) ?_ (h H locs ls h1 h2 h3 h4 h5 h6)
  rw [← Int32.ofInt_int8ToInt, Int8.toInt_ofInt_of_le (by omega) (by omega)]

theorem zs_sipush (C : zCtx p R s m args meth c base t b D dA zx Ln y) {k : Int} (hk : -32768 ≤ k ∧ k < 32768) (hd : decode (zbytes y) pc = .ok (.sipush k, 3)) (h : zGo p l e R s m args below meth c Q base t b D dA zx Ln n0 s0 y (pc + 3) L (zI k :: st) M) : zGo p l e R s m args below meth c Q base t b D dA zx Ln n0 s0 y pc L st M := by
  intro H locs ls h1 h2 h3 h4 h5 h6
  obtain ⟨hx, hb, hml, hown, hts, hK, hS, hnm, hfr, hlo, hbs⟩ := C
  refine lv_sipush hx hb hd (v := Int32.ofInt k) ?_ (h H locs ls h1 h2 h3 h4 h5 h6)
  rw [← Int32.ofInt_int16ToInt, Int16.toInt_ofInt_of_le (by omega) (by omega)]

theorem zs_lconst (C : zCtx p R s m args meth c base t b D dA zx Ln y) {k : Fin 2} (hd : decode (zbytes y) pc = .ok (.lconst k, 1)) (h : zGo p l e R s m args below meth c Q base t b D dA zx Ln n0 s0 y (pc + 1) L (zL ((k : Nat) : Int) :: st) M) : zGo p l e R s m args below meth c Q base t b D dA zx Ln n0 s0 y pc L st M := by
  intro H locs ls h1 h2 h3 h4 h5 h6
  obtain ⟨hx, hb, hml, hown, hts, hK, hS, hnm, hfr, hlo, hbs⟩ := C
  refine lv_lconst hx hb hd (v := Int64.ofInt ((k : Nat) : Int)) ?_ (h H locs ls h1 h2 h3 h4 h5 h6)
  exact Int64.ofInt_eq_ofNat.symm

theorem zs_fconst0 (C : zCtx p R s m args meth c base t b D dA zx Ln y)  (hd : decode (zbytes y) pc = .ok (.fconst 0, 1)) (h : zGo p l e R s m args below meth c Q base t b D dA zx Ln n0 s0 y (pc + 1) L (zF FP.fconst0 :: st) M) : zGo p l e R s m args below meth c Q base t b D dA zx Ln n0 s0 y pc L st M := by
  intro H locs ls h1 h2 h3 h4 h5 h6
  obtain ⟨hx, hb, hml, hown, hts, hK, hS, hnm, hfr, hlo, hbs⟩ := C
  exact lv_fconst0 hx hb hd (h H locs ls h1 h2 h3 h4 h5 h6)

theorem zs_fconst1 (C : zCtx p R s m args meth c base t b D dA zx Ln y)  (hd : decode (zbytes y) pc = .ok (.fconst 1, 1)) (h : zGo p l e R s m args below meth c Q base t b D dA zx Ln n0 s0 y (pc + 1) L (zF FP.fconst1 :: st) M) : zGo p l e R s m args below meth c Q base t b D dA zx Ln n0 s0 y pc L st M := by
  intro H locs ls h1 h2 h3 h4 h5 h6
  obtain ⟨hx, hb, hml, hown, hts, hK, hS, hnm, hfr, hlo, hbs⟩ := C
  exact lv_fconst1 hx hb hd (h H locs ls h1 h2 h3 h4 h5 h6)

theorem zs_fconst2 (C : zCtx p R s m args meth c base t b D dA zx Ln y)  (hd : decode (zbytes y) pc = .ok (.fconst 2, 1)) (h : zGo p l e R s m args below meth c Q base t b D dA zx Ln n0 s0 y (pc + 1) L (zF FP.fconst2 :: st) M) : zGo p l e R s m args below meth c Q base t b D dA zx Ln n0 s0 y pc L st M := by
  intro H locs ls h1 h2 h3 h4 h5 h6
  obtain ⟨hx, hb, hml, hown, hts, hK, hS, hnm, hfr, hlo, hbs⟩ := C
  exact lv_fconst2 hx hb hd (h H locs ls h1 h2 h3 h4 h5 h6)

theorem zs_dconst0 (C : zCtx p R s m args meth c base t b D dA zx Ln y)  (hd : decode (zbytes y) pc = .ok (.dconst 0, 1)) (h : zGo p l e R s m args below meth c Q base t b D dA zx Ln n0 s0 y (pc + 1) L (zD FP.dconst0 :: st) M) : zGo p l e R s m args below meth c Q base t b D dA zx Ln n0 s0 y pc L st M := by
  intro H locs ls h1 h2 h3 h4 h5 h6
  obtain ⟨hx, hb, hml, hown, hts, hK, hS, hnm, hfr, hlo, hbs⟩ := C
  exact lv_dconst0 hx hb hd (h H locs ls h1 h2 h3 h4 h5 h6)

theorem zs_dconst1 (C : zCtx p R s m args meth c base t b D dA zx Ln y)  (hd : decode (zbytes y) pc = .ok (.dconst 1, 1)) (h : zGo p l e R s m args below meth c Q base t b D dA zx Ln n0 s0 y (pc + 1) L (zD FP.dconst1 :: st) M) : zGo p l e R s m args below meth c Q base t b D dA zx Ln n0 s0 y pc L st M := by
  intro H locs ls h1 h2 h3 h4 h5 h6
  obtain ⟨hx, hb, hml, hown, hts, hK, hS, hnm, hfr, hlo, hbs⟩ := C
  exact lv_dconst1 hx hb hd (h H locs ls h1 h2 h3 h4 h5 h6)

theorem zs_ldcI (C : zCtx p R s m args meth c base t b D dA zx Ln y) {i : Nat} {v : Int} (hw : Cond.constant (zname y).cls i (Int32.ofInt v) ∈ zall) (hd : decode (zbytes y) pc = .ok (.ldc i, 2)) (h : zGo p l e R s m args below meth c Q base t b D dA zx Ln n0 s0 y (pc + 2) L (zI v :: st) M) : zGo p l e R s m args below meth c Q base t b D dA zx Ln n0 s0 y pc L st M := by
  intro H locs ls h1 h2 h3 h4 h5 h6
  obtain ⟨hx, hb, hml, hown, hts, hK, hS, hnm, hfr, hlo, hbs⟩ := C
  exact lv_ldc hx hb hown (hts _ hw) hd (h H locs ls h1 h2 h3 h4 h5 h6)

theorem zs_ldcF (C : zCtx p R s m args meth c base t b D dA zx Ln y) {i : Nat} {v : UInt32} (hw : Cond.constantFloat (zname y).cls i v ∈ zall) (hd : decode (zbytes y) pc = .ok (.ldc i, 2)) (h : zGo p l e R s m args below meth c Q base t b D dA zx Ln n0 s0 y (pc + 2) L (zF v :: st) M) : zGo p l e R s m args below meth c Q base t b D dA zx Ln n0 s0 y pc L st M := by
  intro H locs ls h1 h2 h3 h4 h5 h6
  obtain ⟨hx, hb, hml, hown, hts, hK, hS, hnm, hfr, hlo, hbs⟩ := C
  exact lv_ldcf hx hb hown (hts _ hw) hd (h H locs ls h1 h2 h3 h4 h5 h6)

theorem zs_ldcW (C : zCtx p R s m args meth c base t b D dA zx Ln y) {i : Nat} {v : Int} (hw : Cond.constant (zname y).cls i (Int32.ofInt v) ∈ zall) (hd : decode (zbytes y) pc = .ok (.ldc_w i, 3)) (h : zGo p l e R s m args below meth c Q base t b D dA zx Ln n0 s0 y (pc + 3) L (zI v :: st) M) : zGo p l e R s m args below meth c Q base t b D dA zx Ln n0 s0 y pc L st M := by
  intro H locs ls h1 h2 h3 h4 h5 h6
  obtain ⟨hx, hb, hml, hown, hts, hK, hS, hnm, hfr, hlo, hbs⟩ := C
  exact lv_ldcw hx hb hown (hts _ hw) hd (h H locs ls h1 h2 h3 h4 h5 h6)

theorem zs_ldc2L (C : zCtx p R s m args meth c base t b D dA zx Ln y) {i : Nat} {v : Int} (hw : Cond.constantLong (zname y).cls i (Int64.ofInt v) ∈ zall) (hd : decode (zbytes y) pc = .ok (.ldc2_w i, 3)) (h : zGo p l e R s m args below meth c Q base t b D dA zx Ln n0 s0 y (pc + 3) L (zL v :: st) M) : zGo p l e R s m args below meth c Q base t b D dA zx Ln n0 s0 y pc L st M := by
  intro H locs ls h1 h2 h3 h4 h5 h6
  obtain ⟨hx, hb, hml, hown, hts, hK, hS, hnm, hfr, hlo, hbs⟩ := C
  exact lv_ldc2 hx hb hown (hts _ hw) hd (h H locs ls h1 h2 h3 h4 h5 h6)

theorem zs_ldc2D (C : zCtx p R s m args meth c base t b D dA zx Ln y) {i : Nat} {v : UInt64} (hw : Cond.constantDouble (zname y).cls i v ∈ zall) (hd : decode (zbytes y) pc = .ok (.ldc2_w i, 3)) (h : zGo p l e R s m args below meth c Q base t b D dA zx Ln n0 s0 y (pc + 3) L (zD v :: st) M) : zGo p l e R s m args below meth c Q base t b D dA zx Ln n0 s0 y pc L st M := by
  intro H locs ls h1 h2 h3 h4 h5 h6
  obtain ⟨hx, hb, hml, hown, hts, hK, hS, hnm, hfr, hlo, hbs⟩ := C
  exact lv_ldc2d hx hb hown (hts _ hw) hd (h H locs ls h1 h2 h3 h4 h5 h6)

theorem zs_iload (C : zCtx p R s m args meth c base t b D dA zx Ln y) {i : Nat} {x : Int} (hl : L.getD i none = some (zI x)) (hd : decode (zbytes y) pc = .ok (.iload i, 2)) (h : zGo p l e R s m args below meth c Q base t b D dA zx Ln n0 s0 y (pc + 2) L (zI x :: st) M) : zGo p l e R s m args below meth c Q base t b D dA zx Ln n0 s0 y pc L st M := by
  intro H locs ls h1 h2 h3 h4 h5 h6
  obtain ⟨hx, hb, hml, hown, hts, hK, hS, hnm, hfr, hlo, hbs⟩ := C
  exact lv_iload hx hb hd (zlv_at h3 hl) (h H locs ls h1 h2 h3 h4 h5 h6)

theorem zs_iload_n (C : zCtx p R s m args meth c base t b D dA zx Ln y) {i : Fin 4} {x : Int} (hl : L.getD i none = some (zI x)) (hd : decode (zbytes y) pc = .ok (.iload_n i, 1)) (h : zGo p l e R s m args below meth c Q base t b D dA zx Ln n0 s0 y (pc + 1) L (zI x :: st) M) : zGo p l e R s m args below meth c Q base t b D dA zx Ln n0 s0 y pc L st M := by
  intro H locs ls h1 h2 h3 h4 h5 h6
  obtain ⟨hx, hb, hml, hown, hts, hK, hS, hnm, hfr, hlo, hbs⟩ := C
  exact lv_iload_n hx hb hd rfl (zlv_at h3 hl) (h H locs ls h1 h2 h3 h4 h5 h6)

theorem zs_istore (C : zCtx p R s m args meth c base t b D dA zx Ln y) {i : Nat} {x : Int} (hi : i < L.length) (hd : decode (zbytes y) pc = .ok (.istore i, 2)) (h : zGo p l e R s m args below meth c Q base t b D dA zx Ln n0 s0 y (pc + 2) (zset1 L i (zI x)) st M) : zGo p l e R s m args below meth c Q base t b D dA zx Ln n0 s0 y pc L (zI x :: st) M := by
  intro H locs ls h1 h2 h3 h4 h5 h6
  obtain ⟨hx, hb, hml, hown, hts, hK, hS, hnm, hfr, hlo, hbs⟩ := C
  exact lv_istore hx hb hd h3 (by omega) rfl (fun ls2 h9 => h H locs ls2 h1 h2 (zset1_has h9) ((zset1_len _ _ _).trans h4) h5 h6)

theorem zs_istore_n (C : zCtx p R s m args meth c base t b D dA zx Ln y) {i : Fin 4} {x : Int} (hi : (i : Nat) < L.length) (hd : decode (zbytes y) pc = .ok (.istore_n i, 1)) (h : zGo p l e R s m args below meth c Q base t b D dA zx Ln n0 s0 y (pc + 1) (zset1 L i (zI x)) st M) : zGo p l e R s m args below meth c Q base t b D dA zx Ln n0 s0 y pc L (zI x :: st) M := by
  intro H locs ls h1 h2 h3 h4 h5 h6
  obtain ⟨hx, hb, hml, hown, hts, hK, hS, hnm, hfr, hlo, hbs⟩ := C
  exact lv_istore_n hx hb hd rfl h3 (by omega) rfl (fun ls2 h9 => h H locs ls2 h1 h2 (zset1_has h9) ((zset1_len _ _ _).trans h4) h5 h6)

theorem zs_lload (C : zCtx p R s m args meth c base t b D dA zx Ln y) {i : Nat} {x : Int} (hl : L.getD i none = some (zL x)) (hd : decode (zbytes y) pc = .ok (.lload i, 2)) (h : zGo p l e R s m args below meth c Q base t b D dA zx Ln n0 s0 y (pc + 2) L (zL x :: st) M) : zGo p l e R s m args below meth c Q base t b D dA zx Ln n0 s0 y pc L st M := by
  intro H locs ls h1 h2 h3 h4 h5 h6
  obtain ⟨hx, hb, hml, hown, hts, hK, hS, hnm, hfr, hlo, hbs⟩ := C
  exact lv_lload hx hb hd (zlv_at h3 hl) (h H locs ls h1 h2 h3 h4 h5 h6)

theorem zs_lload_n (C : zCtx p R s m args meth c base t b D dA zx Ln y) {i : Fin 4} {x : Int} (hl : L.getD i none = some (zL x)) (hd : decode (zbytes y) pc = .ok (.lload_n i, 1)) (h : zGo p l e R s m args below meth c Q base t b D dA zx Ln n0 s0 y (pc + 1) L (zL x :: st) M) : zGo p l e R s m args below meth c Q base t b D dA zx Ln n0 s0 y pc L st M := by
  intro H locs ls h1 h2 h3 h4 h5 h6
  obtain ⟨hx, hb, hml, hown, hts, hK, hS, hnm, hfr, hlo, hbs⟩ := C
  exact lv_lload_n hx hb hd rfl (zlv_at h3 hl) (h H locs ls h1 h2 h3 h4 h5 h6)

theorem zs_lstore (C : zCtx p R s m args meth c base t b D dA zx Ln y) {i : Nat} {x : Int} (hi : i + 1 < L.length) (hd : decode (zbytes y) pc = .ok (.lstore i, 2)) (h : zGo p l e R s m args below meth c Q base t b D dA zx Ln n0 s0 y (pc + 2) (zset2 L i (zL x)) st M) : zGo p l e R s m args below meth c Q base t b D dA zx Ln n0 s0 y pc L (zL x :: st) M := by
  intro H locs ls h1 h2 h3 h4 h5 h6
  obtain ⟨hx, hb, hml, hown, hts, hK, hS, hnm, hfr, hlo, hbs⟩ := C
  exact lv_lstore hx hb hd h3 (by omega) rfl (fun ls2 h9 => h H locs ls2 h1 h2 (zset2_has h9) ((zset2_len _ _ _).trans h4) h5 h6)

theorem zs_lstore_n (C : zCtx p R s m args meth c base t b D dA zx Ln y) {i : Fin 4} {x : Int} (hi : (i : Nat) + 1 < L.length) (hd : decode (zbytes y) pc = .ok (.lstore_n i, 1)) (h : zGo p l e R s m args below meth c Q base t b D dA zx Ln n0 s0 y (pc + 1) (zset2 L i (zL x)) st M) : zGo p l e R s m args below meth c Q base t b D dA zx Ln n0 s0 y pc L (zL x :: st) M := by
  intro H locs ls h1 h2 h3 h4 h5 h6
  obtain ⟨hx, hb, hml, hown, hts, hK, hS, hnm, hfr, hlo, hbs⟩ := C
  exact lv_lstore_n hx hb hd rfl h3 (by omega) rfl (fun ls2 h9 => h H locs ls2 h1 h2 (zset2_has h9) ((zset2_len _ _ _).trans h4) h5 h6)

theorem zs_fload (C : zCtx p R s m args meth c base t b D dA zx Ln y) {i : Nat} {x : UInt32} (hl : L.getD i none = some (zF x)) (hd : decode (zbytes y) pc = .ok (.fload i, 2)) (h : zGo p l e R s m args below meth c Q base t b D dA zx Ln n0 s0 y (pc + 2) L (zF x :: st) M) : zGo p l e R s m args below meth c Q base t b D dA zx Ln n0 s0 y pc L st M := by
  intro H locs ls h1 h2 h3 h4 h5 h6
  obtain ⟨hx, hb, hml, hown, hts, hK, hS, hnm, hfr, hlo, hbs⟩ := C
  exact lv_fload hx hb hd (zlv_at h3 hl) (h H locs ls h1 h2 h3 h4 h5 h6)

theorem zs_fload_n (C : zCtx p R s m args meth c base t b D dA zx Ln y) {i : Fin 4} {x : UInt32} (hl : L.getD i none = some (zF x)) (hd : decode (zbytes y) pc = .ok (.fload_n i, 1)) (h : zGo p l e R s m args below meth c Q base t b D dA zx Ln n0 s0 y (pc + 1) L (zF x :: st) M) : zGo p l e R s m args below meth c Q base t b D dA zx Ln n0 s0 y pc L st M := by
  intro H locs ls h1 h2 h3 h4 h5 h6
  obtain ⟨hx, hb, hml, hown, hts, hK, hS, hnm, hfr, hlo, hbs⟩ := C
  exact lv_fload_n hx hb hd rfl (zlv_at h3 hl) (h H locs ls h1 h2 h3 h4 h5 h6)

theorem zs_fstore (C : zCtx p R s m args meth c base t b D dA zx Ln y) {i : Nat} {x : UInt32} (hi : i < L.length) (hd : decode (zbytes y) pc = .ok (.fstore i, 2)) (h : zGo p l e R s m args below meth c Q base t b D dA zx Ln n0 s0 y (pc + 2) (zset1 L i (zF x)) st M) : zGo p l e R s m args below meth c Q base t b D dA zx Ln n0 s0 y pc L (zF x :: st) M := by
  intro H locs ls h1 h2 h3 h4 h5 h6
  obtain ⟨hx, hb, hml, hown, hts, hK, hS, hnm, hfr, hlo, hbs⟩ := C
  exact lv_fstore hx hb hd h3 (by omega) rfl (fun ls2 h9 => h H locs ls2 h1 h2 (zset1_has h9) ((zset1_len _ _ _).trans h4) h5 h6)

theorem zs_fstore_n (C : zCtx p R s m args meth c base t b D dA zx Ln y) {i : Fin 4} {x : UInt32} (hi : (i : Nat) < L.length) (hd : decode (zbytes y) pc = .ok (.fstore_n i, 1)) (h : zGo p l e R s m args below meth c Q base t b D dA zx Ln n0 s0 y (pc + 1) (zset1 L i (zF x)) st M) : zGo p l e R s m args below meth c Q base t b D dA zx Ln n0 s0 y pc L (zF x :: st) M := by
  intro H locs ls h1 h2 h3 h4 h5 h6
  obtain ⟨hx, hb, hml, hown, hts, hK, hS, hnm, hfr, hlo, hbs⟩ := C
  exact lv_fstore_n hx hb hd rfl h3 (by omega) rfl (fun ls2 h9 => h H locs ls2 h1 h2 (zset1_has h9) ((zset1_len _ _ _).trans h4) h5 h6)

theorem zs_dload (C : zCtx p R s m args meth c base t b D dA zx Ln y) {i : Nat} {x : UInt64} (hl : L.getD i none = some (zD x)) (hd : decode (zbytes y) pc = .ok (.dload i, 2)) (h : zGo p l e R s m args below meth c Q base t b D dA zx Ln n0 s0 y (pc + 2) L (zD x :: st) M) : zGo p l e R s m args below meth c Q base t b D dA zx Ln n0 s0 y pc L st M := by
  intro H locs ls h1 h2 h3 h4 h5 h6
  obtain ⟨hx, hb, hml, hown, hts, hK, hS, hnm, hfr, hlo, hbs⟩ := C
  exact lv_dload hx hb hd (zlv_at h3 hl) (h H locs ls h1 h2 h3 h4 h5 h6)

theorem zs_dload_n (C : zCtx p R s m args meth c base t b D dA zx Ln y) {i : Fin 4} {x : UInt64} (hl : L.getD i none = some (zD x)) (hd : decode (zbytes y) pc = .ok (.dload_n i, 1)) (h : zGo p l e R s m args below meth c Q base t b D dA zx Ln n0 s0 y (pc + 1) L (zD x :: st) M) : zGo p l e R s m args below meth c Q base t b D dA zx Ln n0 s0 y pc L st M := by
  intro H locs ls h1 h2 h3 h4 h5 h6
  obtain ⟨hx, hb, hml, hown, hts, hK, hS, hnm, hfr, hlo, hbs⟩ := C
  exact lv_dload_n hx hb hd rfl (zlv_at h3 hl) (h H locs ls h1 h2 h3 h4 h5 h6)

theorem zs_dstore (C : zCtx p R s m args meth c base t b D dA zx Ln y) {i : Nat} {x : UInt64} (hi : i + 1 < L.length) (hd : decode (zbytes y) pc = .ok (.dstore i, 2)) (h : zGo p l e R s m args below meth c Q base t b D dA zx Ln n0 s0 y (pc + 2) (zset2 L i (zD x)) st M) : zGo p l e R s m args below meth c Q base t b D dA zx Ln n0 s0 y pc L (zD x :: st) M := by
  intro H locs ls h1 h2 h3 h4 h5 h6
  obtain ⟨hx, hb, hml, hown, hts, hK, hS, hnm, hfr, hlo, hbs⟩ := C
  exact lv_dstore hx hb hd h3 (by omega) rfl (fun ls2 h9 => h H locs ls2 h1 h2 (zset2_has h9) ((zset2_len _ _ _).trans h4) h5 h6)

theorem zs_dstore_n (C : zCtx p R s m args meth c base t b D dA zx Ln y) {i : Fin 4} {x : UInt64} (hi : (i : Nat) + 1 < L.length) (hd : decode (zbytes y) pc = .ok (.dstore_n i, 1)) (h : zGo p l e R s m args below meth c Q base t b D dA zx Ln n0 s0 y (pc + 1) (zset2 L i (zD x)) st M) : zGo p l e R s m args below meth c Q base t b D dA zx Ln n0 s0 y pc L (zD x :: st) M := by
  intro H locs ls h1 h2 h3 h4 h5 h6
  obtain ⟨hx, hb, hml, hown, hts, hK, hS, hnm, hfr, hlo, hbs⟩ := C
  exact lv_dstore_n hx hb hd rfl h3 (by omega) rfl (fun ls2 h9 => h H locs ls2 h1 h2 (zset2_has h9) ((zset2_len _ _ _).trans h4) h5 h6)

theorem zs_aload (C : zCtx p R s m args meth c base t b D dA zx Ln y) {i : Nat} {x : Nat} (hl : L.getD i none = some (zR x)) (hd : decode (zbytes y) pc = .ok (.aload i, 2)) (h : zGo p l e R s m args below meth c Q base t b D dA zx Ln n0 s0 y (pc + 2) L (zR x :: st) M) : zGo p l e R s m args below meth c Q base t b D dA zx Ln n0 s0 y pc L st M := by
  intro H locs ls h1 h2 h3 h4 h5 h6
  obtain ⟨hx, hb, hml, hown, hts, hK, hS, hnm, hfr, hlo, hbs⟩ := C
  exact lv_aload hx hb hd (zlv_at h3 hl) (h H locs ls h1 h2 h3 h4 h5 h6)

theorem zs_aload_n (C : zCtx p R s m args meth c base t b D dA zx Ln y) {i : Fin 4} {x : Nat} (hl : L.getD i none = some (zR x)) (hd : decode (zbytes y) pc = .ok (.aload_n i, 1)) (h : zGo p l e R s m args below meth c Q base t b D dA zx Ln n0 s0 y (pc + 1) L (zR x :: st) M) : zGo p l e R s m args below meth c Q base t b D dA zx Ln n0 s0 y pc L st M := by
  intro H locs ls h1 h2 h3 h4 h5 h6
  obtain ⟨hx, hb, hml, hown, hts, hK, hS, hnm, hfr, hlo, hbs⟩ := C
  exact lv_aload_n hx hb hd rfl (zlv_at h3 hl) (h H locs ls h1 h2 h3 h4 h5 h6)

theorem zs_astore (C : zCtx p R s m args meth c base t b D dA zx Ln y) {i : Nat} {x : Nat} (hi : i < L.length) (hd : decode (zbytes y) pc = .ok (.astore i, 2)) (h : zGo p l e R s m args below meth c Q base t b D dA zx Ln n0 s0 y (pc + 2) (zset1 L i (zR x)) st M) : zGo p l e R s m args below meth c Q base t b D dA zx Ln n0 s0 y pc L (zR x :: st) M := by
  intro H locs ls h1 h2 h3 h4 h5 h6
  obtain ⟨hx, hb, hml, hown, hts, hK, hS, hnm, hfr, hlo, hbs⟩ := C
  exact lv_astore hx hb hd h3 (by omega) rfl (fun ls2 h9 => h H locs ls2 h1 h2 (zset1_has h9) ((zset1_len _ _ _).trans h4) h5 h6)

theorem zs_astore_n (C : zCtx p R s m args meth c base t b D dA zx Ln y) {i : Fin 4} {x : Nat} (hi : (i : Nat) < L.length) (hd : decode (zbytes y) pc = .ok (.astore_n i, 1)) (h : zGo p l e R s m args below meth c Q base t b D dA zx Ln n0 s0 y (pc + 1) (zset1 L i (zR x)) st M) : zGo p l e R s m args below meth c Q base t b D dA zx Ln n0 s0 y pc L (zR x :: st) M := by
  intro H locs ls h1 h2 h3 h4 h5 h6
  obtain ⟨hx, hb, hml, hown, hts, hK, hS, hnm, hfr, hlo, hbs⟩ := C
  exact lv_astore_n hx hb hd rfl h3 (by omega) rfl (fun ls2 h9 => h H locs ls2 h1 h2 (zset1_has h9) ((zset1_len _ _ _).trans h4) h5 h6)

theorem zs_iinc (C : zCtx p R s m args meth c base t b D dA zx Ln y) {i : Nat} {k x : Int} (hl : L.getD i none = some (zI x)) (hd : decode (zbytes y) pc = .ok (.iinc i k, 3)) (h : zGo p l e R s m args below meth c Q base t b D dA zx Ln n0 s0 y (pc + 3) (zset1 L i (zI (x + k))) st M) : zGo p l e R s m args below meth c Q base t b D dA zx Ln n0 s0 y pc L st M := by
  intro H locs ls h1 h2 h3 h4 h5 h6
  obtain ⟨hx, hb, hml, hown, hts, hK, hS, hnm, hfr, hlo, hbs⟩ := C
  have hm : (i, zC (zAD base t b) (zI x)) ∈ zlv (zAD base t b) L := zlv_mem.mpr ⟨_, hl, rfl⟩
  obtain ⟨q, hq⟩ := List.getElem?_of_mem hm
  have hi : i < L.length := by
    rcases Nat.lt_or_ge i L.length with g | g
    · exact g
    · rw [List.getD_eq_getElem?_getD, List.getElem?_eq_none g] at hl
      cases hl
  exact lv_iinc (v := Int32.ofInt (x + k)) hx hb hd h3 hq (Int32.ofInt_add x k).symm (by omega) rfl (fun ls2 h9 => h H locs ls2 h1 h2 (zset1_has h9) ((zset1_len _ _ _).trans h4) h5 h6)

theorem zs_iadd (C : zCtx p R s m args meth c base t b D dA zx Ln y) {x w : Int} (hd : decode (zbytes y) pc = .ok (.iadd, 1)) (h : zGo p l e R s m args below meth c Q base t b D dA zx Ln n0 s0 y (pc + 1) L (zI (x + w) :: st) M) : zGo p l e R s m args below meth c Q base t b D dA zx Ln n0 s0 y pc L (zI w :: zI x :: st) M := by
  intro H locs ls h1 h2 h3 h4 h5 h6
  obtain ⟨hx, hb, hml, hown, hts, hK, hS, hnm, hfr, hlo, hbs⟩ := C
  refine lv_iadd hx hb hd ?_
  rw [← Int32.ofInt_add]
  exact h H locs ls h1 h2 h3 h4 h5 h6

theorem zs_isub (C : zCtx p R s m args meth c base t b D dA zx Ln y) {x w : Int} (hd : decode (zbytes y) pc = .ok (.isub, 1)) (h : zGo p l e R s m args below meth c Q base t b D dA zx Ln n0 s0 y (pc + 1) L (zI (x - w) :: st) M) : zGo p l e R s m args below meth c Q base t b D dA zx Ln n0 s0 y pc L (zI w :: zI x :: st) M := by
  intro H locs ls h1 h2 h3 h4 h5 h6
  obtain ⟨hx, hb, hml, hown, hts, hK, hS, hnm, hfr, hlo, hbs⟩ := C
  refine lv_isub hx hb hd ?_
  rw [← Int32.ofInt_sub]
  exact h H locs ls h1 h2 h3 h4 h5 h6

theorem zs_imul (C : zCtx p R s m args meth c base t b D dA zx Ln y) {x w : Int} (hd : decode (zbytes y) pc = .ok (.imul, 1)) (h : zGo p l e R s m args below meth c Q base t b D dA zx Ln n0 s0 y (pc + 1) L (zI (x * w) :: st) M) : zGo p l e R s m args below meth c Q base t b D dA zx Ln n0 s0 y pc L (zI w :: zI x :: st) M := by
  intro H locs ls h1 h2 h3 h4 h5 h6
  obtain ⟨hx, hb, hml, hown, hts, hK, hS, hnm, hfr, hlo, hbs⟩ := C
  refine lv_imul hx hb hd ?_
  rw [← Int32.ofInt_mul]
  exact h H locs ls h1 h2 h3 h4 h5 h6

theorem zs_iand (C : zCtx p R s m args meth c base t b D dA zx Ln y) {x w : Int} (hd : decode (zbytes y) pc = .ok (.iand, 1)) (h : zGo p l e R s m args below meth c Q base t b D dA zx Ln n0 s0 y (pc + 1) L (zI (Int32.ofInt x &&& Int32.ofInt w).toInt :: st) M) : zGo p l e R s m args below meth c Q base t b D dA zx Ln n0 s0 y pc L (zI w :: zI x :: st) M := by
  intro H locs ls h1 h2 h3 h4 h5 h6
  obtain ⟨hx, hb, hml, hown, hts, hK, hS, hnm, hfr, hlo, hbs⟩ := C
  refine lv_iand hx hb hd ?_
  rw [← Int32.ofInt_toInt (Int32.ofInt x &&& Int32.ofInt w)]
  exact h H locs ls h1 h2 h3 h4 h5 h6

theorem zs_ior (C : zCtx p R s m args meth c base t b D dA zx Ln y) {x w : Int} (hd : decode (zbytes y) pc = .ok (.ior, 1)) (h : zGo p l e R s m args below meth c Q base t b D dA zx Ln n0 s0 y (pc + 1) L (zI (Int32.ofInt x ||| Int32.ofInt w).toInt :: st) M) : zGo p l e R s m args below meth c Q base t b D dA zx Ln n0 s0 y pc L (zI w :: zI x :: st) M := by
  intro H locs ls h1 h2 h3 h4 h5 h6
  obtain ⟨hx, hb, hml, hown, hts, hK, hS, hnm, hfr, hlo, hbs⟩ := C
  refine lv_ior hx hb hd ?_
  rw [← Int32.ofInt_toInt (Int32.ofInt x ||| Int32.ofInt w)]
  exact h H locs ls h1 h2 h3 h4 h5 h6

theorem zs_ixor (C : zCtx p R s m args meth c base t b D dA zx Ln y) {x w : Int} (hd : decode (zbytes y) pc = .ok (.ixor, 1)) (h : zGo p l e R s m args below meth c Q base t b D dA zx Ln n0 s0 y (pc + 1) L (zI (Int32.ofInt x ^^^ Int32.ofInt w).toInt :: st) M) : zGo p l e R s m args below meth c Q base t b D dA zx Ln n0 s0 y pc L (zI w :: zI x :: st) M := by
  intro H locs ls h1 h2 h3 h4 h5 h6
  obtain ⟨hx, hb, hml, hown, hts, hK, hS, hnm, hfr, hlo, hbs⟩ := C
  refine lv_ixor hx hb hd ?_
  rw [← Int32.ofInt_toInt (Int32.ofInt x ^^^ Int32.ofInt w)]
  exact h H locs ls h1 h2 h3 h4 h5 h6

theorem zs_ishl (C : zCtx p R s m args meth c base t b D dA zx Ln y) {x w : Int} (hd : decode (zbytes y) pc = .ok (.ishl, 1)) (h : zGo p l e R s m args below meth c Q base t b D dA zx Ln n0 s0 y (pc + 1) L (zI (Int32.ofInt x <<< (Int32.ofInt w &&& 31)).toInt :: st) M) : zGo p l e R s m args below meth c Q base t b D dA zx Ln n0 s0 y pc L (zI w :: zI x :: st) M := by
  intro H locs ls h1 h2 h3 h4 h5 h6
  obtain ⟨hx, hb, hml, hown, hts, hK, hS, hnm, hfr, hlo, hbs⟩ := C
  refine lv_ishl hx hb hd ?_
  rw [← Int32.ofInt_toInt (Int32.ofInt x <<< (Int32.ofInt w &&& 31))]
  exact h H locs ls h1 h2 h3 h4 h5 h6

theorem zs_ishr (C : zCtx p R s m args meth c base t b D dA zx Ln y) {x w : Int} (hd : decode (zbytes y) pc = .ok (.ishr, 1)) (h : zGo p l e R s m args below meth c Q base t b D dA zx Ln n0 s0 y (pc + 1) L (zI (Int32.ofInt x >>> (Int32.ofInt w &&& 31)).toInt :: st) M) : zGo p l e R s m args below meth c Q base t b D dA zx Ln n0 s0 y pc L (zI w :: zI x :: st) M := by
  intro H locs ls h1 h2 h3 h4 h5 h6
  obtain ⟨hx, hb, hml, hown, hts, hK, hS, hnm, hfr, hlo, hbs⟩ := C
  refine lv_ishr hx hb hd ?_
  rw [← Int32.ofInt_toInt (Int32.ofInt x >>> (Int32.ofInt w &&& 31))]
  exact h H locs ls h1 h2 h3 h4 h5 h6

theorem zs_iushr (C : zCtx p R s m args meth c base t b D dA zx Ln y) {x w : Int} (hd : decode (zbytes y) pc = .ok (.iushr, 1)) (h : zGo p l e R s m args below meth c Q base t b D dA zx Ln n0 s0 y (pc + 1) L (zI (((Int32.ofInt x).toUInt32 >>> ((Int32.ofInt w).toUInt32 &&& Int32.toUInt32 31)).toInt32).toInt :: st) M) : zGo p l e R s m args below meth c Q base t b D dA zx Ln n0 s0 y pc L (zI w :: zI x :: st) M := by
  intro H locs ls h1 h2 h3 h4 h5 h6
  obtain ⟨hx, hb, hml, hown, hts, hK, hS, hnm, hfr, hlo, hbs⟩ := C
  exact lv_iushr hx hb hd (v := Int32.ofInt (((Int32.ofInt x).toUInt32 >>> ((Int32.ofInt w).toUInt32 &&& Int32.toUInt32 31)).toInt32).toInt) (Int32.ofInt_toInt _).symm (h H locs ls h1 h2 h3 h4 h5 h6)

theorem zs_ladd (C : zCtx p R s m args meth c base t b D dA zx Ln y) {x w : Int} (hd : decode (zbytes y) pc = .ok (.ladd, 1)) (h : zGo p l e R s m args below meth c Q base t b D dA zx Ln n0 s0 y (pc + 1) L (zL (x + w) :: st) M) : zGo p l e R s m args below meth c Q base t b D dA zx Ln n0 s0 y pc L (zL w :: zL x :: st) M := by
  intro H locs ls h1 h2 h3 h4 h5 h6
  obtain ⟨hx, hb, hml, hown, hts, hK, hS, hnm, hfr, hlo, hbs⟩ := C
  refine lv_ladd hx hb hd ?_
  rw [← Int64.ofInt_add]
  exact h H locs ls h1 h2 h3 h4 h5 h6

theorem zs_lsub (C : zCtx p R s m args meth c base t b D dA zx Ln y) {x w : Int} (hd : decode (zbytes y) pc = .ok (.lsub, 1)) (h : zGo p l e R s m args below meth c Q base t b D dA zx Ln n0 s0 y (pc + 1) L (zL (x - w) :: st) M) : zGo p l e R s m args below meth c Q base t b D dA zx Ln n0 s0 y pc L (zL w :: zL x :: st) M := by
  intro H locs ls h1 h2 h3 h4 h5 h6
  obtain ⟨hx, hb, hml, hown, hts, hK, hS, hnm, hfr, hlo, hbs⟩ := C
  refine lv_lsub hx hb hd ?_
  rw [← Int64.ofInt_sub]
  exact h H locs ls h1 h2 h3 h4 h5 h6

theorem zs_lmul (C : zCtx p R s m args meth c base t b D dA zx Ln y) {x w : Int} (hd : decode (zbytes y) pc = .ok (.lmul, 1)) (h : zGo p l e R s m args below meth c Q base t b D dA zx Ln n0 s0 y (pc + 1) L (zL (x * w) :: st) M) : zGo p l e R s m args below meth c Q base t b D dA zx Ln n0 s0 y pc L (zL w :: zL x :: st) M := by
  intro H locs ls h1 h2 h3 h4 h5 h6
  obtain ⟨hx, hb, hml, hown, hts, hK, hS, hnm, hfr, hlo, hbs⟩ := C
  refine lv_lmul hx hb hd ?_
  rw [← Int64.ofInt_mul]
  exact h H locs ls h1 h2 h3 h4 h5 h6

theorem zs_land (C : zCtx p R s m args meth c base t b D dA zx Ln y) {x w : Int} (hd : decode (zbytes y) pc = .ok (.land, 1)) (h : zGo p l e R s m args below meth c Q base t b D dA zx Ln n0 s0 y (pc + 1) L (zL (Int64.ofInt x &&& Int64.ofInt w).toInt :: st) M) : zGo p l e R s m args below meth c Q base t b D dA zx Ln n0 s0 y pc L (zL w :: zL x :: st) M := by
  intro H locs ls h1 h2 h3 h4 h5 h6
  obtain ⟨hx, hb, hml, hown, hts, hK, hS, hnm, hfr, hlo, hbs⟩ := C
  refine lv_land hx hb hd ?_
  rw [← Int64.ofInt_toInt (Int64.ofInt x &&& Int64.ofInt w)]
  exact h H locs ls h1 h2 h3 h4 h5 h6

theorem zs_lor (C : zCtx p R s m args meth c base t b D dA zx Ln y) {x w : Int} (hd : decode (zbytes y) pc = .ok (.lor, 1)) (h : zGo p l e R s m args below meth c Q base t b D dA zx Ln n0 s0 y (pc + 1) L (zL (Int64.ofInt x ||| Int64.ofInt w).toInt :: st) M) : zGo p l e R s m args below meth c Q base t b D dA zx Ln n0 s0 y pc L (zL w :: zL x :: st) M := by
  intro H locs ls h1 h2 h3 h4 h5 h6
  obtain ⟨hx, hb, hml, hown, hts, hK, hS, hnm, hfr, hlo, hbs⟩ := C
  refine lv_lor hx hb hd ?_
  rw [← Int64.ofInt_toInt (Int64.ofInt x ||| Int64.ofInt w)]
  exact h H locs ls h1 h2 h3 h4 h5 h6

theorem zs_lshl (C : zCtx p R s m args meth c base t b D dA zx Ln y) {x w : Int} (hd : decode (zbytes y) pc = .ok (.lshl, 1)) (h : zGo p l e R s m args below meth c Q base t b D dA zx Ln n0 s0 y (pc + 1) L (zL (Int64.ofInt x <<< ((Int32.ofInt w).toInt64 &&& 63)).toInt :: st) M) : zGo p l e R s m args below meth c Q base t b D dA zx Ln n0 s0 y pc L (zI w :: zL x :: st) M := by
  intro H locs ls h1 h2 h3 h4 h5 h6
  obtain ⟨hx, hb, hml, hown, hts, hK, hS, hnm, hfr, hlo, hbs⟩ := C
  exact lv_lshl hx hb hd (v := Int64.ofInt (Int64.ofInt x <<< ((Int32.ofInt w).toInt64 &&& 63)).toInt) (Int64.ofInt_toInt _).symm (h H locs ls h1 h2 h3 h4 h5 h6)

theorem zs_lushr (C : zCtx p R s m args meth c base t b D dA zx Ln y) {x w : Int} (hd : decode (zbytes y) pc = .ok (.lushr, 1)) (h : zGo p l e R s m args below meth c Q base t b D dA zx Ln n0 s0 y (pc + 1) L (zL (((Int64.ofInt x).toUInt64 >>> ((Int32.ofInt w).toInt64.toUInt64 &&& Int64.toUInt64 63)).toInt64).toInt :: st) M) : zGo p l e R s m args below meth c Q base t b D dA zx Ln n0 s0 y pc L (zI w :: zL x :: st) M := by
  intro H locs ls h1 h2 h3 h4 h5 h6
  obtain ⟨hx, hb, hml, hown, hts, hK, hS, hnm, hfr, hlo, hbs⟩ := C
  exact lv_lushr hx hb hd (v := Int64.ofInt (((Int64.ofInt x).toUInt64 >>> ((Int32.ofInt w).toInt64.toUInt64 &&& Int64.toUInt64 63)).toInt64).toInt) (Int64.ofInt_toInt _).symm (h H locs ls h1 h2 h3 h4 h5 h6)

theorem zs_ldiv (C : zCtx p R s m args meth c base t b D dA zx Ln y) {x w : Int} (hr : 0 < w ∧ w ≤ 9223372036854775807 ∧ -9223372036854775808 ≤ x ∧ x ≤ 9223372036854775807) (hd : decode (zbytes y) pc = .ok (.ldiv, 1)) (h : zGo p l e R s m args below meth c Q base t b D dA zx Ln n0 s0 y (pc + 1) L (zL (x.tdiv w) :: st) M) : zGo p l e R s m args below meth c Q base t b D dA zx Ln n0 s0 y pc L (zL w :: zL x :: st) M := by
  intro H locs ls h1 h2 h3 h4 h5 h6
  obtain ⟨hx, hb, hml, hown, hts, hK, hS, hnm, hfr, hlo, hbs⟩ := C
  obtain ⟨g1, g2, g3⟩ := z64_div hr
  refine lv_ldiv hx hb hd g1 ?_
  rw [g2]
  exact h H locs ls h1 h2 h3 h4 h5 h6

theorem zs_lrem (C : zCtx p R s m args meth c base t b D dA zx Ln y) {x w : Int} (hr : 0 < w ∧ w ≤ 9223372036854775807 ∧ -9223372036854775808 ≤ x ∧ x ≤ 9223372036854775807) (hd : decode (zbytes y) pc = .ok (.lrem, 1)) (h : zGo p l e R s m args below meth c Q base t b D dA zx Ln n0 s0 y (pc + 1) L (zL (x.tmod w) :: st) M) : zGo p l e R s m args below meth c Q base t b D dA zx Ln n0 s0 y pc L (zL w :: zL x :: st) M := by
  intro H locs ls h1 h2 h3 h4 h5 h6
  obtain ⟨hx, hb, hml, hown, hts, hK, hS, hnm, hfr, hlo, hbs⟩ := C
  obtain ⟨g1, g2, g3⟩ := z64_div hr
  refine lv_lrem hx hb hd g1 ?_
  rw [g3]
  exact h H locs ls h1 h2 h3 h4 h5 h6

theorem zs_lneg (C : zCtx p R s m args meth c base t b D dA zx Ln y) {x : Int} (hd : decode (zbytes y) pc = .ok (.lneg, 1)) (h : zGo p l e R s m args below meth c Q base t b D dA zx Ln n0 s0 y (pc + 1) L (zL (-x) :: st) M) : zGo p l e R s m args below meth c Q base t b D dA zx Ln n0 s0 y pc L (zL x :: st) M := by
  intro H locs ls h1 h2 h3 h4 h5 h6
  obtain ⟨hx, hb, hml, hown, hts, hK, hS, hnm, hfr, hlo, hbs⟩ := C
  refine lv_lneg hx hb hd ?_
  rw [← Int64.ofInt_neg]
  exact h H locs ls h1 h2 h3 h4 h5 h6

theorem zs_i2l (C : zCtx p R s m args meth c base t b D dA zx Ln y) {x : Int} (hr : -2147483648 ≤ x ∧ x ≤ 2147483647) (hd : decode (zbytes y) pc = .ok (.i2l, 1)) (h : zGo p l e R s m args below meth c Q base t b D dA zx Ln n0 s0 y (pc + 1) L (zL x :: st) M) : zGo p l e R s m args below meth c Q base t b D dA zx Ln n0 s0 y pc L (zI x :: st) M := by
  intro H locs ls h1 h2 h3 h4 h5 h6
  obtain ⟨hx, hb, hml, hown, hts, hK, hS, hnm, hfr, hlo, hbs⟩ := C
  have hm : Int32.minValue.toInt = -2147483648 := by decide
  have hM : Int32.maxValue.toInt = 2147483647 := by decide
  exact lv_i2l hx hb hd (v := Int64.ofInt x) (Int32.toInt64_ofInt (by omega) (by omega)) (h H locs ls h1 h2 h3 h4 h5 h6)

theorem zs_l2i (C : zCtx p R s m args meth c base t b D dA zx Ln y) {x : Int} (hd : decode (zbytes y) pc = .ok (.l2i, 1)) (h : zGo p l e R s m args below meth c Q base t b D dA zx Ln n0 s0 y (pc + 1) L (zI x :: st) M) : zGo p l e R s m args below meth c Q base t b D dA zx Ln n0 s0 y pc L (zL x :: st) M := by
  intro H locs ls h1 h2 h3 h4 h5 h6
  obtain ⟨hx, hb, hml, hown, hts, hK, hS, hnm, hfr, hlo, hbs⟩ := C
  exact lv_l2i hx hb hd (v := Int32.ofInt x) Int64.toInt32_ofInt (h H locs ls h1 h2 h3 h4 h5 h6)

theorem zs_i2b (C : zCtx p R s m args meth c base t b D dA zx Ln y) {x : Int} (hd : decode (zbytes y) pc = .ok (.i2b, 1)) (h : zGo p l e R s m args below meth c Q base t b D dA zx Ln n0 s0 y (pc + 1) L (zI ((Int32.ofInt x).toInt8.toInt) :: st) M) : zGo p l e R s m args below meth c Q base t b D dA zx Ln n0 s0 y pc L (zI x :: st) M := by
  intro H locs ls h1 h2 h3 h4 h5 h6
  obtain ⟨hx, hb, hml, hown, hts, hK, hS, hnm, hfr, hlo, hbs⟩ := C
  exact lv_i2b hx hb hd (v := Int32.ofInt (Int32.ofInt x).toInt8.toInt) rfl (h H locs ls h1 h2 h3 h4 h5 h6)

theorem zs_i2s (C : zCtx p R s m args meth c base t b D dA zx Ln y) {x : Int} (hd : decode (zbytes y) pc = .ok (.i2s, 1)) (h : zGo p l e R s m args below meth c Q base t b D dA zx Ln n0 s0 y (pc + 1) L (zI ((Int32.ofInt x).toInt16.toInt) :: st) M) : zGo p l e R s m args below meth c Q base t b D dA zx Ln n0 s0 y pc L (zI x :: st) M := by
  intro H locs ls h1 h2 h3 h4 h5 h6
  obtain ⟨hx, hb, hml, hown, hts, hK, hS, hnm, hfr, hlo, hbs⟩ := C
  exact lv_i2s hx hb hd (v := Int32.ofInt (Int32.ofInt x).toInt16.toInt) rfl (h H locs ls h1 h2 h3 h4 h5 h6)

theorem zs_i2f (C : zCtx p R s m args meth c base t b D dA zx Ln y) {x : Int} (hd : decode (zbytes y) pc = .ok (.i2f, 1)) (h : zGo p l e R s m args below meth c Q base t b D dA zx Ln n0 s0 y (pc + 1) L (zF (FP.i2f (Int32.ofInt x)) :: st) M) : zGo p l e R s m args below meth c Q base t b D dA zx Ln n0 s0 y pc L (zI x :: st) M := by
  intro H locs ls h1 h2 h3 h4 h5 h6
  obtain ⟨hx, hb, hml, hown, hts, hK, hS, hnm, hfr, hlo, hbs⟩ := C
  exact lv_i2f hx hb hd (h H locs ls h1 h2 h3 h4 h5 h6)

theorem zs_l2d (C : zCtx p R s m args meth c base t b D dA zx Ln y) {x : Int} (hd : decode (zbytes y) pc = .ok (.l2d, 1)) (h : zGo p l e R s m args below meth c Q base t b D dA zx Ln n0 s0 y (pc + 1) L (zD (FP.l2d (Int64.ofInt x)) :: st) M) : zGo p l e R s m args below meth c Q base t b D dA zx Ln n0 s0 y pc L (zL x :: st) M := by
  intro H locs ls h1 h2 h3 h4 h5 h6
  obtain ⟨hx, hb, hml, hown, hts, hK, hS, hnm, hfr, hlo, hbs⟩ := C
  exact lv_l2d hx hb hd (h H locs ls h1 h2 h3 h4 h5 h6)

theorem zs_d2l (C : zCtx p R s m args meth c base t b D dA zx Ln y) {x : UInt64} (hd : decode (zbytes y) pc = .ok (.d2l, 1)) (h : zGo p l e R s m args below meth c Q base t b D dA zx Ln n0 s0 y (pc + 1) L (zL (FP.d2l x).toInt :: st) M) : zGo p l e R s m args below meth c Q base t b D dA zx Ln n0 s0 y pc L (zD x :: st) M := by
  intro H locs ls h1 h2 h3 h4 h5 h6
  obtain ⟨hx, hb, hml, hown, hts, hK, hS, hnm, hfr, hlo, hbs⟩ := C
  refine lv_d2l hx hb hd ?_
  rw [← Int64.ofInt_toInt (FP.d2l x)]
  exact h H locs ls h1 h2 h3 h4 h5 h6

theorem zs_f2d (C : zCtx p R s m args meth c base t b D dA zx Ln y) {x : UInt32} (hr : FP.f2d x &&& 0x7fffffffffffffff ≤ 0x7ff0000000000000) (hd : decode (zbytes y) pc = .ok (.f2d, 1)) (h : zGo p l e R s m args below meth c Q base t b D dA zx Ln n0 s0 y (pc + 1) L (zD (FP.f2d x) :: st) M) : zGo p l e R s m args below meth c Q base t b D dA zx Ln n0 s0 y pc L (zF x :: st) M := by
  intro H locs ls h1 h2 h3 h4 h5 h6
  obtain ⟨hx, hb, hml, hown, hts, hK, hS, hnm, hfr, hlo, hbs⟩ := C
  exact lv_f2d hx hb hd hr (h H locs ls h1 h2 h3 h4 h5 h6)

theorem zs_dneg (C : zCtx p R s m args meth c base t b D dA zx Ln y) {x : UInt64} (hd : decode (zbytes y) pc = .ok (.dneg, 1)) (h : zGo p l e R s m args below meth c Q base t b D dA zx Ln n0 s0 y (pc + 1) L (zD (FP.dneg x) :: st) M) : zGo p l e R s m args below meth c Q base t b D dA zx Ln n0 s0 y pc L (zD x :: st) M := by
  intro H locs ls h1 h2 h3 h4 h5 h6
  obtain ⟨hx, hb, hml, hown, hts, hK, hS, hnm, hfr, hlo, hbs⟩ := C
  exact lv_dneg hx hb hd (h H locs ls h1 h2 h3 h4 h5 h6)

theorem zs_fadd (C : zCtx p R s m args meth c base t b D dA zx Ln y) {x w : UInt32} (hr : FP.fadd x w &&& 0x7fffffff ≤ 0x7f800000) (hd : decode (zbytes y) pc = .ok (.fadd, 1)) (h : zGo p l e R s m args below meth c Q base t b D dA zx Ln n0 s0 y (pc + 1) L (zF (FP.fadd x w) :: st) M) : zGo p l e R s m args below meth c Q base t b D dA zx Ln n0 s0 y pc L (zF w :: zF x :: st) M := by
  intro H locs ls h1 h2 h3 h4 h5 h6
  obtain ⟨hx, hb, hml, hown, hts, hK, hS, hnm, hfr, hlo, hbs⟩ := C
  exact lv_fadd hx hb hd hr (h H locs ls h1 h2 h3 h4 h5 h6)

theorem zs_fsub (C : zCtx p R s m args meth c base t b D dA zx Ln y) {x w : UInt32} (hr : FP.fsub x w &&& 0x7fffffff ≤ 0x7f800000) (hd : decode (zbytes y) pc = .ok (.fsub, 1)) (h : zGo p l e R s m args below meth c Q base t b D dA zx Ln n0 s0 y (pc + 1) L (zF (FP.fsub x w) :: st) M) : zGo p l e R s m args below meth c Q base t b D dA zx Ln n0 s0 y pc L (zF w :: zF x :: st) M := by
  intro H locs ls h1 h2 h3 h4 h5 h6
  obtain ⟨hx, hb, hml, hown, hts, hK, hS, hnm, hfr, hlo, hbs⟩ := C
  exact lv_fsub hx hb hd hr (h H locs ls h1 h2 h3 h4 h5 h6)

theorem zs_fmul (C : zCtx p R s m args meth c base t b D dA zx Ln y) {x w : UInt32} (hr : FP.fmul x w &&& 0x7fffffff ≤ 0x7f800000) (hd : decode (zbytes y) pc = .ok (.fmul, 1)) (h : zGo p l e R s m args below meth c Q base t b D dA zx Ln n0 s0 y (pc + 1) L (zF (FP.fmul x w) :: st) M) : zGo p l e R s m args below meth c Q base t b D dA zx Ln n0 s0 y pc L (zF w :: zF x :: st) M := by
  intro H locs ls h1 h2 h3 h4 h5 h6
  obtain ⟨hx, hb, hml, hown, hts, hK, hS, hnm, hfr, hlo, hbs⟩ := C
  exact lv_fmul hx hb hd hr (h H locs ls h1 h2 h3 h4 h5 h6)

theorem zs_fdiv (C : zCtx p R s m args meth c base t b D dA zx Ln y) {x w : UInt32} (hr : FP.fdiv x w &&& 0x7fffffff ≤ 0x7f800000) (hd : decode (zbytes y) pc = .ok (.fdiv, 1)) (h : zGo p l e R s m args below meth c Q base t b D dA zx Ln n0 s0 y (pc + 1) L (zF (FP.fdiv x w) :: st) M) : zGo p l e R s m args below meth c Q base t b D dA zx Ln n0 s0 y pc L (zF w :: zF x :: st) M := by
  intro H locs ls h1 h2 h3 h4 h5 h6
  obtain ⟨hx, hb, hml, hown, hts, hK, hS, hnm, hfr, hlo, hbs⟩ := C
  exact lv_fdiv hx hb hd hr (h H locs ls h1 h2 h3 h4 h5 h6)

theorem zs_dadd (C : zCtx p R s m args meth c base t b D dA zx Ln y) {x w : UInt64} (hr : FP.dadd x w &&& 0x7fffffffffffffff ≤ 0x7ff0000000000000) (hd : decode (zbytes y) pc = .ok (.dadd, 1)) (h : zGo p l e R s m args below meth c Q base t b D dA zx Ln n0 s0 y (pc + 1) L (zD (FP.dadd x w) :: st) M) : zGo p l e R s m args below meth c Q base t b D dA zx Ln n0 s0 y pc L (zD w :: zD x :: st) M := by
  intro H locs ls h1 h2 h3 h4 h5 h6
  obtain ⟨hx, hb, hml, hown, hts, hK, hS, hnm, hfr, hlo, hbs⟩ := C
  exact lv_dadd hx hb hd hr (h H locs ls h1 h2 h3 h4 h5 h6)

theorem zs_dsub (C : zCtx p R s m args meth c base t b D dA zx Ln y) {x w : UInt64} (hr : FP.dsub x w &&& 0x7fffffffffffffff ≤ 0x7ff0000000000000) (hd : decode (zbytes y) pc = .ok (.dsub, 1)) (h : zGo p l e R s m args below meth c Q base t b D dA zx Ln n0 s0 y (pc + 1) L (zD (FP.dsub x w) :: st) M) : zGo p l e R s m args below meth c Q base t b D dA zx Ln n0 s0 y pc L (zD w :: zD x :: st) M := by
  intro H locs ls h1 h2 h3 h4 h5 h6
  obtain ⟨hx, hb, hml, hown, hts, hK, hS, hnm, hfr, hlo, hbs⟩ := C
  exact lv_dsub hx hb hd hr (h H locs ls h1 h2 h3 h4 h5 h6)

theorem zs_dmul (C : zCtx p R s m args meth c base t b D dA zx Ln y) {x w : UInt64} (hr : FP.dmul x w &&& 0x7fffffffffffffff ≤ 0x7ff0000000000000) (hd : decode (zbytes y) pc = .ok (.dmul, 1)) (h : zGo p l e R s m args below meth c Q base t b D dA zx Ln n0 s0 y (pc + 1) L (zD (FP.dmul x w) :: st) M) : zGo p l e R s m args below meth c Q base t b D dA zx Ln n0 s0 y pc L (zD w :: zD x :: st) M := by
  intro H locs ls h1 h2 h3 h4 h5 h6
  obtain ⟨hx, hb, hml, hown, hts, hK, hS, hnm, hfr, hlo, hbs⟩ := C
  exact lv_dmul hx hb hd hr (h H locs ls h1 h2 h3 h4 h5 h6)

theorem zs_ddiv (C : zCtx p R s m args meth c base t b D dA zx Ln y) {x w : UInt64} (hr : FP.ddiv x w &&& 0x7fffffffffffffff ≤ 0x7ff0000000000000) (hd : decode (zbytes y) pc = .ok (.ddiv, 1)) (h : zGo p l e R s m args below meth c Q base t b D dA zx Ln n0 s0 y (pc + 1) L (zD (FP.ddiv x w) :: st) M) : zGo p l e R s m args below meth c Q base t b D dA zx Ln n0 s0 y pc L (zD w :: zD x :: st) M := by
  intro H locs ls h1 h2 h3 h4 h5 h6
  obtain ⟨hx, hb, hml, hown, hts, hK, hS, hnm, hfr, hlo, hbs⟩ := C
  exact lv_ddiv hx hb hd hr (h H locs ls h1 h2 h3 h4 h5 h6)

theorem zs_fcmp (C : zCtx p R s m args meth c base t b D dA zx Ln y) {x w : UInt32} {op : CmpOp} (hd : decode (zbytes y) pc = .ok (.fcmp op, 1)) (h : zGo p l e R s m args below meth c Q base t b D dA zx Ln n0 s0 y (pc + 1) L (zI (Op.cmpValue (FP.fcmp x w) op).toInt :: st) M) : zGo p l e R s m args below meth c Q base t b D dA zx Ln n0 s0 y pc L (zF w :: zF x :: st) M := by
  intro H locs ls h1 h2 h3 h4 h5 h6
  obtain ⟨hx, hb, hml, hown, hts, hK, hS, hnm, hfr, hlo, hbs⟩ := C
  refine lv_fcmp hx hb hd ?_
  rw [← Int32.ofInt_toInt (Op.cmpValue (FP.fcmp x w) op)]
  exact h H locs ls h1 h2 h3 h4 h5 h6

theorem zs_dcmp (C : zCtx p R s m args meth c base t b D dA zx Ln y) {x w : UInt64} {op : CmpOp} (hd : decode (zbytes y) pc = .ok (.dcmp op, 1)) (h : zGo p l e R s m args below meth c Q base t b D dA zx Ln n0 s0 y (pc + 1) L (zI (Op.cmpValue (FP.dcmp x w) op).toInt :: st) M) : zGo p l e R s m args below meth c Q base t b D dA zx Ln n0 s0 y pc L (zD w :: zD x :: st) M := by
  intro H locs ls h1 h2 h3 h4 h5 h6
  obtain ⟨hx, hb, hml, hown, hts, hK, hS, hnm, hfr, hlo, hbs⟩ := C
  refine lv_dcmp hx hb hd ?_
  rw [← Int32.ofInt_toInt (Op.cmpValue (FP.dcmp x w) op)]
  exact h H locs ls h1 h2 h3 h4 h5 h6

theorem zs_lcmp (C : zCtx p R s m args meth c base t b D dA zx Ln y) {x w : Int} (hr : -9223372036854775808 ≤ x ∧ x ≤ 9223372036854775807) (hw : -9223372036854775808 ≤ w ∧ w ≤ 9223372036854775807) (hd : decode (zbytes y) pc = .ok (.lcmp, 1)) (h : zGo p l e R s m args below meth c Q base t b D dA zx Ln n0 s0 y (pc + 1) L (zI (zcmp x w) :: st) M) : zGo p l e R s m args below meth c Q base t b D dA zx Ln n0 s0 y pc L (zL w :: zL x :: st) M := by
  intro H locs ls h1 h2 h3 h4 h5 h6
  obtain ⟨hx, hb, hml, hown, hts, hK, hS, hnm, hfr, hlo, hbs⟩ := C
  refine W.lcmp hx hb hd ?_
  rw [z64_cmp hr hw]
  exact h H locs ls h1 h2 h3 h4 h5 h6

theorem zs_dup (C : zCtx p R s m args meth c base t b D dA zx Ln y) {v : zAV} (hv : zcat v = 1) (hd : decode (zbytes y) pc = .ok (.dup, 1)) (h : zGo p l e R s m args below meth c Q base t b D dA zx Ln n0 s0 y (pc + 1) L (v :: v :: st) M) : zGo p l e R s m args below meth c Q base t b D dA zx Ln n0 s0 y pc L (v :: st) M := by
  intro H locs ls h1 h2 h3 h4 h5 h6
  obtain ⟨hx, hb, hml, hown, hts, hK, hS, hnm, hfr, hlo, hbs⟩ := C
  exact lv_dup hx hb hd ((zC_cat _ v).trans hv) (h H locs ls h1 h2 h3 h4 h5 h6)

theorem zs_pop (C : zCtx p R s m args meth c base t b D dA zx Ln y) {v : zAV} (hv : zcat v = 1) (hd : decode (zbytes y) pc = .ok (.pop, 1)) (h : zGo p l e R s m args below meth c Q base t b D dA zx Ln n0 s0 y (pc + 1) L st M) : zGo p l e R s m args below meth c Q base t b D dA zx Ln n0 s0 y pc L (v :: st) M := by
  intro H locs ls h1 h2 h3 h4 h5 h6
  obtain ⟨hx, hb, hml, hown, hts, hK, hS, hnm, hfr, hlo, hbs⟩ := C
  exact lv_pop hx hb hd ((zC_cat _ v).trans hv) (h H locs ls h1 h2 h3 h4 h5 h6)

theorem zs_goto (C : zCtx p R s m args meth c base t b D dA zx Ln y) {o : Int} {tg : Nat} (ht : (pc : Int) + o = (tg : Int)) (hd : decode (zbytes y) pc = .ok (.goto o, 3)) (h : zGo p l e R s m args below meth c Q base t b D dA zx Ln n0 s0 y tg L st M) : zGo p l e R s m args below meth c Q base t b D dA zx Ln n0 s0 y pc L st M := by
  intro H locs ls h1 h2 h3 h4 h5 h6
  obtain ⟨hx, hb, hml, hown, hts, hK, hS, hnm, hfr, hlo, hbs⟩ := C
  exact lv_goto hx hb hd ht (h H locs ls h1 h2 h3 h4 h5 h6)

theorem zs_icmp_eq (C : zCtx p R s m args meth c base t b D dA zx Ln y) {x w o : Int} {tg : Nat} (hr : -2147483648 ≤ x ∧ x ≤ 2147483647) (hw : -2147483648 ≤ w ∧ w ≤ 2147483647) (hd : decode (zbytes y) pc = .ok (.if_icmp .eq o, 3)) (ht : (pc : Int) + o = (tg : Int)) (h : zGo p l e R s m args below meth c Q base t b D dA zx Ln n0 s0 y (if zcond .eq x w = true then tg else pc + 3) L st M) : zGo p l e R s m args below meth c Q base t b D dA zx Ln n0 s0 y pc L (zI w :: zI x :: st) M := by
  intro H locs ls h1 h2 h3 h4 h5 h6
  obtain ⟨hx, hb, hml, hown, hts, hK, hS, hnm, hfr, hlo, hbs⟩ := C
  have g := h H locs ls h1 h2 h3 h4 h5 h6
  have q := z32_eq hr hw
  refine lv_icmp_eq hx hb hd ht (fun k => ?_) (fun k => ?_)
  · rwa [if_pos (show zcond .eq x w = true from decide_eq_true (q.mp k))] at g
  · rwa [if_neg (by simp only [zcond, decide_eq_true_eq]; exact fun z => k (q.mpr z))] at g

theorem zs_if_eq (C : zCtx p R s m args meth c base t b D dA zx Ln y) {x o : Int} {tg : Nat} (hr : -2147483648 ≤ x ∧ x ≤ 2147483647) (hd : decode (zbytes y) pc = .ok (.ifCond .eq o, 3)) (ht : (pc : Int) + o = (tg : Int)) (h : zGo p l e R s m args below meth c Q base t b D dA zx Ln n0 s0 y (if zcond .eq x 0 = true then tg else pc + 3) L st M) : zGo p l e R s m args below meth c Q base t b D dA zx Ln n0 s0 y pc L (zI x :: st) M := by
  intro H locs ls h1 h2 h3 h4 h5 h6
  obtain ⟨hx, hb, hml, hown, hts, hK, hS, hnm, hfr, hlo, hbs⟩ := C
  have g := h H locs ls h1 h2 h3 h4 h5 h6
  have h00 : -2147483648 ≤ (0 : Int) ∧ (0 : Int) ≤ 2147483647 := by omega
  have q := z32_eq hr h00
  rw [← z32_0] at q
  refine lv_if_eq hx hb hd ht (fun k => ?_) (fun k => ?_)
  · rwa [if_pos (show zcond .eq x 0 = true from decide_eq_true (q.mp k))] at g
  · rwa [if_neg (by simp only [zcond, decide_eq_true_eq]; exact fun z => k (q.mpr z))] at g

theorem zs_icmp_ne (C : zCtx p R s m args meth c base t b D dA zx Ln y) {x w o : Int} {tg : Nat} (hr : -2147483648 ≤ x ∧ x ≤ 2147483647) (hw : -2147483648 ≤ w ∧ w ≤ 2147483647) (hd : decode (zbytes y) pc = .ok (.if_icmp .ne o, 3)) (ht : (pc : Int) + o = (tg : Int)) (h : zGo p l e R s m args below meth c Q base t b D dA zx Ln n0 s0 y (if zcond .ne x w = true then tg else pc + 3) L st M) : zGo p l e R s m args below meth c Q base t b D dA zx Ln n0 s0 y pc L (zI w :: zI x :: st) M := by
  intro H locs ls h1 h2 h3 h4 h5 h6
  obtain ⟨hx, hb, hml, hown, hts, hK, hS, hnm, hfr, hlo, hbs⟩ := C
  have g := h H locs ls h1 h2 h3 h4 h5 h6
  have q := not_congr (z32_eq hr hw)
  refine lv_icmp_ne hx hb hd ht (fun k => ?_) (fun k => ?_)
  · rwa [if_pos (show zcond .ne x w = true from decide_eq_true (q.mp k))] at g
  · rwa [if_neg (by simp only [zcond, decide_eq_true_eq]; exact fun z => z ((z32_eq hr hw).mp k))] at g

theorem zs_if_ne (C : zCtx p R s m args meth c base t b D dA zx Ln y) {x o : Int} {tg : Nat} (hr : -2147483648 ≤ x ∧ x ≤ 2147483647) (hd : decode (zbytes y) pc = .ok (.ifCond .ne o, 3)) (ht : (pc : Int) + o = (tg : Int)) (h : zGo p l e R s m args below meth c Q base t b D dA zx Ln n0 s0 y (if zcond .ne x 0 = true then tg else pc + 3) L st M) : zGo p l e R s m args below meth c Q base t b D dA zx Ln n0 s0 y pc L (zI x :: st) M := by
  intro H locs ls h1 h2 h3 h4 h5 h6
  obtain ⟨hx, hb, hml, hown, hts, hK, hS, hnm, hfr, hlo, hbs⟩ := C
  have g := h H locs ls h1 h2 h3 h4 h5 h6
  have h00 : -2147483648 ≤ (0 : Int) ∧ (0 : Int) ≤ 2147483647 := by omega
  have q := not_congr (z32_eq hr h00)
  rw [← z32_0] at q
  refine lv_if_ne hx hb hd ht (fun k => ?_) (fun k => ?_)
  · rwa [if_pos (show zcond .ne x 0 = true from decide_eq_true (q.mp k))] at g
  · rwa [if_neg (by simp only [zcond, decide_eq_true_eq]; exact fun z => z ((z32_eq hr h00).mp (k.trans z32_0)))] at g

theorem zs_icmp_lt (C : zCtx p R s m args meth c base t b D dA zx Ln y) {x w o : Int} {tg : Nat} (hr : -2147483648 ≤ x ∧ x ≤ 2147483647) (hw : -2147483648 ≤ w ∧ w ≤ 2147483647) (hd : decode (zbytes y) pc = .ok (.if_icmp .lt o, 3)) (ht : (pc : Int) + o = (tg : Int)) (h : zGo p l e R s m args below meth c Q base t b D dA zx Ln n0 s0 y (if zcond .lt x w = true then tg else pc + 3) L st M) : zGo p l e R s m args below meth c Q base t b D dA zx Ln n0 s0 y pc L (zI w :: zI x :: st) M := by
  intro H locs ls h1 h2 h3 h4 h5 h6
  obtain ⟨hx, hb, hml, hown, hts, hK, hS, hnm, hfr, hlo, hbs⟩ := C
  have g := h H locs ls h1 h2 h3 h4 h5 h6
  have q := z32_lt hr hw
  refine lv_icmp_lt hx hb hd ht (fun k => ?_) (fun k => ?_)
  · rwa [if_pos (show zcond .lt x w = true from decide_eq_true (q.mp k))] at g
  · rwa [if_neg (by simp only [zcond, decide_eq_true_eq]; exact fun z => k (q.mpr z))] at g

theorem zs_if_lt (C : zCtx p R s m args meth c base t b D dA zx Ln y) {x o : Int} {tg : Nat} (hr : -2147483648 ≤ x ∧ x ≤ 2147483647) (hd : decode (zbytes y) pc = .ok (.ifCond .lt o, 3)) (ht : (pc : Int) + o = (tg : Int)) (h : zGo p l e R s m args below meth c Q base t b D dA zx Ln n0 s0 y (if zcond .lt x 0 = true then tg else pc + 3) L st M) : zGo p l e R s m args below meth c Q base t b D dA zx Ln n0 s0 y pc L (zI x :: st) M := by
  intro H locs ls h1 h2 h3 h4 h5 h6
  obtain ⟨hx, hb, hml, hown, hts, hK, hS, hnm, hfr, hlo, hbs⟩ := C
  have g := h H locs ls h1 h2 h3 h4 h5 h6
  have h00 : -2147483648 ≤ (0 : Int) ∧ (0 : Int) ≤ 2147483647 := by omega
  have q := z32_lt hr h00
  rw [← z32_0] at q
  refine lv_if_lt hx hb hd ht (fun k => ?_) (fun k => ?_)
  · rwa [if_pos (show zcond .lt x 0 = true from decide_eq_true (q.mp k))] at g
  · rwa [if_neg (by simp only [zcond, decide_eq_true_eq]; exact fun z => k (q.mpr z))] at g

theorem zs_icmp_ge (C : zCtx p R s m args meth c base t b D dA zx Ln y) {x w o : Int} {tg : Nat} (hr : -2147483648 ≤ x ∧ x ≤ 2147483647) (hw : -2147483648 ≤ w ∧ w ≤ 2147483647) (hd : decode (zbytes y) pc = .ok (.if_icmp .ge o, 3)) (ht : (pc : Int) + o = (tg : Int)) (h : zGo p l e R s m args below meth c Q base t b D dA zx Ln n0 s0 y (if zcond .ge x w = true then tg else pc + 3) L st M) : zGo p l e R s m args below meth c Q base t b D dA zx Ln n0 s0 y pc L (zI w :: zI x :: st) M := by
  intro H locs ls h1 h2 h3 h4 h5 h6
  obtain ⟨hx, hb, hml, hown, hts, hK, hS, hnm, hfr, hlo, hbs⟩ := C
  have g := h H locs ls h1 h2 h3 h4 h5 h6
  have q := z32_le hw hr
  refine lv_icmp_ge hx hb hd ht (fun k => ?_) (fun k => ?_)
  · rwa [if_pos (show zcond .ge x w = true from decide_eq_true (q.mp k))] at g
  · rwa [if_neg (by simp only [zcond, decide_eq_true_eq]; exact fun z => k (q.mpr z))] at g

theorem zs_if_ge (C : zCtx p R s m args meth c base t b D dA zx Ln y) {x o : Int} {tg : Nat} (hr : -2147483648 ≤ x ∧ x ≤ 2147483647) (hd : decode (zbytes y) pc = .ok (.ifCond .ge o, 3)) (ht : (pc : Int) + o = (tg : Int)) (h : zGo p l e R s m args below meth c Q base t b D dA zx Ln n0 s0 y (if zcond .ge x 0 = true then tg else pc + 3) L st M) : zGo p l e R s m args below meth c Q base t b D dA zx Ln n0 s0 y pc L (zI x :: st) M := by
  intro H locs ls h1 h2 h3 h4 h5 h6
  obtain ⟨hx, hb, hml, hown, hts, hK, hS, hnm, hfr, hlo, hbs⟩ := C
  have g := h H locs ls h1 h2 h3 h4 h5 h6
  have h00 : -2147483648 ≤ (0 : Int) ∧ (0 : Int) ≤ 2147483647 := by omega
  have q := z32_le h00 hr
  rw [← z32_0] at q
  refine lv_if_ge hx hb hd ht (fun k => ?_) (fun k => ?_)
  · rwa [if_pos (show zcond .ge x 0 = true from decide_eq_true (q.mp k))] at g
  · rwa [if_neg (by simp only [zcond, decide_eq_true_eq]; exact fun z => k (q.mpr z))] at g

theorem zs_icmp_gt (C : zCtx p R s m args meth c base t b D dA zx Ln y) {x w o : Int} {tg : Nat} (hr : -2147483648 ≤ x ∧ x ≤ 2147483647) (hw : -2147483648 ≤ w ∧ w ≤ 2147483647) (hd : decode (zbytes y) pc = .ok (.if_icmp .gt o, 3)) (ht : (pc : Int) + o = (tg : Int)) (h : zGo p l e R s m args below meth c Q base t b D dA zx Ln n0 s0 y (if zcond .gt x w = true then tg else pc + 3) L st M) : zGo p l e R s m args below meth c Q base t b D dA zx Ln n0 s0 y pc L (zI w :: zI x :: st) M := by
  intro H locs ls h1 h2 h3 h4 h5 h6
  obtain ⟨hx, hb, hml, hown, hts, hK, hS, hnm, hfr, hlo, hbs⟩ := C
  have g := h H locs ls h1 h2 h3 h4 h5 h6
  have q := z32_lt hw hr
  refine lv_icmp_gt hx hb hd ht (fun k => ?_) (fun k => ?_)
  · rwa [if_pos (show zcond .gt x w = true from decide_eq_true (q.mp k))] at g
  · rwa [if_neg (by simp only [zcond, decide_eq_true_eq]; exact fun z => k (q.mpr z))] at g

theorem zs_if_gt (C : zCtx p R s m args meth c base t b D dA zx Ln y) {x o : Int} {tg : Nat} (hr : -2147483648 ≤ x ∧ x ≤ 2147483647) (hd : decode (zbytes y) pc = .ok (.ifCond .gt o, 3)) (ht : (pc : Int) + o = (tg : Int)) (h : zGo p l e R s m args below meth c Q base t b D dA zx Ln n0 s0 y (if zcond .gt x 0 = true then tg else pc + 3) L st M) : zGo p l e R s m args below meth c Q base t b D dA zx Ln n0 s0 y pc L (zI x :: st) M := by
  intro H locs ls h1 h2 h3 h4 h5 h6
  obtain ⟨hx, hb, hml, hown, hts, hK, hS, hnm, hfr, hlo, hbs⟩ := C
  have g := h H locs ls h1 h2 h3 h4 h5 h6
  have h00 : -2147483648 ≤ (0 : Int) ∧ (0 : Int) ≤ 2147483647 := by omega
  have q := z32_lt h00 hr
  rw [← z32_0] at q
  refine lv_if_gt hx hb hd ht (fun k => ?_) (fun k => ?_)
  · rwa [if_pos (show zcond .gt x 0 = true from decide_eq_true (q.mp k))] at g
  · rwa [if_neg (by simp only [zcond, decide_eq_true_eq]; exact fun z => k (q.mpr z))] at g

theorem zs_icmp_le (C : zCtx p R s m args meth c base t b D dA zx Ln y) {x w o : Int} {tg : Nat} (hr : -2147483648 ≤ x ∧ x ≤ 2147483647) (hw : -2147483648 ≤ w ∧ w ≤ 2147483647) (hd : decode (zbytes y) pc = .ok (.if_icmp .le o, 3)) (ht : (pc : Int) + o = (tg : Int)) (h : zGo p l e R s m args below meth c Q base t b D dA zx Ln n0 s0 y (if zcond .le x w = true then tg else pc + 3) L st M) : zGo p l e R s m args below meth c Q base t b D dA zx Ln n0 s0 y pc L (zI w :: zI x :: st) M := by
  intro H locs ls h1 h2 h3 h4 h5 h6
  obtain ⟨hx, hb, hml, hown, hts, hK, hS, hnm, hfr, hlo, hbs⟩ := C
  have g := h H locs ls h1 h2 h3 h4 h5 h6
  have q := z32_le hr hw
  refine lv_icmp_le hx hb hd ht (fun k => ?_) (fun k => ?_)
  · rwa [if_pos (show zcond .le x w = true from decide_eq_true (q.mp k))] at g
  · rwa [if_neg (by simp only [zcond, decide_eq_true_eq]; exact fun z => k (q.mpr z))] at g

theorem zs_if_le (C : zCtx p R s m args meth c base t b D dA zx Ln y) {x o : Int} {tg : Nat} (hr : -2147483648 ≤ x ∧ x ≤ 2147483647) (hd : decode (zbytes y) pc = .ok (.ifCond .le o, 3)) (ht : (pc : Int) + o = (tg : Int)) (h : zGo p l e R s m args below meth c Q base t b D dA zx Ln n0 s0 y (if zcond .le x 0 = true then tg else pc + 3) L st M) : zGo p l e R s m args below meth c Q base t b D dA zx Ln n0 s0 y pc L (zI x :: st) M := by
  intro H locs ls h1 h2 h3 h4 h5 h6
  obtain ⟨hx, hb, hml, hown, hts, hK, hS, hnm, hfr, hlo, hbs⟩ := C
  have g := h H locs ls h1 h2 h3 h4 h5 h6
  have h00 : -2147483648 ≤ (0 : Int) ∧ (0 : Int) ≤ 2147483647 := by omega
  have q := z32_le hr h00
  rw [← z32_0] at q
  refine lv_if_le hx hb hd ht (fun k => ?_) (fun k => ?_)
  · rwa [if_pos (show zcond .le x 0 = true from decide_eq_true (q.mp k))] at g
  · rwa [if_neg (by simp only [zcond, decide_eq_true_eq]; exact fun z => k (q.mpr z))] at g

theorem zs_tableOut (C : zCtx p R s m args meth c base t b D dA zx Ln y) {x d lo hi : Int} {os : Array Int} {n : Nat} (hr : -2147483648 ≤ x ∧ x ≤ 2147483647) (hd : decode (zbytes y) pc = .ok (.tableswitch d lo hi os, n)) (ht : 0 ≤ (pc : Int) + d) (hc : x < lo ∨ hi < x) (h : zGo p l e R s m args below meth c Q base t b D dA zx Ln n0 s0 y ((pc : Int) + d).toNat L st M) : zGo p l e R s m args below meth c Q base t b D dA zx Ln n0 s0 y pc L (zI x :: st) M := by
  intro H locs ls h1 h2 h3 h4 h5 h6
  obtain ⟨hx, hb, hml, hown, hts, hK, hS, hnm, hfr, hlo, hbs⟩ := C
  have q : (Int32.ofInt x).toInt = x := Int32.toInt_ofInt_of_le (by omega) (by omega)
  exact lv_tableOut hx hb hd (by rw [q]; exact hc) (by omega) (h H locs ls h1 h2 h3 h4 h5 h6)

theorem zs_tableIn (C : zCtx p R s m args meth c base t b D dA zx Ln y) {x d lo hi o : Int} {os : Array Int} {n : Nat} (hr : -2147483648 ≤ x ∧ x ≤ 2147483647) (hd : decode (zbytes y) pc = .ok (.tableswitch d lo hi os, n)) (ht : 0 ≤ (pc : Int) + o) (hc : ¬ (x < lo ∨ hi < x)) (ho : os[(x - lo).toNat]? = some o) (h : zGo p l e R s m args below meth c Q base t b D dA zx Ln n0 s0 y ((pc : Int) + o).toNat L st M) : zGo p l e R s m args below meth c Q base t b D dA zx Ln n0 s0 y pc L (zI x :: st) M := by
  intro H locs ls h1 h2 h3 h4 h5 h6
  obtain ⟨hx, hb, hml, hown, hts, hK, hS, hnm, hfr, hlo, hbs⟩ := C
  have q : (Int32.ofInt x).toInt = x := Int32.toInt_ofInt_of_le (by omega) (by omega)
  exact lv_tableIn hx hb hd (by rw [q]; omega) (by rw [q]; omega) (by rw [q]; exact ho) (by omega) (h H locs ls h1 h2 h3 h4 h5 h6)

theorem zs_lookup (C : zCtx p R s m args meth c base t b D dA zx Ln y) {x d : Int} {ps : Array (Int × Int)} {n : Nat} (hr : -2147483648 ≤ x ∧ x ≤ 2147483647) (hd : decode (zbytes y) pc = .ok (.lookupswitch d ps, n)) (hp : (ps.toList.zip (ps.toList.drop 1)).all (fun (a, next) => a.1 < next.1) = true) (ht : 0 ≤ (pc : Int) + Op.lookupswitch.offset ps.toList d x) (h : zGo p l e R s m args below meth c Q base t b D dA zx Ln n0 s0 y ((pc : Int) + Op.lookupswitch.offset ps.toList d x).toNat L st M) : zGo p l e R s m args below meth c Q base t b D dA zx Ln n0 s0 y pc L (zI x :: st) M := by
  intro H locs ls h1 h2 h3 h4 h5 h6
  obtain ⟨hx, hb, hml, hown, hts, hK, hS, hnm, hfr, hlo, hbs⟩ := C
  have q : (Int32.ofInt x).toInt = x := Int32.toInt_ofInt_of_le (by omega) (by omega)
  exact lv_lookup hx hb hd hp (by rw [q]) (by omega) (h H locs ls h1 h2 h3 h4 h5 h6)

theorem zs_n1 {x : Int} (h : zGo p l e R s m args below meth c Q base t b D dA zx Ln n0 s0 y pc L (zI (Int32.ofInt x).toInt :: st) M) : zGo p l e R s m args below meth c Q base t b D dA zx Ln n0 s0 y pc L (zI x :: st) M := by
  intro H locs ls h1 h2 h3 h4 h5 h6
  have g := h H locs ls h1 h2 h3 h4 h5 h6
  rw [List.map_cons, show zC (zAD base t b) (zI (Int32.ofInt x).toInt) = zC (zAD base t b) (zI x) from congrArg Value.int (Int32.ofInt_toInt _), ← List.map_cons] at g
  exact g
theorem zs_n2 {x : Int} (h : zGo p l e R s m args below meth c Q base t b D dA zx Ln n0 s0 y pc L (zI (Int32.ofInt x).toInt :: zI (Int32.ofInt x).toInt :: st) M) : zGo p l e R s m args below meth c Q base t b D dA zx Ln n0 s0 y pc L (zI x :: zI x :: st) M := by
  intro H locs ls h1 h2 h3 h4 h5 h6
  have g := h H locs ls h1 h2 h3 h4 h5 h6
  rw [List.map_cons, List.map_cons, show zC (zAD base t b) (zI (Int32.ofInt x).toInt) = zC (zAD base t b) (zI x) from congrArg Value.int (Int32.ofInt_toInt _), ← List.map_cons, ← List.map_cons] at g
  exact g
theorem zs_n3 {x : Int} (h : zGo p l e R s m args below meth c Q base t b D dA zx Ln n0 s0 y pc L (zL (Int64.ofInt x).toInt :: zL (Int64.ofInt x).toInt :: st) M) : zGo p l e R s m args below meth c Q base t b D dA zx Ln n0 s0 y pc L (zL x :: zL x :: st) M := by
  intro H locs ls h1 h2 h3 h4 h5 h6
  have g := h H locs ls h1 h2 h3 h4 h5 h6
  rw [List.map_cons, List.map_cons, show zC (zAD base t b) (zL (Int64.ofInt x).toInt) = zC (zAD base t b) (zL x) from congrArg Value.long (Int64.ofInt_toInt _), ← List.map_cons, ← List.map_cons] at g
  exact g
theorem zs_r32 (x : Int) : -2147483648 ≤ (Int32.ofInt x).toInt ∧ (Int32.ofInt x).toInt ≤ 2147483647 := by
  have h1 := Int32.le_toInt (Int32.ofInt x)
  have h2 := Int32.toInt_lt (Int32.ofInt x)
  omega
theorem zs_r64 (x : Int) : -9223372036854775808 ≤ (Int64.ofInt x).toInt ∧ (Int64.ofInt x).toInt ≤ 9223372036854775807 := by
  have h1 := Int64.le_toInt (Int64.ofInt x)
  have h2 := Int64.toInt_lt (Int64.ofInt x)
  omega
theorem zs_i2lw (C : zCtx p R s m args meth c base t b D dA zx Ln y) {x : Int} (hd : decode (zbytes y) pc = .ok (.i2l, 1)) (h : zGo p l e R s m args below meth c Q base t b D dA zx Ln n0 s0 y (pc + 1) L (zL (if -2147483648 ≤ x ∧ x ≤ 2147483647 then x else (Int32.ofInt x).toInt) :: st) M) : zGo p l e R s m args below meth c Q base t b D dA zx Ln n0 s0 y pc L (zI x :: st) M := by
  by_cases hr : -2147483648 ≤ x ∧ x ≤ 2147483647
  · rw [if_pos hr] at h
    exact zs_i2l C hr hd h
  · rw [if_neg hr] at h
    exact zs_n1 (zs_i2l C (zs_r32 x) hd h)
theorem zs_lcmpE (C : zCtx p R s m args meth c base t b D dA zx Ln y) {x : Int} (hd : decode (zbytes y) pc = .ok (.lcmp, 1)) (h : zGo p l e R s m args below meth c Q base t b D dA zx Ln n0 s0 y (pc + 1) L (zI (zcmp x x) :: st) M) : zGo p l e R s m args below meth c Q base t b D dA zx Ln n0 s0 y pc L (zL x :: zL x :: st) M := by
  have e0 : ∀ v : Int, zcmp v v = 0 := fun v => by
    unfold zcmp
    rw [if_neg (by omega), if_pos rfl]
  have e : zcmp x x = zcmp (Int64.ofInt x).toInt (Int64.ofInt x).toInt := (e0 x).trans (e0 _).symm
  rw [e] at h
  exact zs_n3 (zs_lcmp C (zs_r64 x) (zs_r64 x) hd h)
theorem zs_icmpE (C : zCtx p R s m args meth c base t b D dA zx Ln y) {k : ClassFile.Cond} {x o : Int} {tg : Nat} (hd : decode (zbytes y) pc = .ok (.if_icmp k o, 3)) (ht : (pc : Int) + o = (tg : Int)) (h : zGo p l e R s m args below meth c Q base t b D dA zx Ln n0 s0 y (if zcond k x x = true then tg else pc + 3) L st M) : zGo p l e R s m args below meth c Q base t b D dA zx Ln n0 s0 y pc L (zI x :: zI x :: st) M := by
  have e : zcond k x x = zcond k (Int32.ofInt x).toInt (Int32.ofInt x).toInt := by
    cases k <;> simp [zcond]
  rw [e] at h
  refine zs_n2 ?_
  cases k with
  | eq => exact zs_icmp_eq C (zs_r32 x) (zs_r32 x) hd ht h
  | ne => exact zs_icmp_ne C (zs_r32 x) (zs_r32 x) hd ht h
  | lt => exact zs_icmp_lt C (zs_r32 x) (zs_r32 x) hd ht h
  | ge => exact zs_icmp_ge C (zs_r32 x) (zs_r32 x) hd ht h
  | gt => exact zs_icmp_gt C (zs_r32 x) (zs_r32 x) hd ht h
  | le => exact zs_icmp_le C (zs_r32 x) (zs_r32 x) hd ht h

end ZSIM
