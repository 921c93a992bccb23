/-! the classes' own facts -/
theorem zcl_at : ∀ a, a < 9 → zcl[a]? = some (zcls a) := by
  intro a h
  have hl : a < zcl.length := h
  unfold zcls
  rw [List.getD_eq_getElem?_getD, List.getElem?_eq_getElem hl]
  rfl
def zclin (a : Nat) : Bool := (u_ws (zcls a).1 (zcls a).2.1 (zcls a).2.2).all (fun w => decide (w ∈ lw_tbl) && goodWord w)
theorem zcl_in_b : (List.range 9).all zclin = true := by decide +kernel
theorem zcl_in {a : Nat} (h : a < 9) : ∀ w ∈ u_ws (zcls a).1 (zcls a).2.1 (zcls a).2.2, w ∈ zall := by
  intro w hw
  have h1 := List.all_eq_true.mp (List.all_eq_true.mp zcl_in_b a (List.mem_range.mpr h)) w hw
  simp only [Bool.and_eq_true, decide_eq_true_eq] at h1
  exact List.mem_filter.mpr h1
def zfty (a k : Nat) : FieldType := (parseFieldDescriptor ((zcls a).2.1 k).2.2.1).getD .int
theorem zfty_b : (List.range 9).all (fun a => (List.range (zcls a).2.2).all (fun k => decide (parseFieldDescriptor ((zcls a).2.1 k).2.2.1 = some (zfty a k)) && (match (zfk.getD a []).getD k 9 with
  | 0 => decide (zfty a k = .int) | 1 => decide (zfty a k = .long) | 2 => decide (zfty a k = .float) | 4 => decide (zfty a k = .boolean)
  | 5 => (match zfty a k with | .object _ => true | .array _ => true | _ => false)
  | _ => false))) = true := by decide +kernel
theorem zfty_ok {a k : Nat} (ha : a < 9) (hk : k < (zcls a).2.2) : parseFieldDescriptor ((zcls a).2.1 k).2.2.1 = some (zfty a k) := by
  have h := List.all_eq_true.mp (List.all_eq_true.mp zfty_b a (List.mem_range.mpr ha)) k (List.mem_range.mpr hk)
  simp only [Bool.and_eq_true, decide_eq_true_eq] at h
  exact h.1
theorem zfty_kd {a k : Nat} (ha : a < 9) (hk : k < (zcls a).2.2) : (match (zfk.getD a []).getD k 9 with
  | 0 => decide (zfty a k = .int) | 1 => decide (zfty a k = .long) | 2 => decide (zfty a k = .float) | 4 => decide (zfty a k = .boolean)
  | 5 => (match zfty a k with | .object _ => true | .array _ => true | _ => false)
  | _ => false) = true := by
  have h := List.all_eq_true.mp (List.all_eq_true.mp zfty_b a (List.mem_range.mpr ha)) k (List.mem_range.mpr hk)
  simp only [Bool.and_eq_true] at h
  exact h.2
theorem znames_b : (List.range 9).all (fun a => (List.range (zcls a).2.2).all (fun i => (List.range (zcls a).2.2).all (fun j => decide (i = j) || decide (((zcls a).2.1 i).2.1 ≠ ((zcls a).2.1 j).2.1)))) = true := by decide +kernel
theorem znames {a : Nat} (ha : a < 9) : ∀ i, i < (zcls a).2.2 → ∀ j, j < (zcls a).2.2 → i ≠ j → ((zcls a).2.1 i).2.1 ≠ ((zcls a).2.1 j).2.1 := by
  intro i hi j hj hne
  have h := List.all_eq_true.mp (List.all_eq_true.mp (List.all_eq_true.mp znames_b a (List.mem_range.mpr ha)) i (List.mem_range.mpr hi)) j (List.mem_range.mpr hj)
  simp only [Bool.or_eq_true, decide_eq_true_eq] at h
  exact h.resolve_left hne
/-! the world's rows -/
theorem zAD_lo {base t b k : Nat} (h : k < 900) : zAD base t b k = base + k := by
  unfold zAD
  rw [if_neg (by omega), if_neg (by omega)]
theorem zflds_at {AD : Nat → Nat} {a : Nat} {R : List (List (Option Nat))} {Z : zMem} {k i : Nat} (hi : i < (zcls a).2.2) : (zflds AD a R Z k)[i]? = some (zval AD ((zfk.getD a []).getD i 9) R Z k i) := by
  unfold zflds
  rw [List.getElem?_map, List.getElem?_range hi]
  rfl
theorem zel_obj {AD : Nat → Nat} {dA : Nat → ClassId} {a n k : Nat} {R : List (List (Option Nat))} {Z : zMem} (ha : a < 9) : zel AD dA (a, n) k R Z = .inr (a, zflds AD a R Z k) := by
  unfold zel
  rw [if_pos (by show a < 10; omega)]
theorem zel_congr {AD : Nat → Nat} {dA : Nat → ClassId} {d : Nat × Nat} {k : Nat} {R R' : List (List (Option Nat))} {Z Z' : zMem} (hR : ∀ i, zrd R' k i = zrd R k i) (hZ : ∀ i, Z' k i = Z k i) : zel AD dA d k R' Z' = zel AD dA d k R Z := by
  unfold zel zflds zval zrow
  simp only [hR, hZ]
theorem zH_in {base t b : Nat} {D : va_G} {dA : Nat → ClassId} {zx : Nat → Int} {Ln : Nat} {M : zM} {H : Heap} (h : zH base t b D dA zx Ln M H) {k : Nat} {d : Nat × Nat} (hk : M.1[k]? = some d) :
    k < 900 ∧ va_P D zcl [(base + k, zel (zAD base t b) dA d k M.2.1 M.2.2)] H := by
  obtain ⟨h1, h2, h3, h4⟩ := h
  have hl : k < M.1.length := (List.getElem?_eq_some_iff.mp hk).1
  refine ⟨by omega, fun j q hq => ?_⟩
  have hz : j < 1 := (List.getElem?_eq_some_iff.mp hq).1
  rw [show j = 0 by omega] at hq
  cases hq
  exact h3 k d hk
theorem zH_store {base t b : Nat} {D : va_G} {dA : Nat → ClassId} {zx : Nat → Int} {Ln : Nat} {M : zM} {H H' : Heap} (h : zH base t b D dA zx Ln M H) {k : Nat} {d : Nat × Nat} (hk : M.1[k]? = some d) {R' : List (List (Option Nat))} {Z' : zMem}
    (hz : H'.size = H.size) (ho : ∀ q, q ≠ base + k → H'[q]? = H[q]?) (hn : va_at D zcl (base + k, zel (zAD base t b) dA d k R' Z') H') (hR : ∀ j, j ≠ k → ∀ i, zrd R' j i = zrd M.2.1 j i) (hZ : ∀ j, j ≠ k → ∀ i, Z' j i = M.2.2 j i) : zH base t b D dA zx Ln (M.1, R', Z') H' := by
  obtain ⟨h1, h2, h3, h4, h5⟩ := h
  have hl : k < M.1.length := (List.getElem?_eq_some_iff.mp hk).1
  refine ⟨hz.trans h1, h2, fun j d' hj => ?_, fun j => ?_, ?_⟩
  · by_cases e : j = k
    · subst e
      have e2 : d' = d := Option.some.inj (hj.symm.trans hk)
      subst e2
      exact hn
    · show va_at D zcl (base + j, zel (zAD base t b) dA d' j R' Z') H'
      rw [zel_congr (hR j e) (hZ j e)]
      exact (h3 j d' hj).kept (ho _ (by show base + j ≠ base + k; omega))
  · show Z' 1001 j = zx j
    rw [hZ 1001 (by omega)]; exact h4 j
  · show Z' 1002 0 = (Ln : Int)
    rw [hZ 1002 (by omega)]; exact h5
theorem zup_ne {Z : zMem} {k i : Nat} {v : Int} : ∀ j, j ≠ k → ∀ x, zup Z k i v j x = Z j x := by
  intro j h x
  unfold zup
  rw [if_neg h]
theorem zup_self (Z : zMem) (k i : Nat) (v : Int) (x : Nat) : zup Z k i v k x = if x = i then v else Z k x := by
  unfold zup
  rw [if_pos rfl]
theorem zrd_set_ne {R : List (List (Option Nat))} {k : Nat} {r : List (Option Nat)} {j : Nat} (h : j ≠ k) (i : Nat) : zrd (R.set k r) j i = zrd R j i := by
  unfold zrd
  simp only [List.getD_eq_getElem?_getD]
  rw [List.getElem?_set_ne (Ne.symm h)]
theorem zrd_rw {R : List (List (Option Nat))} {k i v : Nat} (hi : i < (R.getD k []).length) (x : Nat) : zrd (zrw R k i v) k x = if x = i then some v else zrd R k x := by
  have hk : k < R.length := by
    rcases Nat.lt_or_ge k R.length with h | h
    · exact h
    · rw [List.getD_eq_getElem?_getD, List.getElem?_eq_none h] at hi
      cases hi
  unfold zrd zrw
  have e : (R.set k ((R.getD k []).set i (some v))).getD k [] = (R.getD k []).set i (some v) := by
    rw [List.getD_eq_getElem?_getD, List.getElem?_set_self hk]
    rfl
  rw [e, List.getD_eq_getElem?_getD, List.getElem?_set]
  by_cases q : i = x
  · rw [if_pos q, if_pos (by omega), if_pos q.symm]; rfl
  · rw [if_neg q, if_neg (Ne.symm q), ← List.getD_eq_getElem?_getD]
section ZMEM
variable {p : Program} {l : Launch} {e : Env} {R : Room} {s : State} {m : MethodId} {args : Array Value} {below : List Frame} {meth : Method} {c : Code} {Q : State → Prop} {base t b : Nat} {D : va_G} {dA : Nat → ClassId} {zx : Nat → Int} {Ln n0 s0 y : Nat} {pc : Nat} {L : zLs} {st : List zAV} {M : zM}
theorem zs_getfield (C : zCtx p R s m args meth c base t b D dA zx Ln y) {i a f k : Nat} {v : zAV} (ha : a < 9) (hf : f < (zcls a).2.2) (hw : Cond.fieldLink (zname y).cls i ((zcls a).2.1 f).1 ((zcls a).2.1 f).2.1 ((zcls a).2.1 f).2.2.1 ∈ zall) (hT : M.1[k]? = some (a, 0))
    (hv : zval (zAD base t b) ((zfk.getD a []).getD f 9) M.2.1 M.2.2 k f = zC (zAD base t b) v) (hd : decode (zbytes y) pc = .ok (.getfield i, 3)) (h : zGo p l e R s m args below meth c Q base t b D dA zx Ln n0 s0 y (pc + 3) L (v :: st) M) : zGo p l e R s m args below meth c Q base t b D dA zx Ln n0 s0 y pc L (zR k :: st) M := by
  intro H locs ls h1 h2 h3 h4 h5 h6
  obtain ⟨hx, hb, hml, hown, hts, hK, hS, hnm, hfr, hlo, hbs⟩ := C
  obtain ⟨hk9, hP⟩ := zH_in h1 hT
  have g := h H locs ls h1 h2 h3 h4 h5 h6
  show W p l e R s m args below meth c H locs _ _ Q (F0 m pc ls (.ref (zAD base t b k) :: st.map (zC (zAD base t b))))
  rw [zAD_lo hk9]
  exact va_get hx hb hts (zcl_in ha) hown hK.1 hP 0 (by rw [zel_obj ha]; rfl) (zcl_at a ha) f hf (hts _ hw) (fun _ q => q) ((zflds_at hf).trans (congrArg some hv)) hd g
theorem zs_putfield (C : zCtx p R s m args meth c base t b D dA zx Ln y) {i a f k : Nat} {v : zAV} (ha : a < 9) (hf : f < (zcls a).2.2) (hw : Cond.fieldLink (zname y).cls i ((zcls a).2.1 f).1 ((zcls a).2.1 f).2.1 ((zcls a).2.1 f).2.2.1 ∈ zall) (hT : M.1[k]? = some (a, 0))
    (hfin : ((zcls a).2.1 f).2.2.2 = false ∨ ((zname y).name = "<init>" ∧ ((zcls a).2.1 f).1 = (zname y).cls)) {R' : List (List (Option Nat))} {Z' : zMem}
    (hn : narrow (zfty a f) (zC (zAD base t b) v) = zC (zAD base t b) v) (hfit : fits (zfty a f) (zC (zAD base t b) v) = true)
    (hv : ∀ j, j < (zcls a).2.2 → zval (zAD base t b) ((zfk.getD a []).getD j 9) R' Z' k j = if j = f then zC (zAD base t b) v else zval (zAD base t b) ((zfk.getD a []).getD j 9) M.2.1 M.2.2 k j)
    (hR : ∀ j, j ≠ k → ∀ i, zrd R' j i = zrd M.2.1 j i) (hZ : ∀ j, j ≠ k → ∀ i, Z' j i = M.2.2 j i)
    (hd : decode (zbytes y) pc = .ok (.putfield i, 3)) (h : zGo p l e R s m args below meth c Q base t b D dA zx Ln n0 s0 y (pc + 3) L st (M.1, R', Z')) : zGo p l e R s m args below meth c Q base t b D dA zx Ln n0 s0 y pc L (v :: zR k :: st) M := by
  intro H locs ls h1 h2 h3 h4 h5 h6
  obtain ⟨hx, hb, hml, hown, hts, hK, hS, hnm, hfr, hlo, hbs⟩ := C
  obtain ⟨hk9, hP⟩ := zH_in h1 hT
  show W p l e R s m args below meth c H locs _ _ Q (F0 m pc ls (zC (zAD base t b) v :: .ref (zAD base t b k) :: st.map (zC (zAD base t b))))
  rw [zAD_lo hk9]
  have hap := va_apart (own := (zname y).cls) hts (zcl_in ha) (zfty a) (fun j hj => zfty_ok ha hj) (znames ha) hK.1 (zcl_at a ha)
  have hat : va_at D zcl (base + k, .inr (a, zflds (zAD base t b) a M.2.1 M.2.2 k)) H := by
    have q := hP 0 _ rfl
    rwa [zel_obj ha] at q
  obtain ⟨r, hr1, cell, q1, q2, q3, q4⟩ := hat
  have hr : r = zcls a := Option.some.inj (hr1.symm.trans (zcl_at a ha))
  subst hr
  obtain ⟨hSl, hfc, kC, hkC, hkind⟩ := hK.1.1 a _ (zcl_at a ha)
  obtain ⟨cf, kf, fi, fd, hi, hsl⟩ := hSl f hf
  have hst := (u_facts hfc hkC (u_lays hts (zcl_in ha) hf) hi).1
  have hend : ∀ H' : Heap, H'[base + k]? = some (cell.setSlot (D.2 a f) (zC (zAD base t b) v)) → H'.size = H.size → (∀ q, q ≠ base + k → H'[q]? = H[q]?) → W p l e R s m args below meth c H' (locs ++ [⟨base + k, D.2 a f⟩]) (M.1.length - n0) (zslots M.1 - s0) Q (F0 m (pc + 3) ls (st.map (zC (zAD base t b)))) := by
    intro H' e1 e2 e3
    refine h H' _ ls (zH_store h1 hT e2 e3 ?_ hR hZ) (h2.put e2 e3 (by show base ≤ base + k; omega)) h3 h4 h5 h6
    rw [zel_obj ha]
    refine ⟨_, zcl_at a ha, t_OB.to (V := updV (vp_V (zflds (zAD base t b) a M.2.1 M.2.2 k)) f (zC (zAD base t b) v)) ⟨_, e1, q2, q3, t_set q4 hap hf _⟩ (fun j hj => ?_)⟩
    unfold updV vp_V
    rw [List.getD_eq_getElem?_getD, List.getD_eq_getElem?_getD, zflds_at hj, zflds_at hj, Option.getD_some, Option.getD_some, hv j hj]
  have hlay := hts _ (zcl_in ha _ (u_in_lay hf))
  unfold u_lay at hlay
  by_cases hF : ((zcls a).2.1 f).2.2.2 = true
  · rw [if_pos hF] at hlay
    obtain ⟨hn1, hn2⟩ := hfin.resolve_left (by rw [hF]; decide)
    have hcf : m.cls = cf := by
      obtain ⟨_, _, c', _, _, _, -, -, hf', -, -, -, hown2, -⟩ := Cond.laysFinal_spec hlay
      have e1 : c' = cf := by have := hi.symm.trans hf'; simp at this; exact this.1.symm
      rw [hn2] at hown2
      rw [← e1]; exact Option.some.inj (hown.symm.trans hown2)
    have h6' := u_fits hfc hkC hkind (Or.inr hlay) hi (zfty_ok ha hf) hn hfit
    refine W.putFinK hx hb hown (hts _ hw) hi hst hcf (hnm hn1) (by rw [q2]; exact h6') q1 q3 (by rw [hsl]; exact k2_hasslot (q4 f hf)) rfl rfl hd fun H' e1 e2 e3 => ?_
    rw [hsl] at e1 ⊢
    exact hend H' e1 e2 e3
  · rw [if_neg hF] at hlay
    have h6' := u_store hfc hkC hkind hlay hi (zfty_ok ha hf) hn hfit
    refine W.putK hx hb (f := fd) ⟨hown, hts _ hw, ⟨_, _, _, hi⟩, hst⟩ (by rw [q2]; exact h6') q1 q3 (by rw [hsl]; exact k2_hasslot (q4 f hf)) rfl rfl hd fun H' e1 e2 e3 => ?_
    rw [hsl] at e1 ⊢
    exact hend H' e1 e2 e3
theorem zs_getorders (C : zCtx p R s m args meth c base t b D dA zx Ln y) {i : Nat} (hw : Cond.fieldLink (zname y).cls i "EstateVessels$Group" "ORDERS" "[I" ∈ zall) (hd : decode (zbytes y) pc = .ok (.getstatic i, 3)) (h : zGo p l e R s m args below meth c Q base t b D dA zx Ln n0 s0 y (pc + 3) L (zR 1000 :: st) M) : zGo p l e R s m args below meth c Q base t b D dA zx Ln n0 s0 y pc L st M := by
  intro H locs ls h1 h2 h3 h4 h5 h6
  obtain ⟨hx, hb, hml, hown, hts, hK, hS, hnm, hfr, hlo, hbs⟩ := C
  exact va_gets hx hb hS.1 h2 hown (hts _ hw) (fun _ q => q) hd (h H locs ls h1 h2 h3 h4 h5 h6)
theorem zs_getneg (C : zCtx p R s m args meth c base t b D dA zx Ln y) {i : Nat} (hw : Cond.fieldLink (zname y).cls i "java/lang/Math" "negativeZeroDoubleBits" "J" ∈ zall) (hd : decode (zbytes y) pc = .ok (.getstatic i, 3)) (h : zGo p l e R s m args below meth c Q base t b D dA zx Ln n0 s0 y (pc + 3) L (zL (-9223372036854775808) :: st) M) : zGo p l e R s m args below meth c Q base t b D dA zx Ln n0 s0 y pc L st M := by
  intro H locs ls h1 h2 h3 h4 h5 h6
  obtain ⟨hx, hb, hml, hown, hts, hK, hS, hnm, hfr, hlo, hbs⟩ := C
  exact va_gets hx hb hS.2.1 h2 hown (hts _ hw) (fun _ q => q) hd (h H locs ls h1 h2 h3 h4 h5 h6)
theorem zs_iald0 (C : zCtx p R s m args meth c base t b D dA zx Ln y) {i : Int} (hi : 0 ≤ i ∧ i < 7) (hd : decode (zbytes y) pc = .ok (.iaload, 1)) (h : zGo p l e R s m args below meth c Q base t b D dA zx Ln n0 s0 y (pc + 1) L (zI (([1, 1, 2, 6, 24, 120, 720] : List Int).getD i.toNat 0) :: st) M) : zGo p l e R s m args below meth c Q base t b D dA zx Ln n0 s0 y pc L (zI i :: zR 1000 :: st) M := by
  intro H locs ls h1 h2 h3 h4 h5 h6
  obtain ⟨hx, hb, hml, hown, hts, hK, hS, hnm, hfr, hlo, hbs⟩ := C
  obtain ⟨g1, g2⟩ := z32_in (i := i) (n := 7) ⟨hi.1, by omega, by omega⟩
  exact va_ti hx hb hS.2.2.1 h2 g1 (by rw [g2]; rfl) hd (h H locs ls h1 h2 h3 h4 h5 h6)
theorem zs_iald1 (C : zCtx p R s m args meth c base t b D dA zx Ln y) {i : Int} (hi : 0 ≤ i ∧ i < M.2.2 1002 0 ∧ i < 2147483648) (hd : decode (zbytes y) pc = .ok (.iaload, 1)) (h : zGo p l e R s m args below meth c Q base t b D dA zx Ln n0 s0 y (pc + 1) L (zI (M.2.2 1001 i.toNat) :: st) M) : zGo p l e R s m args below meth c Q base t b D dA zx Ln n0 s0 y pc L (zI i :: zR 1001 :: st) M := by
  intro H locs ls h1 h2 h3 h4 h5 h6
  obtain ⟨hx, hb, hml, hown, hts, hK, hS, hnm, hfr, hlo, hbs⟩ := C
  obtain ⟨-, -, -, e4, e5⟩ := id h1
  rw [e5] at hi
  obtain ⟨g1, g2⟩ := z32_in (i := i) (n := Ln) hi
  have g := h H locs ls h1 h2 h3 h4 h5 h6
  rw [e4] at g
  obtain ⟨-, -, -, hX, hbb, -⟩ := hS
  refine va_sld hx hb hX (by omega) (by show ¬ base ≤ b; omega) h2 g1 hd ?_
  rw [g2]
  exact g
theorem zs_alen1 (C : zCtx p R s m args meth c base t b D dA zx Ln y) (hd : decode (zbytes y) pc = .ok (.arraylength, 1)) (h : zGo p l e R s m args below meth c Q base t b D dA zx Ln n0 s0 y (pc + 1) L (zI (M.2.2 1002 0) :: st) M) : zGo p l e R s m args below meth c Q base t b D dA zx Ln n0 s0 y pc L (zR 1001 :: st) M := by
  intro H locs ls h1 h2 h3 h4 h5 h6
  obtain ⟨hx, hb, hml, hown, hts, hK, hS, hnm, hfr, hlo, hbs⟩ := C
  obtain ⟨-, -, -, e4, e5⟩ := id h1
  have g := h H locs ls h1 h2 h3 h4 h5 h6
  rw [e5] at g
  obtain ⟨-, -, -, hX, hbb, -⟩ := hS
  exact va_slen (b := b) hx hb hX (by omega) (by show ¬ base ≤ b; omega) h2 hd g
theorem zs_alen (C : zCtx p R s m args meth c base t b D dA zx Ln y) {k a n : Nat} (ha : 10 ≤ a) (hT : M.1[k]? = some (a, n)) (hq : ∃ q : Nat, (zty dA)[q]? = some (dA a, zkt a)) (hd : decode (zbytes y) pc = .ok (.arraylength, 1)) (h : zGo p l e R s m args below meth c Q base t b D dA zx Ln n0 s0 y (pc + 1) L (zI (n : Int) :: st) M) : zGo p l e R s m args below meth c Q base t b D dA zx Ln n0 s0 y pc L (zR k :: st) M := by
  intro H locs ls h1 h2 h3 h4 h5 h6
  obtain ⟨hx, hb, hml, hown, hts, hK, hS, hnm, hfr, hlo, hbs⟩ := C
  obtain ⟨hk9, hP⟩ := zH_in h1 hT
  obtain ⟨q, hq⟩ := hq
  have g := h H locs ls h1 h2 h3 h4 h5 h6
  show W p l e R s m args below meth c H locs _ _ Q (F0 m pc ls (.ref (zAD base t b k) :: st.map (zC (zAD base t b))))
  rw [zAD_lo hk9]
  refine va_alen hx hb hK.1 hP 0 q (x := (n, zrow (zAD base t b) a M.2.1 M.2.2 k)) (by unfold zel; rw [if_neg (by show ¬ a < 10; omega)]; rfl) hq (v := Int32.ofInt (n : Int)) ?_ hd g
  exact Int32.ofInt_eq_ofNat.symm
theorem zs_iald (C : zCtx p R s m args meth c base t b D dA zx Ln y) {k n : Nat} {i : Int} (hT : M.1[k]? = some (10, n)) (hi : 0 ≤ i ∧ i < (n : Int) ∧ i < 2147483648) (hd : decode (zbytes y) pc = .ok (.iaload, 1)) (h : zGo p l e R s m args below meth c Q base t b D dA zx Ln n0 s0 y (pc + 1) L (zI (M.2.2 k i.toNat) :: st) M) : zGo p l e R s m args below meth c Q base t b D dA zx Ln n0 s0 y pc L (zI i :: zR k :: st) M := by
  intro H locs ls h1 h2 h3 h4 h5 h6
  obtain ⟨hx, hb, hml, hown, hts, hK, hS, hnm, hfr, hlo, hbs⟩ := C
  obtain ⟨hk9, hP⟩ := zH_in h1 hT
  obtain ⟨g1, g2⟩ := z32_in (i := i) (n := n) hi
  have g := h H locs ls h1 h2 h3 h4 h5 h6
  show W p l e R s m args below meth c H locs _ _ Q (F0 m pc ls (.int (Int32.ofInt i) :: .ref (zAD base t b k) :: st.map (zC (zAD base t b))))
  rw [zAD_lo hk9]
  refine va_iald hx hb hK.1 hP 0 0 (cA := dA 10) (n := n) (f := fun q => Int32.ofInt (M.2.2 k q)) rfl rfl g1 hd ?_
  rw [g2]
  exact g
theorem zs_bald (C : zCtx p R s m args meth c base t b D dA zx Ln y) {k n : Nat} {i : Int} (hT : M.1[k]? = some (13, n)) (hi : 0 ≤ i ∧ i < (n : Int) ∧ i < 2147483648) (hd : decode (zbytes y) pc = .ok (.baload, 1)) (h : zGo p l e R s m args below meth c Q base t b D dA zx Ln n0 s0 y (pc + 1) L (zI (M.2.2 k i.toNat) :: st) M) : zGo p l e R s m args below meth c Q base t b D dA zx Ln n0 s0 y pc L (zI i :: zR k :: st) M := by
  intro H locs ls h1 h2 h3 h4 h5 h6
  obtain ⟨hx, hb, hml, hown, hts, hK, hS, hnm, hfr, hlo, hbs⟩ := C
  obtain ⟨hk9, hP⟩ := zH_in h1 hT
  obtain ⟨g1, g2⟩ := z32_in (i := i) (n := n) hi
  have g := h H locs ls h1 h2 h3 h4 h5 h6
  show W p l e R s m args below meth c H locs _ _ Q (F0 m pc ls (.int (Int32.ofInt i) :: .ref (zAD base t b k) :: st.map (zC (zAD base t b))))
  rw [zAD_lo hk9]
  refine va_bald hx hb hK.1 hP 0 3 (cA := dA 13) (n := n) (f := fun q => Int32.ofInt (M.2.2 k q)) rfl rfl g1 hd ?_
  rw [g2]
  exact g
theorem zs_zald (C : zCtx p R s m args meth c base t b D dA zx Ln y) {k n : Nat} {i : Int} (hT : M.1[k]? = some (14, n)) (hi : 0 ≤ i ∧ i < (n : Int) ∧ i < 2147483648) (hd : decode (zbytes y) pc = .ok (.baload, 1)) (h : zGo p l e R s m args below meth c Q base t b D dA zx Ln n0 s0 y (pc + 1) L (zI (M.2.2 k i.toNat) :: st) M) : zGo p l e R s m args below meth c Q base t b D dA zx Ln n0 s0 y pc L (zI i :: zR k :: st) M := by
  intro H locs ls h1 h2 h3 h4 h5 h6
  obtain ⟨hx, hb, hml, hown, hts, hK, hS, hnm, hfr, hlo, hbs⟩ := C
  obtain ⟨hk9, hP⟩ := zH_in h1 hT
  obtain ⟨g1, g2⟩ := z32_in (i := i) (n := n) hi
  have g := h H locs ls h1 h2 h3 h4 h5 h6
  show W p l e R s m args below meth c H locs _ _ Q (F0 m pc ls (.int (Int32.ofInt i) :: .ref (zAD base t b k) :: st.map (zC (zAD base t b))))
  rw [zAD_lo hk9]
  refine va_zald hx hb hK.1 hP 0 4 (cA := dA 14) (n := n) (f := fun q => Int32.ofInt (M.2.2 k q)) rfl rfl g1 hd ?_
  rw [g2]
  exact g
theorem zs_lald (C : zCtx p R s m args meth c base t b D dA zx Ln y) {k n : Nat} {i : Int} (hT : M.1[k]? = some (11, n)) (hi : 0 ≤ i ∧ i < (n : Int) ∧ i < 2147483648) (hd : decode (zbytes y) pc = .ok (.laload, 1)) (h : zGo p l e R s m args below meth c Q base t b D dA zx Ln n0 s0 y (pc + 1) L (zL (M.2.2 k i.toNat) :: st) M) : zGo p l e R s m args below meth c Q base t b D dA zx Ln n0 s0 y pc L (zI i :: zR k :: st) M := by
  intro H locs ls h1 h2 h3 h4 h5 h6
  obtain ⟨hx, hb, hml, hown, hts, hK, hS, hnm, hfr, hlo, hbs⟩ := C
  obtain ⟨hk9, hP⟩ := zH_in h1 hT
  obtain ⟨g1, g2⟩ := z32_in (i := i) (n := n) hi
  have g := h H locs ls h1 h2 h3 h4 h5 h6
  show W p l e R s m args below meth c H locs _ _ Q (F0 m pc ls (.int (Int32.ofInt i) :: .ref (zAD base t b k) :: st.map (zC (zAD base t b))))
  rw [zAD_lo hk9]
  refine va_lald hx hb hK.1 hP 0 1 (cA := dA 11) (n := n) (f := fun q => Int64.ofInt (M.2.2 k q)) rfl rfl g1 hd ?_
  rw [g2]
  exact g
theorem zs_fald (C : zCtx p R s m args meth c base t b D dA zx Ln y) {k n : Nat} {i : Int} (hT : M.1[k]? = some (12, n)) (hi : 0 ≤ i ∧ i < (n : Int) ∧ i < 2147483648) (hd : decode (zbytes y) pc = .ok (.faload, 1)) (h : zGo p l e R s m args below meth c Q base t b D dA zx Ln n0 s0 y (pc + 1) L (zF (UInt32.ofNat (M.2.2 k i.toNat).toNat) :: st) M) : zGo p l e R s m args below meth c Q base t b D dA zx Ln n0 s0 y pc L (zI i :: zR k :: st) M := by
  intro H locs ls h1 h2 h3 h4 h5 h6
  obtain ⟨hx, hb, hml, hown, hts, hK, hS, hnm, hfr, hlo, hbs⟩ := C
  obtain ⟨hk9, hP⟩ := zH_in h1 hT
  obtain ⟨g1, g2⟩ := z32_in (i := i) (n := n) hi
  have g := h H locs ls h1 h2 h3 h4 h5 h6
  show W p l e R s m args below meth c H locs _ _ Q (F0 m pc ls (.int (Int32.ofInt i) :: .ref (zAD base t b k) :: st.map (zC (zAD base t b))))
  rw [zAD_lo hk9]
  refine va_fald hx hb hK.1 hP 0 2 (cA := dA 12) (n := n) (f := fun q => UInt32.ofNat (M.2.2 k q).toNat) rfl rfl g1 hd ?_
  rw [g2]
  exact g
theorem zs_aald (C : zCtx p R s m args meth c base t b D dA zx Ln y) {k n j : Nat} {i : Int} (hT : M.1[k]? = some (15, n)) (hi : 0 ≤ i ∧ i < (n : Int) ∧ i < 2147483648) (hj : zrd M.2.1 k i.toNat = some j) (hd : decode (zbytes y) pc = .ok (.aaload, 1)) (h : zGo p l e R s m args below meth c Q base t b D dA zx Ln n0 s0 y (pc + 1) L (zR j :: st) M) : zGo p l e R s m args below meth c Q base t b D dA zx Ln n0 s0 y pc L (zI i :: zR k :: st) M := by
  intro H locs ls h1 h2 h3 h4 h5 h6
  obtain ⟨hx, hb, hml, hown, hts, hK, hS, hnm, hfr, hlo, hbs⟩ := C
  obtain ⟨hk9, hP⟩ := zH_in h1 hT
  obtain ⟨g1, g2⟩ := z32_in (i := i) (n := n) hi
  have g := h H locs ls h1 h2 h3 h4 h5 h6
  show W p l e R s m args below meth c H locs _ _ Q (F0 m pc ls (.int (Int32.ofInt i) :: .ref (zAD base t b k) :: st.map (zC (zAD base t b))))
  rw [zAD_lo hk9]
  refine va_aldq hx hb hK.1 hP 0 5 (cA := dA 15) (C := "EstateVessels$Tape") (n := n) (f := fun q => (zrd M.2.1 k q).map (zAD base t b)) rfl rfl g1 hd ?_
  rw [g2]
  show W p l e R s m args below meth c H locs _ _ Q (F0 m (pc + 1) ls (va_rf ((zrd M.2.1 k i.toNat).map (zAD base t b)) :: _))
  rw [hj]
  exact g
theorem zrow_i (cA : ClassId) (n : Nat) (Z : zMem) (k j : Nat) (x : Int) : (vp_cell cA (n, .inl (fun q => Int32.ofInt (Z k q)))).setSlot j (.int (Int32.ofInt x)) = vp_cell cA (n, .inl (fun q => Int32.ofInt (zup Z k j x k q))) := by
  rw [vp_cell_i, vp_cell_i, arrV_store]
  congr 1
  funext q
  rw [zup_self]
  unfold updV
  by_cases hq : q = j
  · rw [if_pos hq, if_pos hq]
  · rw [if_neg hq, if_neg hq]
theorem zrow_l (cA : ClassId) (n : Nat) (Z : zMem) (k j : Nat) (x : Int) : (vp_cell cA (n, .inr (.inl (fun q => Int64.ofInt (Z k q))))).setSlot j (.long (Int64.ofInt x)) = vp_cell cA (n, .inr (.inl (fun q => Int64.ofInt (zup Z k j x k q)))) := by
  rw [vp_cell_l, vp_cell_l, arrV_store]
  congr 1
  funext q
  rw [zup_self]
  unfold updV
  by_cases hq : q = j
  · rw [if_pos hq, if_pos hq]
  · rw [if_neg hq, if_neg hq]
theorem zrow_f (cA : ClassId) (n : Nat) (Z : zMem) (k j : Nat) (x : UInt32) : (vp_cell cA (n, .inr (.inr (.inl (fun q => UInt32.ofNat (Z k q).toNat))))).setSlot j (.float x) = vp_cell cA (n, .inr (.inr (.inl (fun q => UInt32.ofNat (zup Z k j x.toNat k q).toNat)))) := by
  rw [vp_cell_f, vp_cell_f, arrV_store]
  congr 1
  funext q
  rw [zup_self]
  unfold updV
  by_cases hq : q = j
  · rw [if_pos hq, if_pos hq, Int.toNat_natCast, UInt32.ofNat_toNat]
  · rw [if_neg hq, if_neg hq]
theorem zrow_q (cA : ClassId) (n : Nat) (R : List (List (Option Nat))) (AD : Nat → Nat) (k j v : Nat) (hj : j < (R.getD k []).length) : (vp_cell cA (n, .inr (.inr (.inr (.inr (fun q => (zrd R k q).map AD)))))).setSlot j (.ref (AD v)) = vp_cell cA (n, .inr (.inr (.inr (.inr (fun q => (zrd (zrw R k j v) k q).map AD))))) := by
  rw [vp_cell_q, vp_cell_q, arrV_store]
  congr 1
  funext q
  rw [zrd_rw hj]
  unfold updV
  by_cases hq : q = j
  · rw [if_pos hq, if_pos hq]; rfl
  · rw [if_neg hq, if_neg hq]
theorem z8_nar {x : Int} (h : -128 ≤ x ∧ x < 128) : narrow .byte (.int (Int32.ofInt x)) = .int (Int32.ofInt x) := by
  rw [narrow_byte, Int32.toInt8_ofInt, ← Int32.ofInt_int8ToInt, Int8.toInt_ofInt_of_le (by omega) (by omega)]
theorem z1_nar {x : Int} (h : x = 0 ∨ x = 1) : narrow .boolean (.int (Int32.ofInt x)) = .int (Int32.ofInt x) ∧ fits .boolean (.int (Int32.ofInt x)) = true := by
  rcases h with rfl | rfl <;> exact ⟨by decide, by decide⟩
theorem zs_iast (C : zCtx p R s m args meth c base t b D dA zx Ln y) {k n : Nat} {i : Int} {x : Int} (hT : M.1[k]? = some (10, n)) (hi : 0 ≤ i ∧ i < (n : Int) ∧ i < 2147483648) (hd : decode (zbytes y) pc = .ok (.iastore, 1)) (h : zGo p l e R s m args below meth c Q base t b D dA zx Ln n0 s0 y (pc + 1) L st (M.1, M.2.1, zup M.2.2 k i.toNat x)) : zGo p l e R s m args below meth c Q base t b D dA zx Ln n0 s0 y pc L (zI x :: zI i :: zR k :: st) M := by
  intro H locs ls h1 h2 h3 h4 h5 h6
  obtain ⟨hx, hb, hml, hown, hts, hK, hS, hnm, hfr, hlo, hbs⟩ := C
  obtain ⟨hk9, hP⟩ := zH_in h1 hT
  obtain ⟨g1, g2⟩ := z32_in (i := i) (n := n) hi
  show W p l e R s m args below meth c H locs _ _ Q (F0 m pc ls (zC (zAD base t b) (zI x) :: .int (Int32.ofInt i) :: .ref (zAD base t b k) :: st.map (zC (zAD base t b))))
  rw [zAD_lo hk9]
  refine W.iast hx hb (hP 0 _ rfl) ((hK.1.2 0 _ rfl).1 n (fun q => .int (Int32.ofInt (M.2.2 k q)))) (fun q => by cases q) (by show ¬ (_ ∨ (arrV _ _ _).slots.size ≤ _); rw [arrV_size]; exact g1) rfl rfl hd fun H' e1 e2 e3 => ?_
  refine h H' _ ls (zH_store h1 hT e2 e3 ?_ (fun j _ i => rfl) zup_ne) (h2.put e2 e3 (by show base ≤ base + k; omega)) h3 h4 h5 h6
  rw [g2] at e1
  exact e1.trans (congrArg some (zrow_i _ _ _ _ _ _))
theorem zs_bast (C : zCtx p R s m args meth c base t b D dA zx Ln y) {k n : Nat} {i : Int} {x : Int} (hT : M.1[k]? = some (13, n)) (hi : 0 ≤ i ∧ i < (n : Int) ∧ i < 2147483648) (hv : -128 ≤ x ∧ x < 128) (hd : decode (zbytes y) pc = .ok (.bastore, 1)) (h : zGo p l e R s m args below meth c Q base t b D dA zx Ln n0 s0 y (pc + 1) L st (M.1, M.2.1, zup M.2.2 k i.toNat x)) : zGo p l e R s m args below meth c Q base t b D dA zx Ln n0 s0 y pc L (zI x :: zI i :: zR k :: st) M := by
  intro H locs ls h1 h2 h3 h4 h5 h6
  obtain ⟨hx, hb, hml, hown, hts, hK, hS, hnm, hfr, hlo, hbs⟩ := C
  obtain ⟨hk9, hP⟩ := zH_in h1 hT
  obtain ⟨g1, g2⟩ := z32_in (i := i) (n := n) hi
  show W p l e R s m args below meth c H locs _ _ Q (F0 m pc ls (zC (zAD base t b) (zI x) :: .int (Int32.ofInt i) :: .ref (zAD base t b k) :: st.map (zC (zAD base t b))))
  rw [zAD_lo hk9]
  refine W.bast hx hb (hP 0 _ rfl) ((hK.1.2 3 _ rfl).1 n (fun q => .int (Int32.ofInt (M.2.2 k q)))) (fun q => by cases q) (by show ¬ (_ ∨ (arrV _ _ _).slots.size ≤ _); rw [arrV_size]; exact g1) rfl rfl hd fun H' e1 e2 e3 => ?_
  refine h H' _ ls (zH_store h1 hT e2 e3 ?_ (fun j _ i => rfl) zup_ne) (h2.put e2 e3 (by show base ≤ base + k; omega)) h3 h4 h5 h6
  rw [g2, z8_nar hv] at e1
  exact e1.trans (congrArg some (zrow_i _ _ _ _ _ _))
theorem zs_zast (C : zCtx p R s m args meth c base t b D dA zx Ln y) {k n : Nat} {i : Int} {x : Int} (hT : M.1[k]? = some (14, n)) (hi : 0 ≤ i ∧ i < (n : Int) ∧ i < 2147483648) (hv : x = 0 ∨ x = 1) (hd : decode (zbytes y) pc = .ok (.bastore, 1)) (h : zGo p l e R s m args below meth c Q base t b D dA zx Ln n0 s0 y (pc + 1) L st (M.1, M.2.1, zup M.2.2 k i.toNat x)) : zGo p l e R s m args below meth c Q base t b D dA zx Ln n0 s0 y pc L (zI x :: zI i :: zR k :: st) M := by
  intro H locs ls h1 h2 h3 h4 h5 h6
  obtain ⟨hx, hb, hml, hown, hts, hK, hS, hnm, hfr, hlo, hbs⟩ := C
  obtain ⟨hk9, hP⟩ := zH_in h1 hT
  obtain ⟨g1, g2⟩ := z32_in (i := i) (n := n) hi
  show W p l e R s m args below meth c H locs _ _ Q (F0 m pc ls (zC (zAD base t b) (zI x) :: .int (Int32.ofInt i) :: .ref (zAD base t b k) :: st.map (zC (zAD base t b))))
  rw [zAD_lo hk9]
  refine W.zast hx hb (hP 0 _ rfl) ((hK.1.2 4 _ rfl).1 n (fun q => .int (Int32.ofInt (M.2.2 k q)))) (fun q => by cases q) (by show ¬ (_ ∨ (arrV _ _ _).slots.size ≤ _); rw [arrV_size]; exact g1) rfl rfl hd fun H' e1 e2 e3 => ?_
  refine h H' _ ls (zH_store h1 hT e2 e3 ?_ (fun j _ i => rfl) zup_ne) (h2.put e2 e3 (by show base ≤ base + k; omega)) h3 h4 h5 h6
  rw [g2, (z1_nar hv).1] at e1
  exact e1.trans (congrArg some (zrow_i _ _ _ _ _ _))
theorem zs_last (C : zCtx p R s m args meth c base t b D dA zx Ln y) {k n : Nat} {i : Int} {x : Int} (hT : M.1[k]? = some (11, n)) (hi : 0 ≤ i ∧ i < (n : Int) ∧ i < 2147483648) (hd : decode (zbytes y) pc = .ok (.lastore, 1)) (h : zGo p l e R s m args below meth c Q base t b D dA zx Ln n0 s0 y (pc + 1) L st (M.1, M.2.1, zup M.2.2 k i.toNat x)) : zGo p l e R s m args below meth c Q base t b D dA zx Ln n0 s0 y pc L (zL x :: zI i :: zR k :: st) M := by
  intro H locs ls h1 h2 h3 h4 h5 h6
  obtain ⟨hx, hb, hml, hown, hts, hK, hS, hnm, hfr, hlo, hbs⟩ := C
  obtain ⟨hk9, hP⟩ := zH_in h1 hT
  obtain ⟨g1, g2⟩ := z32_in (i := i) (n := n) hi
  show W p l e R s m args below meth c H locs _ _ Q (F0 m pc ls (zC (zAD base t b) (zL x) :: .int (Int32.ofInt i) :: .ref (zAD base t b k) :: st.map (zC (zAD base t b))))
  rw [zAD_lo hk9]
  refine W.last hx hb (hP 0 _ rfl) ((hK.1.2 1 _ rfl).1 n (fun q => .long (Int64.ofInt (M.2.2 k q)))) (fun q => by cases q) (by show ¬ (_ ∨ (arrV _ _ _).slots.size ≤ _); rw [arrV_size]; exact g1) rfl rfl hd fun H' e1 e2 e3 => ?_
  refine h H' _ ls (zH_store h1 hT e2 e3 ?_ (fun j _ i => rfl) zup_ne) (h2.put e2 e3 (by show base ≤ base + k; omega)) h3 h4 h5 h6
  rw [g2] at e1
  exact e1.trans (congrArg some (zrow_l _ _ _ _ _ _))
theorem zs_fast (C : zCtx p R s m args meth c base t b D dA zx Ln y) {k n : Nat} {i : Int} {x : UInt32} (hT : M.1[k]? = some (12, n)) (hi : 0 ≤ i ∧ i < (n : Int) ∧ i < 2147483648) (hd : decode (zbytes y) pc = .ok (.fastore, 1)) (h : zGo p l e R s m args below meth c Q base t b D dA zx Ln n0 s0 y (pc + 1) L st (M.1, M.2.1, zup M.2.2 k i.toNat x.toNat)) : zGo p l e R s m args below meth c Q base t b D dA zx Ln n0 s0 y pc L (zF x :: zI i :: zR k :: st) M := by
  intro H locs ls h1 h2 h3 h4 h5 h6
  obtain ⟨hx, hb, hml, hown, hts, hK, hS, hnm, hfr, hlo, hbs⟩ := C
  obtain ⟨hk9, hP⟩ := zH_in h1 hT
  obtain ⟨g1, g2⟩ := z32_in (i := i) (n := n) hi
  show W p l e R s m args below meth c H locs _ _ Q (F0 m pc ls (zC (zAD base t b) (zF x) :: .int (Int32.ofInt i) :: .ref (zAD base t b k) :: st.map (zC (zAD base t b))))
  rw [zAD_lo hk9]
  refine W.fast hx hb (hP 0 _ rfl) ((hK.1.2 2 _ rfl).1 n (fun q => .float (UInt32.ofNat (M.2.2 k q).toNat))) (fun q => by cases q) (by show ¬ (_ ∨ (arrV _ _ _).slots.size ≤ _); rw [arrV_size]; exact g1) rfl rfl hd fun H' e1 e2 e3 => ?_
  refine h H' _ ls (zH_store h1 hT e2 e3 ?_ (fun j _ i => rfl) zup_ne) (h2.put e2 e3 (by show base ≤ base + k; omega)) h3 h4 h5 h6
  rw [g2] at e1
  exact e1.trans (congrArg some (zrow_f _ _ _ _ _ _))
theorem zs_aast (C : zCtx p R s m args meth c base t b D dA zx Ln y) {k n v : Nat} {i : Int} (hT : M.1[k]? = some (15, n)) (hi : 0 ≤ i ∧ i < (n : Int) ∧ i < 2147483648) (hv : M.1[v]? = some (4, 0)) (hl : i.toNat < (M.2.1.getD k []).length) (hd : decode (zbytes y) pc = .ok (.aastore, 1)) (h : zGo p l e R s m args below meth c Q base t b D dA zx Ln n0 s0 y (pc + 1) L st (M.1, zrw M.2.1 k i.toNat v, M.2.2)) : zGo p l e R s m args below meth c Q base t b D dA zx Ln n0 s0 y pc L (zR v :: zI i :: zR k :: st) M := by
  intro H locs ls h1 h2 h3 h4 h5 h6
  obtain ⟨hx, hb, hml, hown, hts, hK, hS, hnm, hfr, hlo, hbs⟩ := C
  obtain ⟨hk9, hP⟩ := zH_in h1 hT
  obtain ⟨hv9, hPv⟩ := zH_in h1 hv
  obtain ⟨g1, g2⟩ := z32_in (i := i) (n := n) hi
  have hlt : (Int32.ofInt i).toNatClampNeg < n := Nat.not_le.mp fun q => g1 (Or.inr q)
  have h0 : ¬ Int32.ofInt i < 0 := fun q => g1 (Or.inl q)
  show W p l e R s m args below meth c H locs _ _ Q (F0 m pc ls (.ref (zAD base t b v) :: .int (Int32.ofInt i) :: .ref (zAD base t b k) :: st.map (zC (zAD base t b))))
  rw [zAD_lo hk9, zAD_lo hv9]
  obtain ⟨r', hr', cellV, q1, q2, q3, -⟩ := (show va_at D zcl (base + v, .inr (4, zflds (zAD base t b) 4 M.2.1 M.2.2 v)) H from hPv 0 _ rfl)
  have hcls := (hK.1.1 4 _ (zcl_at 4 (by omega))).2
  obtain ⟨kA, comp, k1, k2, k3, -⟩ := (hK.1.2 5 _ rfl).2
  have hcomp : comp = D.1 4 := Option.some.inj (k3.symm.trans hcls.1)
  subst hcomp
  obtain ⟨kC, hkC, -⟩ := id hcls.2
  refine W.aast hx hb (hP 0 _ rfl) (fun q h => by cases h) (fun h => by cases h) k1 k2 rfl hkC ⟨h0, by show _ < (arrV _ _ _).slots.size; rw [arrV_size]; exact hlt⟩ q1 (fun q h => by rw [q3] at h; cases h) (by rw [q2]; exact hkC) (by rw [q2]; exact va_assign hcls) rfl rfl hd fun H' e1 e2 e3 => ?_
  refine h H' _ ls (zH_store h1 hT e2 e3 ?_ (fun j hj i => zrd_set_ne hj i) (fun j _ i => rfl)) (h2.put e2 e3 (by show base ≤ base + k; omega)) h3 h4 h5 h6
  rw [g2, ← zAD_lo (base := base) (t := t) (b := b) hv9] at e1
  exact e1.trans (congrArg some (zrow_q _ _ _ _ _ _ _ hl))
theorem zclr_ne {Z : zMem} {k : Nat} : ∀ j, j ≠ k → ∀ x, zclr Z k j x = Z j x := by
  intro j h x
  unfold zclr
  rw [if_neg h]
theorem zclr_self (Z : zMem) (k x : Nat) : zclr Z k k x = 0 := by
  unfold zclr
  rw [if_pos rfl]
theorem zrd_app {R : List (List (Option Nat))} {r : List (Option Nat)} {j : Nat} (h : j < R.length) (i : Nat) : zrd (R ++ [r]) j i = zrd R j i := by
  unfold zrd
  simp only [List.getD_eq_getElem?_getD]
  rw [List.getElem?_append_left h]
theorem zrd_new {R : List (List (Option Nat))} {n : Nat} (i : Nat) : zrd (R ++ [List.replicate n none]) R.length i = none := by
  unfold zrd
  have e : (R ++ [List.replicate n none]).getD R.length [] = List.replicate n none := by simp [List.getD_eq_getElem?_getD]
  rw [e, List.getD_eq_getElem?_getD, List.getElem?_replicate]
  split <;> rfl
theorem zrd_new0 {R : List (List (Option Nat))} (i : Nat) : zrd (R ++ [[]]) R.length i = none := zrd_new (n := 0) i
theorem zslots_app (T : List (Nat × Nat)) (d : Nat × Nat) : zslots (T ++ [d]) = zslots T + zdsl d := by
  unfold zslots
  rw [List.map_append, List.sum_append]
  simp
theorem zH_push {base t b : Nat} {D : va_G} {dA : Nat → ClassId} {zx : Nat → Int} {Ln : Nat} {M : zM} {H H' : Heap} (h : zH base t b D dA zx Ln M H) (hl : M.1.length < 900 ∧ M.2.1.length = M.1.length) {d : Nat × Nat} {r : List (Option Nat)}
    (hz : H'.size = H.size + 1) (ho : ∀ q, q < H.size → H'[q]? = H[q]?) (hn : va_at D zcl (base + M.1.length, zel (zAD base t b) dA d M.1.length (M.2.1 ++ [r]) (zclr M.2.2 M.1.length)) H') : zH base t b D dA zx Ln (M.1 ++ [d], M.2.1 ++ [r], zclr M.2.2 M.1.length) H' := by
  obtain ⟨h1, h2, h3, h4, h5⟩ := h
  refine ⟨by rw [hz, h1, List.length_append]; rfl, by rw [List.length_append]; exact hl.1, fun j d' hj => ?_, fun j => ?_, ?_⟩
  · by_cases e : j < M.1.length
    · have e1 : M.1[j]? = some d' := by
        have hj' : (M.1 ++ [d])[j]? = some d' := hj
        rwa [List.getElem?_append_left e] at hj'
      show va_at D zcl (base + j, zel (zAD base t b) dA d' j (M.2.1 ++ [r]) (zclr M.2.2 M.1.length)) H'
      rw [zel_congr (zrd_app (by omega)) (zclr_ne j (by omega))]
      exact (h3 j d' e1).kept (ho _ (by show base + j < H.size; omega))
    · have hj' : (M.1 ++ [d])[j]? = some d' := hj
      rw [List.getElem?_append_right (by omega)] at hj'
      have hz' : j - M.1.length < 1 := (List.getElem?_eq_some_iff.mp hj').1
      have e2 : j = M.1.length := by omega
      subst e2
      rw [Nat.sub_self] at hj'
      cases hj'
      exact hn
  · show zclr M.2.2 M.1.length 1001 j = zx j
    rw [zclr_ne 1001 (by omega)]; exact h4 j
  · show zclr M.2.2 M.1.length 1002 0 = (Ln : Int)
    rw [zclr_ne 1002 (by omega)]; exact h5
theorem zH_grow {base : Nat} {H0 H H' : Heap} {locs : List Loc} (h : va_S (fun q => base ≤ q) H0 H locs) (hz : H'.size = H.size + 1) (ho : ∀ q, q < H.size → H'[q]? = H[q]?) : va_S (fun q => base ≤ q) H0 H' locs :=
  ⟨Nat.le_trans h.1 (by omega), fun x g1 g2 => (ho x (Nat.lt_of_lt_of_le g1 h.1)).trans (h.2.1 x g1 g2), h.2.2⟩
theorem zs_new (C : zCtx p R s m args meth c base t b D dA zx Ln y) {i a : Nat} (ha : a < 9) (hl : M.1.length < 900 ∧ M.2.1.length = M.1.length) (hc1 : n0 ≤ M.1.length) (hc2 : s0 ≤ zslots M.1) (hcells : M.1.length - n0 + 1 ≤ R.cells) (hslots : zslots M.1 - s0 + (zcls a).2.2 ≤ R.slots)
    (w1 : Cond.classLink (zname y).cls i (zcls a).1 ∈ zall) (w2 : Cond.instantiable (zcls a).1 (zcls a).2.2 ∈ zall) (w3 : Cond.initialized (zcls a).1 ∈ zall) (hd : decode (zbytes y) pc = .ok (.new i, 3)) (h : zGo p l e R s m args below meth c Q base t b D dA zx Ln n0 s0 y (pc + 3) L (zR M.1.length :: st) (M.1 ++ [(a, 0)], M.2.1 ++ [List.replicate (zcls a).2.2 none], zclr M.2.2 M.1.length)) : zGo p l e R s m args below meth c Q base t b D dA zx Ln n0 s0 y pc L st M := by
  intro H locs ls h1 h2 h3 h4 h5 h6
  obtain ⟨hx, hb, hml, hown, hts, hK, hS, hnm, hfr, hlo, hbs⟩ := C
  have hKn := hK.1.1 a _ (zcl_at a ha)
  refine W.newcK hx hb hown (hts _ w1) (hts _ w2) (hts _ w3) rfl hd hcells hslots hKn.2.1 rfl fun H1 kC hkC e1 z1 o1 => ?_
  have hsz : H.size = base + M.1.length := h1.1
  have g := h H1 locs ls (zH_push h1 hl z1 o1 ?_) (zH_grow h2 z1 o1) h3 h4 (by rw [List.length_append]; exact Nat.le_trans h5 (Nat.le_add_right _ _)) (by rw [zslots_app]; exact Nat.le_trans h6 (Nat.le_add_right _ _))
  · rw [List.length_append, zslots_app, show zdsl (a, 0) = (zcls a).2.2 from if_pos (by show a < 10; omega), show ([(a, 0)] : List (Nat × Nat)).length = 1 from rfl, show M.1.length + 1 - n0 = M.1.length - n0 + 1 by omega, show zslots M.1 + (zcls a).2.2 - s0 = zslots M.1 - s0 + (zcls a).2.2 by omega] at g
    show W p l e R s m args below meth c H1 locs _ _ Q (F0 m (pc + 3) ls (.ref H.size :: st.map (zC (zAD base t b))))
    rw [hsz, ← zAD_lo (base := base) (t := t) (b := b) hl.1]
    exact g
  · rw [zel_obj ha]
    rw [hsz] at e1
    refine ⟨_, zcl_at a ha, (u_born (zfty a) hts (zcl_in ha) hKn hkC e1 (fun j hj => zfty_ok ha hj)).to (fun j hj => ?_)⟩
    unfold vp_V
    rw [List.getD_eq_getElem?_getD, zflds_at hj, Option.getD_some]
    have q := zfty_kd ha hj
    unfold zval
    rw [zclr_self, ← hl.2, zrd_new]
    revert q
    split
    · intro q; rename_i h0; rw [h0, of_decide_eq_true q]; rfl
    · intro q; rename_i h0; rw [h0, of_decide_eq_true q]; rfl
    · intro q; rename_i h0; rw [h0, of_decide_eq_true q]; rfl
    · intro q; rename_i h0; rw [h0, of_decide_eq_true q]; rfl
    · intro q
      rename_i h0
      rw [h0]
      revert q
      split
      · intro q2; rename_i h9; rw [h9]; rfl
      · intro q2; rename_i h9; rw [h9]; rfl
      · intro q; cases q
    · intro q; cases q
theorem zs_newarray (C : zCtx p R s m args meth c base t b D dA zx Ln y) {at0 : ArrayType} {n : Int} (hk : (at0 = .int ∨ at0 = .long ∨ at0 = .float) ∨ at0 = .byte ∨ at0 = .boolean) (hl : M.1.length < 900 ∧ M.2.1.length = M.1.length) (hn : 0 ≤ n ∧ n ≤ 1000) (hc1 : n0 ≤ M.1.length) (hc2 : s0 ≤ zslots M.1) (hcells : M.1.length - n0 + 1 ≤ R.cells) (hslots : zslots M.1 - s0 + n.toNat ≤ R.slots)
    (w1 : Cond.arrayClass (zkt (zkd at0)) ∈ zall) (hd : decode (zbytes y) pc = .ok (.newarray at0, 2)) (h : zGo p l e R s m args below meth c Q base t b D dA zx Ln n0 s0 y (pc + 2) L (zR M.1.length :: st) (M.1 ++ [(zkd at0, n.toNat)], M.2.1 ++ [[]], zclr M.2.2 M.1.length)) : zGo p l e R s m args below meth c Q base t b D dA zx Ln n0 s0 y pc L (zI n :: st) M := by
  intro H locs ls h1 h2 h3 h4 h5 h6
  obtain ⟨hx, hb, hml, hown, hts, hK, hS, hnm, hfr, hlo, hbs⟩ := C
  have hty : newarray.typeOf at0 = zkt (zkd at0) := by rcases hk with (rfl | rfl | rfl) | rfl | rfl <;> rfl
  have hkd : ¬ zkd at0 < 10 := by rcases hk with (rfl | rfl | rfl) | rfl | rfl <;> decide
  have hq : ∃ q : Nat, (zty dA)[q]? = some (dA (zkd at0), zkt (zkd at0)) := by
    rcases hk with (rfl | rfl | rfl) | rfl | rfl
    · exact ⟨0, rfl⟩
    · exact ⟨1, rfl⟩
    · exact ⟨2, rfl⟩
    · exact ⟨3, rfl⟩
    · exact ⟨4, rfl⟩
  obtain ⟨q, hq⟩ := hq
  have hN : (Int32.ofInt n).toNatClampNeg = n.toNat := Int32.toNatClampNeg_ofInt_of_le (by omega) (by omega)
  have hby : n.toNat * componentBytes (newarray.typeOf at0) ≤ 536870912 := by
    have : componentBytes (newarray.typeOf at0) ≤ 8 := by rcases hk with (rfl | rfl | rfl) | rfl | rfl <;> decide
    exact Nat.le_trans (Nat.mul_le_mul (show n.toNat ≤ 1000 by omega) this) (by decide)
  refine va_newaK hx hb (by rw [hty]; exact hts _ w1) rfl hd rfl (by rw [z32_0, z32_lt (by omega) (by omega)]; omega) hN hby hcells hslots rfl fun H1 cA e1 z1 o1 hAr hNm => ?_
  have hsz : H.size = base + M.1.length := h1.1
  have hcA : cA = dA (zkd at0) := by
    have g := (hK.1.2 q _ hq).2
    rw [← hty] at g
    have g2 : s.vm.findClass ("[" ++ (newarray.typeOf at0).toString) = some (dA (zkd at0)) := by
      revert g
      rcases hk with (rfl | rfl | rfl) | rfl | rfl <;> exact id
    exact Option.some.inj (hNm.symm.trans g2)
  subst hcA
  have g := h H1 locs ls (zH_push h1 hl z1 o1 ?_) (zH_grow h2 z1 o1) h3 h4 (by rw [List.length_append]; exact Nat.le_trans h5 (Nat.le_add_right _ _)) (by rw [zslots_app]; exact Nat.le_trans h6 (Nat.le_add_right _ _))
  · rw [List.length_append, zslots_app, show zdsl (zkd at0, n.toNat) = n.toNat from if_neg hkd, show ([(zkd at0, n.toNat)] : List (Nat × Nat)).length = 1 from rfl, show M.1.length + 1 - n0 = M.1.length - n0 + 1 by omega, show zslots M.1 + n.toNat - s0 = zslots M.1 - s0 + n.toNat by omega] at g
    show W p l e R s m args below meth c H1 locs _ _ Q (F0 m (pc + 2) ls (.ref H.size :: st.map (zC (zAD base t b))))
    rw [hsz, ← zAD_lo (base := base) (t := t) (b := b) hl.1]
    exact g
  · rw [hsz] at e1
    unfold zel
    rw [if_neg hkd]
    refine e1.trans (congrArg some ?_)
    unfold zrow
    simp only [zclr_self, ← hl.2, zrd_new0]
    rcases hk with (rfl | rfl | rfl) | rfl | rfl <;> rfl
theorem zs_anewarray (C : zCtx p R s m args meth c base t b D dA zx Ln y) {i : Nat} {n : Int} (hl : M.1.length < 900 ∧ M.2.1.length = M.1.length) (hn : 0 ≤ n ∧ n ≤ 1000) (hc1 : n0 ≤ M.1.length) (hc2 : s0 ≤ zslots M.1) (hcells : M.1.length - n0 + 1 ≤ R.cells) (hslots : zslots M.1 - s0 + n.toNat ≤ R.slots)
    (w1 : Cond.classLink (zname y).cls i "EstateVessels$Tape" ∈ zall) (hd : decode (zbytes y) pc = .ok (.anewarray i, 3)) (h : zGo p l e R s m args below meth c Q base t b D dA zx Ln n0 s0 y (pc + 3) L (zR M.1.length :: st) (M.1 ++ [(15, n.toNat)], M.2.1 ++ [List.replicate n.toNat none], zclr M.2.2 M.1.length)) : zGo p l e R s m args below meth c Q base t b D dA zx Ln n0 s0 y pc L (zI n :: st) M := by
  intro H locs ls h1 h2 h3 h4 h5 h6
  obtain ⟨hx, hb, hml, hown, hts, hK, hS, hnm, hfr, hlo, hbs⟩ := C
  have hN : (Int32.ofInt n).toNatClampNeg = n.toNat := Int32.toNatClampNeg_ofInt_of_le (by omega) (by omega)
  refine W.anew hx hb hown (hts _ w1) (va_AO.use hK.2.2) rfl hd rfl (by rw [z32_0, z32_lt (by omega) (by omega)]; omega) (by rw [hN]; omega) hcells (by rw [hN]; exact hslots) fun cA kA comp f1 f2 f3 f4 => ?_
  rw [hN]
  generalize hH1 : H.push ({ cls := cA, slots := Array.replicate n.toNat .null, vm := .none } : Cell) = H1
  have z1 : H1.size = H.size + 1 := by rw [← hH1, Array.size_push]
  have e1 : H1[H.size]? = some (arrV cA n.toNat (fun _ => .null)) := by rw [← hH1, Array.getElem?_push_size, ← arrV_new]
  have o1 : ∀ q : Nat, q < H.size → H1[q]? = H[q]? := fun q hq => by rw [← hH1, Array.getElem?_push, if_neg (Nat.ne_of_lt hq)]
  have hsz : H.size = base + M.1.length := h1.1
  have hcA : cA = dA 15 := by
    obtain ⟨kA', comp', g1, g2, g3, g4⟩ := (hK.1.2 5 _ rfl).2
    exact Option.some.inj (f1.symm.trans g4)
  subst hcA
  have g := h H1 locs ls (zH_push h1 hl z1 o1 ?_) (zH_grow h2 z1 o1) h3 h4 (by rw [List.length_append]; exact Nat.le_trans h5 (Nat.le_add_right _ _)) (by rw [zslots_app]; exact Nat.le_trans h6 (Nat.le_add_right _ _))
  · rw [List.length_append, zslots_app, show zdsl (15, n.toNat) = n.toNat from rfl, show ([(15, n.toNat)] : List (Nat × Nat)).length = 1 from rfl, show M.1.length + 1 - n0 = M.1.length - n0 + 1 by omega, show zslots M.1 + n.toNat - s0 = zslots M.1 - s0 + n.toNat by omega] at g
    show W p l e R s m args below meth c H1 locs _ _ Q (F0 m (pc + 3) ls (.ref H.size :: st.map (zC (zAD base t b))))
    rw [hsz, ← zAD_lo (base := base) (t := t) (b := b) hl.1]
    exact g
  · rw [hsz] at e1
    refine e1.trans (congrArg some ?_)
    show arrV (dA 15) n.toNat _ = vp_cell (dA 15) (n.toNat, .inr (.inr (.inr (.inr (fun i => (zrd (M.2.1 ++ [List.replicate n.toNat none]) M.1.length i).map (zAD base t b))))))
    simp only [← hl.2, zrd_new]
    rfl
end ZMEM
