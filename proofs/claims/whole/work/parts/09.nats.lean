section ZNAT
variable {p : Program} {l : Launch} {e : Env} {R : Room} {s : State} {m : MethodId} {args : Array Value} {below : List Frame} {meth : Method} {c : Code} {Q : State → Prop} {base t b : Nat} {D : va_G} {dA : Nat → ClassId} {zx : Nat → Int} {Ln n0 s0 y : Nat} {pc : Nat} {L : zLs} {st : List zAV} {M : zM}
theorem zw_obj1 : Cond.instanceMethod objectInit ∈ zall := zw_in (p := 73) (by decide +kernel)
theorem zw_obj2 : Cond.code objectInit ⟨#[0xb1]⟩ 1 none ∈ zall := zw_in (p := 74) (by decide +kernel)
theorem zs_objInit (C : zCtx p R s m args meth c base t b D dA zx Ln y) {i k : Nat} (hw : Cond.methodLink (zname y).cls i objectInit ∈ zall) (hr : 1 ≤ (zrm y).1 ∧ 40 ≤ (zrm y).2) (hs : (st.map zcat).sum ≤ 8) (hd : decode (zbytes y) pc = .ok (.invokespecial i, 3)) (h : zGo p l e R s m args below meth c Q base t b D dA zx Ln n0 s0 y (pc + 3) L st M) : zGo p l e R s m args below meth c Q base t b D dA zx Ln n0 s0 y pc L (zR k :: st) M := by
  intro H locs ls h1 h2 h3 h4 h5 h6
  obtain ⟨hx, hb, hml, hown, hts, hK, hS, hnm, hfr, hlo, hbs⟩ := C
  have hq := zC_sum (zAD base t b) st
  exact W.objInit hx hb hown (hts _ hw) (hts _ zw_obj1) (hts _ zw_obj2) rfl (by rw [hml]; exact h3.1) rfl hd (by omega) (by show 2 * 0 + _ + 12 ≤ _; omega) (h H locs ls h1 h2 h3 h4 h5 h6)
theorem zs_f2i (C : zCtx p R s m args meth c base t b D dA zx Ln y) {i : Nat} {x : UInt32} (hw : Cond.methodLink (zname y).cls i (znat 1001) ∈ zall) (hr : 1 ≤ (zrm y).1 ∧ 40 ≤ (zrm y).2) (hs : (st.map zcat).sum ≤ 8) (hd : decode (zbytes y) pc = .ok (.invokestatic i, 3)) (h : zGo p l e R s m args below meth c Q base t b D dA zx Ln n0 s0 y (pc + 3) L (zI x.toInt32.toInt :: st) M) : zGo p l e R s m args below meth c Q base t b D dA zx Ln n0 s0 y pc L (zF x :: st) M := by
  intro H locs ls h1 h2 h3 h4 h5 h6
  obtain ⟨hx, hb, hml, hown, hts, hK, hS, hnm, hfr, hlo, hbs⟩ := C
  have hq := zC_sum (zAD base t b) st
  refine vn_f2i hx hb (by rw [hml]; exact h3.1.symm) hown (hts _ hw) (hts _ (zw_in (p := 1011) (by decide +kernel))) (hts _ (zw_in (p := 1010) (by decide +kernel))) (hts _ (zw_in (p := 63) (by decide +kernel))) (by omega) (by omega) hd ?_
  rw [← Int32.ofInt_toInt x.toInt32]
  exact h H locs ls h1 h2 h3 h4 h5 h6
theorem zs_d2raw (C : zCtx p R s m args meth c base t b D dA zx Ln y) {i : Nat} {x : UInt64} (hw : Cond.methodLink (zname y).cls i (znat 1002) ∈ zall) (hr : 1 ≤ (zrm y).1 ∧ 40 ≤ (zrm y).2) (hs : (st.map zcat).sum ≤ 8) (hd : decode (zbytes y) pc = .ok (.invokestatic i, 3)) (h : zGo p l e R s m args below meth c Q base t b D dA zx Ln n0 s0 y (pc + 3) L (zL x.toInt64.toInt :: st) M) : zGo p l e R s m args below meth c Q base t b D dA zx Ln n0 s0 y pc L (zD x :: st) M := by
  intro H locs ls h1 h2 h3 h4 h5 h6
  obtain ⟨hx, hb, hml, hown, hts, hK, hS, hnm, hfr, hlo, hbs⟩ := C
  have hq := zC_sum (zAD base t b) st
  refine vn_d2l hx hb (by rw [hml]; exact h3.1.symm) hown (hts _ hw) (hts _ (zw_in (p := 1022) (by decide +kernel))) (hts _ (zw_in (p := 1021) (by decide +kernel))) (hts _ (zw_in (p := 64) (by decide +kernel))) (by omega) (by omega) hd ?_
  rw [← Int64.ofInt_toInt x.toInt64]
  exact h H locs ls h1 h2 h3 h4 h5 h6
theorem zs_l2raw (C : zCtx p R s m args meth c base t b D dA zx Ln y) {i : Nat} {x : Int} (hv : vn_snl2d (Int64.ofInt x) = false) (hw : Cond.methodLink (zname y).cls i (znat 1003) ∈ zall) (hr : 1 ≤ (zrm y).1 ∧ 40 ≤ (zrm y).2) (hs : (st.map zcat).sum ≤ 8) (hd : decode (zbytes y) pc = .ok (.invokestatic i, 3)) (h : zGo p l e R s m args below meth c Q base t b D dA zx Ln n0 s0 y (pc + 3) L (zD (Int64.ofInt x).toUInt64 :: st) M) : zGo p l e R s m args below meth c Q base t b D dA zx Ln n0 s0 y pc L (zL x :: st) M := by
  intro H locs ls h1 h2 h3 h4 h5 h6
  obtain ⟨hx, hb, hml, hown, hts, hK, hS, hnm, hfr, hlo, hbs⟩ := C
  have hq := zC_sum (zAD base t b) st
  exact vn_l2d hx hb (by rw [hml]; exact h3.1.symm) hown (hts _ hw) (hts _ (zw_in (p := 1026) (by decide +kernel))) (hts _ (zw_in (p := 1025) (by decide +kernel))) (hts _ (zw_in (p := 64) (by decide +kernel))) hv (by omega) (by omega) hd (h H locs ls h1 h2 h3 h4 h5 h6)
theorem zs_dabs (C : zCtx p R s m args meth c base t b D dA zx Ln y) {i : Nat} {x : UInt64} (hv : x &&& 0x7fffffffffffffff ≤ 0x7ff0000000000000) (hw : Cond.methodLink (zname y).cls i (znat 1005) ∈ zall) (hr : 1 ≤ (zrm y).1 ∧ 40 ≤ (zrm y).2) (hs : (st.map zcat).sum ≤ 8) (hd : decode (zbytes y) pc = .ok (.invokestatic i, 3)) (hc : M.1.length - n0 ≤ R.cells ∧ zslots M.1 - s0 ≤ R.slots) (h : zGo p l e R s m args below meth c Q base t b D dA zx Ln n0 s0 y (pc + 3) L (zD (x &&& 0x7fffffffffffffff) :: st) M) : zGo p l e R s m args below meth c Q base t b D dA zx Ln n0 s0 y pc L (zD x :: st) M := by
  intro H locs ls h1 h2 h3 h4 h5 h6
  obtain ⟨hx, hb, hml, hown, hts, hK, hS, hnm, hfr, hlo, hbs⟩ := C
  have hq := zC_sum (zAD base t b) st
  exact zn_call (y := znat 1005) (bytes := prog_14_method_64_code) (ml := 2) (n := 1) (ret := some .double) (As := [.double x]) hx hb (by rw [hml]; exact h3.1.symm) hown (hts _ hw) (hts _ (zw_in (p := 1018) (by decide +kernel))) (hts _ (zw_in (p := 60) (by decide +kernel))) (hts _ (zw_in (p := 1019) (by decide +kernel))) (by decide) (by decide) (zn_absFind p) (by decide +kernel) rfl
    (fun mk f h1 h2 h3 => by simp [entryFrame, argsToLocals, Value.category, h1, h3]) (zn_absRun hv e) (by omega) (by omega) (by omega) hc hd (h H locs ls h1 h2 h3 h4 h5 h6)
theorem zs_dmax (C : zCtx p R s m args meth c base t b D dA zx Ln y) {i : Nat} {x w : UInt64} (hv : x &&& 0x7fffffffffffffff ≤ 0x7ff0000000000000) (hv2 : w &&& 0x7fffffffffffffff ≤ 0x7ff0000000000000) (hw : Cond.methodLink (zname y).cls i (znat 1006) ∈ zall) (hr : 1 ≤ (zrm y).1 ∧ 40 ≤ (zrm y).2) (hs : (st.map zcat).sum ≤ 8) (hd : decode (zbytes y) pc = .ok (.invokestatic i, 3)) (hc : M.1.length - n0 ≤ R.cells ∧ zslots M.1 - s0 ≤ R.slots) (h : zGo p l e R s m args below meth c Q base t b D dA zx Ln n0 s0 y (pc + 3) L (zD (Native.java_lang_Math.nans.pick64 true x w) :: st) M) : zGo p l e R s m args below meth c Q base t b D dA zx Ln n0 s0 y pc L (zD w :: zD x :: st) M := by
  intro H locs ls h1 h2 h3 h4 h5 h6
  obtain ⟨hx, hb, hml, hown, hts, hK, hS, hnm, hfr, hlo, hbs⟩ := C
  have hq := zC_sum (zAD base t b) st
  exact zn_call (y := znat 1006) (bytes := prog_14_method_68_code) (ml := 4) (n := 2) (ret := some .double) (As := [.double x, .double w]) hx hb (by rw [hml]; exact h3.1.symm) hown (hts _ hw) (hts _ (zw_in (p := 1028) (by decide +kernel))) (hts _ (zw_in (p := 60) (by decide +kernel))) (hts _ (zw_in (p := 1029) (by decide +kernel))) (by decide) (by decide) (zn_maxFind p) (by decide +kernel) rfl
    (fun mk f h1 h2 h3 => by simp [entryFrame, argsToLocals, Value.category, h1, h3]) (zn_maxRun hv hv2 e) (by omega) (by omega) (by omega) hc hd (h H locs ls h1 h2 h3 h4 h5 h6)
theorem zs_copy (C : zCtx p R s m args meth c base t b D dA zx Ln y) {i ks kd na nb : Nat} {n dp sp : Int} (hw : Cond.methodLink (zname y).cls i arraycopyName ∈ zall) (hr : 1 ≤ (zrm y).1 ∧ 40 ≤ (zrm y).2) (hs : (st.map zcat).sum ≤ 8) (hTs : M.1[ks]? = some (11, na)) (hTd : M.1[kd]? = some (11, nb))
    (h0 : 0 ≤ n ∧ 0 ≤ dp ∧ 0 ≤ sp) (ha : sp + n ≤ (na : Int)) (hbn : dp + n ≤ (nb : Int)) (ha3 : (na : Int) < 2147483648) (hb3 : (nb : Int) < 2147483648) (hd : decode (zbytes y) pc = .ok (.invokestatic i, 3)) (h : zGo p l e R s m args below meth c Q base t b D dA zx Ln n0 s0 y (pc + 3) L st (M.1, M.2.1, zcpy M.2.2 ks sp.toNat kd dp.toNat n.toNat)) : zGo p l e R s m args below meth c Q base t b D dA zx Ln n0 s0 y pc L (zI n :: zI dp :: zR kd :: zI sp :: zR ks :: st) M := by
  intro H locs ls h1 h2 h3 h4 h5 h6
  obtain ⟨hx, hb, hml, hown, hts, hK, hS, hnm, hfr, hlo, hbs⟩ := C
  have hq := zC_sum (zAD base t b) st
  obtain ⟨hks9, hPs⟩ := zH_in h1 hTs
  obtain ⟨hkd9, hPd⟩ := zH_in h1 hTd
  have en : (Int32.ofInt n).toNatClampNeg = n.toNat := Int32.toNatClampNeg_ofInt_of_le (by omega) (by omega)
  have ed : (Int32.ofInt dp).toNatClampNeg = dp.toNat := Int32.toNatClampNeg_ofInt_of_le (by omega) (by omega)
  have es : (Int32.ofInt sp).toNatClampNeg = sp.toNat := Int32.toNatClampNeg_ofInt_of_le (by omega) (by omega)
  have in_ : (Int32.ofInt n).toInt = n := Int32.toInt_ofInt_of_le (by omega) (by omega)
  have id_ : (Int32.ofInt dp).toInt = dp := Int32.toInt_ofInt_of_le (by omega) (by omega)
  have is_ : (Int32.ofInt sp).toInt = sp := Int32.toInt_ofInt_of_le (by omega) (by omega)
  show W p l e R s m args below meth c H locs _ _ Q (F0 m pc ls (.int (Int32.ofInt n) :: .int (Int32.ofInt dp) :: .ref (zAD base t b kd) :: .int (Int32.ofInt sp) :: .ref (zAD base t b ks) :: st.map (zC (zAD base t b))))
  rw [zAD_lo hks9, zAD_lo hkd9]
  have hc0 : H[base + ks]? = some (vp_cell (dA 11) (na, .inr (.inl fun q => Int64.ofInt (M.2.2 ks q)))) := hPs 0 _ rfl
  have hc1 : H[base + kd]? = some (vp_cell (dA 11) (nb, .inr (.inl fun q => Int64.ofInt (M.2.2 kd q)))) := hPd 0 _ rfl
  have hAr : ArrOfT s (dA 11) .long := (hK.1.2 1 (dA 11, .long) rfl).1
  obtain ⟨-, k0, hk0, cm0, hkk0⟩ := hAr na (fun j => .long (Int64.ofInt (M.2.2 ks j)))
  obtain ⟨-, k1, hk1, cm1, hkk1⟩ := hAr nb (fun j => .long (Int64.ofInt (M.2.2 kd j)))
  intro T hT X
  obtain ⟨vm', X', step⟩ := X.arraycopy hx hown (hts _ hw) (hts _ (zw_in (p := 669) (by decide +kernel))) (hts _ (zw_in (p := 668) (by decide +kernel))) (hts _ (zw_in (p := 66) (by decide +kernel))) (src := base + ks) (dst := base + kd) (cs := vp_cell (dA 11) (na, .inr (.inl fun q => Int64.ofInt (M.2.2 ks q)))) (cd := vp_cell (dA 11) (nb, .inr (.inl fun q => Int64.ofInt (M.2.2 kd q)))) (srcPos := Int32.ofInt sp) (destPos := Int32.ofInt dp) (n := Int32.ofInt n) (by rw [hT]; exact hc0) (by rw [hT]; exact hc1)
    (fun _ h => by cases h) (fun _ h => by cases h) (fun h => by cases h) (fun h => by cases h) hk0 hk1 hkk0 hkk1 (by simp) (by rw [z32_0, z32_lt (by omega) (by omega)]; omega) (by rw [z32_0, z32_lt (by omega) (by omega)]; omega) (by rw [z32_0, z32_lt (by omega) (by omega)]; omega)
    (by rw [is_, in_]; show ¬ _ > ((arrV _ na _).slots.size : Int); rw [arrV_size]; omega)
    (by rw [id_, in_]; show ¬ _ > ((arrV _ nb _).slots.size : Int); rw [arrV_size]; omega)
    (fun vm₁ _ j hj => by
      rw [en] at hj
      have e0 : (vp_cell (dA 11) (na, .inr (.inl fun q => Int64.ofInt (M.2.2 ks q)))).slots.getD ((Int32.ofInt sp).toNatClampNeg + j) .null = .long (Int64.ofInt (M.2.2 ks (sp.toNat + j))) := by
        rw [es]
        show (arrV (dA 11) na (fun q => .long (Int64.ofInt (M.2.2 ks q)))).slots.getD _ _ = _
        rw [Array.getD_eq_getD_getElem?, arrV_read _ _ (by omega)]
        rfl
      rw [e0]
      exact ⟨rfl, trivial⟩)
    (g := F0 m pc ls (.int (Int32.ofInt n) :: .int (Int32.ofInt dp) :: .ref (base + kd) :: .int (Int32.ofInt sp) :: .ref (base + ks) :: st.map (zC (zAD base t b)))) rfl (by rw [hml]; exact h3.1) (rest := st.map (zC (zAD base t b))) rfl (by rw [hb]; exact hd) (by omega) (by show 2 * 0 + _ + (nativeFrameWords "java/lang/System" "arraycopy" 5 + 11) ≤ _; have hw9 : nativeFrameWords "java/lang/System" "arraycopy" 5 ≤ 20 := (by decide); omega)
  have e1 : copied (vp_cell (dA 11) (na, .inr (.inl fun q => Int64.ofInt (M.2.2 ks q)))) (vp_cell (dA 11) (nb, .inr (.inl fun q => Int64.ofInt (M.2.2 kd q)))) (Int32.ofInt sp) (Int32.ofInt dp) (Int32.ofInt n) = vp_cell (dA 11) (nb, .inr (.inl (va_cpy (fun q => Int64.ofInt (M.2.2 ks q)) (fun q => Int64.ofInt (M.2.2 kd q)) (Int32.ofInt sp).toNatClampNeg (Int32.ofInt dp).toNatClampNeg (Int32.ofInt n).toNatClampNeg))) := va_copied (n0 := na) (n1 := nb) (sp := (Int32.ofInt sp).toNatClampNeg) (dp := (Int32.ofInt dp).toNatClampNeg) (n := (Int32.ofInt n).toNatClampNeg) (fun z => .long z) (dA 11) (dA 11) (fun q => Int64.ofInt (M.2.2 ks q)) (fun q => Int64.ofInt (M.2.2 kd q)) (by omega)
  rw [e1, en, ed, es] at X' step
  have e2 : (va_cpy (fun q => Int64.ofInt (M.2.2 ks q)) (fun q => Int64.ofInt (M.2.2 kd q)) sp.toNat dp.toNat n.toNat) = fun q => Int64.ofInt (zcpy M.2.2 ks sp.toNat kd dp.toNat n.toNat kd q) := by
    funext q
    unfold va_cpy zcpy
    rw [if_pos rfl]
    by_cases g : dp.toNat ≤ q ∧ q < dp.toNat + n.toNat
    · rw [if_pos g, if_pos g]
    · rw [if_neg g, if_neg g]
  rw [e2] at X' step
  have hl : base + kd < H.size := (Array.getElem?_eq_some_iff.mp hc1).1
  generalize hcell : vp_cell (dA 11) (nb, .inr (.inl fun q => Int64.ofInt (zcpy M.2.2 ks sp.toNat kd dp.toNat n.toNat kd q))) = cell at X' step
  have hheap : ((T.setVm vm').setCell (base + kd) cell).heap = H.setIfInBounds (base + kd) cell := by rw [← hT]; rfl
  have oq : ∀ q : Nat, q ≠ base + kd → (H.setIfInBounds (base + kd) cell)[q]? = H[q]? := fun q hq => by simp [Array.getElem?_setIfInBounds, Ne.symm hq]
  obtain ⟨t9, a1, b1⟩ := h (H.setIfInBounds (base + kd) cell) _ ls (zH_store h1 hTd (by simp) oq (by
      show (H.setIfInBounds (base + kd) cell)[base + kd]? = some (vp_cell (dA 11) (nb, .inr (.inl fun q => Int64.ofInt (zcpy M.2.2 ks sp.toNat kd dp.toNat n.toNat kd q))))
      rw [hcell]
      simp [Array.getElem?_setIfInBounds, hl]) (fun j _ i => rfl) (fun j hj i => by unfold zcpy; rw [if_neg hj])) ⟨by simp; exact h2.1, fun q g1 g2 => by
      rw [oq q (fun e => g2 (by show base ≤ q; omega))]
      exact h2.2.1 q g1 g2, fun q hq => by
      rcases List.mem_append.mp hq with g | g
      · exact h2.2.2 q g
      · obtain ⟨z, -, hz⟩ := List.mem_map.mp g
        rw [← hz]
        show base ≤ base + kd
        omega⟩ h3 h4 h5 h6 _ hheap X'
  exact ⟨t9, step t9 a1, b1⟩
end ZNAT
