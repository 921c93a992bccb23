section ZMAIN
variable {p : Program} {l : Launch} {e : Env} {R : Room} {s : State} {m : MethodId} {args : Array Value} {below : List Frame} {meth : Method} {c : Code} {Q : State → Prop} {base t b : Nat} {D : va_G} {dA : Nat → ClassId} {zx : Nat → Int} {Ln n0 s0 y : Nat} {pc : Nat} {L : zLs} {M M1 : zM} {v1 : Option zAV} {a : Nat} {rest : List zAV}
theorem zlook {α : Type} {l : List (Nat × α)} {k : Nat} {v : α} (h : l.lookup k = some v) : (k, v) ∈ l := by
  induction l with
  | nil => cases h
  | cons q r ih =>
    obtain ⟨k', v'⟩ := q
    rw [List.lookup_cons] at h
    split at h
    · rename_i hk
      cases h
      have e : k = k' := by simpa using hk
      subst e
      exact List.mem_cons_self
    · exact List.mem_cons_of_mem _ (ih h)
theorem zok_at {y pc : Nat} {q : Instr × Nat × zRes} (hy : y < 185) (h : zcode y pc = some q) : zokI y (pc, q) = true := by
  have h1 := zok_all y hy
  unfold zokM at h1
  exact List.all_eq_true.mp h1 _ (zlook h)
theorem zroom_ok {x : Nat} {st : List zAV} (m : MethodId) (pc : Nat) (ls : Array Slot) (vs : List Value) (AD : Nat → Nat) (h : (st.map zcat).sum ≤ 8) : 2 * (F0 m pc ls vs).monitorRoom + ((st.map (zC AD)).map fun v => v.category).sum ≤ 8 := by
  rw [zC_sum]
  show 2 * 0 + _ ≤ 8
  omega
theorem zpre (C : zCtx p R s m args meth c base t b D dA zx Ln y) {H : Heap} {locs : List Loc} {vs : List zAV} (h1 : zH base t b D dA zx Ln M H) (h2 : va_S (fun q => base ≤ q) s.heap H locs) : ∀ U : State, U.heap = H → s.WarmedH U.vm → zPc base t b D dA zx Ln vs M (vs.map (zC (zAD base t b))).toArray U := by
  obtain ⟨hx, hb, hml, hown, hts, hK, hS, hnm, hfr, hlo, hbs⟩ := C
  intro U hU hW
  refine ⟨rfl, by rw [hU]; exact h1, zK_moved hW hK, ?_, ?_⟩
  · rw [hU]
    exact zSt_moved hW.alike hS ⟨h2.1, h2.2.1⟩ hbs
  · rw [hU]
    exact Nat.le_trans hbs h2.1
theorem zs_virt (C : zCtx p R s m args meth c base t b D dA zx Ln y) {i k0 : Nat} {as : List zAV} (hz : a < 184) (hst : (zps a).2.2.2.2.2 = 0) (hw1 : Cond.methodLink (zname y).cls i (zname a) ∈ zall) (hw2 : Cond.selects (zname a).cls (zname a) (zname a) ∈ zall) (hf : (zrm a).1 + 1 ≤ (zrm y).1) (hlc : 8 + (zml a + 11) + (zrm a).2 ≤ (zrm y).2)
    (hlen : as.length = znarg a) (hrv : zrecv a M (zR k0 :: as) = true) (hrs : (rest.map zcat).sum ≤ 8) (hm1 : M.1.length ≤ M1.1.length) (hm2 : zslots M.1 ≤ zslots M1.1) (hc1 : M1.1.length - n0 ≤ R.cells) (hc2 : zslots M1.1 - s0 ≤ R.slots)
    (hM : Met l (zname a) (zws a) ({ frames := (zrm a).1, cells := M1.1.length - M.1.length, slots := zslots M1.1 - zslots M.1, locals := (zrm a).2 }) (zPc base t b D dA zx Ln (zR k0 :: as) M) (zQc base t b D dA zx Ln v1 M1) (M1.1.length - M.1.length) (zslots M1.1 - zslots M.1) (fun q => base ≤ q))
    (hd : decode (zbytes y) pc = .ok (.invokevirtual i, 3)) (h : zGo p l e R s m args below meth c Q base t b D dA zx Ln n0 s0 y (pc + 3) L (v1.toList ++ rest) M1) : zGo p l e R s m args below meth c Q base t b D dA zx Ln n0 s0 y pc L ((zR k0 :: as).reverse ++ rest) M := by
  intro H locs ls h1 h2 h3 h4 h5 h6
  obtain ⟨⟨wc, wi⟩, hdn, -, hin⟩ := zcal_of hz
  rw [if_neg (by rw [hst]; decide)] at hin
  obtain ⟨hx, hb, hml, hown, hts, hK, hS, hnm, hfr, hlo, hbs⟩ := id C
  have hrc : ∃ cc nn, M.1[k0]? = some (cc, nn) ∧ cc < 9 ∧ (zcls cc).1 = (zname a).cls := by
    unfold zrecv at hrv
    rw [if_neg (by rw [hst]; decide)] at hrv
    dsimp only at hrv
    split at hrv
    · rename_i cc nn hk
      exact ⟨cc, nn, hk, of_decide_eq_true hrv⟩
    · cases hrv
  obtain ⟨cc, nn, hk0, hcc, hcn⟩ := hrc
  obtain ⟨hk9, hP⟩ := zH_in h1 hk0
  have hrecv := va_recv (q0 := 0) (ci := cc) (fs := zflds (zAD base t b) cc M.2.1 M.2.2 k0) hK.1 hP (zcl_at cc hcc) (by rw [zel_obj hcc]; rfl)
  rw [hcn, ← zAD_lo (base := base) (t := t) (b := b) hk9] at hrecv
  refine zcall_W C (a := (Value.ref (zAD base t b k0) :: as.map (zC (zAD base t b))).toArray) hm1 hm2 h2 h3 h4 h5 h6 ?_ h
  refine va_runV (Ts := zall) (As := as.map (zC (zAD base t b))) ⟨hx, hb, hml, hown, hts⟩ hM
    (cwV (C := (zname a).cls) (bytes := zbytes a) (maxL := zml a) (ret := zret a) (own := (zname y).cls) (znarg a) hts ?_ rfl rfl rfl ⟨rfl, hdn⟩ ⟨by show (zrm a).1 + 1 ≤ R.frames; omega, by show 8 + (zml a + 11) + (zrm a).2 ≤ R.locals; omega⟩)
    ⟨zPc_blind, hrecv, zpre C h1 h2⟩ rfl (by rw [List.length_map]; exact hlen) h3.1 ?_ (zroom_ok (x := 0) m pc ls _ _ hrs) hd ⟨by omega, by omega⟩
  · intro w hw
    unfold wsV at hw
    rcases List.mem_append.mp hw with hw | hw
    · simp only [List.mem_cons, List.not_mem_nil, or_false] at hw
      rcases hw with rfl | rfl | rfl | rfl
      · exact zgood hw1
      · exact zgood hin
      · exact zgood hw2
      · exact zgood wi
    · exact zws_good wc w hw
  · show ((zR k0 :: as).reverse ++ rest).map (zC (zAD base t b)) = _
    rw [List.map_append, List.map_reverse, List.map_cons, List.reverse_cons, List.append_assoc]
    rfl
theorem zs_stat (C : zCtx p R s m args meth c base t b D dA zx Ln y) {i : Nat} {vs : List zAV} (hz : a < 184) (hst : (zps a).2.2.2.2.2 = 1) (hw1 : Cond.methodLink (zname y).cls i (zname a) ∈ zall ∨ Cond.methodLinkNest (zname y).cls i (zname a) "EstateVessels" ∈ lw_tbl) (hf : (zrm a).1 + 1 ≤ (zrm y).1) (hlc : 8 + (zml a + 11) + (zrm a).2 ≤ (zrm y).2)
    (hlen : vs.length = znarg a) (hrs : (rest.map zcat).sum ≤ 8) (hm1 : M.1.length ≤ M1.1.length) (hm2 : zslots M.1 ≤ zslots M1.1) (hc1 : M1.1.length - n0 ≤ R.cells) (hc2 : zslots M1.1 - s0 ≤ R.slots)
    (hM : Met l (zname a) (zws a) ({ frames := (zrm a).1, cells := M1.1.length - M.1.length, slots := zslots M1.1 - zslots M.1, locals := (zrm a).2 }) (zPc base t b D dA zx Ln vs M) (zQc base t b D dA zx Ln v1 M1) (M1.1.length - M.1.length) (zslots M1.1 - zslots M.1) (fun q => base ≤ q))
    (hd : decode (zbytes y) pc = .ok (.invokestatic i, 3)) (h : zGo p l e R s m args below meth c Q base t b D dA zx Ln n0 s0 y (pc + 3) L (v1.toList ++ rest) M1) : zGo p l e R s m args below meth c Q base t b D dA zx Ln n0 s0 y pc L (vs.reverse ++ rest) M := by
  intro H locs ls h1 h2 h3 h4 h5 h6
  obtain ⟨⟨wc, wi⟩, hdn, -, hin⟩ := zcal_of hz
  rw [if_pos hst] at hin
  obtain ⟨hx, hb, hml, hown, hts, hK, hS, hnm, hfr, hlo, hbs⟩ := id C
  have hs9 : (vs.reverse ++ rest).map (zC (zAD base t b)) = (vs.map (zC (zAD base t b))).reverse ++ rest.map (zC (zAD base t b)) := by
    rw [List.map_append, List.map_reverse]
  refine zcall_W C (a := (vs.map (zC (zAD base t b))).toArray) hm1 hm2 h2 h3 h4 h5 h6 ?_ h
  rcases hw1 with hw1 | hw1
  · refine va_runS (Ts := zall) (As := vs.map (zC (zAD base t b))) ⟨hx, hb, hml, hown, hts⟩ hM
      (va_cwS (bytes := zbytes a) (maxL := zml a) (ret := zret a) (own := (zname y).cls) (znarg a) hts ?_ rfl rfl rfl hdn ⟨by show (zrm a).1 + 1 ≤ R.frames; omega, by show 8 + (zml a + 11) + (zrm a).2 ≤ R.locals; omega⟩)
      ⟨zPc_blind, zpre C h1 h2⟩ rfl (by rw [List.length_map]; exact hlen) h3.1 hs9 (zroom_ok (x := 0) m pc ls _ _ hrs) hd ⟨by omega, by omega⟩
    intro w hw
    unfold va_wsS at hw
    rcases List.mem_append.mp hw with hw | hw
    · simp only [List.mem_cons, List.not_mem_nil, or_false] at hw
      rcases hw with rfl | rfl | rfl
      · exact zgood hw1
      · exact zgood hin
      · exact zgood wi
    · exact zws_good wc w hw
  · exact va_runSN (Ts := zall) (As := vs.map (zC (zAD base t b))) ⟨hx, hb, hml, hown, hts⟩ hM
      ⟨va_cnB (host := "EstateVessels") (bytes := zbytes a) (maxL := zml a) (ret := zret a) (own := (zname y).cls) (znarg a) hts (zws_good wc) rfl rfl rfl (hK.2.1 _ (List.mem_filter.mpr ⟨hw1, rfl⟩)) (hts _ wi) hdn ⟨by show (zrm a).1 + 1 ≤ R.frames; omega, by show 8 + (zml a + 11) + (zrm a).2 ≤ R.locals; omega⟩, hts _ hin, trivial⟩
      ⟨zPc_blind, zpre C h1 h2⟩ rfl (by rw [List.length_map]; exact hlen) h3.1 hs9 (zroom_ok (x := 0) m pc ls _ _ hrs) hd ⟨by omega, by omega⟩
theorem zs_spec (C : zCtx p R s m args meth c base t b D dA zx Ln y) {i k0 : Nat} {as : List zAV} (hz : a < 184) (hst : (zname a).name = "<init>" ∧ zret a = none ∧ (zps a).2.2.2.2.2 = 0) (hw1 : Cond.methodLink (zname y).cls i (zname a) ∈ zall ∨ Cond.methodLinkNest (zname y).cls i (zname a) "EstateVessels" ∈ lw_tbl) (hf : (zrm a).1 + 1 ≤ (zrm y).1) (hlc : 8 + (zml a + 11) + (zrm a).2 ≤ (zrm y).2)
    (hlen : as.length = znarg a) (hrs : (rest.map zcat).sum ≤ 8) (hm1 : M.1.length ≤ M1.1.length) (hm2 : zslots M.1 ≤ zslots M1.1) (hc1 : M1.1.length - n0 ≤ R.cells) (hc2 : zslots M1.1 - s0 ≤ R.slots)
    (hM : Met l (zname a) (zws a) ({ frames := (zrm a).1, cells := M1.1.length - M.1.length, slots := zslots M1.1 - zslots M.1, locals := (zrm a).2 }) (zPc base t b D dA zx Ln (zR k0 :: as) M) (zQc base t b D dA zx Ln v1 M1) (M1.1.length - M.1.length) (zslots M1.1 - zslots M.1) (fun q => base ≤ q))
    (hd : decode (zbytes y) pc = .ok (.invokespecial i, 3)) (h : zGo p l e R s m args below meth c Q base t b D dA zx Ln n0 s0 y (pc + 3) L (v1.toList ++ rest) M1) : zGo p l e R s m args below meth c Q base t b D dA zx Ln n0 s0 y pc L ((zR k0 :: as).reverse ++ rest) M := by
  intro H locs ls h1 h2 h3 h4 h5 h6
  obtain ⟨hnI, hrN, hst⟩ := hst
  obtain ⟨⟨wc, wi⟩, hdn, -, hin⟩ := zcal_of hz
  rw [if_neg (by rw [hst]; decide)] at hin
  obtain ⟨hx, hb, hml, hown, hts, hK, hS, hnm, hfr, hlo, hbs⟩ := id C
  have hs9 : ((zR k0 :: as).reverse ++ rest).map (zC (zAD base t b)) = (as.map (zC (zAD base t b))).reverse ++ .ref (zAD base t b k0) :: rest.map (zC (zAD base t b)) := by
    rw [List.map_append, List.map_reverse, List.map_cons, List.reverse_cons, List.append_assoc]
    rfl
  have hws : zws a = Cond.code (zname a) (zbytes a) (zml a) none :: zall := by unfold zws; rw [hrN]
  refine zcall_W C (a := (Value.ref (zAD base t b k0) :: as.map (zC (zAD base t b))).toArray) hm1 hm2 h2 h3 h4 h5 h6 ?_ h
  rcases hw1 with hw1 | hw1
  · exact va_runI (Ts := zall) (As := as.map (zC (zAD base t b))) ⟨hx, hb, hml, hown, hts⟩ hM
      (cwI (bytes := zbytes a) (maxL := zml a) (own := (zname y).cls) (znarg a) hts (zws_good wc) hws rfl rfl (hts _ wi) (hts _ hw1) (hts _ hin) hnI hdn ⟨by show (zrm a).1 + 1 ≤ R.frames; omega, by show 8 + (zml a + 11) + (zrm a).2 ≤ R.locals; omega⟩)
      ⟨zPc_blind, zpre C h1 h2⟩ rfl (by rw [List.length_map]; exact hlen) h3.1 hs9 (zroom_ok (x := 0) m pc ls _ _ hrs) hd ⟨by omega, by omega⟩
  · exact va_runIN (Ts := zall) (As := as.map (zC (zAD base t b))) ⟨hx, hb, hml, hown, hts⟩ hM
      ⟨va_cnB (host := "EstateVessels") (bytes := zbytes a) (maxL := zml a) (ret := none) (own := (zname y).cls) (znarg a) hts (zws_good wc) hws rfl rfl (hK.2.1 _ (List.mem_filter.mpr ⟨hw1, rfl⟩)) (hts _ wi) hdn ⟨by show (zrm a).1 + 1 ≤ R.frames; omega, by show 8 + (zml a + 11) + (zrm a).2 ≤ R.locals; omega⟩, hnI, hts _ hin⟩
      ⟨zPc_blind, zpre C h1 h2⟩ rfl (by rw [List.length_map]; exact hlen) h3.1 hs9 (zroom_ok (x := 0) m pc ls _ _ hrs) hd ⟨by omega, by omega⟩
theorem zwalks : ∀ f, zWalks f := by
  intro f
  induction f with
  | zero =>
    intro p l e R s m args below meth c Q base t b D dA zx Ln n0 s0 y pc L st M v M' hy hrun
    cases hrun
  | succ f ih =>
    intro p l e R s m args below meth c Q base t b D dA zx Ln n0 s0 y pc L st M v M' hy hrun C hn0 hs0 hR1 hR2 hret
    unfold zrun at hrun
    split at hrun
    · cases hrun
    · rename_i I n r hc
      have hok := zok_at hy hc
      split at hrun
      · rename_i hk
        split at hrun
        · rename_i pc' L' st' M1 hs
          obtain ⟨g1, g2⟩ := zstep_mono hs
          obtain ⟨g3, g4⟩ := zrun_mono _ _ _ _ _ _ _ _ hrun
          exact zsim_step C hok hk hs hn0 hs0 (by omega) (by omega) (by omega) (by omega) (ih p l e R s m args below meth c Q base t b D dA zx Ln n0 s0 y pc' L' st' M1 v M' hy hrun C (by omega) (by omega) hR1 hR2 hret)
        · cases hrun
      · split at hrun
        · rename_i v' hv
          cases hrun
          exact hret pc L st I n r hok hv
        · cases hrun
      · rename_i hk0 hk1
        split at hrun
        · rename_i hq
          obtain ⟨q1, q2, q3, q4⟩ := hq
          split at hrun
          · rename_i v1 M1 hr1
            obtain ⟨g1, g2⟩ := zrun_mono _ _ _ _ _ _ _ _ hr1
            obtain ⟨g3, g4⟩ := zrun_mono _ _ _ _ _ _ _ _ hrun
            have hgo := ih p l e R s m args below meth c Q base t b D dA zx Ln n0 s0 y (pc + n) L _ M1 v M' hy hrun C (by omega) (by omega) hR1 hR2 hret
            have hvl : (st.take (ztake r.1)).reverse.length = ztake r.1 := by rw [List.length_reverse, List.length_take]; omega
            have hse : st = (st.take (ztake r.1)).reverse.reverse ++ st.drop (ztake r.1) := by rw [List.reverse_reverse, List.take_append_drop]
            generalize (st.take (ztake r.1)).reverse = vs at *
            generalize st.drop (ztake r.1) = rest at *
            subst hse
            obtain ⟨a, fl, w, x9⟩ := r
            unfold zokI at hok
            rw [Bool.and_eq_true, decide_eq_true_eq] at hok
            obtain ⟨hd, hok⟩ := hok
            cases I with
            | invokevirtual i =>
              dsimp only at hok
              simp only [Bool.and_eq_true, decide_eq_true_eq] at hok
              obtain ⟨⟨⟨⟨hn, hz, -, hf, hlc⟩, w1⟩, w2⟩, hst⟩ := hok
              subst hn
              have hM := zMet_run (base := base) (t := t) (b := b) (D := D) (dA := dA) (zx := zx) (Ln := Ln) ih l hz q3 hr1
              rcases vs with _ | ⟨u, as⟩
              · exfalso
                unfold ztake at hvl
                rw [if_neg (by rw [hst]; decide)] at hvl
                cases hvl
              · have hal : as.length = znarg a := by
                  unfold ztake at hvl
                  rw [if_neg (by rw [hst]; decide)] at hvl
                  exact Nat.succ.inj hvl
                rcases u with u | u | u | u | k0
                · exfalso; unfold zrecv at q4; rw [if_neg (by rw [hst]; decide)] at q4; cases q4
                · exfalso; unfold zrecv at q4; rw [if_neg (by rw [hst]; decide)] at q4; cases q4
                · exfalso; unfold zrecv at q4; rw [if_neg (by rw [hst]; decide)] at q4; cases q4
                · exfalso; unfold zrecv at q4; rw [if_neg (by rw [hst]; decide)] at q4; cases q4
                · exact zs_virt C hz hst (zw_in w1) (zw_in w2) hf hlc hal q4 q2 g1 g2 (by omega) (by omega) hM hd hgo
            | invokespecial i =>
              dsimp only at hok
              by_cases ha : a = 1004
              · exact absurd (if_neg (show ¬ a < 1000 by omega)) hk0
              · rw [if_neg ha] at hok
                simp only [Bool.and_eq_true, decide_eq_true_eq] at hok
                obtain ⟨⟨⟨hn, hz, hf, hlc⟩, hst⟩, w1⟩ := hok
                subst hn
                have w1' : Cond.methodLink (zname y).cls i (zname a) ∈ zall ∨ Cond.methodLinkNest (zname y).cls i (zname a) "EstateVessels" ∈ lw_tbl := by
                  split at w1
                  · exact Or.inl (zw_in w1)
                  · exact Or.inr (zwn_in w1)
                have hM := zMet_run (base := base) (t := t) (b := b) (D := D) (dA := dA) (zx := zx) (Ln := Ln) ih l hz q3 hr1
                rcases vs with _ | ⟨u, as⟩
                · exfalso
                  unfold ztake at hvl
                  rw [if_neg (by rw [hst.2.2]; decide)] at hvl
                  cases hvl
                · have hal : as.length = znarg a := by
                    unfold ztake at hvl
                    rw [if_neg (by rw [hst.2.2]; decide)] at hvl
                    exact Nat.succ.inj hvl
                  rcases u with u | u | u | u | k0
                  · exfalso; unfold zrecv at q4; rw [if_neg (by rw [hst.2.2]; decide)] at q4; cases q4
                  · exfalso; unfold zrecv at q4; rw [if_neg (by rw [hst.2.2]; decide)] at q4; cases q4
                  · exfalso; unfold zrecv at q4; rw [if_neg (by rw [hst.2.2]; decide)] at q4; cases q4
                  · exfalso; unfold zrecv at q4; rw [if_neg (by rw [hst.2.2]; decide)] at q4; cases q4
                  · exact zs_spec C hz hst w1' hf hlc hal q2 g1 g2 (by omega) (by omega) hM hd hgo
            | invokestatic i =>
              dsimp only at hok
              by_cases ha : 1000 ≤ a
              · exact absurd (if_neg (show ¬ a < 1000 by omega)) hk0
              · rw [if_neg ha] at hok
                simp only [Bool.and_eq_true, decide_eq_true_eq] at hok
                obtain ⟨⟨⟨hn, hz, hf, hlc⟩, hst⟩, w1⟩ := hok
                subst hn
                have w1' : Cond.methodLink (zname y).cls i (zname a) ∈ zall ∨ Cond.methodLinkNest (zname y).cls i (zname a) "EstateVessels" ∈ lw_tbl := by
                  split at w1
                  · exact Or.inl (zw_in w1)
                  · exact Or.inr (zwn_in w1)
                have hM := zMet_run (base := base) (t := t) (b := b) (D := D) (dA := dA) (zx := zx) (Ln := Ln) ih l hz q3 hr1
                have hal : vs.length = znarg a := by
                  unfold ztake at hvl
                  rw [if_pos hst] at hvl
                  exact hvl
                exact zs_stat C hz hst w1' hf hlc hal q2 g1 g2 (by omega) (by omega) hM hd hgo
            | ireturn => exact absurd rfl hk1
            | lreturn => exact absurd rfl hk1
            | freturn => exact absurd rfl hk1
            | dreturn => exact absurd rfl hk1
            | return_ => exact absurd rfl hk1
            | _ => exact absurd rfl hk0
          · cases hrun
        · cases hrun
end ZMAIN
