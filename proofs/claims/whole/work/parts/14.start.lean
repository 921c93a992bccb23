/-! THE CLAIM OUT OF A RUN OF THE ABSTRACT MACHINE -/
def zini (xs : Nat → Int) (Ln : Nat) : zMem := fun k i => if k = 1001 then xs i else if k = 1002 then (Ln : Int) else 0
/-- what is left to show: on every script the abstract machine's run of the law answers 1 -/
def zGoal : Prop := ∀ (xs : Nat → Int) (Ln : Nat), Ln ≤ 3072 → (∀ j, -2147483648 ≤ xs j ∧ xs j ≤ 2147483647) → ∃ (f : Nat) (M' : zM), zrun f 184 0 [some (zR 1001), none, none, none] [] ([], [], zini xs Ln) = some (some (zI 1), M') ∧ M'.1.length ≤ 900 ∧ zslots M'.1 ≤ 7000000
def R_law : String := "EstateVesselsLaw"
def lw_P (b : Addr) (xs : List Int32) (args : Array Value) (s : State) : Prop := args = #[.ref b] ∧ s.IntsAt b xs ∧ xs.length ≤ 3072 ∧ (Jvm.Cond.and given_1 narrow_1).before args s = true
/-- what a walk over the start with the record d0 says of its end, said of the start itself -/
theorem lw_closed {s t : State} {o : Outcome} {d0 : Drawn} {L : List Loc} {k n : Nat} (hd0 : s.drawn.sameBut d0 lw_cs) (hv : ∃ v, o = .returned v) (hW : (s.setDrawn d0).WarmedH t.vm) (hs : (s.setDrawn d0).sameButNew ({ t with vm := s.vm } : State) L k n) : State.butDraws s t lw_cs (fun t1 => Framed s o t1 L k n) := by
  have h2 : t.drawn = d0 := congrArg State.drawn hs.1
  refine ⟨⟨hv, hW, State.sameButNew.setDrawn hs s.drawn⟩, ?_, by decide⟩
  rw [h2]
  exact hd0
def lw_Q (_ : Array Value) (s : State) (o : Outcome) (t : State) : Prop := o = .returned (some (.int 1)) ∧ State.butDraws s t lw_cs (fun t1 => Framed s o t1 [] 600000 7302250)
def lw_Z (below : List Frame) (a : Array Value) (s : State) : State → Prop := fun t => ∃ o, t.status = .running ∧ Ended t below o ∧ lw_Q a s o t
/-- the law's own end, with 1 on the stack, nothing written that was there before, its room as the claim has it; d0: the record of draws at this point (at the entry s.drawn: begin with 'refine W.base ?_' and 'have hd0 := Drawn.sameBut.refl s.drawn lw_cs') -/
theorem lw_ret {p : Program} {l : Launch} {e : Env} {s : State} {m : MethodId} {below : List Frame} {meth : Method} {c : Code} {b : Nat} {d0 : Drawn} (hd0 : s.drawn.sameBut d0 lw_cs) (hx : p.tables.exec = Jvm.exec) (hb : c.code = code) (hr : meth.sig.returnType = ret) (hlocks : meth.locks = false) {pc : Nat} {H : Heap} {ls : Array Slot} (hdg : decode code pc = .ok (.ireturn, 1)) : W p l e room_1 (s.setDrawn d0) m #[Value.ref b] below meth c H [] 600000 7302250 (lw_Z below #[Value.ref b] s) (F0 m pc ls [.int 1]) := by
  intro T hT X
  obtain ⟨fs, hret, hrun, hended, hW, hframe⟩ := X.leave (v := some (.int 1)) (hlocks := hlocks) (fun h => by rw [hr] at h; cases h)
  have hmeth' : T.vm.method? m = some meth := X.method'
  refine ⟨T.setFrames fs, ?_, .returned (some (.int 1)), hrun, hended, rfl, lw_closed hd0 ⟨_, rfl⟩ hW hframe⟩
  jvm_step X.here [X.here.top, hx, hb, hdg, hmeth', hr, ret, narrow_b1]
  (try refine ⟨rfl, ?_⟩); (try refine ⟨rfl, ?_⟩)
  first | (intro acts; rw [hret _ acts rfl rfl rfl]) | rw [hret _ _ rfl rfl rfl]
  exact Steps.refl _
/-- what holds at the law's entry: the machine, the code, the tables' words (any of lw_tbl by 'hts w (by decide +kernel)'), the script of L ints xs at the cell b, what the Statement gives of the start (any of its parts by flat_of_before) -/
def lw_At (p : Program) (s : State) (m : MethodId) (meth : Method) (c : Code) (b L : Nat) (xs : Nat → Int32) : Prop :=
  p.tables.exec = Jvm.exec ∧ c.code = code ∧ meth.sig.returnType = ret ∧ c.maxLocals = 4 ∧ s.vm.findClass R_law = some m.cls ∧ (∀ w ∈ lw_tbl, w.before #[Value.ref b] s = true) ∧ va_X b L xs s s.heap ∧ b < s.heap.size ∧ meth.locks = false ∧ (Jvm.Cond.and given_1 narrow_1).before #[Value.ref b] s = true
theorem zs_eqval {args : Array Value} {s : State} {a : Term} {n : Int32} (h : (Cond.eq a (.int n)).before args s = true) : a.eval args s none [] s = some (.int n) := by
  obtain ⟨y, h1, h2⟩ := Cond.eq_one (show (Cond.eq a (.int n)).holds args s none s [] = true from h)
  cases h2
  exact h1
/-- the classes' numbers, at the start -/
theorem zs_known {args : Array Value} {s : State} (hts : ∀ w ∈ lw_tbl, w.before args s = true) : ∃ (D : va_G) (dA : Nat → ClassId), zK D dA s := by
  have hall : ∀ w ∈ zall, w.before args s = true := fun w hw => hts w (zall_tbl hw)
  have hcl : ∀ a, ∃ q : ClassId × (Nat → Nat), a < 9 → u_Kn s (zcls a).1 (zcls a).2.1 (zcls a).2.2 q.1 q.2 := by
    intro a
    by_cases ha : a < 9
    · have hi : Cond.instantiable (zcls a).1 (zcls a).2.2 ∈ lw_tbl := by
        rcases (show a = 0 ∨ a = 1 ∨ a = 2 ∨ a = 3 ∨ a = 4 ∨ a = 5 ∨ a = 6 ∨ a = 7 ∨ a = 8 by omega) with rfl | rfl | rfl | rfl | rfl | rfl | rfl | rfl | rfl
        · exact zwn_in (p := (zcp.getD 0 (0, 0)).1) (by decide +kernel)
        · exact zwn_in (p := (zcp.getD 1 (0, 0)).1) (by decide +kernel)
        · exact zwn_in (p := (zcp.getD 2 (0, 0)).1) (by decide +kernel)
        · exact zwn_in (p := (zcp.getD 3 (0, 0)).1) (by decide +kernel)
        · exact zwn_in (p := (zcp.getD 4 (0, 0)).1) (by decide +kernel)
        · exact zwn_in (p := (zcp.getD 5 (0, 0)).1) (by decide +kernel)
        · exact zwn_in (p := (zcp.getD 6 (0, 0)).1) (by decide +kernel)
        · exact zwn_in (p := (zcp.getD 7 (0, 0)).1) (by decide +kernel)
        · exact zwn_in (p := (zcp.getD 8 (0, 0)).1) (by decide +kernel)
      obtain ⟨cC, iS, hk⟩ := u_known (ws := zall) hall (zcl_in ha) (hts _ hi)
      exact ⟨(cC, iS), fun _ => hk⟩
    · exact ⟨(0, fun _ => 0), fun h => absurd h ha⟩
  have har : ∀ k, ∃ q : ClassId, (10 ≤ k ∧ k ≤ 15) → ArrOfT s q (zkt k) ∧ va_RA s q (zkt k) := by
    intro k
    by_cases hk : 10 ≤ k ∧ k ≤ 15
    · rcases (show k = 10 ∨ k = 11 ∨ k = 12 ∨ k = 13 ∨ k = 14 ∨ k = 15 by omega) with rfl | rfl | rfl | rfl | rfl | rfl
      · obtain ⟨cA, kA, comp, f1, f2, f3⟩ := Cond.arrayClass_spec (hts (.arrayClass .int) (zwn_in (p := 106) (by decide +kernel)))
        exact ⟨cA, fun _ => ⟨fun N z => ⟨(fun k h => by cases h), kA, f2, comp, f3⟩, f1⟩⟩
      · obtain ⟨cA, kA, comp, f1, f2, f3⟩ := Cond.arrayClass_spec (hts (.arrayClass .long) (zwn_in (p := 125) (by decide +kernel)))
        exact ⟨cA, fun _ => ⟨fun N z => ⟨(fun k h => by cases h), kA, f2, comp, f3⟩, f1⟩⟩
      · obtain ⟨cA, kA, comp, f1, f2, f3⟩ := Cond.arrayClass_spec (hts (.arrayClass .float) (zwn_in (p := 152) (by decide +kernel)))
        exact ⟨cA, fun _ => ⟨fun N z => ⟨(fun k h => by cases h), kA, f2, comp, f3⟩, f1⟩⟩
      · obtain ⟨cA, kA, comp, f1, f2, f3⟩ := Cond.arrayClass_spec (hts (.arrayClass .byte) (zwn_in (p := 209) (by decide +kernel)))
        exact ⟨cA, fun _ => ⟨fun N z => ⟨(fun k h => by cases h), kA, f2, comp, f3⟩, f1⟩⟩
      · obtain ⟨cA, kA, comp, f1, f2, f3⟩ := Cond.arrayClass_spec (hts (.arrayClass .boolean) (zwn_in (p := 770) (by decide +kernel)))
        exact ⟨cA, fun _ => ⟨fun N z => ⟨(fun k h => by cases h), kA, f2, comp, f3⟩, f1⟩⟩
      · obtain ⟨comp, cA, kA, f1, f2, f3, f4, f5⟩ := Cond.arrayOver_spec (hts (.arrayOver (.object "EstateVessels$Tape")) (zwn_in (p := 211) (by decide +kernel)))
        exact ⟨cA, fun _ => ⟨fun N z => ⟨(fun k h => by cases h), kA, f3, comp, f4⟩, kA, comp, f3, f4, f1, f5⟩⟩
    · exact ⟨0, fun h => absurd h hk⟩
  refine ⟨(fun a => (Classical.choose (hcl a)).1, fun a => (Classical.choose (hcl a)).2), fun k => Classical.choose (har k), ⟨fun a q hq => ?_, fun k q hq => ?_⟩, fun w hw => ?_, ?_⟩
  · have ha : a < 9 := (List.getElem?_eq_some_iff.mp hq).1
    have e := (zcl_at a ha).symm.trans hq
    cases e
    exact Classical.choose_spec (hcl a) ha
  · have hk : k < 6 := (List.getElem?_eq_some_iff.mp hq).1
    rcases (show k = 0 ∨ k = 1 ∨ k = 2 ∨ k = 3 ∨ k = 4 ∨ k = 5 by omega) with rfl | rfl | rfl | rfl | rfl | rfl
    · cases hq; exact Classical.choose_spec (har 10) (by omega)
    · cases hq; exact Classical.choose_spec (har 11) (by omega)
    · cases hq; exact Classical.choose_spec (har 12) (by omega)
    · cases hq; exact Classical.choose_spec (har 13) (by omega)
    · cases hq; exact Classical.choose_spec (har 14) (by omega)
    · cases hq; exact Classical.choose_spec (har 15) (by omega)
  · unfold znest at hw
    obtain ⟨h1, h2⟩ := List.mem_filter.mp hw
    have h3 := hts w h1
    revert h2 h3
    cases w <;> intro h2 h3 <;> first | exact va_Nw.of rfl h3 | cases h2
  · exact hts (.arrayOver (.object "EstateVessels$Tape")) (zwn_in (p := 211) (by decide +kernel))
theorem zs_stat0 {s : State} {b Ln : Nat} {zx : Nat → Int} (hts : ∀ w ∈ lw_tbl, w.before #[Value.ref b] s = true) (hX : va_X b Ln (fun j => Int32.ofInt (zx j)) s s.heap) (hbl : b < s.heap.size) (hL : Ln ≤ 3072) (hgv : (Jvm.Cond.and given_1 narrow_1).before #[Value.ref b] s = true) : ∃ t, zSt s.heap.size t b zx Ln s s.heap := by
  have hs := flat_of_before _ hgv
  have hA : ∀ a : Nat, a < s.heap.size → ¬ s.heap.size ≤ a := fun a h => by omega
  have harr : (Cond.arrayOf (.static "EstateVessels$Group" "ORDERS" "[I") .int).before #[Value.ref b] s = true := hs _ (by decide +kernel)
  have hlen := zs_eqval (hs (.eq (.length (.static "EstateVessels$Group" "ORDERS" "[I")) (.int 7)) (by decide +kernel))
  have e0 := zs_eqval (hs (.eq (.elem (.static "EstateVessels$Group" "ORDERS" "[I") (.int 0)) (.int 1)) (by decide +kernel))
  have e1 := zs_eqval (hs (.eq (.elem (.static "EstateVessels$Group" "ORDERS" "[I") (.int 1)) (.int 1)) (by decide +kernel))
  have e2 := zs_eqval (hs (.eq (.elem (.static "EstateVessels$Group" "ORDERS" "[I") (.int 2)) (.int 2)) (by decide +kernel))
  have e3 := zs_eqval (hs (.eq (.elem (.static "EstateVessels$Group" "ORDERS" "[I") (.int 3)) (.int 6)) (by decide +kernel))
  have e4 := zs_eqval (hs (.eq (.elem (.static "EstateVessels$Group" "ORDERS" "[I") (.int 4)) (.int 24)) (by decide +kernel))
  have e5 := zs_eqval (hs (.eq (.elem (.static "EstateVessels$Group" "ORDERS" "[I") (.int 5)) (.int 120)) (by decide +kernel))
  have e6 := zs_eqval (hs (.eq (.elem (.static "EstateVessels$Group" "ORDERS" "[I") (.int 6)) (.int 720)) (by decide +kernel))
  obtain ⟨t, ht, hT⟩ := va_Tof (N := 7) (f := fun j => .int (Int32.ofInt (([1, 1, 2, 6, 24, 120, 720] : List Int).getD j 0))) (A := fun q => s.heap.size ≤ q) (by omega) harr hlen (fun j hj => by
    rcases (show j = 0 ∨ j = 1 ∨ j = 2 ∨ j = 3 ∨ j = 4 ∨ j = 5 ∨ j = 6 by omega) with rfl | rfl | rfl | rfl | rfl | rfl | rfl
    · exact e0
    · exact e1
    · exact e2
    · exact e3
    · exact e4
    · exact e5
    · exact e6) hA
  have hneg : (Term.static "java/lang/Math" "negativeZeroDoubleBits" "J").eval #[Value.ref b] s none [] s = some (.long (Int64.ofInt (-9223372036854775808))) := by
    have h := hs (.eq (.static "java/lang/Math" "negativeZeroDoubleBits" "J") (.long (-9223372036854775808))) (by decide +kernel)
    obtain ⟨w, h1, h2⟩ := Cond.eq_one (show (Cond.eq _ _).holds #[Value.ref b] s none s [] = true from h)
    cases h2
    exact h1
  refine ⟨t, va_Zref (hts _ (zwn_in (p := 426) (by decide +kernel))) (hts _ (zwn_in (p := 53) (by decide +kernel))) ht hA, va_Zof (hts _ (zwn_in (p := 1031) (by decide +kernel))) (hts _ (zwn_in (p := 60) (by decide +kernel))) hneg hA, hT, hX, hbl, by omega⟩
set_option maxHeartbeats 4000000 in
/-- the walk of the law's body, out of the abstract run -/
theorem zs_start (hg : zGoal) {p : Program} {e : Env} {s : State} {m : MethodId} {below : List Frame} {meth : Method} {c : Code} (l : Launch) {b L : Nat} {xs : Nat → Int32} (hL : L ≤ 3072) (C0 : lw_At p s m meth c b L xs) : W p l e room_1 s m #[Value.ref b] below meth c s.heap [] 0 0 (lw_Z below #[Value.ref b] s) (entryFrame m ([Value.ref b] : List Value).toArray 4) := by
  obtain ⟨hx, hb, hr, hml, hown, hts, hX, hbl, hlocks, hgv⟩ := id C0
  obtain ⟨f, M', hrun, hm1, hm2⟩ := hg (fun j => (xs j).toInt) L hL (fun j => ⟨Int32.le_toInt (xs j), by have := Int32.toInt_lt (xs j); omega⟩)
  have hxs : (fun j => Int32.ofInt ((xs j).toInt)) = xs := funext fun j => Int32.ofInt_toInt (xs j)
  obtain ⟨D, dA, hK⟩ := zs_known hts
  obtain ⟨t, hS⟩ := zs_stat0 (zx := fun j => (xs j).toInt) hts (by rw [hxs]; exact hX) hbl hL hgv
  have C : zCtx p room_1 s m #[Value.ref b] meth c s.heap.size t b D dA (fun j => (xs j).toInt) L 184 := by
    refine ⟨hx, hb, hml, hown, fun w hw => hts w (zall_tbl hw), hK, hS, ?_, by decide +kernel, by decide +kernel, Nat.le_refl _⟩
    intro h
    exact absurd h (by decide +kernel)
  have hl := lv_entry ([.ref b]) (n := 4) (Nat.le_of_ble_eq_true rfl)
  rw [lg_entry_eq]
  have g := zwalks f p l e room_1 s m #[Value.ref b] below meth c (lw_Z below #[Value.ref b] s) s.heap.size t b D dA (fun j => (xs j).toInt) L 0 0 184 0 _ [] _ _ M' (by omega) hrun C (Nat.zero_le _) (Nat.zero_le _) (by show M'.1.length - 0 ≤ 600000; omega) (by show zslots M'.1 - 0 ≤ 7302250; omega)
    (fun pc' L' st' I n r hok hlv => by
      intro H locs ls h1 h2 h3 h4 h5 h6
      obtain ⟨a, fl, w, v⟩ := r
      unfold zokI at hok
      rw [Bool.and_eq_true, decide_eq_true_eq] at hok
      obtain ⟨hd, hok⟩ := hok
      unfold zleave at hlv
      split at hlv
      · rename_i x
        split at hlv
        · cases hlv
          have hn : n = 1 := by
            dsimp only at hok
            split at hok <;> exact (of_decide_eq_true hok).1
          subst hn
          refine va_forget (fun q hq => h2.2.2 q hq) ?_
          refine W.widen (k := 600000) (n := 7302250) (by omega) (by omega) ?_
          refine W.base ?_
          exact lw_ret (Drawn.sameBut.refl s.drawn lw_cs) hx hb hr hlocks hd
        · cases hlv
      · cases hlv
      · cases hlv
      · cases hlv
      · cases hlv
      · cases hlv)
  refine g s.heap [] _ ⟨rfl, Nat.zero_le _, fun k d h => (by cases h), fun j => rfl, rfl⟩ va_S.rf (zent_has (z := 184) (vs := [zR 1001]) ?_) rfl (Nat.zero_le _) (Nat.zero_le _)
  exact hl
