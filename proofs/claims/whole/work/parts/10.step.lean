section ZSTEP
theorem zalen_ty {dA : Nat → ClassId} {a : Nat} (h : 10 ≤ a) (h2 : a ≤ 15) : ∃ q : Nat, (zty dA)[q]? = some (dA a, zkt a) := by
  rcases (show a = 10 ∨ a = 11 ∨ a = 12 ∨ a = 13 ∨ a = 14 ∨ a = 15 by omega) with rfl | rfl | rfl | rfl | rfl | rfl
  · exact ⟨0, rfl⟩
  · exact ⟨1, rfl⟩
  · exact ⟨2, rfl⟩
  · exact ⟨3, rfl⟩
  · exact ⟨4, rfl⟩
  · exact ⟨5, rfl⟩
variable {p : Program} {l : Launch} {e : Env} {R : Room} {s : State} {m : MethodId} {args : Array Value} {below : List Frame} {meth : Method} {c : Code} {Q : State → Prop} {base t b : Nat} {D : va_G} {dA : Nat → ClassId} {zx : Nat → Int} {Ln n0 s0 y : Nat} {pc : Nat} {L : zLs} {st : List zAV} {M : zM}
theorem zoff_in {ps : List (Int × Int)} {d x : Int} {P : Int → Prop} (h0 : P d) (h : ∀ o ∈ ps, P o.2) : P (Op.lookupswitch.offset ps d x) := by
  induction ps with
  | nil => exact h0
  | cons q r ih =>
    obtain ⟨a, o⟩ := q
    show P (if a = x then o else Op.lookupswitch.offset r d x)
    split
    · exact h (a, o) List.mem_cons_self
    · exact ih (fun o ho => h o (List.mem_cons_of_mem _ ho))
set_option maxHeartbeats 4000000 in
theorem zsim_step (C : zCtx p R s m args meth c base t b D dA zx Ln y) {I : Instr} {n : Nat} {r : zRes} {pc' : Nat} {L' : zLs} {st' : List zAV} {M' : zM} (hok : zokI y (pc, I, n, r) = true) (hk : zkind I r = 0) (hs : zstep I n r pc L st M = some (pc', L', st', M'))
    (hc1 : n0 ≤ M.1.length) (hc2 : s0 ≤ zslots M.1) (hr1 : M'.1.length - n0 ≤ R.cells) (hr2 : zslots M'.1 - s0 ≤ R.slots) (hr3 : M.1.length - n0 ≤ R.cells) (hr4 : zslots M.1 - s0 ≤ R.slots) (h : zGo p l e R s m args below meth c Q base t b D dA zx Ln n0 s0 y pc' L' st' M') : zGo p l e R s m args below meth c Q base t b D dA zx Ln n0 s0 y pc L st M := by
  obtain ⟨a, f, w, v⟩ := r
  unfold zokI at hok
  rw [Bool.and_eq_true, decide_eq_true_eq] at hok
  obtain ⟨hd, hok⟩ := hok
  cases I with
  | iconst k =>
    have hn : n = 1 := of_decide_eq_true hok
    subst hn
    unfold zstep at hs
    dsimp only at hs
    cases hs
    exact zs_iconst C hd h
  | bipush k =>
    obtain ⟨g1, g2, hn⟩ := of_decide_eq_true hok
    subst hn
    unfold zstep at hs
    dsimp only at hs
    cases hs
    exact zs_bipush C ⟨g1, g2⟩ hd h
  | sipush k =>
    obtain ⟨g1, g2, hn⟩ := of_decide_eq_true hok
    subst hn
    unfold zstep at hs
    dsimp only at hs
    cases hs
    exact zs_sipush C ⟨g1, g2⟩ hd h
  | lconst k =>
    have hn : n = 1 := of_decide_eq_true hok
    subst hn
    unfold zstep at hs
    dsimp only at hs
    cases hs
    exact zs_lconst C hd h
  | fconst k =>
    have hn : n = 1 := of_decide_eq_true hok
    subst hn
    unfold zstep at hs
    dsimp only at hs
    cases hs
    match k, hd, h with
    | 0, hd, h => exact zs_fconst0 C hd h
    | 1, hd, h => exact zs_fconst1 C hd h
    | 2, hd, h => exact zs_fconst2 C hd h
  | dconst k =>
    have hn : n = 1 := of_decide_eq_true hok
    subst hn
    unfold zstep at hs
    dsimp only at hs
    cases hs
    match k, hd, h with
    | 0, hd, h => exact zs_dconst0 C hd h
    | 1, hd, h => exact zs_dconst1 C hd h
  | ldc i =>
    rw [Bool.and_eq_true, decide_eq_true_eq] at hok
    obtain ⟨hn, hok⟩ := hok
    subst hn
    unfold zstep at hs
    dsimp only at hs
    cases hs
    by_cases ha : a = 0
    · rw [if_pos ha] at hok
      rw [if_pos ha] at h
      exact zs_ldcI C (zw_in hok) hd h
    · rw [if_neg ha] at hok
      rw [if_neg ha] at h
      exact zs_ldcF C (zw_in hok) hd h
  | ldc_w i =>
    rw [Bool.and_eq_true, decide_eq_true_eq] at hok
    obtain ⟨hn, hok⟩ := hok
    subst hn
    unfold zstep at hs
    dsimp only at hs
    cases hs
    exact zs_ldcW C (zw_in hok) hd h
  | ldc2_w i =>
    rw [Bool.and_eq_true, decide_eq_true_eq] at hok
    obtain ⟨hn, hok⟩ := hok
    subst hn
    unfold zstep at hs
    dsimp only at hs
    cases hs
    by_cases ha : a = 0
    · rw [if_pos ha] at hok
      rw [if_pos ha] at h
      exact zs_ldc2L C (zw_in hok) hd h
    · rw [if_neg ha] at hok
      rw [if_neg ha] at h
      exact zs_ldc2D C (zw_in hok) hd h
  | iload i =>
    have hn : n = 2 := of_decide_eq_true hok
    subst hn
    unfold zstep at hs
    dsimp only at hs
    split at hs
    · rename_i hl
      cases hs
      exact zs_iload C hl hd h
    · cases hs
  | istore i =>
    have hn : n = 2 := of_decide_eq_true hok
    subst hn
    unfold zstep at hs
    dsimp only at hs
    split at hs
    · split at hs
      · rename_i hi
        cases hs
        exact zs_istore C hi hd h
      · cases hs
    · cases hs
  | iload_n i =>
    have hn : n = 1 := of_decide_eq_true hok
    subst hn
    unfold zstep at hs
    dsimp only at hs
    split at hs
    · rename_i hl
      cases hs
      exact zs_iload_n C hl hd h
    · cases hs
  | istore_n i =>
    have hn : n = 1 := of_decide_eq_true hok
    subst hn
    unfold zstep at hs
    dsimp only at hs
    split at hs
    · split at hs
      · rename_i hi
        cases hs
        exact zs_istore_n C hi hd h
      · cases hs
    · cases hs
  | lload i =>
    have hn : n = 2 := of_decide_eq_true hok
    subst hn
    unfold zstep at hs
    dsimp only at hs
    split at hs
    · rename_i hl
      cases hs
      exact zs_lload C hl hd h
    · cases hs
  | lstore i =>
    have hn : n = 2 := of_decide_eq_true hok
    subst hn
    unfold zstep at hs
    dsimp only at hs
    split at hs
    · split at hs
      · rename_i hi
        cases hs
        exact zs_lstore C hi hd h
      · cases hs
    · cases hs
  | lload_n i =>
    have hn : n = 1 := of_decide_eq_true hok
    subst hn
    unfold zstep at hs
    dsimp only at hs
    split at hs
    · rename_i hl
      cases hs
      exact zs_lload_n C hl hd h
    · cases hs
  | lstore_n i =>
    have hn : n = 1 := of_decide_eq_true hok
    subst hn
    unfold zstep at hs
    dsimp only at hs
    split at hs
    · split at hs
      · rename_i hi
        cases hs
        exact zs_lstore_n C hi hd h
      · cases hs
    · cases hs
  | fload i =>
    have hn : n = 2 := of_decide_eq_true hok
    subst hn
    unfold zstep at hs
    dsimp only at hs
    split at hs
    · rename_i hl
      cases hs
      exact zs_fload C hl hd h
    · cases hs
  | fstore i =>
    have hn : n = 2 := of_decide_eq_true hok
    subst hn
    unfold zstep at hs
    dsimp only at hs
    split at hs
    · split at hs
      · rename_i hi
        cases hs
        exact zs_fstore C hi hd h
      · cases hs
    · cases hs
  | fload_n i =>
    have hn : n = 1 := of_decide_eq_true hok
    subst hn
    unfold zstep at hs
    dsimp only at hs
    split at hs
    · rename_i hl
      cases hs
      exact zs_fload_n C hl hd h
    · cases hs
  | fstore_n i =>
    have hn : n = 1 := of_decide_eq_true hok
    subst hn
    unfold zstep at hs
    dsimp only at hs
    split at hs
    · split at hs
      · rename_i hi
        cases hs
        exact zs_fstore_n C hi hd h
      · cases hs
    · cases hs
  | dload i =>
    have hn : n = 2 := of_decide_eq_true hok
    subst hn
    unfold zstep at hs
    dsimp only at hs
    split at hs
    · rename_i hl
      cases hs
      exact zs_dload C hl hd h
    · cases hs
  | dstore i =>
    have hn : n = 2 := of_decide_eq_true hok
    subst hn
    unfold zstep at hs
    dsimp only at hs
    split at hs
    · split at hs
      · rename_i hi
        cases hs
        exact zs_dstore C hi hd h
      · cases hs
    · cases hs
  | dload_n i =>
    have hn : n = 1 := of_decide_eq_true hok
    subst hn
    unfold zstep at hs
    dsimp only at hs
    split at hs
    · rename_i hl
      cases hs
      exact zs_dload_n C hl hd h
    · cases hs
  | dstore_n i =>
    have hn : n = 1 := of_decide_eq_true hok
    subst hn
    unfold zstep at hs
    dsimp only at hs
    split at hs
    · split at hs
      · rename_i hi
        cases hs
        exact zs_dstore_n C hi hd h
      · cases hs
    · cases hs
  | aload i =>
    have hn : n = 2 := of_decide_eq_true hok
    subst hn
    unfold zstep at hs
    dsimp only at hs
    split at hs
    · rename_i hl
      cases hs
      exact zs_aload C hl hd h
    · cases hs
  | astore i =>
    have hn : n = 2 := of_decide_eq_true hok
    subst hn
    unfold zstep at hs
    dsimp only at hs
    split at hs
    · split at hs
      · rename_i hi
        cases hs
        exact zs_astore C hi hd h
      · cases hs
    · cases hs
  | aload_n i =>
    have hn : n = 1 := of_decide_eq_true hok
    subst hn
    unfold zstep at hs
    dsimp only at hs
    split at hs
    · rename_i hl
      cases hs
      exact zs_aload_n C hl hd h
    · cases hs
  | astore_n i =>
    have hn : n = 1 := of_decide_eq_true hok
    subst hn
    unfold zstep at hs
    dsimp only at hs
    split at hs
    · split at hs
      · rename_i hi
        cases hs
        exact zs_astore_n C hi hd h
      · cases hs
    · cases hs
  | iinc i k =>
    have hn : n = 3 := of_decide_eq_true hok
    subst hn
    unfold zstep at hs
    dsimp only at hs
    split at hs
    · rename_i hl
      cases hs
      exact zs_iinc C hl hd h
    · cases hs
  | iadd =>
    have hn : n = 1 := of_decide_eq_true hok
    subst hn
    unfold zstep at hs
    dsimp only at hs
    split at hs
    · cases hs
      exact zs_iadd C hd h
    · cases hs
  | isub =>
    have hn : n = 1 := of_decide_eq_true hok
    subst hn
    unfold zstep at hs
    dsimp only at hs
    split at hs
    · cases hs
      exact zs_isub C hd h
    · cases hs
  | imul =>
    have hn : n = 1 := of_decide_eq_true hok
    subst hn
    unfold zstep at hs
    dsimp only at hs
    split at hs
    · cases hs
      exact zs_imul C hd h
    · cases hs
  | iand =>
    have hn : n = 1 := of_decide_eq_true hok
    subst hn
    unfold zstep at hs
    dsimp only at hs
    split at hs
    · cases hs
      exact zs_iand C hd h
    · cases hs
  | ior =>
    have hn : n = 1 := of_decide_eq_true hok
    subst hn
    unfold zstep at hs
    dsimp only at hs
    split at hs
    · cases hs
      exact zs_ior C hd h
    · cases hs
  | ixor =>
    have hn : n = 1 := of_decide_eq_true hok
    subst hn
    unfold zstep at hs
    dsimp only at hs
    split at hs
    · cases hs
      exact zs_ixor C hd h
    · cases hs
  | ishl =>
    have hn : n = 1 := of_decide_eq_true hok
    subst hn
    unfold zstep at hs
    dsimp only at hs
    split at hs
    · cases hs
      exact zs_ishl C hd h
    · cases hs
  | ishr =>
    have hn : n = 1 := of_decide_eq_true hok
    subst hn
    unfold zstep at hs
    dsimp only at hs
    split at hs
    · cases hs
      exact zs_ishr C hd h
    · cases hs
  | iushr =>
    have hn : n = 1 := of_decide_eq_true hok
    subst hn
    unfold zstep at hs
    dsimp only at hs
    split at hs
    · cases hs
      exact zs_iushr C hd h
    · cases hs
  | ladd =>
    have hn : n = 1 := of_decide_eq_true hok
    subst hn
    unfold zstep at hs
    dsimp only at hs
    split at hs
    · cases hs
      exact zs_ladd C hd h
    · cases hs
  | lsub =>
    have hn : n = 1 := of_decide_eq_true hok
    subst hn
    unfold zstep at hs
    dsimp only at hs
    split at hs
    · cases hs
      exact zs_lsub C hd h
    · cases hs
  | lmul =>
    have hn : n = 1 := of_decide_eq_true hok
    subst hn
    unfold zstep at hs
    dsimp only at hs
    split at hs
    · cases hs
      exact zs_lmul C hd h
    · cases hs
  | land =>
    have hn : n = 1 := of_decide_eq_true hok
    subst hn
    unfold zstep at hs
    dsimp only at hs
    split at hs
    · cases hs
      exact zs_land C hd h
    · cases hs
  | lor =>
    have hn : n = 1 := of_decide_eq_true hok
    subst hn
    unfold zstep at hs
    dsimp only at hs
    split at hs
    · cases hs
      exact zs_lor C hd h
    · cases hs
  | lshl =>
    have hn : n = 1 := of_decide_eq_true hok
    subst hn
    unfold zstep at hs
    dsimp only at hs
    split at hs
    · cases hs
      exact zs_lshl C hd h
    · cases hs
  | lushr =>
    have hn : n = 1 := of_decide_eq_true hok
    subst hn
    unfold zstep at hs
    dsimp only at hs
    split at hs
    · cases hs
      exact zs_lushr C hd h
    · cases hs
  | lneg =>
    have hn : n = 1 := of_decide_eq_true hok
    subst hn
    unfold zstep at hs
    dsimp only at hs
    split at hs
    · cases hs
      exact zs_lneg C hd h
    · cases hs
  | l2i =>
    have hn : n = 1 := of_decide_eq_true hok
    subst hn
    unfold zstep at hs
    dsimp only at hs
    split at hs
    · cases hs
      exact zs_l2i C hd h
    · cases hs
  | i2b =>
    have hn : n = 1 := of_decide_eq_true hok
    subst hn
    unfold zstep at hs
    dsimp only at hs
    split at hs
    · cases hs
      exact zs_i2b C hd h
    · cases hs
  | i2s =>
    have hn : n = 1 := of_decide_eq_true hok
    subst hn
    unfold zstep at hs
    dsimp only at hs
    split at hs
    · cases hs
      exact zs_i2s C hd h
    · cases hs
  | i2f =>
    have hn : n = 1 := of_decide_eq_true hok
    subst hn
    unfold zstep at hs
    dsimp only at hs
    split at hs
    · cases hs
      exact zs_i2f C hd h
    · cases hs
  | l2d =>
    have hn : n = 1 := of_decide_eq_true hok
    subst hn
    unfold zstep at hs
    dsimp only at hs
    split at hs
    · cases hs
      exact zs_l2d C hd h
    · cases hs
  | d2l =>
    have hn : n = 1 := of_decide_eq_true hok
    subst hn
    unfold zstep at hs
    dsimp only at hs
    split at hs
    · cases hs
      exact zs_d2l C hd h
    · cases hs
  | dneg =>
    have hn : n = 1 := of_decide_eq_true hok
    subst hn
    unfold zstep at hs
    dsimp only at hs
    split at hs
    · cases hs
      exact zs_dneg C hd h
    · cases hs
  | fcmp op =>
    have hn : n = 1 := of_decide_eq_true hok
    subst hn
    unfold zstep at hs
    dsimp only at hs
    split at hs
    · cases hs
      exact zs_fcmp C hd h
    · cases hs
  | dcmp op =>
    have hn : n = 1 := of_decide_eq_true hok
    subst hn
    unfold zstep at hs
    dsimp only at hs
    split at hs
    · cases hs
      exact zs_dcmp C hd h
    · cases hs
  | ldiv =>
    have hn : n = 1 := of_decide_eq_true hok
    subst hn
    unfold zstep at hs
    dsimp only at hs
    split at hs
    · split at hs
      · rename_i hr
        cases hs
        exact zs_ldiv C hr hd h
      · cases hs
    · cases hs
  | lrem =>
    have hn : n = 1 := of_decide_eq_true hok
    subst hn
    unfold zstep at hs
    dsimp only at hs
    split at hs
    · split at hs
      · rename_i hr
        cases hs
        exact zs_lrem C hr hd h
      · cases hs
    · cases hs
  | i2l =>
    have hn : n = 1 := of_decide_eq_true hok
    subst hn
    unfold zstep at hs
    dsimp only at hs
    split at hs
    · cases hs
      exact zs_i2lw C hd h
    · cases hs
  | f2d =>
    have hn : n = 1 := of_decide_eq_true hok
    subst hn
    unfold zstep at hs
    dsimp only at hs
    split at hs
    · split at hs
      · rename_i hr
        cases hs
        exact zs_f2d C hr hd h
      · cases hs
    · cases hs
  | fadd =>
    have hn : n = 1 := of_decide_eq_true hok
    subst hn
    unfold zstep at hs
    dsimp only at hs
    split at hs
    · split at hs
      · rename_i hr
        cases hs
        exact zs_fadd C hr hd h
      · cases hs
    · cases hs
  | fsub =>
    have hn : n = 1 := of_decide_eq_true hok
    subst hn
    unfold zstep at hs
    dsimp only at hs
    split at hs
    · split at hs
      · rename_i hr
        cases hs
        exact zs_fsub C hr hd h
      · cases hs
    · cases hs
  | fmul =>
    have hn : n = 1 := of_decide_eq_true hok
    subst hn
    unfold zstep at hs
    dsimp only at hs
    split at hs
    · split at hs
      · rename_i hr
        cases hs
        exact zs_fmul C hr hd h
      · cases hs
    · cases hs
  | fdiv =>
    have hn : n = 1 := of_decide_eq_true hok
    subst hn
    unfold zstep at hs
    dsimp only at hs
    split at hs
    · split at hs
      · rename_i hr
        cases hs
        exact zs_fdiv C hr hd h
      · cases hs
    · cases hs
  | dadd =>
    have hn : n = 1 := of_decide_eq_true hok
    subst hn
    unfold zstep at hs
    dsimp only at hs
    split at hs
    · split at hs
      · rename_i hr
        cases hs
        exact zs_dadd C hr hd h
      · cases hs
    · cases hs
  | dsub =>
    have hn : n = 1 := of_decide_eq_true hok
    subst hn
    unfold zstep at hs
    dsimp only at hs
    split at hs
    · split at hs
      · rename_i hr
        cases hs
        exact zs_dsub C hr hd h
      · cases hs
    · cases hs
  | dmul =>
    have hn : n = 1 := of_decide_eq_true hok
    subst hn
    unfold zstep at hs
    dsimp only at hs
    split at hs
    · split at hs
      · rename_i hr
        cases hs
        exact zs_dmul C hr hd h
      · cases hs
    · cases hs
  | ddiv =>
    have hn : n = 1 := of_decide_eq_true hok
    subst hn
    unfold zstep at hs
    dsimp only at hs
    split at hs
    · split at hs
      · rename_i hr
        cases hs
        exact zs_ddiv C hr hd h
      · cases hs
    · cases hs
  | dup =>
    have hn : n = 1 := of_decide_eq_true hok
    subst hn
    unfold zstep at hs
    dsimp only at hs
    split at hs
    · split at hs
      · rename_i hr
        cases hs
        exact zs_dup C hr hd h
      · cases hs
    · cases hs
  | pop =>
    have hn : n = 1 := of_decide_eq_true hok
    subst hn
    unfold zstep at hs
    dsimp only at hs
    split at hs
    · split at hs
      · rename_i hr
        cases hs
        exact zs_pop C hr hd h
      · cases hs
    · cases hs
  | lcmp =>
    have hn : n = 1 := of_decide_eq_true hok
    subst hn
    unfold zstep at hs
    dsimp only at hs
    split at hs
    · split at hs
      · rename_i hr
        cases hs
        rcases hr with hr | hr
        · subst hr
          exact zs_lcmpE C hd h
        · exact zs_lcmp C hr.1 hr.2 hd h
      · cases hs
    · cases hs
  | goto o =>
    obtain ⟨g1, hn⟩ := of_decide_eq_true hok
    subst hn
    unfold zstep at hs
    dsimp only at hs
    cases hs
    exact zs_goto C g1 hd h
  | ifCond k o =>
    obtain ⟨g1, hn⟩ := of_decide_eq_true hok
    subst hn
    unfold zstep at hs
    dsimp only at hs
    split at hs
    · split at hs
      · rename_i hr
        cases hs
        cases k with
        | eq => exact zs_if_eq C hr hd g1 h
        | ne => exact zs_if_ne C hr hd g1 h
        | lt => exact zs_if_lt C hr hd g1 h
        | ge => exact zs_if_ge C hr hd g1 h
        | gt => exact zs_if_gt C hr hd g1 h
        | le => exact zs_if_le C hr hd g1 h
      · cases hs
    · cases hs
  | if_icmp k o =>
    obtain ⟨g1, hn⟩ := of_decide_eq_true hok
    subst hn
    unfold zstep at hs
    dsimp only at hs
    split at hs
    · split at hs
      · rename_i hr
        cases hs
        rcases hr with hr | hr
        · subst hr
          exact zs_icmpE C hd g1 h
        · cases k with
          | eq => exact zs_icmp_eq C hr.1 hr.2 hd g1 h
          | ne => exact zs_icmp_ne C hr.1 hr.2 hd g1 h
          | lt => exact zs_icmp_lt C hr.1 hr.2 hd g1 h
          | ge => exact zs_icmp_ge C hr.1 hr.2 hd g1 h
          | gt => exact zs_icmp_gt C hr.1 hr.2 hd g1 h
          | le => exact zs_icmp_le C hr.1 hr.2 hd g1 h
      · cases hs
    · cases hs
  | tableswitch d lo hi os =>
    rw [Bool.and_eq_true, decide_eq_true_eq] at hok
    obtain ⟨g1, g2⟩ := hok
    unfold zstep at hs
    dsimp only at hs
    split at hs
    · split at hs
      · rename_i hr
        split at hs
        · rename_i hc
          cases hs
          exact zs_tableOut C hr hd g1 hc h
        · rename_i hc
          split at hs
          · rename_i o ho
            cases hs
            exact zs_tableIn C hr hd (of_decide_eq_true (List.all_eq_true.mp g2 _ (Array.mem_toList_iff.mpr (Array.mem_of_getElem? ho)))) hc ho h
          · cases hs
      · cases hs
    · cases hs
  | lookupswitch d ps =>
    rw [Bool.and_eq_true, Bool.and_eq_true, decide_eq_true_eq] at hok
    obtain ⟨⟨g1, g2⟩, g3⟩ := hok
    unfold zstep at hs
    dsimp only at hs
    split at hs
    · split at hs
      · rename_i hr
        cases hs
        exact zs_lookup C hr hd g3 (zoff_in (P := fun o => 0 ≤ (pc : Int) + o) g1 (fun o ho => of_decide_eq_true (List.all_eq_true.mp g2 o ho))) h
      · cases hs
    · cases hs
  | getfield i =>
    rw [Bool.and_eq_true, decide_eq_true_eq] at hok
    obtain ⟨⟨g1, g2, hn⟩, g3⟩ := hok
    subst hn
    unfold zfl at g3
    unfold zstep at hs
    dsimp only at hs
    split at hs
    · split at hs
      · rename_i hT
        split at hs
        · rename_i hf; cases hs
          exact zs_getfield C g1 g2 (zw_in g3) hT (by rw [hf]; rfl) hd h
        · rename_i hf; cases hs
          exact zs_getfield C g1 g2 (zw_in g3) hT (by rw [hf]; rfl) hd h
        · rename_i hf; cases hs
          exact zs_getfield C g1 g2 (zw_in g3) hT (by rw [hf]; rfl) hd h
        · rename_i hf; cases hs
          exact zs_getfield C g1 g2 (zw_in g3) hT (by rw [hf]; rfl) hd h
        · rename_i hf
          split at hs
          · rename_i j hj
            cases hs
            exact zs_getfield C g1 g2 (zw_in g3) hT (by rw [hf]; unfold zval; rw [hj]; rfl) hd h
          · cases hs
        · cases hs
      · cases hs
    · cases hs
  | putfield i =>
    rw [Bool.and_eq_true, Bool.and_eq_true, decide_eq_true_eq] at hok
    obtain ⟨⟨⟨g1, g2, hn⟩, g3⟩, g4⟩ := hok
    subst hn
    unfold zfl at g3
    have hfin : ((zcls a).2.1 f).2.2.2 = false ∨ ((zname y).name = "<init>" ∧ ((zcls a).2.1 f).1 = (zname y).cls) := by
      rw [Bool.or_eq_true, Bool.not_eq_true', decide_eq_true_eq] at g4
      exact g4
    have gk := zfty_kd g1 g2
    unfold zstep at hs
    dsimp only at hs
    split at hs
    · rename_i k s9
      split at hs
      · rename_i hT
        split at hs
        · rename_i hf; cases hs
          rw [hf] at gk
          have ty := of_decide_eq_true gk
          refine zs_putfield C g1 g2 (zw_in g3) hT hfin (by rw [ty]; rfl) (by rw [ty]; rfl) (fun j hj => ?_) (fun j _ i => rfl) zup_ne hd h
          unfold zval
          rw [zup_self]
          by_cases q : j = f
          · rw [if_pos q, if_pos q, q, hf]; rfl
          · rw [if_neg q, if_neg q]
        · rename_i hf; split at hs
          · rename_i hv
            cases hs
            rw [hf] at gk
            have ty := of_decide_eq_true gk
            refine zs_putfield C g1 g2 (zw_in g3) hT hfin (by rw [ty]; exact (z1_nar hv).1) (by rw [ty]; exact (z1_nar hv).2) (fun j hj => ?_) (fun j _ i => rfl) zup_ne hd h
            unfold zval
            rw [zup_self]
            by_cases q : j = f
            · rw [if_pos q, if_pos q, q, hf]; rfl
            · rw [if_neg q, if_neg q]
          · cases hs
        · rename_i hf; cases hs
          rw [hf] at gk
          have ty := of_decide_eq_true gk
          refine zs_putfield C g1 g2 (zw_in g3) hT hfin (by rw [ty]; rfl) (by rw [ty]; rfl) (fun j hj => ?_) (fun j _ i => rfl) zup_ne hd h
          unfold zval
          rw [zup_self]
          by_cases q : j = f
          · rw [if_pos q, if_pos q, q, hf]; rfl
          · rw [if_neg q, if_neg q]
        · rename_i x hf; cases hs
          rw [hf] at gk
          have ty := of_decide_eq_true gk
          refine zs_putfield C g1 g2 (zw_in g3) hT hfin (by rw [ty]; rfl) (by rw [ty]; rfl) (fun j hj => ?_) (fun j _ i => rfl) zup_ne hd h
          unfold zval
          rw [zup_self]
          by_cases q : j = f
          · rw [if_pos q, if_pos q, q, hf, Int.toNat_natCast, UInt32.ofNat_toNat]; rfl
          · rw [if_neg q, if_neg q]
        · rename_i x hf; split at hs
          · rename_i hl
            cases hs
            rw [hf] at gk
            have ty : narrow (zfty a f) (zC (zAD base t b) (zR x)) = zC (zAD base t b) (zR x) ∧ fits (zfty a f) (zC (zAD base t b) (zR x)) = true := by
              have gk2 : (match zfty a f with | .object _ => true | .array _ => true | _ => false) = true := gk
              revert gk2
              split
              · rename_i h9; intro _; rw [h9]; exact ⟨rfl, rfl⟩
              · rename_i h9; intro _; rw [h9]; exact ⟨rfl, rfl⟩
              · intro q; cases q
            refine zs_putfield (R' := zrw M.2.1 k f x) (Z' := M.2.2) C g1 g2 (zw_in g3) hT hfin ty.1 ty.2 (fun j hj => ?_) (fun j hj i => zrd_set_ne hj i) (fun j _ i => rfl) hd h
            unfold zval
            rw [zrd_rw hl]
            by_cases q : j = f
            · rw [if_pos q, if_pos q, q, hf]; rfl
            · rw [if_neg q, if_neg q]
          · cases hs
        · cases hs
      · cases hs
    · cases hs
  | getstatic i =>
    rw [Bool.and_eq_true, decide_eq_true_eq] at hok
    obtain ⟨hn, hok⟩ := hok
    subst hn
    unfold zstep at hs
    dsimp only at hs
    cases hs
    by_cases ha : a = 0
    · rw [if_pos ha] at hok
      rw [if_pos ha] at h
      exact zs_getorders C (zw_in hok) hd h
    · rw [if_neg ha] at hok
      rw [if_neg ha] at h
      exact zs_getneg C (zw_in hok) hd h
  | iaload =>
    have hn : n = 1 := of_decide_eq_true hok
    subst hn
    unfold zstep at hs
    dsimp only at hs
    split at hs
    · split at hs
      · rename_i hk0
        subst hk0
        split at hs
        · rename_i hi
          cases hs
          exact zs_iald0 C hi hd h
        · cases hs
      · split at hs
        · rename_i hk1
          subst hk1
          split at hs
          · rename_i hi
            cases hs
            exact zs_iald1 C hi hd h
          · cases hs
        · split at hs
          · rename_i m9 hT
            split at hs
            · rename_i hi
              cases hs
              exact zs_iald C hT hi hd h
            · cases hs
          · cases hs
    · cases hs
  | baload =>
    have hn : n = 1 := of_decide_eq_true hok
    subst hn
    unfold zstep at hs
    dsimp only at hs
    split at hs
    · split at hs
      · rename_i m9 hT
        split at hs
        · rename_i hi
          cases hs
          exact zs_bald C hT hi hd h
        · cases hs
      · rename_i m9 hT
        split at hs
        · rename_i hi
          cases hs
          exact zs_zald C hT hi hd h
        · cases hs
      · cases hs
    · cases hs
  | laload =>
    have hn : n = 1 := of_decide_eq_true hok
    subst hn
    unfold zstep at hs
    dsimp only at hs
    split at hs
    · split at hs
      · rename_i m9 hT
        split at hs
        · rename_i hi
          cases hs
          exact zs_lald C hT hi hd h
        · cases hs
      · cases hs
    · cases hs
  | faload =>
    have hn : n = 1 := of_decide_eq_true hok
    subst hn
    unfold zstep at hs
    dsimp only at hs
    split at hs
    · split at hs
      · rename_i m9 hT
        split at hs
        · rename_i hi
          cases hs
          exact zs_fald C hT hi hd h
        · cases hs
      · cases hs
    · cases hs
  | aaload =>
    have hn : n = 1 := of_decide_eq_true hok
    subst hn
    unfold zstep at hs
    dsimp only at hs
    split at hs
    · split at hs
      · rename_i m9 hT
        split at hs
        · rename_i hi
          split at hs
          · rename_i j hj
            cases hs
            exact zs_aald C hT hi hj hd h
          · cases hs
        · cases hs
      · cases hs
    · cases hs
  | iastore =>
    have hn : n = 1 := of_decide_eq_true hok
    subst hn
    unfold zstep at hs
    dsimp only at hs
    split at hs
    · split at hs
      · rename_i m9 hT
        split at hs
        · rename_i hi
          cases hs
          exact zs_iast C hT hi hd h
        · cases hs
      · cases hs
    · cases hs
  | bastore =>
    have hn : n = 1 := of_decide_eq_true hok
    subst hn
    unfold zstep at hs
    dsimp only at hs
    split at hs
    · split at hs
      · rename_i m9 hT
        split at hs
        · rename_i hi
          cases hs
          exact zs_bast C hT hi.1 hi.2 hd h
        · cases hs
      · rename_i m9 hT
        split at hs
        · rename_i hi
          cases hs
          exact zs_zast C hT hi.1 hi.2 hd h
        · cases hs
      · cases hs
    · cases hs
  | lastore =>
    have hn : n = 1 := of_decide_eq_true hok
    subst hn
    unfold zstep at hs
    dsimp only at hs
    split at hs
    · split at hs
      · rename_i m9 hT
        split at hs
        · rename_i hi
          cases hs
          exact zs_last C hT hi hd h
        · cases hs
      · cases hs
    · cases hs
  | fastore =>
    have hn : n = 1 := of_decide_eq_true hok
    subst hn
    unfold zstep at hs
    dsimp only at hs
    split at hs
    · split at hs
      · rename_i m9 hT
        split at hs
        · rename_i hi
          cases hs
          exact zs_fast C hT hi hd h
        · cases hs
      · cases hs
    · cases hs
  | aastore =>
    have hn : n = 1 := of_decide_eq_true hok
    subst hn
    unfold zstep at hs
    dsimp only at hs
    split at hs
    · split at hs
      · rename_i m9 hT
        split at hs
        · rename_i hi
          cases hs
          exact zs_aast C hT hi.1 hi.2.1 hi.2.2 hd h
        · cases hs
      · cases hs
    · cases hs
  | arraylength =>
    have hn : n = 1 := of_decide_eq_true hok
    subst hn
    unfold zstep at hs
    dsimp only at hs
    split at hs
    · split at hs
      · rename_i hk1
        subst hk1
        cases hs
        exact zs_alen1 C hd h
      · split at hs
        · rename_i hT
          split at hs
          · rename_i ha
            cases hs
            exact zs_alen C ha.1 hT (zalen_ty ha.1 ha.2) hd h
          · cases hs
        · cases hs
    · cases hs
  | new i =>
    rw [Bool.and_eq_true, Bool.and_eq_true, Bool.and_eq_true, decide_eq_true_eq] at hok
    obtain ⟨⟨⟨⟨g1, hn⟩, g2⟩, g3⟩, g4⟩ := hok
    subst hn
    unfold zstep at hs
    dsimp only at hs
    split at hs
    · rename_i hl
      cases hs
      simp only [List.length_append, zslots_app] at hr1 hr2
      have e1 : zdsl (a, 0) = (zcls a).2.2 := if_pos (by show a < 10; omega)
      rw [e1] at hr2
      simp only [List.length_cons, List.length_nil] at hr1
      exact zs_new C g1 hl hc1 hc2 (by omega) (by omega) (zw_in g2) (zw_in g3) (zw_in g4) hd h
    · cases hs
  | newarray k9 =>
    rw [Bool.and_eq_true, decide_eq_true_eq] at hok
    obtain ⟨hn, hok⟩ := hok
    subst hn
    unfold zstep at hs
    dsimp only at hs
    split at hs
    · split at hs
      · rename_i hl
        cases hs
        have hk9 : (k9 = .int ∨ k9 = .long ∨ k9 = .float) ∨ k9 = .byte ∨ k9 = .boolean := by
          cases k9 <;> first | exact Or.inl (Or.inl rfl) | exact Or.inl (Or.inr (Or.inl rfl)) | exact Or.inl (Or.inr (Or.inr rfl)) | exact Or.inr (Or.inl rfl) | exact Or.inr (Or.inr rfl) | exact absurd hok (by decide +kernel)
        have hkd : ¬ zkd k9 < 10 := by rcases hk9 with (rfl | rfl | rfl) | rfl | rfl <;> decide
        simp only [List.length_append, zslots_app, List.length_cons, List.length_nil, zdsl, if_neg hkd] at hr1 hr2
        exact zs_newarray C hk9 hl.1 hl.2 hc1 hc2 (by omega) (by omega) (zw_in hok) hd h
      · cases hs
    · cases hs
  | anewarray i =>
    rw [Bool.and_eq_true, decide_eq_true_eq] at hok
    obtain ⟨⟨ha, hn⟩, hok⟩ := hok
    subst hn
    subst ha
    unfold zstep at hs
    dsimp only at hs
    split at hs
    · split at hs
      · rename_i m9 s9 hl
        cases hs
        simp only [List.length_append, zslots_app, List.length_cons, List.length_nil] at hr1 hr2
        have e1 : zdsl (15, m9.toNat) = m9.toNat := rfl
        rw [e1] at hr2
        exact zs_anewarray C hl.1 hl.2 hc1 hc2 (by omega) (by omega) (zw_in hok) hd h
      · cases hs
    · cases hs
  | invokespecial i =>
    unfold zkind at hk
    have ha : ¬ a < 1000 := fun q => by rw [if_pos q] at hk; cases hk
    unfold zstep at hs
    dsimp only at hs
    split at hs
    · rename_i h4
      have h4 : a = 1004 := h4
      dsimp only at hok
      rw [if_pos h4, Bool.and_eq_true, decide_eq_true_eq] at hok
      obtain ⟨⟨hn, g1, g2⟩, g3⟩ := hok
      subst hn
      split at hs
      · split at hs
        · rename_i hq
          cases hs
          exact zs_objInit C (zw_in g3) ⟨g1, g2⟩ hq hd h
        · cases hs
      · cases hs
    · cases hs
  | invokestatic i =>
    unfold zkind at hk
    have ha : ¬ a < 1000 := fun q => by rw [if_pos q] at hk; cases hk
    dsimp only at hok
    rw [if_pos (show 1000 ≤ a by omega), Bool.and_eq_true, decide_eq_true_eq] at hok
    obtain ⟨⟨hn, -, -, g1, g2⟩, g3⟩ := hok
    subst hn
    unfold zstep at hs
    dsimp only at hs
    split at hs
    · rename_i h9
      have h9 : a = 1000 := h9
      subst h9
      split at hs
      · split at hs
        · rename_i na nb hTs hTd
          split at hs
          · rename_i hq
            cases hs
            exact zs_copy C (zw_in g3) ⟨g1, g2⟩ hq.2.2.2.2.2 hTs hTd hq.1 hq.2.1 hq.2.2.1 hq.2.2.2.1 hq.2.2.2.2.1 hd h
          · cases hs
        · cases hs
      · cases hs
    · skip
      split at hs
      · rename_i h9
        have h9 : a = 1001 := h9
        subst h9
        split at hs
        · split at hs
          · rename_i hq
            cases hs
            exact zs_f2i C (zw_in g3) ⟨g1, g2⟩ hq hd h
          · cases hs
        · cases hs
      · skip
        split at hs
        · rename_i h9
          have h9 : a = 1002 := h9
          subst h9
          split at hs
          · split at hs
            · rename_i hq
              cases hs
              exact zs_d2raw C (zw_in g3) ⟨g1, g2⟩ hq hd h
            · cases hs
          · cases hs
        · skip
          split at hs
          · rename_i h9
            have h9 : a = 1003 := h9
            subst h9
            split at hs
            · split at hs
              · rename_i hq
                cases hs
                exact zs_l2raw C hq.2 (zw_in g3) ⟨g1, g2⟩ hq.1 hd h
              · cases hs
            · cases hs
          · skip
            split at hs
            · rename_i h9
              have h9 : a = 1005 := h9
              subst h9
              split at hs
              · split at hs
                · rename_i hq
                  cases hs
                  exact zs_dabs C hq.2 (zw_in g3) ⟨g1, g2⟩ hq.1 hd ⟨hr3, hr4⟩ h
                · cases hs
              · cases hs
            · skip
              split at hs
              · rename_i h9
                have h9 : a = 1006 := h9
                subst h9
                split at hs
                · split at hs
                  · rename_i hq
                    cases hs
                    exact zs_dmax C hq.2.1 hq.2.2 (zw_in g3) ⟨g1, g2⟩ hq.1 hd ⟨hr3, hr4⟩ h
                  · cases hs
                · cases hs
              · skip
                cases hs
  | ireturn => cases hk
  | lreturn => cases hk
  | freturn => cases hk
  | dreturn => cases hk
  | return_ => cases hk
  | invokevirtual _ => cases hk
  | _ => exact absurd hs (by unfold zstep; exact fun q => by cases q)
end ZSTEP
