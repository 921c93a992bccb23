/-! THE STATE BEHIND THE CONSTRUCTORS: 80 cells, and who refers to whom -/
def zTT : List (Nat × Nat) := [(7, 0), (3, 0), (0, 0), (10, 6), (10, 6), (10, 64), (11, 6), (3, 0), (0, 0), (10, 6), (10, 6), (10, 64), (11, 6), (0, 0), (10, 6), (10, 6), (10, 64), (6, 0), (12, 6), (12, 6), (2, 0), (10, 5), (10, 5), (2, 0), (10, 8), (10, 8), (2, 0), (10, 8), (10, 8), (5, 0), (13, 100), (10, 12), (10, 12), (10, 12), (15, 6), (1, 0), (3, 0), (0, 0), (10, 6), (10, 6), (10, 64), (11, 6), (2, 0), (10, 5), (10, 5), (2, 0), (10, 8), (10, 8), (2, 0), (10, 8), (10, 8), (4, 0), (11, 60), (4, 0), (11, 60), (4, 0), (11, 60), (4, 0), (11, 60), (4, 0), (11, 60), (4, 0), (11, 60), (8, 0), (10, 6), (10, 5), (10, 5), (10, 8), (10, 8), (10, 8), (10, 8), (10, 100), (10, 60), (10, 60), (14, 6), (12, 6), (10, 6), (10, 6), (11, 360), (11, 60)]
def zRR : List (List (Option Nat)) := [[some 1, some 7, some 13, some 17, some 20, some 23, some 26, some 29, some 34, some 35], [some 2, some 6, none, none], [some 3, some 4, some 5, none], [], [], [], [], [some 8, some 12, none, none], [some 9, some 10, some 11, none], [], [], [], [], [some 14, some 15, some 16, none], [], [], [], [some 18, some 19, none, none, none], [], [], [some 21, some 22, none, none], [], [], [some 24, some 25, none, none], [], [], [some 27, some 28, none, none], [], [], [some 30, none, some 31, some 32, some 33, none, none], [], [], [], [], [some 51, some 53, some 55, some 57, some 59, some 61], [some 36, some 42, some 45, some 48, none], [some 37, some 41, none, none], [some 38, some 39, some 40, none], [], [], [], [], [some 43, some 44, none, none], [], [], [some 46, some 47, none, none], [], [], [some 49, some 50, none, none], [], [], [some 52, none, none], [], [some 54, none, none], [], [some 56, none, none], [], [some 58, none, none], [], [some 60, none, none], [], [some 62, none, none], [], [none, some 64, none, none, none, some 65, some 66, none, some 67, some 68, none, some 69, some 70, some 71, none, some 72, some 73, none, none, none, none, none, none, none, some 74, some 75, none, some 76, some 77, some 78, some 79], [], [], [], [], [], [], [], [], [], [], [], [], [], [], [], []]
/-- from an instruction on, the run comes to an end that Q holds of -/
theorem zE_ex : ∃ P : Nat → Nat → zLs → List zAV → zMem → (Option zAV → zMem → Prop) → Prop, ∀ y pc L st Z Q, P y pc L st Z Q ↔ ∃ (f : Nat) (v : Option zAV) (Z' : zMem), zrun f y pc L st (zTT, zRR, Z) = some (v, (zTT, zRR, Z')) ∧ Q v Z' := ⟨_, fun _ _ _ _ _ _ => Iff.rfl⟩
noncomputable def zE : Nat → Nat → zLs → List zAV → zMem → (Option zAV → zMem → Prop) → Prop := Classical.choose zE_ex
theorem zE_iff {y pc : Nat} {L : zLs} {st : List zAV} {Z : zMem} {Q : Option zAV → zMem → Prop} : zE y pc L st Z Q ↔ ∃ (f : Nat) (v : Option zAV) (Z' : zMem), zrun f y pc L st (zTT, zRR, Z) = some (v, (zTT, zRR, Z')) ∧ Q v Z' := Classical.choose_spec zE_ex y pc L st Z Q
theorem zE_mono {y pc : Nat} {L : zLs} {st : List zAV} {Z : zMem} {Q Q' : Option zAV → zMem → Prop} (h : zE y pc L st Z Q) (hq : ∀ v Z', Q v Z' → Q' v Z') : zE y pc L st Z Q' := by
  rw [zE_iff] at h ⊢
  obtain ⟨f, v, Z', h1, h2⟩ := h
  exact ⟨f, v, Z', h1, hq v Z' h2⟩
theorem zE_step {y pc : Nat} {L : zLs} {st : List zAV} {Z : zMem} {Q : Option zAV → zMem → Prop} {I : Instr} {n : Nat} {r : zRes} {pc' : Nat} {L' : zLs} {st' : List zAV} {Z' : zMem} (hc : zcode y pc = some (I, n, r)) (hk : zkind I r = 0) (hs : zstep I n r pc L st (zTT, zRR, Z) = some (pc', L', st', (zTT, zRR, Z'))) (h : zE y pc' L' st' Z' Q) : zE y pc L st Z Q := by
  rw [zE_iff] at h ⊢
  obtain ⟨f, v, Z9, h1, h2⟩ := h
  refine ⟨f + 1, v, Z9, ?_, h2⟩
  unfold zrun
  simp only [hc, hk, hs]
  exact h1
theorem zE_leave {y pc : Nat} {L : zLs} {st : List zAV} {Z : zMem} {Q : Option zAV → zMem → Prop} {I : Instr} {n : Nat} {r : zRes} {v : Option zAV} (hc : zcode y pc = some (I, n, r)) (hk : zkind I r = 1) (hl : zleave I r st = some v) (h : Q v Z) : zE y pc L st Z Q := by
  rw [zE_iff]
  refine ⟨1, v, Z, ?_, h⟩
  unfold zrun
  simp only [hc, hk, hl]
theorem zE_call {y pc : Nat} {L : zLs} {Z : zMem} {Q : Option zAV → zMem → Prop} {I : Instr} {n : Nat} {r : zRes} {vs st : List zAV} (k : Nat) (hc : zcode y pc = some (I, n, r)) (hk : zkind I r = 2) (ht : ztake r.1 = k) (hst : st.take k = vs.reverse) (hl : k ≤ st.length) (hs : ((st.drop k).map zcat).sum ≤ 8) (hm : (zsl vs).length ≤ zml r.1) (hr : zrecv r.1 (zTT, zRR, Z) vs = true)
    (h : zE r.1 0 (zent r.1 vs) [] Z (fun v Z' => zE y (pc + n) L (v.toList ++ st.drop k) Z' Q)) : zE y pc L st Z Q := by
  rw [zE_iff] at h ⊢
  obtain ⟨f, v, Z', h1, h0⟩ := h
  rw [zE_iff] at h0
  obtain ⟨f2, v2, Z2, h2, h3⟩ := h0
  have e1 := zrun_more _ _ _ _ _ _ _ (f + f2) h1 (Nat.le_add_right _ _)
  have e2 := zrun_more _ _ _ _ _ _ _ (f + f2) h2 (Nat.le_add_left _ _)
  refine ⟨f + f2 + 1, v2, Z2, ?_, h3⟩
  subst ht
  have hv : (st.take (ztake r.1)).reverse = vs := by rw [hst, List.reverse_reverse]
  unfold zrun
  simp only [hc, hk]
  rw [if_pos ⟨hl, hs, by rw [hv]; exact hm, by rw [hv]; exact hr⟩, hv, e1]
  exact e2
section ZEI
variable {y pc : Nat} {L : zLs} {st : List zAV} {Z : zMem} {Q : Option zAV → zMem → Prop} {r : zRes}
theorem ze_iconst {k : Int} (hc : zcode y pc = some (.iconst k, 1, r)) (h : zE y (pc + 1) L (zI k :: st) Z Q) : zE y pc L st Z Q := zE_step hc rfl (rfl) h
theorem ze_bipush {k : Int} (hc : zcode y pc = some (.bipush k, 2, r)) (h : zE y (pc + 2) L (zI k :: st) Z Q) : zE y pc L st Z Q := zE_step hc rfl (rfl) h
theorem ze_sipush {k : Int} (hc : zcode y pc = some (.sipush k, 3, r)) (h : zE y (pc + 3) L (zI k :: st) Z Q) : zE y pc L st Z Q := zE_step hc rfl (rfl) h
theorem ze_lconst0  (hc : zcode y pc = some (.lconst 0, 1, r)) (h : zE y (pc + 1) L (zL 0 :: st) Z Q) : zE y pc L st Z Q := zE_step hc rfl (rfl) h
theorem ze_lconst1  (hc : zcode y pc = some (.lconst 1, 1, r)) (h : zE y (pc + 1) L (zL 1 :: st) Z Q) : zE y pc L st Z Q := zE_step hc rfl (rfl) h
theorem ze_fconst0  (hc : zcode y pc = some (.fconst 0, 1, r)) (h : zE y (pc + 1) L (zF FP.fconst0 :: st) Z Q) : zE y pc L st Z Q := zE_step hc rfl (rfl) h
theorem ze_fconst1  (hc : zcode y pc = some (.fconst 1, 1, r)) (h : zE y (pc + 1) L (zF FP.fconst1 :: st) Z Q) : zE y pc L st Z Q := zE_step hc rfl (rfl) h
theorem ze_fconst2  (hc : zcode y pc = some (.fconst 2, 1, r)) (h : zE y (pc + 1) L (zF FP.fconst2 :: st) Z Q) : zE y pc L st Z Q := zE_step hc rfl (rfl) h
theorem ze_dconst0  (hc : zcode y pc = some (.dconst 0, 1, r)) (h : zE y (pc + 1) L (zD FP.dconst0 :: st) Z Q) : zE y pc L st Z Q := zE_step hc rfl (rfl) h
theorem ze_dconst1  (hc : zcode y pc = some (.dconst 1, 1, r)) (h : zE y (pc + 1) L (zD FP.dconst1 :: st) Z Q) : zE y pc L st Z Q := zE_step hc rfl (rfl) h
theorem ze_ldcI {i a b : Nat} {v : Int} (hc : zcode y pc = some (.ldc i, 2, (0, a, b, v))) (h : zE y (pc + 2) L (zI v :: st) Z Q) : zE y pc L st Z Q := zE_step hc rfl rfl h
theorem ze_ldcF {i a b : Nat} {v : Int} (hc : zcode y pc = some (.ldc i, 2, (1, a, b, v))) (h : zE y (pc + 2) L (zF (UInt32.ofNat v.toNat) :: st) Z Q) : zE y pc L st Z Q := zE_step hc rfl rfl h
theorem ze_ldcW {i x a b : Nat} {v : Int} (hc : zcode y pc = some (.ldc_w i, 3, (x, a, b, v))) (h : zE y (pc + 3) L (zI v :: st) Z Q) : zE y pc L st Z Q := zE_step hc rfl rfl h
theorem ze_ldc2L {i a b : Nat} {v : Int} (hc : zcode y pc = some (.ldc2_w i, 3, (0, a, b, v))) (h : zE y (pc + 3) L (zL v :: st) Z Q) : zE y pc L st Z Q := zE_step hc rfl rfl h
theorem ze_ldc2D {i a b : Nat} {v : Int} (hc : zcode y pc = some (.ldc2_w i, 3, (1, a, b, v))) (h : zE y (pc + 3) L (zD (UInt64.ofNat v.toNat) :: st) Z Q) : zE y pc L st Z Q := zE_step hc rfl rfl h
theorem ze_iload {i : Nat} {x : Int} (hc : zcode y pc = some (.iload i, 2, r)) (hl : L.getD i none = some (zI x)) (h : zE y (pc + 2) L (zI x :: st) Z Q) : zE y pc L st Z Q := zE_step hc rfl (by unfold zstep; dsimp only; rw [hl]) h
theorem ze_istore {i : Nat} {x : Int} (hc : zcode y pc = some (.istore i, 2, r)) (hl : (i : Nat) < L.length) (h : zE y (pc + 2) (zset1 L i (zI x)) st Z Q) : zE y pc L (zI x :: st) Z Q := zE_step hc rfl (by unfold zstep; dsimp only; rw [if_pos hl]) h
theorem ze_iload_n {i : Fin 4} {x : Int} (hc : zcode y pc = some (.iload_n i, 1, r)) (hl : L.getD i none = some (zI x)) (h : zE y (pc + 1) L (zI x :: st) Z Q) : zE y pc L st Z Q := zE_step hc rfl (by unfold zstep; dsimp only; rw [hl]) h
theorem ze_istore_n {i : Fin 4} {x : Int} (hc : zcode y pc = some (.istore_n i, 1, r)) (hl : (i : Nat) < L.length) (h : zE y (pc + 1) (zset1 L i (zI x)) st Z Q) : zE y pc L (zI x :: st) Z Q := zE_step hc rfl (by unfold zstep; dsimp only; rw [if_pos hl]) h
theorem ze_lload {i : Nat} {x : Int} (hc : zcode y pc = some (.lload i, 2, r)) (hl : L.getD i none = some (zL x)) (h : zE y (pc + 2) L (zL x :: st) Z Q) : zE y pc L st Z Q := zE_step hc rfl (by unfold zstep; dsimp only; rw [hl]) h
theorem ze_lstore {i : Nat} {x : Int} (hc : zcode y pc = some (.lstore i, 2, r)) (hl : (i : Nat) + 1 < L.length) (h : zE y (pc + 2) (zset2 L i (zL x)) st Z Q) : zE y pc L (zL x :: st) Z Q := zE_step hc rfl (by unfold zstep; dsimp only; rw [if_pos hl]) h
theorem ze_lload_n {i : Fin 4} {x : Int} (hc : zcode y pc = some (.lload_n i, 1, r)) (hl : L.getD i none = some (zL x)) (h : zE y (pc + 1) L (zL x :: st) Z Q) : zE y pc L st Z Q := zE_step hc rfl (by unfold zstep; dsimp only; rw [hl]) h
theorem ze_lstore_n {i : Fin 4} {x : Int} (hc : zcode y pc = some (.lstore_n i, 1, r)) (hl : (i : Nat) + 1 < L.length) (h : zE y (pc + 1) (zset2 L i (zL x)) st Z Q) : zE y pc L (zL x :: st) Z Q := zE_step hc rfl (by unfold zstep; dsimp only; rw [if_pos hl]) h
theorem ze_fload {i : Nat} {x : UInt32} (hc : zcode y pc = some (.fload i, 2, r)) (hl : L.getD i none = some (zF x)) (h : zE y (pc + 2) L (zF x :: st) Z Q) : zE y pc L st Z Q := zE_step hc rfl (by unfold zstep; dsimp only; rw [hl]) h
theorem ze_fstore {i : Nat} {x : UInt32} (hc : zcode y pc = some (.fstore i, 2, r)) (hl : (i : Nat) < L.length) (h : zE y (pc + 2) (zset1 L i (zF x)) st Z Q) : zE y pc L (zF x :: st) Z Q := zE_step hc rfl (by unfold zstep; dsimp only; rw [if_pos hl]) h
theorem ze_fload_n {i : Fin 4} {x : UInt32} (hc : zcode y pc = some (.fload_n i, 1, r)) (hl : L.getD i none = some (zF x)) (h : zE y (pc + 1) L (zF x :: st) Z Q) : zE y pc L st Z Q := zE_step hc rfl (by unfold zstep; dsimp only; rw [hl]) h
theorem ze_fstore_n {i : Fin 4} {x : UInt32} (hc : zcode y pc = some (.fstore_n i, 1, r)) (hl : (i : Nat) < L.length) (h : zE y (pc + 1) (zset1 L i (zF x)) st Z Q) : zE y pc L (zF x :: st) Z Q := zE_step hc rfl (by unfold zstep; dsimp only; rw [if_pos hl]) h
theorem ze_dload {i : Nat} {x : UInt64} (hc : zcode y pc = some (.dload i, 2, r)) (hl : L.getD i none = some (zD x)) (h : zE y (pc + 2) L (zD x :: st) Z Q) : zE y pc L st Z Q := zE_step hc rfl (by unfold zstep; dsimp only; rw [hl]) h
theorem ze_dstore {i : Nat} {x : UInt64} (hc : zcode y pc = some (.dstore i, 2, r)) (hl : (i : Nat) + 1 < L.length) (h : zE y (pc + 2) (zset2 L i (zD x)) st Z Q) : zE y pc L (zD x :: st) Z Q := zE_step hc rfl (by unfold zstep; dsimp only; rw [if_pos hl]) h
theorem ze_dload_n {i : Fin 4} {x : UInt64} (hc : zcode y pc = some (.dload_n i, 1, r)) (hl : L.getD i none = some (zD x)) (h : zE y (pc + 1) L (zD x :: st) Z Q) : zE y pc L st Z Q := zE_step hc rfl (by unfold zstep; dsimp only; rw [hl]) h
theorem ze_dstore_n {i : Fin 4} {x : UInt64} (hc : zcode y pc = some (.dstore_n i, 1, r)) (hl : (i : Nat) + 1 < L.length) (h : zE y (pc + 1) (zset2 L i (zD x)) st Z Q) : zE y pc L (zD x :: st) Z Q := zE_step hc rfl (by unfold zstep; dsimp only; rw [if_pos hl]) h
theorem ze_aload {i : Nat} {x : Nat} (hc : zcode y pc = some (.aload i, 2, r)) (hl : L.getD i none = some (zR x)) (h : zE y (pc + 2) L (zR x :: st) Z Q) : zE y pc L st Z Q := zE_step hc rfl (by unfold zstep; dsimp only; rw [hl]) h
theorem ze_astore {i : Nat} {x : Nat} (hc : zcode y pc = some (.astore i, 2, r)) (hl : (i : Nat) < L.length) (h : zE y (pc + 2) (zset1 L i (zR x)) st Z Q) : zE y pc L (zR x :: st) Z Q := zE_step hc rfl (by unfold zstep; dsimp only; rw [if_pos hl]) h
theorem ze_aload_n {i : Fin 4} {x : Nat} (hc : zcode y pc = some (.aload_n i, 1, r)) (hl : L.getD i none = some (zR x)) (h : zE y (pc + 1) L (zR x :: st) Z Q) : zE y pc L st Z Q := zE_step hc rfl (by unfold zstep; dsimp only; rw [hl]) h
theorem ze_astore_n {i : Fin 4} {x : Nat} (hc : zcode y pc = some (.astore_n i, 1, r)) (hl : (i : Nat) < L.length) (h : zE y (pc + 1) (zset1 L i (zR x)) st Z Q) : zE y pc L (zR x :: st) Z Q := zE_step hc rfl (by unfold zstep; dsimp only; rw [if_pos hl]) h
theorem ze_iinc {i : Nat} {k x : Int} (hc : zcode y pc = some (.iinc i k, 3, r)) (hl : L.getD i none = some (zI x)) (h : zE y (pc + 3) (zset1 L i (zI (x + k))) st Z Q) : zE y pc L st Z Q := zE_step hc rfl (by unfold zstep; dsimp only; rw [hl]) h
theorem ze_iadd {x w : Int} (hc : zcode y pc = some (.iadd, 1, r)) (h : zE y (pc + 1) L (zI (x + w) :: st) Z Q) : zE y pc L (zI w :: zI x :: st) Z Q := zE_step hc rfl (rfl) h
theorem ze_isub {x w : Int} (hc : zcode y pc = some (.isub, 1, r)) (h : zE y (pc + 1) L (zI (x - w) :: st) Z Q) : zE y pc L (zI w :: zI x :: st) Z Q := zE_step hc rfl (rfl) h
theorem ze_imul {x w : Int} (hc : zcode y pc = some (.imul, 1, r)) (h : zE y (pc + 1) L (zI (x * w) :: st) Z Q) : zE y pc L (zI w :: zI x :: st) Z Q := zE_step hc rfl (rfl) h
theorem ze_iand {x w : Int} (hc : zcode y pc = some (.iand, 1, r)) (h : zE y (pc + 1) L (zI (Int32.ofInt x &&& Int32.ofInt w).toInt :: st) Z Q) : zE y pc L (zI w :: zI x :: st) Z Q := zE_step hc rfl (rfl) h
theorem ze_ior {x w : Int} (hc : zcode y pc = some (.ior, 1, r)) (h : zE y (pc + 1) L (zI (Int32.ofInt x ||| Int32.ofInt w).toInt :: st) Z Q) : zE y pc L (zI w :: zI x :: st) Z Q := zE_step hc rfl (rfl) h
theorem ze_ixor {x w : Int} (hc : zcode y pc = some (.ixor, 1, r)) (h : zE y (pc + 1) L (zI (Int32.ofInt x ^^^ Int32.ofInt w).toInt :: st) Z Q) : zE y pc L (zI w :: zI x :: st) Z Q := zE_step hc rfl (rfl) h
theorem ze_ishl {x w : Int} (hc : zcode y pc = some (.ishl, 1, r)) (h : zE y (pc + 1) L (zI (Int32.ofInt x <<< (Int32.ofInt w &&& 31)).toInt :: st) Z Q) : zE y pc L (zI w :: zI x :: st) Z Q := zE_step hc rfl (rfl) h
theorem ze_ishr {x w : Int} (hc : zcode y pc = some (.ishr, 1, r)) (h : zE y (pc + 1) L (zI (Int32.ofInt x >>> (Int32.ofInt w &&& 31)).toInt :: st) Z Q) : zE y pc L (zI w :: zI x :: st) Z Q := zE_step hc rfl (rfl) h
theorem ze_iushr {x w : Int} (hc : zcode y pc = some (.iushr, 1, r)) (h : zE y (pc + 1) L (zI (((Int32.ofInt x).toUInt32 >>> ((Int32.ofInt w).toUInt32 &&& Int32.toUInt32 31)).toInt32).toInt :: st) Z Q) : zE y pc L (zI w :: zI x :: st) Z Q := zE_step hc rfl (rfl) h
theorem ze_ladd {x w : Int} (hc : zcode y pc = some (.ladd, 1, r)) (h : zE y (pc + 1) L (zL (x + w) :: st) Z Q) : zE y pc L (zL w :: zL x :: st) Z Q := zE_step hc rfl (rfl) h
theorem ze_lsub {x w : Int} (hc : zcode y pc = some (.lsub, 1, r)) (h : zE y (pc + 1) L (zL (x - w) :: st) Z Q) : zE y pc L (zL w :: zL x :: st) Z Q := zE_step hc rfl (rfl) h
theorem ze_lmul {x w : Int} (hc : zcode y pc = some (.lmul, 1, r)) (h : zE y (pc + 1) L (zL (x * w) :: st) Z Q) : zE y pc L (zL w :: zL x :: st) Z Q := zE_step hc rfl (rfl) h
theorem ze_land {x w : Int} (hc : zcode y pc = some (.land, 1, r)) (h : zE y (pc + 1) L (zL (Int64.ofInt x &&& Int64.ofInt w).toInt :: st) Z Q) : zE y pc L (zL w :: zL x :: st) Z Q := zE_step hc rfl (rfl) h
theorem ze_lor {x w : Int} (hc : zcode y pc = some (.lor, 1, r)) (h : zE y (pc + 1) L (zL (Int64.ofInt x ||| Int64.ofInt w).toInt :: st) Z Q) : zE y pc L (zL w :: zL x :: st) Z Q := zE_step hc rfl (rfl) h
theorem ze_lshl {x w : Int} (hc : zcode y pc = some (.lshl, 1, r)) (h : zE y (pc + 1) L (zL (Int64.ofInt x <<< ((Int32.ofInt w).toInt64 &&& 63)).toInt :: st) Z Q) : zE y pc L (zI w :: zL x :: st) Z Q := zE_step hc rfl (rfl) h
theorem ze_lushr {x w : Int} (hc : zcode y pc = some (.lushr, 1, r)) (h : zE y (pc + 1) L (zL (((Int64.ofInt x).toUInt64 >>> ((Int32.ofInt w).toInt64.toUInt64 &&& Int64.toUInt64 63)).toInt64).toInt :: st) Z Q) : zE y pc L (zI w :: zL x :: st) Z Q := zE_step hc rfl (rfl) h
theorem ze_ldiv {x w : Int} (hc : zcode y pc = some (.ldiv, 1, r)) (hr : 0 < w ∧ w ≤ 9223372036854775807 ∧ -9223372036854775808 ≤ x ∧ x ≤ 9223372036854775807) (h : zE y (pc + 1) L (zL (x.tdiv w) :: st) Z Q) : zE y pc L (zL w :: zL x :: st) Z Q := zE_step hc rfl (by unfold zstep; dsimp only; rw [if_pos hr]) h
theorem ze_lrem {x w : Int} (hc : zcode y pc = some (.lrem, 1, r)) (hr : 0 < w ∧ w ≤ 9223372036854775807 ∧ -9223372036854775808 ≤ x ∧ x ≤ 9223372036854775807) (h : zE y (pc + 1) L (zL (x.tmod w) :: st) Z Q) : zE y pc L (zL w :: zL x :: st) Z Q := zE_step hc rfl (by unfold zstep; dsimp only; rw [if_pos hr]) h
theorem ze_lneg {x : Int} (hc : zcode y pc = some (.lneg, 1, r)) (h : zE y (pc + 1) L (zL (-x) :: st) Z Q) : zE y pc L (zL x :: st) Z Q := zE_step hc rfl (rfl) h
theorem ze_i2l {x : Int} (hc : zcode y pc = some (.i2l, 1, r)) (hr : -2147483648 ≤ x ∧ x ≤ 2147483647) (h : zE y (pc + 1) L (zL x :: st) Z Q) : zE y pc L (zI x :: st) Z Q := zE_step hc rfl (by unfold zstep; dsimp only; simp only [if_pos hr]) h
theorem ze_l2i {x : Int} (hc : zcode y pc = some (.l2i, 1, r)) (h : zE y (pc + 1) L (zI x :: st) Z Q) : zE y pc L (zL x :: st) Z Q := zE_step hc rfl (rfl) h
theorem ze_i2b {x : Int} (hc : zcode y pc = some (.i2b, 1, r)) (h : zE y (pc + 1) L (zI ((Int32.ofInt x).toInt8.toInt) :: st) Z Q) : zE y pc L (zI x :: st) Z Q := zE_step hc rfl (rfl) h
theorem ze_i2s {x : Int} (hc : zcode y pc = some (.i2s, 1, r)) (h : zE y (pc + 1) L (zI ((Int32.ofInt x).toInt16.toInt) :: st) Z Q) : zE y pc L (zI x :: st) Z Q := zE_step hc rfl (rfl) h
theorem ze_i2f {x : Int} (hc : zcode y pc = some (.i2f, 1, r)) (h : zE y (pc + 1) L (zF (FP.i2f (Int32.ofInt x)) :: st) Z Q) : zE y pc L (zI x :: st) Z Q := zE_step hc rfl (rfl) h
theorem ze_l2d {x : Int} (hc : zcode y pc = some (.l2d, 1, r)) (h : zE y (pc + 1) L (zD (FP.l2d (Int64.ofInt x)) :: st) Z Q) : zE y pc L (zL x :: st) Z Q := zE_step hc rfl (rfl) h
theorem ze_d2l {x : UInt64} (hc : zcode y pc = some (.d2l, 1, r)) (h : zE y (pc + 1) L (zL (FP.d2l x).toInt :: st) Z Q) : zE y pc L (zD x :: st) Z Q := zE_step hc rfl (rfl) h
theorem ze_f2d {x : UInt32} (hc : zcode y pc = some (.f2d, 1, r)) (hr : FP.f2d x &&& 0x7fffffffffffffff ≤ 0x7ff0000000000000) (h : zE y (pc + 1) L (zD (FP.f2d x) :: st) Z Q) : zE y pc L (zF x :: st) Z Q := zE_step hc rfl (by unfold zstep; dsimp only; rw [if_pos hr]) h
theorem ze_dneg {x : UInt64} (hc : zcode y pc = some (.dneg, 1, r)) (h : zE y (pc + 1) L (zD (FP.dneg x) :: st) Z Q) : zE y pc L (zD x :: st) Z Q := zE_step hc rfl (rfl) h
theorem ze_fadd {x w : UInt32} (hc : zcode y pc = some (.fadd, 1, r)) (hr : FP.fadd x w &&& 0x7fffffff ≤ 0x7f800000) (h : zE y (pc + 1) L (zF (FP.fadd x w) :: st) Z Q) : zE y pc L (zF w :: zF x :: st) Z Q := zE_step hc rfl (by unfold zstep; dsimp only; rw [if_pos hr]) h
theorem ze_fsub {x w : UInt32} (hc : zcode y pc = some (.fsub, 1, r)) (hr : FP.fsub x w &&& 0x7fffffff ≤ 0x7f800000) (h : zE y (pc + 1) L (zF (FP.fsub x w) :: st) Z Q) : zE y pc L (zF w :: zF x :: st) Z Q := zE_step hc rfl (by unfold zstep; dsimp only; rw [if_pos hr]) h
theorem ze_fmul {x w : UInt32} (hc : zcode y pc = some (.fmul, 1, r)) (hr : FP.fmul x w &&& 0x7fffffff ≤ 0x7f800000) (h : zE y (pc + 1) L (zF (FP.fmul x w) :: st) Z Q) : zE y pc L (zF w :: zF x :: st) Z Q := zE_step hc rfl (by unfold zstep; dsimp only; rw [if_pos hr]) h
theorem ze_fdiv {x w : UInt32} (hc : zcode y pc = some (.fdiv, 1, r)) (hr : FP.fdiv x w &&& 0x7fffffff ≤ 0x7f800000) (h : zE y (pc + 1) L (zF (FP.fdiv x w) :: st) Z Q) : zE y pc L (zF w :: zF x :: st) Z Q := zE_step hc rfl (by unfold zstep; dsimp only; rw [if_pos hr]) h
theorem ze_dadd {x w : UInt64} (hc : zcode y pc = some (.dadd, 1, r)) (hr : FP.dadd x w &&& 0x7fffffffffffffff ≤ 0x7ff0000000000000) (h : zE y (pc + 1) L (zD (FP.dadd x w) :: st) Z Q) : zE y pc L (zD w :: zD x :: st) Z Q := zE_step hc rfl (by unfold zstep; dsimp only; rw [if_pos hr]) h
theorem ze_dsub {x w : UInt64} (hc : zcode y pc = some (.dsub, 1, r)) (hr : FP.dsub x w &&& 0x7fffffffffffffff ≤ 0x7ff0000000000000) (h : zE y (pc + 1) L (zD (FP.dsub x w) :: st) Z Q) : zE y pc L (zD w :: zD x :: st) Z Q := zE_step hc rfl (by unfold zstep; dsimp only; rw [if_pos hr]) h
theorem ze_dmul {x w : UInt64} (hc : zcode y pc = some (.dmul, 1, r)) (hr : FP.dmul x w &&& 0x7fffffffffffffff ≤ 0x7ff0000000000000) (h : zE y (pc + 1) L (zD (FP.dmul x w) :: st) Z Q) : zE y pc L (zD w :: zD x :: st) Z Q := zE_step hc rfl (by unfold zstep; dsimp only; rw [if_pos hr]) h
theorem ze_ddiv {x w : UInt64} (hc : zcode y pc = some (.ddiv, 1, r)) (hr : FP.ddiv x w &&& 0x7fffffffffffffff ≤ 0x7ff0000000000000) (h : zE y (pc + 1) L (zD (FP.ddiv x w) :: st) Z Q) : zE y pc L (zD w :: zD x :: st) Z Q := zE_step hc rfl (by unfold zstep; dsimp only; rw [if_pos hr]) h
theorem ze_dup {v : zAV} (hc : zcode y pc = some (.dup, 1, r)) (hr : zcat v = 1) (h : zE y (pc + 1) L (v :: v :: st) Z Q) : zE y pc L (v :: st) Z Q := zE_step hc rfl (by unfold zstep; dsimp only; rw [if_pos hr]) h
theorem ze_pop {v : zAV} (hc : zcode y pc = some (.pop, 1, r)) (hr : zcat v = 1) (h : zE y (pc + 1) L st Z Q) : zE y pc L (v :: st) Z Q := zE_step hc rfl (by unfold zstep; dsimp only; rw [if_pos hr]) h
theorem ze_goto {o : Int} {t a b : Nat} {v : Int} (hc : zcode y pc = some (.goto o, 3, (t, a, b, v))) (h : zE y t L st Z Q) : zE y pc L st Z Q := zE_step hc rfl rfl h
theorem zcond_eq (x w : Int) : zcond .eq x w = true ↔ x = w := by unfold zcond; exact decide_eq_true_iff
theorem ze_icmp_eq {x w o : Int} {t a b : Nat} {v : Int} (hc : zcode y pc = some (.if_icmp .eq o, 3, (t, a, b, v))) (hx : -2147483648 ≤ x ∧ x ≤ 2147483647) (hw : -2147483648 ≤ w ∧ w ≤ 2147483647) (h1 : x = w → zE y t L st Z Q) (h2 : ¬ x = w → zE y (pc + 3) L st Z Q) : zE y pc L (zI w :: zI x :: st) Z Q := by
  by_cases h9 : x = w
  · exact zE_step hc rfl (by unfold zstep; dsimp only; rw [if_pos (Or.inr ⟨hx, hw⟩), if_pos ((zcond_eq x w).mpr h9)]) (h1 h9)
  · exact zE_step hc rfl (by unfold zstep; dsimp only; rw [if_pos (Or.inr ⟨hx, hw⟩), if_neg (fun q => h9 ((zcond_eq x w).mp q))]) (h2 (by omega))
theorem ze_if_eq {x o : Int} {t a b : Nat} {v : Int} (hc : zcode y pc = some (.ifCond .eq o, 3, (t, a, b, v))) (hx : -2147483648 ≤ x ∧ x ≤ 2147483647) (h1 : x = 0 → zE y t L st Z Q) (h2 : ¬ x = 0 → zE y (pc + 3) L st Z Q) : zE y pc L (zI x :: st) Z Q := by
  by_cases h9 : x = 0
  · exact zE_step hc rfl (by unfold zstep; dsimp only; rw [if_pos hx, if_pos ((zcond_eq x 0).mpr h9)]) (h1 h9)
  · exact zE_step hc rfl (by unfold zstep; dsimp only; rw [if_pos hx, if_neg (fun q => h9 ((zcond_eq x 0).mp q))]) (h2 (by omega))
theorem ze_lcmp_eq {x w o : Int} {t a b : Nat} {v : Int} (hc0 : zcode y pc = some (.lcmp, 1, r)) (hc : zcode y (pc + 1) = some (.ifCond .eq o, 3, (t, a, b, v))) (hx : -9223372036854775808 ≤ x ∧ x ≤ 9223372036854775807) (hw : -9223372036854775808 ≤ w ∧ w ≤ 9223372036854775807) (h1 : x = w → zE y t L st Z Q) (h2 : ¬ x = w → zE y (pc + 1 + 3) L st Z Q) : zE y pc L (zL w :: zL x :: st) Z Q := by
  refine zE_step hc0 rfl (by unfold zstep; dsimp only; rw [if_pos (Or.inr ⟨hx, hw⟩)]) ?_
  have e : zcmp x w = -1 ∧ x < w ∨ zcmp x w = 0 ∧ x = w ∨ zcmp x w = 1 ∧ w < x := by
    unfold zcmp
    by_cases q1 : x < w
    · rw [if_pos q1]; exact Or.inl ⟨rfl, q1⟩
    · by_cases q2 : x = w
      · rw [if_neg q1, if_pos q2]; exact Or.inr (Or.inl ⟨rfl, q2⟩)
      · rw [if_neg q1, if_neg q2]; exact Or.inr (Or.inr ⟨rfl, by omega⟩)
  exact ze_if_eq hc (by omega) (fun g => h1 (by omega)) (fun g => h2 (by omega))
theorem ze_i2lw {x : Int} (hc : zcode y pc = some (.i2l, 1, r)) (h : zE y (pc + 1) L (zL (if -2147483648 ≤ x ∧ x ≤ 2147483647 then x else (Int32.ofInt x).toInt) :: st) Z Q) : zE y pc L (zI x :: st) Z Q := zE_step hc rfl rfl h
theorem ze_icmpE {x o : Int} {t a b : Nat} {v : Int} (hc : zcode y pc = some (.if_icmp .eq o, 3, (t, a, b, v))) (h : zE y t L st Z Q) : zE y pc L (zI x :: zI x :: st) Z Q :=
  zE_step hc rfl (by unfold zstep; dsimp only; rw [if_pos (Or.inl rfl), if_pos ((zcond_eq x x).mpr rfl)]) h
theorem ze_lcmpE {x o : Int} {t a b : Nat} {v : Int} (hc0 : zcode y pc = some (.lcmp, 1, r)) (hc : zcode y (pc + 1) = some (.ifCond .eq o, 3, (t, a, b, v))) (h : zE y t L st Z Q) : zE y pc L (zL x :: zL x :: st) Z Q := by
  refine zE_step hc0 rfl (by unfold zstep; dsimp only; rw [if_pos (Or.inl rfl)]) ?_
  have e : zcmp x x = 0 := by
    unfold zcmp
    rw [if_neg (by omega), if_pos rfl]
  rw [e]
  exact ze_if_eq hc (by omega) (fun _ => h) (fun q => absurd rfl q)
theorem zcond_ne (x w : Int) : zcond .ne x w = true ↔ ¬ x = w := by unfold zcond; exact decide_eq_true_iff
theorem ze_icmp_ne {x w o : Int} {t a b : Nat} {v : Int} (hc : zcode y pc = some (.if_icmp .ne o, 3, (t, a, b, v))) (hx : -2147483648 ≤ x ∧ x ≤ 2147483647) (hw : -2147483648 ≤ w ∧ w ≤ 2147483647) (h1 : ¬ x = w → zE y t L st Z Q) (h2 : x = w → zE y (pc + 3) L st Z Q) : zE y pc L (zI w :: zI x :: st) Z Q := by
  by_cases h9 : ¬ x = w
  · exact zE_step hc rfl (by unfold zstep; dsimp only; rw [if_pos (Or.inr ⟨hx, hw⟩), if_pos ((zcond_ne x w).mpr h9)]) (h1 h9)
  · exact zE_step hc rfl (by unfold zstep; dsimp only; rw [if_pos (Or.inr ⟨hx, hw⟩), if_neg (fun q => h9 ((zcond_ne x w).mp q))]) (h2 (by omega))
theorem ze_if_ne {x o : Int} {t a b : Nat} {v : Int} (hc : zcode y pc = some (.ifCond .ne o, 3, (t, a, b, v))) (hx : -2147483648 ≤ x ∧ x ≤ 2147483647) (h1 : ¬ x = 0 → zE y t L st Z Q) (h2 : x = 0 → zE y (pc + 3) L st Z Q) : zE y pc L (zI x :: st) Z Q := by
  by_cases h9 : ¬ x = 0
  · exact zE_step hc rfl (by unfold zstep; dsimp only; rw [if_pos hx, if_pos ((zcond_ne x 0).mpr h9)]) (h1 h9)
  · exact zE_step hc rfl (by unfold zstep; dsimp only; rw [if_pos hx, if_neg (fun q => h9 ((zcond_ne x 0).mp q))]) (h2 (by omega))
theorem ze_lcmp_ne {x w o : Int} {t a b : Nat} {v : Int} (hc0 : zcode y pc = some (.lcmp, 1, r)) (hc : zcode y (pc + 1) = some (.ifCond .ne o, 3, (t, a, b, v))) (hx : -9223372036854775808 ≤ x ∧ x ≤ 9223372036854775807) (hw : -9223372036854775808 ≤ w ∧ w ≤ 9223372036854775807) (h1 : ¬ x = w → zE y t L st Z Q) (h2 : x = w → zE y (pc + 1 + 3) L st Z Q) : zE y pc L (zL w :: zL x :: st) Z Q := by
  refine zE_step hc0 rfl (by unfold zstep; dsimp only; rw [if_pos (Or.inr ⟨hx, hw⟩)]) ?_
  have e : zcmp x w = -1 ∧ x < w ∨ zcmp x w = 0 ∧ x = w ∨ zcmp x w = 1 ∧ w < x := by
    unfold zcmp
    by_cases q1 : x < w
    · rw [if_pos q1]; exact Or.inl ⟨rfl, q1⟩
    · by_cases q2 : x = w
      · rw [if_neg q1, if_pos q2]; exact Or.inr (Or.inl ⟨rfl, q2⟩)
      · rw [if_neg q1, if_neg q2]; exact Or.inr (Or.inr ⟨rfl, by omega⟩)
  exact ze_if_ne hc (by omega) (fun g => h1 (by omega)) (fun g => h2 (by omega))
theorem zcond_lt (x w : Int) : zcond .lt x w = true ↔ x < w := by unfold zcond; exact decide_eq_true_iff
theorem ze_icmp_lt {x w o : Int} {t a b : Nat} {v : Int} (hc : zcode y pc = some (.if_icmp .lt o, 3, (t, a, b, v))) (hx : -2147483648 ≤ x ∧ x ≤ 2147483647) (hw : -2147483648 ≤ w ∧ w ≤ 2147483647) (h1 : x < w → zE y t L st Z Q) (h2 : w ≤ x → zE y (pc + 3) L st Z Q) : zE y pc L (zI w :: zI x :: st) Z Q := by
  by_cases h9 : x < w
  · exact zE_step hc rfl (by unfold zstep; dsimp only; rw [if_pos (Or.inr ⟨hx, hw⟩), if_pos ((zcond_lt x w).mpr h9)]) (h1 h9)
  · exact zE_step hc rfl (by unfold zstep; dsimp only; rw [if_pos (Or.inr ⟨hx, hw⟩), if_neg (fun q => h9 ((zcond_lt x w).mp q))]) (h2 (by omega))
theorem ze_if_lt {x o : Int} {t a b : Nat} {v : Int} (hc : zcode y pc = some (.ifCond .lt o, 3, (t, a, b, v))) (hx : -2147483648 ≤ x ∧ x ≤ 2147483647) (h1 : x < 0 → zE y t L st Z Q) (h2 : 0 ≤ x → zE y (pc + 3) L st Z Q) : zE y pc L (zI x :: st) Z Q := by
  by_cases h9 : x < 0
  · exact zE_step hc rfl (by unfold zstep; dsimp only; rw [if_pos hx, if_pos ((zcond_lt x 0).mpr h9)]) (h1 h9)
  · exact zE_step hc rfl (by unfold zstep; dsimp only; rw [if_pos hx, if_neg (fun q => h9 ((zcond_lt x 0).mp q))]) (h2 (by omega))
theorem ze_lcmp_lt {x w o : Int} {t a b : Nat} {v : Int} (hc0 : zcode y pc = some (.lcmp, 1, r)) (hc : zcode y (pc + 1) = some (.ifCond .lt o, 3, (t, a, b, v))) (hx : -9223372036854775808 ≤ x ∧ x ≤ 9223372036854775807) (hw : -9223372036854775808 ≤ w ∧ w ≤ 9223372036854775807) (h1 : x < w → zE y t L st Z Q) (h2 : w ≤ x → zE y (pc + 1 + 3) L st Z Q) : zE y pc L (zL w :: zL x :: st) Z Q := by
  refine zE_step hc0 rfl (by unfold zstep; dsimp only; rw [if_pos (Or.inr ⟨hx, hw⟩)]) ?_
  have e : zcmp x w = -1 ∧ x < w ∨ zcmp x w = 0 ∧ x = w ∨ zcmp x w = 1 ∧ w < x := by
    unfold zcmp
    by_cases q1 : x < w
    · rw [if_pos q1]; exact Or.inl ⟨rfl, q1⟩
    · by_cases q2 : x = w
      · rw [if_neg q1, if_pos q2]; exact Or.inr (Or.inl ⟨rfl, q2⟩)
      · rw [if_neg q1, if_neg q2]; exact Or.inr (Or.inr ⟨rfl, by omega⟩)
  exact ze_if_lt hc (by omega) (fun g => h1 (by omega)) (fun g => h2 (by omega))
theorem zcond_ge (x w : Int) : zcond .ge x w = true ↔ w ≤ x := by unfold zcond; exact decide_eq_true_iff
theorem ze_icmp_ge {x w o : Int} {t a b : Nat} {v : Int} (hc : zcode y pc = some (.if_icmp .ge o, 3, (t, a, b, v))) (hx : -2147483648 ≤ x ∧ x ≤ 2147483647) (hw : -2147483648 ≤ w ∧ w ≤ 2147483647) (h1 : w ≤ x → zE y t L st Z Q) (h2 : x < w → zE y (pc + 3) L st Z Q) : zE y pc L (zI w :: zI x :: st) Z Q := by
  by_cases h9 : w ≤ x
  · exact zE_step hc rfl (by unfold zstep; dsimp only; rw [if_pos (Or.inr ⟨hx, hw⟩), if_pos ((zcond_ge x w).mpr h9)]) (h1 h9)
  · exact zE_step hc rfl (by unfold zstep; dsimp only; rw [if_pos (Or.inr ⟨hx, hw⟩), if_neg (fun q => h9 ((zcond_ge x w).mp q))]) (h2 (by omega))
theorem ze_if_ge {x o : Int} {t a b : Nat} {v : Int} (hc : zcode y pc = some (.ifCond .ge o, 3, (t, a, b, v))) (hx : -2147483648 ≤ x ∧ x ≤ 2147483647) (h1 : 0 ≤ x → zE y t L st Z Q) (h2 : x < 0 → zE y (pc + 3) L st Z Q) : zE y pc L (zI x :: st) Z Q := by
  by_cases h9 : 0 ≤ x
  · exact zE_step hc rfl (by unfold zstep; dsimp only; rw [if_pos hx, if_pos ((zcond_ge x 0).mpr h9)]) (h1 h9)
  · exact zE_step hc rfl (by unfold zstep; dsimp only; rw [if_pos hx, if_neg (fun q => h9 ((zcond_ge x 0).mp q))]) (h2 (by omega))
theorem ze_lcmp_ge {x w o : Int} {t a b : Nat} {v : Int} (hc0 : zcode y pc = some (.lcmp, 1, r)) (hc : zcode y (pc + 1) = some (.ifCond .ge o, 3, (t, a, b, v))) (hx : -9223372036854775808 ≤ x ∧ x ≤ 9223372036854775807) (hw : -9223372036854775808 ≤ w ∧ w ≤ 9223372036854775807) (h1 : w ≤ x → zE y t L st Z Q) (h2 : x < w → zE y (pc + 1 + 3) L st Z Q) : zE y pc L (zL w :: zL x :: st) Z Q := by
  refine zE_step hc0 rfl (by unfold zstep; dsimp only; rw [if_pos (Or.inr ⟨hx, hw⟩)]) ?_
  have e : zcmp x w = -1 ∧ x < w ∨ zcmp x w = 0 ∧ x = w ∨ zcmp x w = 1 ∧ w < x := by
    unfold zcmp
    by_cases q1 : x < w
    · rw [if_pos q1]; exact Or.inl ⟨rfl, q1⟩
    · by_cases q2 : x = w
      · rw [if_neg q1, if_pos q2]; exact Or.inr (Or.inl ⟨rfl, q2⟩)
      · rw [if_neg q1, if_neg q2]; exact Or.inr (Or.inr ⟨rfl, by omega⟩)
  exact ze_if_ge hc (by omega) (fun g => h1 (by omega)) (fun g => h2 (by omega))
theorem zcond_gt (x w : Int) : zcond .gt x w = true ↔ w < x := by unfold zcond; exact decide_eq_true_iff
theorem ze_icmp_gt {x w o : Int} {t a b : Nat} {v : Int} (hc : zcode y pc = some (.if_icmp .gt o, 3, (t, a, b, v))) (hx : -2147483648 ≤ x ∧ x ≤ 2147483647) (hw : -2147483648 ≤ w ∧ w ≤ 2147483647) (h1 : w < x → zE y t L st Z Q) (h2 : x ≤ w → zE y (pc + 3) L st Z Q) : zE y pc L (zI w :: zI x :: st) Z Q := by
  by_cases h9 : w < x
  · exact zE_step hc rfl (by unfold zstep; dsimp only; rw [if_pos (Or.inr ⟨hx, hw⟩), if_pos ((zcond_gt x w).mpr h9)]) (h1 h9)
  · exact zE_step hc rfl (by unfold zstep; dsimp only; rw [if_pos (Or.inr ⟨hx, hw⟩), if_neg (fun q => h9 ((zcond_gt x w).mp q))]) (h2 (by omega))
theorem ze_if_gt {x o : Int} {t a b : Nat} {v : Int} (hc : zcode y pc = some (.ifCond .gt o, 3, (t, a, b, v))) (hx : -2147483648 ≤ x ∧ x ≤ 2147483647) (h1 : 0 < x → zE y t L st Z Q) (h2 : x ≤ 0 → zE y (pc + 3) L st Z Q) : zE y pc L (zI x :: st) Z Q := by
  by_cases h9 : 0 < x
  · exact zE_step hc rfl (by unfold zstep; dsimp only; rw [if_pos hx, if_pos ((zcond_gt x 0).mpr h9)]) (h1 h9)
  · exact zE_step hc rfl (by unfold zstep; dsimp only; rw [if_pos hx, if_neg (fun q => h9 ((zcond_gt x 0).mp q))]) (h2 (by omega))
theorem ze_lcmp_gt {x w o : Int} {t a b : Nat} {v : Int} (hc0 : zcode y pc = some (.lcmp, 1, r)) (hc : zcode y (pc + 1) = some (.ifCond .gt o, 3, (t, a, b, v))) (hx : -9223372036854775808 ≤ x ∧ x ≤ 9223372036854775807) (hw : -9223372036854775808 ≤ w ∧ w ≤ 9223372036854775807) (h1 : w < x → zE y t L st Z Q) (h2 : x ≤ w → zE y (pc + 1 + 3) L st Z Q) : zE y pc L (zL w :: zL x :: st) Z Q := by
  refine zE_step hc0 rfl (by unfold zstep; dsimp only; rw [if_pos (Or.inr ⟨hx, hw⟩)]) ?_
  have e : zcmp x w = -1 ∧ x < w ∨ zcmp x w = 0 ∧ x = w ∨ zcmp x w = 1 ∧ w < x := by
    unfold zcmp
    by_cases q1 : x < w
    · rw [if_pos q1]; exact Or.inl ⟨rfl, q1⟩
    · by_cases q2 : x = w
      · rw [if_neg q1, if_pos q2]; exact Or.inr (Or.inl ⟨rfl, q2⟩)
      · rw [if_neg q1, if_neg q2]; exact Or.inr (Or.inr ⟨rfl, by omega⟩)
  exact ze_if_gt hc (by omega) (fun g => h1 (by omega)) (fun g => h2 (by omega))
theorem zcond_le (x w : Int) : zcond .le x w = true ↔ x ≤ w := by unfold zcond; exact decide_eq_true_iff
theorem ze_icmp_le {x w o : Int} {t a b : Nat} {v : Int} (hc : zcode y pc = some (.if_icmp .le o, 3, (t, a, b, v))) (hx : -2147483648 ≤ x ∧ x ≤ 2147483647) (hw : -2147483648 ≤ w ∧ w ≤ 2147483647) (h1 : x ≤ w → zE y t L st Z Q) (h2 : w < x → zE y (pc + 3) L st Z Q) : zE y pc L (zI w :: zI x :: st) Z Q := by
  by_cases h9 : x ≤ w
  · exact zE_step hc rfl (by unfold zstep; dsimp only; rw [if_pos (Or.inr ⟨hx, hw⟩), if_pos ((zcond_le x w).mpr h9)]) (h1 h9)
  · exact zE_step hc rfl (by unfold zstep; dsimp only; rw [if_pos (Or.inr ⟨hx, hw⟩), if_neg (fun q => h9 ((zcond_le x w).mp q))]) (h2 (by omega))
theorem ze_if_le {x o : Int} {t a b : Nat} {v : Int} (hc : zcode y pc = some (.ifCond .le o, 3, (t, a, b, v))) (hx : -2147483648 ≤ x ∧ x ≤ 2147483647) (h1 : x ≤ 0 → zE y t L st Z Q) (h2 : 0 < x → zE y (pc + 3) L st Z Q) : zE y pc L (zI x :: st) Z Q := by
  by_cases h9 : x ≤ 0
  · exact zE_step hc rfl (by unfold zstep; dsimp only; rw [if_pos hx, if_pos ((zcond_le x 0).mpr h9)]) (h1 h9)
  · exact zE_step hc rfl (by unfold zstep; dsimp only; rw [if_pos hx, if_neg (fun q => h9 ((zcond_le x 0).mp q))]) (h2 (by omega))
theorem ze_lcmp_le {x w o : Int} {t a b : Nat} {v : Int} (hc0 : zcode y pc = some (.lcmp, 1, r)) (hc : zcode y (pc + 1) = some (.ifCond .le o, 3, (t, a, b, v))) (hx : -9223372036854775808 ≤ x ∧ x ≤ 9223372036854775807) (hw : -9223372036854775808 ≤ w ∧ w ≤ 9223372036854775807) (h1 : x ≤ w → zE y t L st Z Q) (h2 : w < x → zE y (pc + 1 + 3) L st Z Q) : zE y pc L (zL w :: zL x :: st) Z Q := by
  refine zE_step hc0 rfl (by unfold zstep; dsimp only; rw [if_pos (Or.inr ⟨hx, hw⟩)]) ?_
  have e : zcmp x w = -1 ∧ x < w ∨ zcmp x w = 0 ∧ x = w ∨ zcmp x w = 1 ∧ w < x := by
    unfold zcmp
    by_cases q1 : x < w
    · rw [if_pos q1]; exact Or.inl ⟨rfl, q1⟩
    · by_cases q2 : x = w
      · rw [if_neg q1, if_pos q2]; exact Or.inr (Or.inl ⟨rfl, q2⟩)
      · rw [if_neg q1, if_neg q2]; exact Or.inr (Or.inr ⟨rfl, by omega⟩)
  exact ze_if_le hc (by omega) (fun g => h1 (by omega)) (fun g => h2 (by omega))
theorem z32_in' (v : Int32) : -2147483648 ≤ v.toInt ∧ v.toInt ≤ 2147483647 := by
  have h1 := Int32.le_toInt v
  have h2 := Int32.toInt_lt v
  omega
/-- a comparison of floats, and the jump behind it -/
def zfc (c : ClassFile.Cond) (op : CmpOp) (x w : UInt32) : Bool := zcond c (Op.cmpValue (FP.fcmp x w) op).toInt 0
def zdc (c : ClassFile.Cond) (op : CmpOp) (x w : UInt64) : Bool := zcond c (Op.cmpValue (FP.dcmp x w) op).toInt 0
theorem ze_fcmp {x w : UInt32} {op : CmpOp} {c : ClassFile.Cond} {o : Int} {t a b : Nat} {v : Int} (hc0 : zcode y pc = some (.fcmp op, 1, r)) (hc : zcode y (pc + 1) = some (.ifCond c o, 3, (t, a, b, v))) (h1 : zfc c op x w = true → zE y t L st Z Q) (h2 : zfc c op x w = false → zE y (pc + 1 + 3) L st Z Q) : zE y pc L (zF w :: zF x :: st) Z Q := by
  refine zE_step hc0 rfl rfl ?_
  cases h9 : zfc c op x w with
  | true => exact zE_step hc rfl (by unfold zstep; dsimp only; rw [if_pos (z32_in' _), if_pos (show zcond c _ 0 = true from h9)]) (h1 h9)
  | false => exact zE_step hc rfl (by unfold zstep; dsimp only; rw [if_pos (z32_in' _), if_neg (by rw [show zcond c _ 0 = false from h9]; decide)]) (h2 h9)
theorem ze_dcmp {x w : UInt64} {op : CmpOp} {c : ClassFile.Cond} {o : Int} {t a b : Nat} {v : Int} (hc0 : zcode y pc = some (.dcmp op, 1, r)) (hc : zcode y (pc + 1) = some (.ifCond c o, 3, (t, a, b, v))) (h1 : zdc c op x w = true → zE y t L st Z Q) (h2 : zdc c op x w = false → zE y (pc + 1 + 3) L st Z Q) : zE y pc L (zD w :: zD x :: st) Z Q := by
  refine zE_step hc0 rfl rfl ?_
  cases h9 : zdc c op x w with
  | true => exact zE_step hc rfl (by unfold zstep; dsimp only; rw [if_pos (z32_in' _), if_pos (show zcond c _ 0 = true from h9)]) (h1 h9)
  | false => exact zE_step hc rfl (by unfold zstep; dsimp only; rw [if_pos (z32_in' _), if_neg (by rw [show zcond c _ 0 = false from h9]; decide)]) (h2 h9)
theorem ze_tableOut {x d lo hi : Int} {os : Array Int} {n t : Nat} (hc : zcode y pc = some (.tableswitch d lo hi os, n, r)) (hx : -2147483648 ≤ x ∧ x ≤ 2147483647) (hr : x < lo ∨ hi < x) (ht : ((pc : Int) + d).toNat = t) (h : zE y t L st Z Q) : zE y pc L (zI x :: st) Z Q := by
  subst ht
  exact zE_step hc rfl (by unfold zstep; dsimp only; rw [if_pos hx, if_pos hr]) h
theorem ze_tableIn {x d lo hi : Int} {os : Array Int} {n t : Nat} {o : Int} (k : Int) (hc : zcode y pc = some (.tableswitch d lo hi os, n, r)) (hk : x = k) (hx : -2147483648 ≤ k ∧ k ≤ 2147483647) (hr : ¬ (k < lo ∨ hi < k)) (ho : os[(k - lo).toNat]? = some o) (ht : ((pc : Int) + o).toNat = t) (h : zE y t L st Z Q) : zE y pc L (zI x :: st) Z Q := by
  subst ht
  subst hk
  exact zE_step hc rfl (by unfold zstep; dsimp only; rw [if_pos hx, if_neg hr, ho]) h
theorem ze_lookup {x d : Int} {ps : Array (Int × Int)} {n t : Nat} {o : Int} (hc : zcode y pc = some (.lookupswitch d ps, n, r)) (hx : -2147483648 ≤ x ∧ x ≤ 2147483647) (ho : Op.lookupswitch.offset ps.toList d x = o) (ht : ((pc : Int) + o).toNat = t) (h : zE y t L st Z Q) : zE y pc L (zI x :: st) Z Q := by
  subst ht
  subst ho
  exact zE_step hc rfl (by unfold zstep; dsimp only; rw [if_pos hx]) h
theorem ze_getI {i c f p k : Nat} {v : Int} (hc : zcode y pc = some (.getfield i, 3, (c, f, p, v))) (hT : zTT[k]? = some (c, 0)) (hf : (zfk.getD c []).getD f 9 = 0 ∨ (zfk.getD c []).getD f 9 = 4) (h : zE y (pc + 3) L (zI (Z k f) :: st) Z Q) : zE y pc L (zR k :: st) Z Q := by
  refine zE_step hc rfl ?_ h
  unfold zstep
  try dsimp only
  rcases hf with hf | hf <;> rw [if_pos hT, hf]
  all_goals first | done | rfl
theorem ze_getL {i c f p k : Nat} {v : Int} (hc : zcode y pc = some (.getfield i, 3, (c, f, p, v))) (hT : zTT[k]? = some (c, 0)) (hf : (zfk.getD c []).getD f 9 = 1) (h : zE y (pc + 3) L (zL (Z k f) :: st) Z Q) : zE y pc L (zR k :: st) Z Q := by
  refine zE_step hc rfl ?_ h
  unfold zstep
  try dsimp only
  rw [if_pos hT, hf]
  all_goals first | done | rfl
theorem ze_getF {i c f p k : Nat} {v : Int} (hc : zcode y pc = some (.getfield i, 3, (c, f, p, v))) (hT : zTT[k]? = some (c, 0)) (hf : (zfk.getD c []).getD f 9 = 2) (h : zE y (pc + 3) L (zF (UInt32.ofNat (Z k f).toNat) :: st) Z Q) : zE y pc L (zR k :: st) Z Q := by
  refine zE_step hc rfl ?_ h
  unfold zstep
  try dsimp only
  rw [if_pos hT, hf]
  all_goals first | done | rfl
theorem ze_getR {i c f p k j : Nat} {v : Int} (hc : zcode y pc = some (.getfield i, 3, (c, f, p, v))) (hT : zTT[k]? = some (c, 0)) (hf : (zfk.getD c []).getD f 9 = 5) (hr : zrd zRR k f = some j) (h : zE y (pc + 3) L (zR j :: st) Z Q) : zE y pc L (zR k :: st) Z Q := by
  refine zE_step hc rfl ?_ h
  unfold zstep
  try dsimp only
  rw [if_pos hT, hf]
  try dsimp only
  rw [hr]
  all_goals first | done | rfl
theorem ze_putI {i c f p k : Nat} {v x : Int} (hc : zcode y pc = some (.putfield i, 3, (c, f, p, v))) (hT : zTT[k]? = some (c, 0)) (hf : (zfk.getD c []).getD f 9 = 0) (h : zE y (pc + 3) L st (zup Z k f x) Q) : zE y pc L (zI x :: zR k :: st) Z Q := by
  refine zE_step hc rfl ?_ h
  unfold zstep
  try dsimp only
  rw [if_pos hT, hf]
  all_goals first | done | rfl
theorem ze_putZ {i c f p k : Nat} {v x : Int} (hc : zcode y pc = some (.putfield i, 3, (c, f, p, v))) (hT : zTT[k]? = some (c, 0)) (hf : (zfk.getD c []).getD f 9 = 4) (hx : x = 0 ∨ x = 1) (h : zE y (pc + 3) L st (zup Z k f x) Q) : zE y pc L (zI x :: zR k :: st) Z Q := by
  refine zE_step hc rfl ?_ h
  unfold zstep
  try dsimp only
  rw [if_pos hT, hf]
  try dsimp only
  exact if_pos hx
theorem ze_putL {i c f p k : Nat} {v x : Int} (hc : zcode y pc = some (.putfield i, 3, (c, f, p, v))) (hT : zTT[k]? = some (c, 0)) (hf : (zfk.getD c []).getD f 9 = 1) (h : zE y (pc + 3) L st (zup Z k f x) Q) : zE y pc L (zL x :: zR k :: st) Z Q := by
  refine zE_step hc rfl ?_ h
  unfold zstep
  try dsimp only
  rw [if_pos hT, hf]
  all_goals first | done | rfl
theorem ze_putF {i c f p k : Nat} {v : Int} {x : UInt32} (hc : zcode y pc = some (.putfield i, 3, (c, f, p, v))) (hT : zTT[k]? = some (c, 0)) (hf : (zfk.getD c []).getD f 9 = 2) (h : zE y (pc + 3) L st (zup Z k f x.toNat) Q) : zE y pc L (zF x :: zR k :: st) Z Q := by
  refine zE_step hc rfl ?_ h
  unfold zstep
  try dsimp only
  rw [if_pos hT, hf]
  all_goals first | done | rfl
theorem ze_orders {i a p : Nat} {v : Int} (hc : zcode y pc = some (.getstatic i, 3, (0, a, p, v))) (h : zE y (pc + 3) L (zR 1000 :: st) Z Q) : zE y pc L st Z Q := zE_step hc rfl rfl h
theorem ze_iald0 {i : Int} (hc : zcode y pc = some (.iaload, 1, r)) (hi : 0 ≤ i ∧ i < 7) (h : zE y (pc + 1) L (zI (([1, 1, 2, 6, 24, 120, 720] : List Int).getD i.toNat 0) :: st) Z Q) : zE y pc L (zI i :: zR 1000 :: st) Z Q := zE_step hc rfl (by unfold zstep; dsimp only; rw [if_pos rfl, if_pos hi]) h
theorem ze_iald1 {i : Int} (hc : zcode y pc = some (.iaload, 1, r)) (hi : 0 ≤ i ∧ i < Z 1002 0 ∧ i < 2147483648) (h : zE y (pc + 1) L (zI (Z 1001 i.toNat) :: st) Z Q) : zE y pc L (zI i :: zR 1001 :: st) Z Q := zE_step hc rfl (by unfold zstep; dsimp only; rw [if_neg (by decide), if_pos rfl, if_pos hi]) h
theorem ze_alen1 (hc : zcode y pc = some (.arraylength, 1, r)) (h : zE y (pc + 1) L (zI (Z 1002 0) :: st) Z Q) : zE y pc L (zR 1001 :: st) Z Q := zE_step hc rfl (by unfold zstep; dsimp only; rw [if_pos rfl]) h
theorem zTT_lt {k : Nat} {d : Nat × Nat} (h : zTT[k]? = some d) : k < 80 := (List.getElem?_eq_some_iff.mp h).1
theorem ze_alen {k a n : Nat} (hc : zcode y pc = some (.arraylength, 1, r)) (hT : zTT[k]? = some (a, n)) (ha : 10 ≤ a ∧ a ≤ 15) (h : zE y (pc + 1) L (zI n :: st) Z Q) : zE y pc L (zR k :: st) Z Q := by
  have hk := zTT_lt hT
  refine zE_step hc rfl ?_ h
  unfold zstep
  try dsimp only
  rw [if_neg (by omega), hT]
  try dsimp only
  rw [if_pos ha]
  all_goals first | done | rfl
theorem ze_iald {k n : Nat} {i : Int} (hc : zcode y pc = some (.iaload, 1, r)) (hT : zTT[k]? = some (10, n)) (hi : 0 ≤ i ∧ i < (n : Int) ∧ i < 2147483648) (h : zE y (pc + 1) L (zI (Z k i.toNat) :: st) Z Q) : zE y pc L (zI i :: zR k :: st) Z Q := by
  have hk := zTT_lt hT
  refine zE_step hc rfl ?_ h
  unfold zstep
  try dsimp only
  rw [if_neg (by omega), if_neg (by omega), hT]
  try dsimp only
  exact if_pos hi
theorem ze_bald {k n : Nat} {i : Int} (hc : zcode y pc = some (.baload, 1, r)) (hT : zTT[k]? = some (13, n)) (hi : 0 ≤ i ∧ i < (n : Int) ∧ i < 2147483648) (h : zE y (pc + 1) L (zI (Z k i.toNat) :: st) Z Q) : zE y pc L (zI i :: zR k :: st) Z Q := by
  have hk := zTT_lt hT
  refine zE_step hc rfl ?_ h
  unfold zstep
  try dsimp only
  rw [hT]
  try dsimp only
  exact if_pos hi
theorem ze_zald {k n : Nat} {i : Int} (hc : zcode y pc = some (.baload, 1, r)) (hT : zTT[k]? = some (14, n)) (hi : 0 ≤ i ∧ i < (n : Int) ∧ i < 2147483648) (h : zE y (pc + 1) L (zI (Z k i.toNat) :: st) Z Q) : zE y pc L (zI i :: zR k :: st) Z Q := by
  have hk := zTT_lt hT
  refine zE_step hc rfl ?_ h
  unfold zstep
  try dsimp only
  rw [hT]
  try dsimp only
  exact if_pos hi
theorem ze_lald {k n : Nat} {i : Int} (hc : zcode y pc = some (.laload, 1, r)) (hT : zTT[k]? = some (11, n)) (hi : 0 ≤ i ∧ i < (n : Int) ∧ i < 2147483648) (h : zE y (pc + 1) L (zL (Z k i.toNat) :: st) Z Q) : zE y pc L (zI i :: zR k :: st) Z Q := by
  have hk := zTT_lt hT
  refine zE_step hc rfl ?_ h
  unfold zstep
  try dsimp only
  rw [hT]
  try dsimp only
  exact if_pos hi
theorem ze_fald {k n : Nat} {i : Int} (hc : zcode y pc = some (.faload, 1, r)) (hT : zTT[k]? = some (12, n)) (hi : 0 ≤ i ∧ i < (n : Int) ∧ i < 2147483648) (h : zE y (pc + 1) L (zF (UInt32.ofNat (Z k i.toNat).toNat) :: st) Z Q) : zE y pc L (zI i :: zR k :: st) Z Q := by
  have hk := zTT_lt hT
  refine zE_step hc rfl ?_ h
  unfold zstep
  try dsimp only
  rw [hT]
  try dsimp only
  exact if_pos hi
theorem ze_aald {k n j : Nat} {i : Int} (hc : zcode y pc = some (.aaload, 1, r)) (hT : zTT[k]? = some (15, n)) (hi : 0 ≤ i ∧ i < (n : Int) ∧ i < 2147483648) (hj : zrd zRR k i.toNat = some j) (h : zE y (pc + 1) L (zR j :: st) Z Q) : zE y pc L (zI i :: zR k :: st) Z Q := by
  refine zE_step hc rfl ?_ h
  unfold zstep
  try dsimp only
  rw [hT]
  try dsimp only
  refine (if_pos hi).trans ?_
  rw [hj]
theorem ze_iast {k n : Nat} {i : Int} {x : Int} (hc : zcode y pc = some (.iastore, 1, r)) (hT : zTT[k]? = some (10, n)) (hi : 0 ≤ i ∧ i < (n : Int) ∧ i < 2147483648) (h : zE y (pc + 1) L st (zup Z k i.toNat x) Q) : zE y pc L (zI x :: zI i :: zR k :: st) Z Q := by
  refine zE_step hc rfl ?_ h
  unfold zstep
  try dsimp only
  rw [hT]
  try dsimp only
  exact if_pos hi
theorem ze_bast {k n : Nat} {i : Int} {x : Int} (hc : zcode y pc = some (.bastore, 1, r)) (hT : zTT[k]? = some (13, n)) (hi : 0 ≤ i ∧ i < (n : Int) ∧ i < 2147483648) (hv : -128 ≤ x ∧ x < 128) (h : zE y (pc + 1) L st (zup Z k i.toNat x) Q) : zE y pc L (zI x :: zI i :: zR k :: st) Z Q := by
  refine zE_step hc rfl ?_ h
  unfold zstep
  try dsimp only
  rw [hT]
  try dsimp only
  exact if_pos ⟨hi, hv⟩
theorem ze_zast {k n : Nat} {i : Int} {x : Int} (hc : zcode y pc = some (.bastore, 1, r)) (hT : zTT[k]? = some (14, n)) (hi : 0 ≤ i ∧ i < (n : Int) ∧ i < 2147483648) (hv : x = 0 ∨ x = 1) (h : zE y (pc + 1) L st (zup Z k i.toNat x) Q) : zE y pc L (zI x :: zI i :: zR k :: st) Z Q := by
  refine zE_step hc rfl ?_ h
  unfold zstep
  try dsimp only
  rw [hT]
  try dsimp only
  exact if_pos ⟨hi, hv⟩
theorem ze_last {k n : Nat} {i : Int} {x : Int} (hc : zcode y pc = some (.lastore, 1, r)) (hT : zTT[k]? = some (11, n)) (hi : 0 ≤ i ∧ i < (n : Int) ∧ i < 2147483648) (h : zE y (pc + 1) L st (zup Z k i.toNat x) Q) : zE y pc L (zL x :: zI i :: zR k :: st) Z Q := by
  refine zE_step hc rfl ?_ h
  unfold zstep
  try dsimp only
  rw [hT]
  try dsimp only
  exact if_pos hi
theorem ze_fast {k n : Nat} {i : Int} {x : UInt32} (hc : zcode y pc = some (.fastore, 1, r)) (hT : zTT[k]? = some (12, n)) (hi : 0 ≤ i ∧ i < (n : Int) ∧ i < 2147483648) (h : zE y (pc + 1) L st (zup Z k i.toNat x.toNat) Q) : zE y pc L (zF x :: zI i :: zR k :: st) Z Q := by
  refine zE_step hc rfl ?_ h
  unfold zstep
  try dsimp only
  rw [hT]
  try dsimp only
  exact if_pos hi
theorem ze_copy {i ks kd na nb a p : Nat} {n dp sp v : Int} (hc : zcode y pc = some (.invokestatic i, 3, (1000, a, p, v))) (hs : (st.map zcat).sum ≤ 8) (hTs : zTT[ks]? = some (11, na)) (hTd : zTT[kd]? = some (11, nb)) (h0 : 0 ≤ n ∧ 0 ≤ dp ∧ 0 ≤ sp) (ha : sp + n ≤ (na : Int)) (hb : dp + n ≤ (nb : Int)) (ha3 : (na : Int) < 2147483648) (hb3 : (nb : Int) < 2147483648) (h : zE y (pc + 3) L st (zcpy Z ks sp.toNat kd dp.toNat n.toNat) Q) : zE y pc L (zI n :: zI dp :: zR kd :: zI sp :: zR ks :: st) Z Q := by
  refine zE_step hc rfl ?_ h
  unfold zstep
  try dsimp only
  rw [if_pos rfl]
  try dsimp only
  rw [hTs, hTd]
  try dsimp only
  exact if_pos ⟨h0, ha, hb, ha3, hb3, hs⟩
theorem ze_f2i {i a p : Nat} {v : Int} {x : UInt32} (hc : zcode y pc = some (.invokestatic i, 3, (1001, a, p, v))) (hs : (st.map zcat).sum ≤ 8) (h : zE y (pc + 3) L (zI x.toInt32.toInt :: st) Z Q) : zE y pc L (zF x :: st) Z Q := zE_step hc rfl (by unfold zstep; dsimp only; rw [if_neg (by decide), if_pos rfl]; (try dsimp only); rw [if_pos hs]) h
theorem ze_d2raw {i a p : Nat} {v : Int} {x : UInt64} (hc : zcode y pc = some (.invokestatic i, 3, (1002, a, p, v))) (hs : (st.map zcat).sum ≤ 8) (h : zE y (pc + 3) L (zL x.toInt64.toInt :: st) Z Q) : zE y pc L (zD x :: st) Z Q := zE_step hc rfl (by unfold zstep; dsimp only; rw [if_neg (by decide), if_neg (by decide), if_pos rfl]; (try dsimp only); rw [if_pos hs]) h
theorem ze_dabs {i a p : Nat} {v : Int} {x : UInt64} (hc : zcode y pc = some (.invokestatic i, 3, (1005, a, p, v))) (hs : (st.map zcat).sum ≤ 8) (hx : x &&& 0x7fffffffffffffff ≤ 0x7ff0000000000000) (h : zE y (pc + 3) L (zD (x &&& 0x7fffffffffffffff) :: st) Z Q) : zE y pc L (zD x :: st) Z Q := zE_step hc rfl (by unfold zstep; dsimp only; rw [if_neg (by decide), if_neg (by decide), if_neg (by decide), if_neg (by decide), if_pos rfl]; (try dsimp only); rw [if_pos ⟨hs, hx⟩]) h
theorem ze_dmax {i a p : Nat} {v : Int} {x w : UInt64} (hc : zcode y pc = some (.invokestatic i, 3, (1006, a, p, v))) (hs : (st.map zcat).sum ≤ 8) (hx : x &&& 0x7fffffffffffffff ≤ 0x7ff0000000000000) (hw : w &&& 0x7fffffffffffffff ≤ 0x7ff0000000000000) (h : zE y (pc + 3) L (zD (Native.java_lang_Math.nans.pick64 true x w) :: st) Z Q) : zE y pc L (zD w :: zD x :: st) Z Q := zE_step hc rfl (by unfold zstep; dsimp only; rw [if_neg (by decide), if_neg (by decide), if_neg (by decide), if_neg (by decide), if_neg (by decide), if_pos rfl]; (try dsimp only); rw [if_pos ⟨hs, hx, hw⟩]) h
theorem ze_ireturn {a b p : Nat} {v x : Int} (hc : zcode y pc = some (.ireturn, 1, (a, b, p, v))) (hx : a = 0 ∨ x = 0 ∨ x = 1) (h : Q (some (zI x)) Z) : zE y pc L [zI x] Z Q := zE_leave hc rfl (by unfold zleave; dsimp only; rw [if_pos hx]) h
theorem ze_lreturn {x : Int} (hc : zcode y pc = some (.lreturn, 1, r)) (h : Q (some (zL x)) Z) : zE y pc L [zL x] Z Q := zE_leave hc rfl rfl h
theorem ze_freturn {x : UInt32} (hc : zcode y pc = some (.freturn, 1, r)) (h : Q (some (zF x)) Z) : zE y pc L [zF x] Z Q := zE_leave hc rfl rfl h
theorem ze_dreturn {x : UInt64} (hc : zcode y pc = some (.dreturn, 1, r)) (h : Q (some (zD x)) Z) : zE y pc L [zD x] Z Q := zE_leave hc rfl rfl h
theorem ze_return (hc : zcode y pc = some (.return_, 1, r)) (h : Q none Z) : zE y pc L [] Z Q := zE_leave hc rfl rfl h
end ZEI
