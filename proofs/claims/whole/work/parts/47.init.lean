/-! THE CONSTRUCTORS -/
theorem zN_ex : ∃ P : Nat → Nat → zLs → List zAV → zM → (Option zAV → zM → Prop) → Prop, ∀ y pc L st M Q, P y pc L st M Q ↔ ∃ (f : Nat) (v : Option zAV) (M' : zM), zrun f y pc L st M = some (v, M') ∧ Q v M' := ⟨_, fun _ _ _ _ _ _ => Iff.rfl⟩
noncomputable def zN : Nat → Nat → zLs → List zAV → zM → (Option zAV → zM → Prop) → Prop := Classical.choose zN_ex
theorem zN_iff {y pc : Nat} {L : zLs} {st : List zAV} {M : zM} {Q : Option zAV → zM → Prop} : zN y pc L st M Q ↔ ∃ (f : Nat) (v : Option zAV) (M' : zM), zrun f y pc L st M = some (v, M') ∧ Q v M' := Classical.choose_spec zN_ex y pc L st M Q
theorem zN_of {y pc : Nat} {L : zLs} {st : List zAV} {T : List (Nat × Nat)} {R : List (List (Option Nat))} {Z : zMem} {Q : Option zAV → zM → Prop} (hT : T = zTT) (hR : R = zRR) (h : zE y pc L st Z (fun v Z' => Q v (zTT, zRR, Z'))) : zN y pc L st (T, R, Z) Q := by
  subst hT
  subst hR
  rw [zE_iff] at h
  rw [zN_iff]
  obtain ⟨f, v, Z', h1, h2⟩ := h
  exact ⟨f, v, _, h1, h2⟩
theorem zN_step {y pc : Nat} {L : zLs} {st : List zAV} {M : zM} {Q : Option zAV → zM → Prop} {I : Instr} {n : Nat} {r : zRes} {pc' : Nat} {L' : zLs} {st' : List zAV} {M' : zM} (hc : zcode y pc = some (I, n, r)) (hk : zkind I r = 0) (hs : zstep I n r pc L st M = some (pc', L', st', M')) (h : zN y pc' L' st' M' Q) : zN y pc L st M Q := by
  rw [zN_iff] at h ⊢
  obtain ⟨f, v, M9, h1, h2⟩ := h
  refine ⟨f + 1, v, M9, ?_, h2⟩
  unfold zrun
  simp only [hc, hk, hs]
  exact h1
section ZNI
variable {y pc : Nat} {L : zLs} {st : List zAV} {T : List (Nat × Nat)} {R : List (List (Option Nat))} {Z : zMem} {M : zM} {Q : Option zAV → zM → Prop} {r : zRes}
theorem zn_aload_n {i : Fin 4} {x : Nat} (hc : zcode y pc = some (.aload_n i, 1, r)) (hl : L.getD i none = some (zR x)) (h : zN y (pc + 1) L (zR x :: st) M Q) : zN y pc L st M Q := zN_step hc rfl (by unfold zstep; dsimp only; rw [hl]) h
theorem zn_iload_n {i : Fin 4} {x : Int} (hc : zcode y pc = some (.iload_n i, 1, r)) (hl : L.getD i none = some (zI x)) (h : zN y (pc + 1) L (zI x :: st) M Q) : zN y pc L st M Q := zN_step hc rfl (by unfold zstep; dsimp only; rw [hl]) h
theorem zn_iconst {k : Int} (hc : zcode y pc = some (.iconst k, 1, r)) (h : zN y (pc + 1) L (zI k :: st) M Q) : zN y pc L st M Q := zN_step hc rfl rfl h
theorem zn_bipush {k : Int} (hc : zcode y pc = some (.bipush k, 2, r)) (h : zN y (pc + 2) L (zI k :: st) M Q) : zN y pc L st M Q := zN_step hc rfl rfl h
theorem zn_sipush {k : Int} (hc : zcode y pc = some (.sipush k, 3, r)) (h : zN y (pc + 3) L (zI k :: st) M Q) : zN y pc L st M Q := zN_step hc rfl rfl h
theorem zn_fconst0 (hc : zcode y pc = some (.fconst 0, 1, r)) (h : zN y (pc + 1) L (zF FP.fconst0 :: st) M Q) : zN y pc L st M Q := zN_step hc rfl rfl h
theorem zn_dup {v : zAV} (hc : zcode y pc = some (.dup, 1, r)) (hr : zcat v = 1) (h : zN y (pc + 1) L (v :: v :: st) M Q) : zN y pc L (v :: st) M Q := zN_step hc rfl (by unfold zstep; dsimp only; rw [if_pos hr]) h
theorem zn_goto {o : Int} {t a b : Nat} {v : Int} (hc : zcode y pc = some (.goto o, 3, (t, a, b, v))) (h : zN y t L st M Q) : zN y pc L st M Q := zN_step hc rfl rfl h
theorem zn_istore_n {i : Fin 4} {x : Int} (hc : zcode y pc = some (.istore_n i, 1, r)) (hl : (i : Nat) < L.length) (h : zN y (pc + 1) (zset1 L i (zI x)) st M Q) : zN y pc L (zI x :: st) M Q := zN_step hc rfl (by unfold zstep; dsimp only; rw [if_pos hl]) h
theorem zn_astore_n {i : Fin 4} {x : Nat} (hc : zcode y pc = some (.astore_n i, 1, r)) (hl : (i : Nat) < L.length) (h : zN y (pc + 1) (zset1 L i (zR x)) st M Q) : zN y pc L (zR x :: st) M Q := zN_step hc rfl (by unfold zstep; dsimp only; rw [if_pos hl]) h
theorem zn_iinc {i : Nat} {k x : Int} (hc : zcode y pc = some (.iinc i k, 3, r)) (hl : L.getD i none = some (zI x)) (h : zN y (pc + 3) (zset1 L i (zI (x + k))) st M Q) : zN y pc L st M Q := zN_step hc rfl (by unfold zstep; dsimp only; rw [hl]) h
theorem zn_icmp_t {x w o : Int} {t a b : Nat} {v : Int} (hc : zcode y pc = some (.if_icmp .ge o, 3, (t, a, b, v))) (hx : -2147483648 ≤ x ∧ x ≤ 2147483647) (hw : -2147483648 ≤ w ∧ w ≤ 2147483647) (hz : w ≤ x) (h : zN y t L st M Q) : zN y pc L (zI w :: zI x :: st) M Q := zN_step hc rfl (by unfold zstep; dsimp only; rw [if_pos (Or.inr ⟨hx, hw⟩), if_pos (show zcond .ge x w = true from decide_eq_true hz)]) h
theorem zn_icmp_f {x w o : Int} {t a b : Nat} {v : Int} (hc : zcode y pc = some (.if_icmp .ge o, 3, (t, a, b, v))) (hx : -2147483648 ≤ x ∧ x ≤ 2147483647) (hw : -2147483648 ≤ w ∧ w ≤ 2147483647) (hz : ¬ w ≤ x) (h : zN y (pc + 3) L st M Q) : zN y pc L (zI w :: zI x :: st) M Q := zN_step hc rfl (by unfold zstep; dsimp only; rw [if_pos (Or.inr ⟨hx, hw⟩), if_neg (show ¬ zcond .ge x w = true by rw [show zcond .ge x w = false from decide_eq_false hz]; decide)]) h
theorem zn_new {i K : Nat} (hc : zcode y pc = some (.new i, 3, r)) (hl : T.length = K) (hr : R.length = K) (hK : K < 900) (h : zN y (pc + 3) L (zR K :: st) (T ++ [(r.1, 0)], R ++ [List.replicate (zcls r.1).2.2 none], zclr Z K) Q) : zN y pc L st (T, R, Z) Q := by
  subst hl
  exact zN_step hc rfl (by unfold zstep; dsimp only; rw [if_pos ⟨hK, hr⟩]) h
theorem zn_newarray {t : ArrayType} {K : Nat} {m : Int} (hc : zcode y pc = some (.newarray t, 2, r)) (hl : T.length = K) (hr : R.length = K) (hK : K < 900) (hm : 0 ≤ m ∧ m ≤ 1000) (h : zN y (pc + 2) L (zR K :: st) (T ++ [(zkd t, m.toNat)], R ++ [[]], zclr Z K) Q) : zN y pc L (zI m :: st) (T, R, Z) Q := by
  subst hl
  exact zN_step hc rfl (by unfold zstep; dsimp only; rw [if_pos ⟨⟨hK, hr⟩, hm⟩]) h
theorem zn_anewarray {i K : Nat} {m : Int} (hc : zcode y pc = some (.anewarray i, 3, r)) (hl : T.length = K) (hr : R.length = K) (hK : K < 900) (hm : 0 ≤ m ∧ m ≤ 1000) (h : zN y (pc + 3) L (zR K :: st) (T ++ [(15, m.toNat)], R ++ [List.replicate m.toNat none], zclr Z K) Q) : zN y pc L (zI m :: st) (T, R, Z) Q := by
  subst hl
  exact zN_step hc rfl (by unfold zstep; dsimp only; rw [if_pos ⟨⟨hK, hr⟩, hm⟩]) h
theorem zn_putI {i c f p k : Nat} {v x : Int} (hc : zcode y pc = some (.putfield i, 3, (c, f, p, v))) (hT : T[k]? = some (c, 0)) (hf : (zfk.getD c []).getD f 9 = 0) (h : zN y (pc + 3) L st (T, R, zup Z k f x) Q) : zN y pc L (zI x :: zR k :: st) (T, R, Z) Q := by
  refine zN_step hc rfl ?_ h
  unfold zstep
  try dsimp only
  rw [if_pos hT, hf]
  all_goals first | done | rfl
theorem zn_putZ {i c f p k : Nat} {v x : Int} (hc : zcode y pc = some (.putfield i, 3, (c, f, p, v))) (hT : T[k]? = some (c, 0)) (hf : (zfk.getD c []).getD f 9 = 4) (hx : x = 0 ∨ x = 1) (h : zN y (pc + 3) L st (T, R, zup Z k f x) Q) : zN y pc L (zI x :: zR k :: st) (T, R, Z) Q := by
  refine zN_step hc rfl ?_ h
  unfold zstep
  try dsimp only
  rw [if_pos hT, hf]
  try dsimp only
  exact if_pos hx
theorem zn_putF {i c f p k : Nat} {v : Int} {x : UInt32} (hc : zcode y pc = some (.putfield i, 3, (c, f, p, v))) (hT : T[k]? = some (c, 0)) (hf : (zfk.getD c []).getD f 9 = 2) (h : zN y (pc + 3) L st (T, R, zup Z k f x.toNat) Q) : zN y pc L (zF x :: zR k :: st) (T, R, Z) Q := by
  refine zN_step hc rfl ?_ h
  unfold zstep
  try dsimp only
  rw [if_pos hT, hf]
  all_goals first | done | rfl
theorem zn_putR {i c f p k j : Nat} {v : Int} (hc : zcode y pc = some (.putfield i, 3, (c, f, p, v))) (hT : T[k]? = some (c, 0)) (hf : (zfk.getD c []).getD f 9 = 5) (hl : f < (R.getD k []).length) (h : zN y (pc + 3) L st (T, zrw R k f j, Z) Q) : zN y pc L (zR j :: zR k :: st) (T, R, Z) Q := by
  refine zN_step hc rfl ?_ h
  unfold zstep
  try dsimp only
  rw [if_pos hT, hf]
  try dsimp only
  exact if_pos hl
theorem zn_getR {i c f p k j : Nat} {v : Int} (hc : zcode y pc = some (.getfield i, 3, (c, f, p, v))) (hT : T[k]? = some (c, 0)) (hf : (zfk.getD c []).getD f 9 = 5) (hr : zrd R k f = some j) (h : zN y (pc + 3) L (zR j :: st) (T, R, Z) Q) : zN y pc L (zR k :: st) (T, R, Z) Q := by
  refine zN_step hc rfl ?_ h
  unfold zstep
  try dsimp only
  rw [if_pos hT, hf]
  try dsimp only
  rw [hr]
  all_goals first | done | rfl
theorem zn_aast {k j n : Nat} {i : Int} (hc : zcode y pc = some (.aastore, 1, r)) (hT : T[k]? = some (15, n)) (hi : 0 ≤ i ∧ i < (n : Int) ∧ i < 2147483648) (hj : T[j]? = some (4, 0)) (hl : i.toNat < (R.getD k []).length) (h : zN y (pc + 1) L st (T, zrw R k i.toNat j, Z) Q) : zN y pc L (zR j :: zI i :: zR k :: st) (T, R, Z) Q := by
  refine zN_step hc rfl ?_ h
  unfold zstep
  try dsimp only
  rw [hT]
  try dsimp only
  exact if_pos ⟨hi, hj, hl⟩
theorem zn_iast {k n : Nat} {i : Int} {x : Int} (hc : zcode y pc = some (.iastore, 1, r)) (hT : T[k]? = some (10, n)) (hi : 0 ≤ i ∧ i < (n : Int) ∧ i < 2147483648) (h : zN y (pc + 1) L st (T, R, zup Z k i.toNat x) Q) : zN y pc L (zI x :: zI i :: zR k :: st) (T, R, Z) Q := by
  refine zN_step hc rfl ?_ h
  unfold zstep
  try dsimp only
  rw [hT]
  try dsimp only
  exact if_pos hi
theorem zn_obj {i a b k : Nat} {v : Int} (hc : zcode y pc = some (.invokespecial i, 3, (1004, a, b, v))) (hs : (st.map zcat).sum ≤ 8) (h : zN y (pc + 3) L st M Q) : zN y pc L (zR k :: st) M Q := zN_step hc rfl (by unfold zstep; dsimp only; rw [if_pos rfl, if_pos hs]) h
theorem zn_return (hc : zcode y pc = some (.return_, 1, r)) (h : Q none M) : zN y pc L [] M Q := by
  rw [zN_iff]
  refine ⟨1, none, M, ?_, h⟩
  unfold zrun
  simp only [hc, show zkind .return_ r = 1 from rfl, show zleave .return_ r [] = some none from rfl]
theorem zn_cl {I : Instr} {n o c : Nat} {as : List zAV} (k : Nat) (hc : zcode y pc = some (I, n, r)) (hk : zkind I r = 2) (ht : ztake r.1 = k) (hl : k ≤ st.length) (hs : ((st.drop k).map zcat).sum ≤ 8) (hm : (zsl (st.take k).reverse).length ≤ zml r.1) (hT : T[o]? = some (c, 0)) (hcz : c < 9 ∧ (zcls c).1 = (zname r.1).cls) (hrv : (st.take k).reverse = zR o :: as)
    (h : zN r.1 0 (zent r.1 (st.take k).reverse) [] (T, R, Z) (fun v M' => zN y (pc + n) L (v.toList ++ st.drop k) M' Q)) : zN y pc L st (T, R, Z) Q := by
  have hr : zrecv r.1 (T, R, Z) (st.take k).reverse = true := by
    rw [hrv]
    unfold zrecv
    split
    · rfl
    · dsimp only
      rw [hT]
      exact decide_eq_true hcz
  rw [zN_iff] at h ⊢
  obtain ⟨f, v, M', h1, h0⟩ := h
  rw [zN_iff] at h0
  obtain ⟨f2, v2, M2, h2, h3⟩ := h0
  have e1 := zrun_more _ _ _ _ _ _ _ (f + f2) h1 (Nat.le_add_right _ _)
  have e2 := zrun_more _ _ _ _ _ _ _ (f + f2) h2 (Nat.le_add_left _ _)
  refine ⟨f + f2 + 1, v2, M2, ?_, h3⟩
  subst ht
  unfold zrun
  simp only [hc, hk]
  rw [if_pos ⟨hl, hs, hm, hr⟩, e1]
  exact e2
end ZNI
/-- what stands in the cells behind the constructors -/
def zI0 (xs : Nat → Int) (Ln : Nat) (Z : zMem) : Prop := (Z 2 3 = 0 ∧ Z 5 0 = 0 ∧ Z 1 2 = 0 ∧ Z 1 3 = 0 ∧ Z 11 0 = 0 ∧ Z 16 0 = 0) ∧ (Z 20 2 = 5 ∧ Z 20 3 = 0 ∧ Z 23 2 = 8 ∧ Z 23 3 = 0 ∧ Z 26 2 = 8 ∧ Z 26 3 = 0) ∧ (Z 29 1 = 0 ∧ Z 40 0 = 0 ∧ Z 42 2 = 5 ∧ Z 45 2 = 8 ∧ Z 48 2 = 8 ∧ Z 35 4 = 0) ∧ (Z 51 1 = -1 ∧ Z 53 1 = -1 ∧ Z 55 1 = -1 ∧ Z 57 1 = -1 ∧ Z 59 1 = -1 ∧ Z 61 1 = -1) ∧ (Z 51 2 = 0 ∧ Z 53 2 = 0 ∧ Z 55 2 = 0 ∧ Z 57 2 = 0 ∧ Z 59 2 = 0 ∧ Z 61 2 = 0) ∧ (Z 63 0 = 0 ∧ Z 63 2 = 0 ∧ Z 63 3 = 0 ∧ Z 63 4 = 0 ∧ Z 63 7 = 0 ∧ Z 63 10 = 0 ∧ Z 63 14 = 0 ∧ Z 63 17 = 0) ∧ (Z 76 0 = -1 ∧ Z 76 1 = -1 ∧ Z 76 2 = -1 ∧ Z 76 3 = -1 ∧ Z 76 4 = -1 ∧ Z 76 5 = -1) ∧ (∀ j, Z 77 j = 0) ∧ (∀ j, Z 1001 j = xs j) ∧ Z 1002 0 = Ln
set_option maxHeartbeats 40000000 in
theorem zinit {xs : Nat → Int} {Ln : Nat} {Q : Option zAV → zM → Prop} (h : ∀ Z, zI0 xs Ln Z → zE 184 18 [some (zR 1001), some (zR 0), some (zR 63), some (zI 0)] [] Z (fun v Z' => Q v (zTT, zRR, Z'))) : zN 184 0 [some (zR 1001), none, none, none] [] ([], [], zini xs Ln) Q := by
  refine zn_new (K := 0) kc_184_0 (by decide +kernel) (by decide +kernel) (by decide) ?_
  refine zn_dup kc_184_3 rfl ?_
  refine zn_cl (o := 0) (c := 7) 1 kc_184_4 rfl rfl (Nat.le_of_ble_eq_true rfl) (Nat.le_of_ble_eq_true rfl) (Nat.le_of_ble_eq_true rfl) (by decide +kernel) (by decide +kernel) rfl ?_
  change zN 41 0 [some (zR 0), none] [] _ _
  refine zn_aload_n kc_41_0 rfl ?_
  refine zn_obj kc_41_1 (by decide) ?_
  refine zn_aload_n kc_41_4 rfl ?_
  refine zn_new (K := 1) kc_41_5 (by decide +kernel) (by decide +kernel) (by decide) ?_
  refine zn_dup kc_41_8 rfl ?_
  refine zn_cl (o := 1) (c := 3) 1 kc_41_9 rfl rfl (Nat.le_of_ble_eq_true rfl) (Nat.le_of_ble_eq_true rfl) (Nat.le_of_ble_eq_true rfl) (by decide +kernel) (by decide +kernel) rfl ?_
  change zN 15 0 [some (zR 1)] [] _ _
  refine zn_aload_n kc_15_0 rfl ?_
  refine zn_obj kc_15_1 (by decide) ?_
  refine zn_aload_n kc_15_4 rfl ?_
  refine zn_new (K := 2) kc_15_5 (by decide +kernel) (by decide +kernel) (by decide) ?_
  refine zn_dup kc_15_8 rfl ?_
  refine zn_cl (o := 2) (c := 0) 1 kc_15_9 rfl rfl (Nat.le_of_ble_eq_true rfl) (Nat.le_of_ble_eq_true rfl) (Nat.le_of_ble_eq_true rfl) (by decide +kernel) (by decide +kernel) rfl ?_
  change zN 0 0 [some (zR 2)] [] _ _
  refine zn_aload_n kc_0_0 rfl ?_
  refine zn_obj kc_0_1 (by decide) ?_
  refine zn_aload_n kc_0_4 rfl ?_
  refine zn_bipush kc_0_5 ?_
  refine zn_newarray (K := 3) kc_0_7 (by decide +kernel) (by decide +kernel) (by decide) (by decide) ?_
  refine zn_putR kc_0_9 (by decide +kernel) rfl (by decide +kernel) ?_
  refine zn_aload_n kc_0_12 rfl ?_
  refine zn_bipush kc_0_13 ?_
  refine zn_newarray (K := 4) kc_0_15 (by decide +kernel) (by decide +kernel) (by decide) (by decide) ?_
  refine zn_putR kc_0_17 (by decide +kernel) rfl (by decide +kernel) ?_
  refine zn_aload_n kc_0_20 rfl ?_
  refine zn_bipush kc_0_21 ?_
  refine zn_newarray (K := 5) kc_0_23 (by decide +kernel) (by decide +kernel) (by decide) (by decide) ?_
  refine zn_putR kc_0_25 (by decide +kernel) rfl (by decide +kernel) ?_
  refine zn_aload_n kc_0_28 rfl ?_
  refine zn_iconst kc_0_29 ?_
  refine zn_putI kc_0_30 (by decide +kernel) rfl ?_
  refine zn_return kc_0_33 ?_
  simp only [Option.toList_none, Option.toList_some, List.drop_succ_cons, List.drop_zero, List.cons_append, List.nil_append]
  refine zn_putR kc_15_12 (by decide +kernel) rfl (by decide +kernel) ?_
  refine zn_aload_n kc_15_15 rfl ?_
  refine zn_bipush kc_15_16 ?_
  refine zn_newarray (K := 6) kc_15_18 (by decide +kernel) (by decide +kernel) (by decide) (by decide) ?_
  refine zn_putR kc_15_20 (by decide +kernel) rfl (by decide +kernel) ?_
  refine zn_aload_n kc_15_23 rfl ?_
  refine zn_iconst kc_15_24 ?_
  refine zn_putI kc_15_25 (by decide +kernel) rfl ?_
  refine zn_aload_n kc_15_28 rfl ?_
  refine zn_iconst kc_15_29 ?_
  refine zn_putI kc_15_30 (by decide +kernel) rfl ?_
  refine zn_return kc_15_33 ?_
  simp only [Option.toList_none, Option.toList_some, List.drop_succ_cons, List.drop_zero, List.cons_append, List.nil_append]
  refine zn_putR kc_41_12 (by decide +kernel) rfl (by decide +kernel) ?_
  refine zn_aload_n kc_41_15 rfl ?_
  refine zn_new (K := 7) kc_41_16 (by decide +kernel) (by decide +kernel) (by decide) ?_
  refine zn_dup kc_41_19 rfl ?_
  refine zn_cl (o := 7) (c := 3) 1 kc_41_20 rfl rfl (Nat.le_of_ble_eq_true rfl) (Nat.le_of_ble_eq_true rfl) (Nat.le_of_ble_eq_true rfl) (by decide +kernel) (by decide +kernel) rfl ?_
  change zN 15 0 [some (zR 7)] [] _ _
  refine zn_aload_n kc_15_0 rfl ?_
  refine zn_obj kc_15_1 (by decide) ?_
  refine zn_aload_n kc_15_4 rfl ?_
  refine zn_new (K := 8) kc_15_5 (by decide +kernel) (by decide +kernel) (by decide) ?_
  refine zn_dup kc_15_8 rfl ?_
  refine zn_cl (o := 8) (c := 0) 1 kc_15_9 rfl rfl (Nat.le_of_ble_eq_true rfl) (Nat.le_of_ble_eq_true rfl) (Nat.le_of_ble_eq_true rfl) (by decide +kernel) (by decide +kernel) rfl ?_
  change zN 0 0 [some (zR 8)] [] _ _
  refine zn_aload_n kc_0_0 rfl ?_
  refine zn_obj kc_0_1 (by decide) ?_
  refine zn_aload_n kc_0_4 rfl ?_
  refine zn_bipush kc_0_5 ?_
  refine zn_newarray (K := 9) kc_0_7 (by decide +kernel) (by decide +kernel) (by decide) (by decide) ?_
  refine zn_putR kc_0_9 (by decide +kernel) rfl (by decide +kernel) ?_
  refine zn_aload_n kc_0_12 rfl ?_
  refine zn_bipush kc_0_13 ?_
  refine zn_newarray (K := 10) kc_0_15 (by decide +kernel) (by decide +kernel) (by decide) (by decide) ?_
  refine zn_putR kc_0_17 (by decide +kernel) rfl (by decide +kernel) ?_
  refine zn_aload_n kc_0_20 rfl ?_
  refine zn_bipush kc_0_21 ?_
  refine zn_newarray (K := 11) kc_0_23 (by decide +kernel) (by decide +kernel) (by decide) (by decide) ?_
  refine zn_putR kc_0_25 (by decide +kernel) rfl (by decide +kernel) ?_
  refine zn_aload_n kc_0_28 rfl ?_
  refine zn_iconst kc_0_29 ?_
  refine zn_putI kc_0_30 (by decide +kernel) rfl ?_
  refine zn_return kc_0_33 ?_
  simp only [Option.toList_none, Option.toList_some, List.drop_succ_cons, List.drop_zero, List.cons_append, List.nil_append]
  refine zn_putR kc_15_12 (by decide +kernel) rfl (by decide +kernel) ?_
  refine zn_aload_n kc_15_15 rfl ?_
  refine zn_bipush kc_15_16 ?_
  refine zn_newarray (K := 12) kc_15_18 (by decide +kernel) (by decide +kernel) (by decide) (by decide) ?_
  refine zn_putR kc_15_20 (by decide +kernel) rfl (by decide +kernel) ?_
  refine zn_aload_n kc_15_23 rfl ?_
  refine zn_iconst kc_15_24 ?_
  refine zn_putI kc_15_25 (by decide +kernel) rfl ?_
  refine zn_aload_n kc_15_28 rfl ?_
  refine zn_iconst kc_15_29 ?_
  refine zn_putI kc_15_30 (by decide +kernel) rfl ?_
  refine zn_return kc_15_33 ?_
  simp only [Option.toList_none, Option.toList_some, List.drop_succ_cons, List.drop_zero, List.cons_append, List.nil_append]
  refine zn_putR kc_41_23 (by decide +kernel) rfl (by decide +kernel) ?_
  refine zn_aload_n kc_41_26 rfl ?_
  refine zn_new (K := 13) kc_41_27 (by decide +kernel) (by decide +kernel) (by decide) ?_
  refine zn_dup kc_41_30 rfl ?_
  refine zn_cl (o := 13) (c := 0) 1 kc_41_31 rfl rfl (Nat.le_of_ble_eq_true rfl) (Nat.le_of_ble_eq_true rfl) (Nat.le_of_ble_eq_true rfl) (by decide +kernel) (by decide +kernel) rfl ?_
  change zN 0 0 [some (zR 13)] [] _ _
  refine zn_aload_n kc_0_0 rfl ?_
  refine zn_obj kc_0_1 (by decide) ?_
  refine zn_aload_n kc_0_4 rfl ?_
  refine zn_bipush kc_0_5 ?_
  refine zn_newarray (K := 14) kc_0_7 (by decide +kernel) (by decide +kernel) (by decide) (by decide) ?_
  refine zn_putR kc_0_9 (by decide +kernel) rfl (by decide +kernel) ?_
  refine zn_aload_n kc_0_12 rfl ?_
  refine zn_bipush kc_0_13 ?_
  refine zn_newarray (K := 15) kc_0_15 (by decide +kernel) (by decide +kernel) (by decide) (by decide) ?_
  refine zn_putR kc_0_17 (by decide +kernel) rfl (by decide +kernel) ?_
  refine zn_aload_n kc_0_20 rfl ?_
  refine zn_bipush kc_0_21 ?_
  refine zn_newarray (K := 16) kc_0_23 (by decide +kernel) (by decide +kernel) (by decide) (by decide) ?_
  refine zn_putR kc_0_25 (by decide +kernel) rfl (by decide +kernel) ?_
  refine zn_aload_n kc_0_28 rfl ?_
  refine zn_iconst kc_0_29 ?_
  refine zn_putI kc_0_30 (by decide +kernel) rfl ?_
  refine zn_return kc_0_33 ?_
  simp only [Option.toList_none, Option.toList_some, List.drop_succ_cons, List.drop_zero, List.cons_append, List.nil_append]
  refine zn_putR kc_41_34 (by decide +kernel) rfl (by decide +kernel) ?_
  refine zn_aload_n kc_41_37 rfl ?_
  refine zn_new (K := 17) kc_41_38 (by decide +kernel) (by decide +kernel) (by decide) ?_
  refine zn_dup kc_41_41 rfl ?_
  refine zn_cl (o := 17) (c := 6) 1 kc_41_42 rfl rfl (Nat.le_of_ble_eq_true rfl) (Nat.le_of_ble_eq_true rfl) (Nat.le_of_ble_eq_true rfl) (by decide +kernel) (by decide +kernel) rfl ?_
  change zN 35 0 [some (zR 17)] [] _ _
  refine zn_aload_n kc_35_0 rfl ?_
  refine zn_obj kc_35_1 (by decide) ?_
  refine zn_aload_n kc_35_4 rfl ?_
  refine zn_bipush kc_35_5 ?_
  refine zn_newarray (K := 18) kc_35_7 (by decide +kernel) (by decide +kernel) (by decide) (by decide) ?_
  refine zn_putR kc_35_9 (by decide +kernel) rfl (by decide +kernel) ?_
  refine zn_aload_n kc_35_12 rfl ?_
  refine zn_bipush kc_35_13 ?_
  refine zn_newarray (K := 19) kc_35_15 (by decide +kernel) (by decide +kernel) (by decide) (by decide) ?_
  refine zn_putR kc_35_17 (by decide +kernel) rfl (by decide +kernel) ?_
  refine zn_aload_n kc_35_20 rfl ?_
  refine zn_fconst0 kc_35_21 ?_
  refine zn_putF kc_35_22 (by decide +kernel) rfl ?_
  refine zn_aload_n kc_35_25 rfl ?_
  refine zn_iconst kc_35_26 ?_
  refine zn_putI kc_35_27 (by decide +kernel) rfl ?_
  refine zn_aload_n kc_35_30 rfl ?_
  refine zn_fconst0 kc_35_31 ?_
  refine zn_putF kc_35_32 (by decide +kernel) rfl ?_
  refine zn_return kc_35_35 ?_
  simp only [Option.toList_none, Option.toList_some, List.drop_succ_cons, List.drop_zero, List.cons_append, List.nil_append]
  refine zn_putR kc_41_45 (by decide +kernel) rfl (by decide +kernel) ?_
  refine zn_aload_n kc_41_48 rfl ?_
  refine zn_new (K := 20) kc_41_49 (by decide +kernel) (by decide +kernel) (by decide) ?_
  refine zn_dup kc_41_52 rfl ?_
  refine zn_iconst kc_41_53 ?_
  refine zn_cl (o := 20) (c := 2) 2 kc_41_54 rfl rfl (Nat.le_of_ble_eq_true rfl) (Nat.le_of_ble_eq_true rfl) (Nat.le_of_ble_eq_true rfl) (by decide +kernel) (by decide +kernel) rfl ?_
  change zN 12 0 [some (zR 20), some (zI (5))] [] _ _
  refine zn_aload_n kc_12_0 rfl ?_
  refine zn_obj kc_12_1 (by decide) ?_
  refine zn_aload_n kc_12_4 rfl ?_
  refine zn_iconst kc_12_5 ?_
  refine zn_putI kc_12_6 (by decide +kernel) rfl ?_
  refine zn_aload_n kc_12_9 rfl ?_
  refine zn_iload_n kc_12_10 rfl ?_
  refine zn_putI kc_12_11 (by decide +kernel) rfl ?_
  refine zn_aload_n kc_12_14 rfl ?_
  refine zn_iload_n kc_12_15 rfl ?_
  refine zn_newarray (K := 21) kc_12_16 (by decide +kernel) (by decide +kernel) (by decide) (by decide) ?_
  refine zn_putR kc_12_18 (by decide +kernel) rfl (by decide +kernel) ?_
  refine zn_aload_n kc_12_21 rfl ?_
  refine zn_iload_n kc_12_22 rfl ?_
  refine zn_newarray (K := 22) kc_12_23 (by decide +kernel) (by decide +kernel) (by decide) (by decide) ?_
  refine zn_putR kc_12_25 (by decide +kernel) rfl (by decide +kernel) ?_
  refine zn_return kc_12_28 ?_
  simp only [Option.toList_none, Option.toList_some, List.drop_succ_cons, List.drop_zero, List.cons_append, List.nil_append]
  refine zn_putR kc_41_57 (by decide +kernel) rfl (by decide +kernel) ?_
  refine zn_aload_n kc_41_60 rfl ?_
  refine zn_new (K := 23) kc_41_61 (by decide +kernel) (by decide +kernel) (by decide) ?_
  refine zn_dup kc_41_64 rfl ?_
  refine zn_bipush kc_41_65 ?_
  refine zn_cl (o := 23) (c := 2) 2 kc_41_67 rfl rfl (Nat.le_of_ble_eq_true rfl) (Nat.le_of_ble_eq_true rfl) (Nat.le_of_ble_eq_true rfl) (by decide +kernel) (by decide +kernel) rfl ?_
  change zN 12 0 [some (zR 23), some (zI (8))] [] _ _
  refine zn_aload_n kc_12_0 rfl ?_
  refine zn_obj kc_12_1 (by decide) ?_
  refine zn_aload_n kc_12_4 rfl ?_
  refine zn_iconst kc_12_5 ?_
  refine zn_putI kc_12_6 (by decide +kernel) rfl ?_
  refine zn_aload_n kc_12_9 rfl ?_
  refine zn_iload_n kc_12_10 rfl ?_
  refine zn_putI kc_12_11 (by decide +kernel) rfl ?_
  refine zn_aload_n kc_12_14 rfl ?_
  refine zn_iload_n kc_12_15 rfl ?_
  refine zn_newarray (K := 24) kc_12_16 (by decide +kernel) (by decide +kernel) (by decide) (by decide) ?_
  refine zn_putR kc_12_18 (by decide +kernel) rfl (by decide +kernel) ?_
  refine zn_aload_n kc_12_21 rfl ?_
  refine zn_iload_n kc_12_22 rfl ?_
  refine zn_newarray (K := 25) kc_12_23 (by decide +kernel) (by decide +kernel) (by decide) (by decide) ?_
  refine zn_putR kc_12_25 (by decide +kernel) rfl (by decide +kernel) ?_
  refine zn_return kc_12_28 ?_
  simp only [Option.toList_none, Option.toList_some, List.drop_succ_cons, List.drop_zero, List.cons_append, List.nil_append]
  refine zn_putR kc_41_70 (by decide +kernel) rfl (by decide +kernel) ?_
  refine zn_aload_n kc_41_73 rfl ?_
  refine zn_new (K := 26) kc_41_74 (by decide +kernel) (by decide +kernel) (by decide) ?_
  refine zn_dup kc_41_77 rfl ?_
  refine zn_bipush kc_41_78 ?_
  refine zn_cl (o := 26) (c := 2) 2 kc_41_80 rfl rfl (Nat.le_of_ble_eq_true rfl) (Nat.le_of_ble_eq_true rfl) (Nat.le_of_ble_eq_true rfl) (by decide +kernel) (by decide +kernel) rfl ?_
  change zN 12 0 [some (zR 26), some (zI (8))] [] _ _
  refine zn_aload_n kc_12_0 rfl ?_
  refine zn_obj kc_12_1 (by decide) ?_
  refine zn_aload_n kc_12_4 rfl ?_
  refine zn_iconst kc_12_5 ?_
  refine zn_putI kc_12_6 (by decide +kernel) rfl ?_
  refine zn_aload_n kc_12_9 rfl ?_
  refine zn_iload_n kc_12_10 rfl ?_
  refine zn_putI kc_12_11 (by decide +kernel) rfl ?_
  refine zn_aload_n kc_12_14 rfl ?_
  refine zn_iload_n kc_12_15 rfl ?_
  refine zn_newarray (K := 27) kc_12_16 (by decide +kernel) (by decide +kernel) (by decide) (by decide) ?_
  refine zn_putR kc_12_18 (by decide +kernel) rfl (by decide +kernel) ?_
  refine zn_aload_n kc_12_21 rfl ?_
  refine zn_iload_n kc_12_22 rfl ?_
  refine zn_newarray (K := 28) kc_12_23 (by decide +kernel) (by decide +kernel) (by decide) (by decide) ?_
  refine zn_putR kc_12_25 (by decide +kernel) rfl (by decide +kernel) ?_
  refine zn_return kc_12_28 ?_
  simp only [Option.toList_none, Option.toList_some, List.drop_succ_cons, List.drop_zero, List.cons_append, List.nil_append]
  refine zn_putR kc_41_83 (by decide +kernel) rfl (by decide +kernel) ?_
  refine zn_aload_n kc_41_86 rfl ?_
  refine zn_new (K := 29) kc_41_87 (by decide +kernel) (by decide +kernel) (by decide) ?_
  refine zn_dup kc_41_90 rfl ?_
  refine zn_cl (o := 29) (c := 5) 1 kc_41_91 rfl rfl (Nat.le_of_ble_eq_true rfl) (Nat.le_of_ble_eq_true rfl) (Nat.le_of_ble_eq_true rfl) (by decide +kernel) (by decide +kernel) rfl ?_
  change zN 30 0 [some (zR 29)] [] _ _
  refine zn_aload_n kc_30_0 rfl ?_
  refine zn_obj kc_30_1 (by decide) ?_
  refine zn_aload_n kc_30_4 rfl ?_
  refine zn_bipush kc_30_5 ?_
  refine zn_newarray (K := 30) kc_30_7 (by decide +kernel) (by decide +kernel) (by decide) (by decide) ?_
  refine zn_putR kc_30_9 (by decide +kernel) rfl (by decide +kernel) ?_
  refine zn_aload_n kc_30_12 rfl ?_
  refine zn_iconst kc_30_13 ?_
  refine zn_putI kc_30_14 (by decide +kernel) rfl ?_
  refine zn_aload_n kc_30_17 rfl ?_
  refine zn_bipush kc_30_18 ?_
  refine zn_newarray (K := 31) kc_30_20 (by decide +kernel) (by decide +kernel) (by decide) (by decide) ?_
  refine zn_putR kc_30_22 (by decide +kernel) rfl (by decide +kernel) ?_
  refine zn_aload_n kc_30_25 rfl ?_
  refine zn_bipush kc_30_26 ?_
  refine zn_newarray (K := 32) kc_30_28 (by decide +kernel) (by decide +kernel) (by decide) (by decide) ?_
  refine zn_putR kc_30_30 (by decide +kernel) rfl (by decide +kernel) ?_
  refine zn_aload_n kc_30_33 rfl ?_
  refine zn_bipush kc_30_34 ?_
  refine zn_newarray (K := 33) kc_30_36 (by decide +kernel) (by decide +kernel) (by decide) (by decide) ?_
  refine zn_putR kc_30_38 (by decide +kernel) rfl (by decide +kernel) ?_
  refine zn_aload_n kc_30_41 rfl ?_
  refine zn_iconst kc_30_42 ?_
  refine zn_putI kc_30_43 (by decide +kernel) rfl ?_
  refine zn_aload_n kc_30_46 rfl ?_
  refine zn_iconst kc_30_47 ?_
  refine zn_putI kc_30_48 (by decide +kernel) rfl ?_
  refine zn_return kc_30_51 ?_
  simp only [Option.toList_none, Option.toList_some, List.drop_succ_cons, List.drop_zero, List.cons_append, List.nil_append]
  refine zn_putR kc_41_94 (by decide +kernel) rfl (by decide +kernel) ?_
  refine zn_aload_n kc_41_97 rfl ?_
  refine zn_bipush kc_41_98 ?_
  refine zn_anewarray (K := 34) kc_41_100 (by decide +kernel) (by decide +kernel) (by decide) (by decide) ?_
  refine zn_putR kc_41_103 (by decide +kernel) rfl (by decide +kernel) ?_
  refine zn_aload_n kc_41_106 rfl ?_
  refine zn_new (K := 35) kc_41_107 (by decide +kernel) (by decide +kernel) (by decide) ?_
  refine zn_dup kc_41_110 rfl ?_
  refine zn_cl (o := 35) (c := 1) 1 kc_41_111 rfl rfl (Nat.le_of_ble_eq_true rfl) (Nat.le_of_ble_eq_true rfl) (Nat.le_of_ble_eq_true rfl) (by decide +kernel) (by decide +kernel) rfl ?_
  change zN 11 0 [some (zR 35)] [] _ _
  refine zn_aload_n kc_11_0 rfl ?_
  refine zn_obj kc_11_1 (by decide) ?_
  refine zn_aload_n kc_11_4 rfl ?_
  refine zn_new (K := 36) kc_11_5 (by decide +kernel) (by decide +kernel) (by decide) ?_
  refine zn_dup kc_11_8 rfl ?_
  refine zn_cl (o := 36) (c := 3) 1 kc_11_9 rfl rfl (Nat.le_of_ble_eq_true rfl) (Nat.le_of_ble_eq_true rfl) (Nat.le_of_ble_eq_true rfl) (by decide +kernel) (by decide +kernel) rfl ?_
  change zN 15 0 [some (zR 36)] [] _ _
  refine zn_aload_n kc_15_0 rfl ?_
  refine zn_obj kc_15_1 (by decide) ?_
  refine zn_aload_n kc_15_4 rfl ?_
  refine zn_new (K := 37) kc_15_5 (by decide +kernel) (by decide +kernel) (by decide) ?_
  refine zn_dup kc_15_8 rfl ?_
  refine zn_cl (o := 37) (c := 0) 1 kc_15_9 rfl rfl (Nat.le_of_ble_eq_true rfl) (Nat.le_of_ble_eq_true rfl) (Nat.le_of_ble_eq_true rfl) (by decide +kernel) (by decide +kernel) rfl ?_
  change zN 0 0 [some (zR 37)] [] _ _
  refine zn_aload_n kc_0_0 rfl ?_
  refine zn_obj kc_0_1 (by decide) ?_
  refine zn_aload_n kc_0_4 rfl ?_
  refine zn_bipush kc_0_5 ?_
  refine zn_newarray (K := 38) kc_0_7 (by decide +kernel) (by decide +kernel) (by decide) (by decide) ?_
  refine zn_putR kc_0_9 (by decide +kernel) rfl (by decide +kernel) ?_
  refine zn_aload_n kc_0_12 rfl ?_
  refine zn_bipush kc_0_13 ?_
  refine zn_newarray (K := 39) kc_0_15 (by decide +kernel) (by decide +kernel) (by decide) (by decide) ?_
  refine zn_putR kc_0_17 (by decide +kernel) rfl (by decide +kernel) ?_
  refine zn_aload_n kc_0_20 rfl ?_
  refine zn_bipush kc_0_21 ?_
  refine zn_newarray (K := 40) kc_0_23 (by decide +kernel) (by decide +kernel) (by decide) (by decide) ?_
  refine zn_putR kc_0_25 (by decide +kernel) rfl (by decide +kernel) ?_
  refine zn_aload_n kc_0_28 rfl ?_
  refine zn_iconst kc_0_29 ?_
  refine zn_putI kc_0_30 (by decide +kernel) rfl ?_
  refine zn_return kc_0_33 ?_
  simp only [Option.toList_none, Option.toList_some, List.drop_succ_cons, List.drop_zero, List.cons_append, List.nil_append]
  refine zn_putR kc_15_12 (by decide +kernel) rfl (by decide +kernel) ?_
  refine zn_aload_n kc_15_15 rfl ?_
  refine zn_bipush kc_15_16 ?_
  refine zn_newarray (K := 41) kc_15_18 (by decide +kernel) (by decide +kernel) (by decide) (by decide) ?_
  refine zn_putR kc_15_20 (by decide +kernel) rfl (by decide +kernel) ?_
  refine zn_aload_n kc_15_23 rfl ?_
  refine zn_iconst kc_15_24 ?_
  refine zn_putI kc_15_25 (by decide +kernel) rfl ?_
  refine zn_aload_n kc_15_28 rfl ?_
  refine zn_iconst kc_15_29 ?_
  refine zn_putI kc_15_30 (by decide +kernel) rfl ?_
  refine zn_return kc_15_33 ?_
  simp only [Option.toList_none, Option.toList_some, List.drop_succ_cons, List.drop_zero, List.cons_append, List.nil_append]
  refine zn_putR kc_11_12 (by decide +kernel) rfl (by decide +kernel) ?_
  refine zn_aload_n kc_11_15 rfl ?_
  refine zn_new (K := 42) kc_11_16 (by decide +kernel) (by decide +kernel) (by decide) ?_
  refine zn_dup kc_11_19 rfl ?_
  refine zn_iconst kc_11_20 ?_
  refine zn_cl (o := 42) (c := 2) 2 kc_11_21 rfl rfl (Nat.le_of_ble_eq_true rfl) (Nat.le_of_ble_eq_true rfl) (Nat.le_of_ble_eq_true rfl) (by decide +kernel) (by decide +kernel) rfl ?_
  change zN 12 0 [some (zR 42), some (zI (5))] [] _ _
  refine zn_aload_n kc_12_0 rfl ?_
  refine zn_obj kc_12_1 (by decide) ?_
  refine zn_aload_n kc_12_4 rfl ?_
  refine zn_iconst kc_12_5 ?_
  refine zn_putI kc_12_6 (by decide +kernel) rfl ?_
  refine zn_aload_n kc_12_9 rfl ?_
  refine zn_iload_n kc_12_10 rfl ?_
  refine zn_putI kc_12_11 (by decide +kernel) rfl ?_
  refine zn_aload_n kc_12_14 rfl ?_
  refine zn_iload_n kc_12_15 rfl ?_
  refine zn_newarray (K := 43) kc_12_16 (by decide +kernel) (by decide +kernel) (by decide) (by decide) ?_
  refine zn_putR kc_12_18 (by decide +kernel) rfl (by decide +kernel) ?_
  refine zn_aload_n kc_12_21 rfl ?_
  refine zn_iload_n kc_12_22 rfl ?_
  refine zn_newarray (K := 44) kc_12_23 (by decide +kernel) (by decide +kernel) (by decide) (by decide) ?_
  refine zn_putR kc_12_25 (by decide +kernel) rfl (by decide +kernel) ?_
  refine zn_return kc_12_28 ?_
  simp only [Option.toList_none, Option.toList_some, List.drop_succ_cons, List.drop_zero, List.cons_append, List.nil_append]
  refine zn_putR kc_11_24 (by decide +kernel) rfl (by decide +kernel) ?_
  refine zn_aload_n kc_11_27 rfl ?_
  refine zn_new (K := 45) kc_11_28 (by decide +kernel) (by decide +kernel) (by decide) ?_
  refine zn_dup kc_11_31 rfl ?_
  refine zn_bipush kc_11_32 ?_
  refine zn_cl (o := 45) (c := 2) 2 kc_11_34 rfl rfl (Nat.le_of_ble_eq_true rfl) (Nat.le_of_ble_eq_true rfl) (Nat.le_of_ble_eq_true rfl) (by decide +kernel) (by decide +kernel) rfl ?_
  change zN 12 0 [some (zR 45), some (zI (8))] [] _ _
  refine zn_aload_n kc_12_0 rfl ?_
  refine zn_obj kc_12_1 (by decide) ?_
  refine zn_aload_n kc_12_4 rfl ?_
  refine zn_iconst kc_12_5 ?_
  refine zn_putI kc_12_6 (by decide +kernel) rfl ?_
  refine zn_aload_n kc_12_9 rfl ?_
  refine zn_iload_n kc_12_10 rfl ?_
  refine zn_putI kc_12_11 (by decide +kernel) rfl ?_
  refine zn_aload_n kc_12_14 rfl ?_
  refine zn_iload_n kc_12_15 rfl ?_
  refine zn_newarray (K := 46) kc_12_16 (by decide +kernel) (by decide +kernel) (by decide) (by decide) ?_
  refine zn_putR kc_12_18 (by decide +kernel) rfl (by decide +kernel) ?_
  refine zn_aload_n kc_12_21 rfl ?_
  refine zn_iload_n kc_12_22 rfl ?_
  refine zn_newarray (K := 47) kc_12_23 (by decide +kernel) (by decide +kernel) (by decide) (by decide) ?_
  refine zn_putR kc_12_25 (by decide +kernel) rfl (by decide +kernel) ?_
  refine zn_return kc_12_28 ?_
  simp only [Option.toList_none, Option.toList_some, List.drop_succ_cons, List.drop_zero, List.cons_append, List.nil_append]
  refine zn_putR kc_11_37 (by decide +kernel) rfl (by decide +kernel) ?_
  refine zn_aload_n kc_11_40 rfl ?_
  refine zn_new (K := 48) kc_11_41 (by decide +kernel) (by decide +kernel) (by decide) ?_
  refine zn_dup kc_11_44 rfl ?_
  refine zn_bipush kc_11_45 ?_
  refine zn_cl (o := 48) (c := 2) 2 kc_11_47 rfl rfl (Nat.le_of_ble_eq_true rfl) (Nat.le_of_ble_eq_true rfl) (Nat.le_of_ble_eq_true rfl) (by decide +kernel) (by decide +kernel) rfl ?_
  change zN 12 0 [some (zR 48), some (zI (8))] [] _ _
  refine zn_aload_n kc_12_0 rfl ?_
  refine zn_obj kc_12_1 (by decide) ?_
  refine zn_aload_n kc_12_4 rfl ?_
  refine zn_iconst kc_12_5 ?_
  refine zn_putI kc_12_6 (by decide +kernel) rfl ?_
  refine zn_aload_n kc_12_9 rfl ?_
  refine zn_iload_n kc_12_10 rfl ?_
  refine zn_putI kc_12_11 (by decide +kernel) rfl ?_
  refine zn_aload_n kc_12_14 rfl ?_
  refine zn_iload_n kc_12_15 rfl ?_
  refine zn_newarray (K := 49) kc_12_16 (by decide +kernel) (by decide +kernel) (by decide) (by decide) ?_
  refine zn_putR kc_12_18 (by decide +kernel) rfl (by decide +kernel) ?_
  refine zn_aload_n kc_12_21 rfl ?_
  refine zn_iload_n kc_12_22 rfl ?_
  refine zn_newarray (K := 50) kc_12_23 (by decide +kernel) (by decide +kernel) (by decide) (by decide) ?_
  refine zn_putR kc_12_25 (by decide +kernel) rfl (by decide +kernel) ?_
  refine zn_return kc_12_28 ?_
  simp only [Option.toList_none, Option.toList_some, List.drop_succ_cons, List.drop_zero, List.cons_append, List.nil_append]
  refine zn_putR kc_11_50 (by decide +kernel) rfl (by decide +kernel) ?_
  refine zn_aload_n kc_11_53 rfl ?_
  refine zn_iconst kc_11_54 ?_
  refine zn_putZ kc_11_55 (by decide +kernel) rfl (by decide) ?_
  refine zn_return kc_11_58 ?_
  simp only [Option.toList_none, Option.toList_some, List.drop_succ_cons, List.drop_zero, List.cons_append, List.nil_append]
  refine zn_putR kc_41_114 (by decide +kernel) rfl (by decide +kernel) ?_
  refine zn_iconst kc_41_117 ?_
  refine zn_istore_n kc_41_118 (Nat.le_of_ble_eq_true rfl) ?_
  simp only [zset1, zset2, zcut, zf0, zf1, zf2, zf3, List.set_cons_zero, List.set_cons_succ, List.getD_cons_zero, List.getD_cons_succ]
  refine zn_iload_n kc_41_119 rfl ?_
  refine zn_bipush kc_41_120 ?_
  refine zn_icmp_f kc_41_122 (by decide) (by decide) (by decide) ?_
  refine zn_aload_n kc_41_125 rfl ?_
  refine zn_getR (j := 34) kc_41_126 (by decide +kernel) rfl (by decide +kernel) ?_
  refine zn_iload_n kc_41_129 rfl ?_
  refine zn_new (K := 51) kc_41_130 (by decide +kernel) (by decide +kernel) (by decide) ?_
  refine zn_dup kc_41_133 rfl ?_
  refine zn_cl (o := 51) (c := 4) 1 kc_41_134 rfl rfl (Nat.le_of_ble_eq_true rfl) (Nat.le_of_ble_eq_true rfl) (Nat.le_of_ble_eq_true rfl) (by decide +kernel) (by decide +kernel) rfl ?_
  change zN 25 0 [some (zR 51)] [] _ _
  refine zn_aload_n kc_25_0 rfl ?_
  refine zn_obj kc_25_1 (by decide) ?_
  refine zn_aload_n kc_25_4 rfl ?_
  refine zn_bipush kc_25_5 ?_
  refine zn_newarray (K := 52) kc_25_7 (by decide +kernel) (by decide +kernel) (by decide) (by decide) ?_
  refine zn_putR kc_25_9 (by decide +kernel) rfl (by decide +kernel) ?_
  refine zn_aload_n kc_25_12 rfl ?_
  refine zn_iconst kc_25_13 ?_
  refine zn_putI kc_25_14 (by decide +kernel) rfl ?_
  refine zn_aload_n kc_25_17 rfl ?_
  refine zn_iconst kc_25_18 ?_
  refine zn_putI kc_25_19 (by decide +kernel) rfl ?_
  refine zn_return kc_25_22 ?_
  simp only [Option.toList_none, Option.toList_some, List.drop_succ_cons, List.drop_zero, List.cons_append, List.nil_append]
  refine zn_aast (n := 6) kc_41_137 (by decide +kernel) (by decide) (by decide +kernel) (by decide +kernel) ?_
  refine zn_iinc kc_41_138 rfl ?_
  simp only [zset1, zset2, zcut, zf0, zf1, zf2, zf3, List.set_cons_zero, List.set_cons_succ, List.getD_cons_zero, List.getD_cons_succ]
  refine zn_goto kc_41_141 ?_
  refine zn_iload_n kc_41_119 rfl ?_
  refine zn_bipush kc_41_120 ?_
  refine zn_icmp_f kc_41_122 (by decide) (by decide) (by decide) ?_
  refine zn_aload_n kc_41_125 rfl ?_
  refine zn_getR (j := 34) kc_41_126 (by decide +kernel) rfl (by decide +kernel) ?_
  refine zn_iload_n kc_41_129 rfl ?_
  refine zn_new (K := 53) kc_41_130 (by decide +kernel) (by decide +kernel) (by decide) ?_
  refine zn_dup kc_41_133 rfl ?_
  refine zn_cl (o := 53) (c := 4) 1 kc_41_134 rfl rfl (Nat.le_of_ble_eq_true rfl) (Nat.le_of_ble_eq_true rfl) (Nat.le_of_ble_eq_true rfl) (by decide +kernel) (by decide +kernel) rfl ?_
  change zN 25 0 [some (zR 53)] [] _ _
  refine zn_aload_n kc_25_0 rfl ?_
  refine zn_obj kc_25_1 (by decide) ?_
  refine zn_aload_n kc_25_4 rfl ?_
  refine zn_bipush kc_25_5 ?_
  refine zn_newarray (K := 54) kc_25_7 (by decide +kernel) (by decide +kernel) (by decide) (by decide) ?_
  refine zn_putR kc_25_9 (by decide +kernel) rfl (by decide +kernel) ?_
  refine zn_aload_n kc_25_12 rfl ?_
  refine zn_iconst kc_25_13 ?_
  refine zn_putI kc_25_14 (by decide +kernel) rfl ?_
  refine zn_aload_n kc_25_17 rfl ?_
  refine zn_iconst kc_25_18 ?_
  refine zn_putI kc_25_19 (by decide +kernel) rfl ?_
  refine zn_return kc_25_22 ?_
  simp only [Option.toList_none, Option.toList_some, List.drop_succ_cons, List.drop_zero, List.cons_append, List.nil_append]
  refine zn_aast (n := 6) kc_41_137 (by decide +kernel) (by decide) (by decide +kernel) (by decide +kernel) ?_
  refine zn_iinc kc_41_138 rfl ?_
  simp only [zset1, zset2, zcut, zf0, zf1, zf2, zf3, List.set_cons_zero, List.set_cons_succ, List.getD_cons_zero, List.getD_cons_succ]
  refine zn_goto kc_41_141 ?_
  refine zn_iload_n kc_41_119 rfl ?_
  refine zn_bipush kc_41_120 ?_
  refine zn_icmp_f kc_41_122 (by decide) (by decide) (by decide) ?_
  refine zn_aload_n kc_41_125 rfl ?_
  refine zn_getR (j := 34) kc_41_126 (by decide +kernel) rfl (by decide +kernel) ?_
  refine zn_iload_n kc_41_129 rfl ?_
  refine zn_new (K := 55) kc_41_130 (by decide +kernel) (by decide +kernel) (by decide) ?_
  refine zn_dup kc_41_133 rfl ?_
  refine zn_cl (o := 55) (c := 4) 1 kc_41_134 rfl rfl (Nat.le_of_ble_eq_true rfl) (Nat.le_of_ble_eq_true rfl) (Nat.le_of_ble_eq_true rfl) (by decide +kernel) (by decide +kernel) rfl ?_
  change zN 25 0 [some (zR 55)] [] _ _
  refine zn_aload_n kc_25_0 rfl ?_
  refine zn_obj kc_25_1 (by decide) ?_
  refine zn_aload_n kc_25_4 rfl ?_
  refine zn_bipush kc_25_5 ?_
  refine zn_newarray (K := 56) kc_25_7 (by decide +kernel) (by decide +kernel) (by decide) (by decide) ?_
  refine zn_putR kc_25_9 (by decide +kernel) rfl (by decide +kernel) ?_
  refine zn_aload_n kc_25_12 rfl ?_
  refine zn_iconst kc_25_13 ?_
  refine zn_putI kc_25_14 (by decide +kernel) rfl ?_
  refine zn_aload_n kc_25_17 rfl ?_
  refine zn_iconst kc_25_18 ?_
  refine zn_putI kc_25_19 (by decide +kernel) rfl ?_
  refine zn_return kc_25_22 ?_
  simp only [Option.toList_none, Option.toList_some, List.drop_succ_cons, List.drop_zero, List.cons_append, List.nil_append]
  refine zn_aast (n := 6) kc_41_137 (by decide +kernel) (by decide) (by decide +kernel) (by decide +kernel) ?_
  refine zn_iinc kc_41_138 rfl ?_
  simp only [zset1, zset2, zcut, zf0, zf1, zf2, zf3, List.set_cons_zero, List.set_cons_succ, List.getD_cons_zero, List.getD_cons_succ]
  refine zn_goto kc_41_141 ?_
  refine zn_iload_n kc_41_119 rfl ?_
  refine zn_bipush kc_41_120 ?_
  refine zn_icmp_f kc_41_122 (by decide) (by decide) (by decide) ?_
  refine zn_aload_n kc_41_125 rfl ?_
  refine zn_getR (j := 34) kc_41_126 (by decide +kernel) rfl (by decide +kernel) ?_
  refine zn_iload_n kc_41_129 rfl ?_
  refine zn_new (K := 57) kc_41_130 (by decide +kernel) (by decide +kernel) (by decide) ?_
  refine zn_dup kc_41_133 rfl ?_
  refine zn_cl (o := 57) (c := 4) 1 kc_41_134 rfl rfl (Nat.le_of_ble_eq_true rfl) (Nat.le_of_ble_eq_true rfl) (Nat.le_of_ble_eq_true rfl) (by decide +kernel) (by decide +kernel) rfl ?_
  change zN 25 0 [some (zR 57)] [] _ _
  refine zn_aload_n kc_25_0 rfl ?_
  refine zn_obj kc_25_1 (by decide) ?_
  refine zn_aload_n kc_25_4 rfl ?_
  refine zn_bipush kc_25_5 ?_
  refine zn_newarray (K := 58) kc_25_7 (by decide +kernel) (by decide +kernel) (by decide) (by decide) ?_
  refine zn_putR kc_25_9 (by decide +kernel) rfl (by decide +kernel) ?_
  refine zn_aload_n kc_25_12 rfl ?_
  refine zn_iconst kc_25_13 ?_
  refine zn_putI kc_25_14 (by decide +kernel) rfl ?_
  refine zn_aload_n kc_25_17 rfl ?_
  refine zn_iconst kc_25_18 ?_
  refine zn_putI kc_25_19 (by decide +kernel) rfl ?_
  refine zn_return kc_25_22 ?_
  simp only [Option.toList_none, Option.toList_some, List.drop_succ_cons, List.drop_zero, List.cons_append, List.nil_append]
  refine zn_aast (n := 6) kc_41_137 (by decide +kernel) (by decide) (by decide +kernel) (by decide +kernel) ?_
  refine zn_iinc kc_41_138 rfl ?_
  simp only [zset1, zset2, zcut, zf0, zf1, zf2, zf3, List.set_cons_zero, List.set_cons_succ, List.getD_cons_zero, List.getD_cons_succ]
  refine zn_goto kc_41_141 ?_
  refine zn_iload_n kc_41_119 rfl ?_
  refine zn_bipush kc_41_120 ?_
  refine zn_icmp_f kc_41_122 (by decide) (by decide) (by decide) ?_
  refine zn_aload_n kc_41_125 rfl ?_
  refine zn_getR (j := 34) kc_41_126 (by decide +kernel) rfl (by decide +kernel) ?_
  refine zn_iload_n kc_41_129 rfl ?_
  refine zn_new (K := 59) kc_41_130 (by decide +kernel) (by decide +kernel) (by decide) ?_
  refine zn_dup kc_41_133 rfl ?_
  refine zn_cl (o := 59) (c := 4) 1 kc_41_134 rfl rfl (Nat.le_of_ble_eq_true rfl) (Nat.le_of_ble_eq_true rfl) (Nat.le_of_ble_eq_true rfl) (by decide +kernel) (by decide +kernel) rfl ?_
  change zN 25 0 [some (zR 59)] [] _ _
  refine zn_aload_n kc_25_0 rfl ?_
  refine zn_obj kc_25_1 (by decide) ?_
  refine zn_aload_n kc_25_4 rfl ?_
  refine zn_bipush kc_25_5 ?_
  refine zn_newarray (K := 60) kc_25_7 (by decide +kernel) (by decide +kernel) (by decide) (by decide) ?_
  refine zn_putR kc_25_9 (by decide +kernel) rfl (by decide +kernel) ?_
  refine zn_aload_n kc_25_12 rfl ?_
  refine zn_iconst kc_25_13 ?_
  refine zn_putI kc_25_14 (by decide +kernel) rfl ?_
  refine zn_aload_n kc_25_17 rfl ?_
  refine zn_iconst kc_25_18 ?_
  refine zn_putI kc_25_19 (by decide +kernel) rfl ?_
  refine zn_return kc_25_22 ?_
  simp only [Option.toList_none, Option.toList_some, List.drop_succ_cons, List.drop_zero, List.cons_append, List.nil_append]
  refine zn_aast (n := 6) kc_41_137 (by decide +kernel) (by decide) (by decide +kernel) (by decide +kernel) ?_
  refine zn_iinc kc_41_138 rfl ?_
  simp only [zset1, zset2, zcut, zf0, zf1, zf2, zf3, List.set_cons_zero, List.set_cons_succ, List.getD_cons_zero, List.getD_cons_succ]
  refine zn_goto kc_41_141 ?_
  refine zn_iload_n kc_41_119 rfl ?_
  refine zn_bipush kc_41_120 ?_
  refine zn_icmp_f kc_41_122 (by decide) (by decide) (by decide) ?_
  refine zn_aload_n kc_41_125 rfl ?_
  refine zn_getR (j := 34) kc_41_126 (by decide +kernel) rfl (by decide +kernel) ?_
  refine zn_iload_n kc_41_129 rfl ?_
  refine zn_new (K := 61) kc_41_130 (by decide +kernel) (by decide +kernel) (by decide) ?_
  refine zn_dup kc_41_133 rfl ?_
  refine zn_cl (o := 61) (c := 4) 1 kc_41_134 rfl rfl (Nat.le_of_ble_eq_true rfl) (Nat.le_of_ble_eq_true rfl) (Nat.le_of_ble_eq_true rfl) (by decide +kernel) (by decide +kernel) rfl ?_
  change zN 25 0 [some (zR 61)] [] _ _
  refine zn_aload_n kc_25_0 rfl ?_
  refine zn_obj kc_25_1 (by decide) ?_
  refine zn_aload_n kc_25_4 rfl ?_
  refine zn_bipush kc_25_5 ?_
  refine zn_newarray (K := 62) kc_25_7 (by decide +kernel) (by decide +kernel) (by decide) (by decide) ?_
  refine zn_putR kc_25_9 (by decide +kernel) rfl (by decide +kernel) ?_
  refine zn_aload_n kc_25_12 rfl ?_
  refine zn_iconst kc_25_13 ?_
  refine zn_putI kc_25_14 (by decide +kernel) rfl ?_
  refine zn_aload_n kc_25_17 rfl ?_
  refine zn_iconst kc_25_18 ?_
  refine zn_putI kc_25_19 (by decide +kernel) rfl ?_
  refine zn_return kc_25_22 ?_
  simp only [Option.toList_none, Option.toList_some, List.drop_succ_cons, List.drop_zero, List.cons_append, List.nil_append]
  refine zn_aast (n := 6) kc_41_137 (by decide +kernel) (by decide) (by decide +kernel) (by decide +kernel) ?_
  refine zn_iinc kc_41_138 rfl ?_
  simp only [zset1, zset2, zcut, zf0, zf1, zf2, zf3, List.set_cons_zero, List.set_cons_succ, List.getD_cons_zero, List.getD_cons_succ]
  refine zn_goto kc_41_141 ?_
  refine zn_iload_n kc_41_119 rfl ?_
  refine zn_bipush kc_41_120 ?_
  refine zn_icmp_t kc_41_122 (by decide) (by decide) (by decide) ?_
  refine zn_return kc_41_144 ?_
  simp only [Option.toList_none, Option.toList_some, List.drop_succ_cons, List.drop_zero, List.cons_append, List.nil_append]
  refine zn_astore_n kc_184_7 (Nat.le_of_ble_eq_true rfl) ?_
  simp only [zset1, zset2, zcut, zf0, zf1, zf2, zf3, List.set_cons_zero, List.set_cons_succ, List.getD_cons_zero, List.getD_cons_succ]
  refine zn_new (K := 63) kc_184_8 (by decide +kernel) (by decide +kernel) (by decide) ?_
  refine zn_dup kc_184_11 rfl ?_
  refine zn_cl (o := 63) (c := 8) 1 kc_184_12 rfl rfl (Nat.le_of_ble_eq_true rfl) (Nat.le_of_ble_eq_true rfl) (Nat.le_of_ble_eq_true rfl) (by decide +kernel) (by decide +kernel) rfl ?_
  change zN 93 0 [some (zR 63)] [] _ _
  refine zn_aload_n kc_93_0 rfl ?_
  refine zn_obj kc_93_1 (by decide) ?_
  refine zn_aload_n kc_93_4 rfl ?_
  refine zn_bipush kc_93_5 ?_
  refine zn_newarray (K := 64) kc_93_7 (by decide +kernel) (by decide +kernel) (by decide) (by decide) ?_
  refine zn_putR kc_93_9 (by decide +kernel) rfl (by decide +kernel) ?_
  refine zn_aload_n kc_93_12 rfl ?_
  refine zn_iconst kc_93_13 ?_
  refine zn_newarray (K := 65) kc_93_14 (by decide +kernel) (by decide +kernel) (by decide) (by decide) ?_
  refine zn_putR kc_93_16 (by decide +kernel) rfl (by decide +kernel) ?_
  refine zn_aload_n kc_93_19 rfl ?_
  refine zn_iconst kc_93_20 ?_
  refine zn_newarray (K := 66) kc_93_21 (by decide +kernel) (by decide +kernel) (by decide) (by decide) ?_
  refine zn_putR kc_93_23 (by decide +kernel) rfl (by decide +kernel) ?_
  refine zn_aload_n kc_93_26 rfl ?_
  refine zn_bipush kc_93_27 ?_
  refine zn_newarray (K := 67) kc_93_29 (by decide +kernel) (by decide +kernel) (by decide) (by decide) ?_
  refine zn_putR kc_93_31 (by decide +kernel) rfl (by decide +kernel) ?_
  refine zn_aload_n kc_93_34 rfl ?_
  refine zn_bipush kc_93_35 ?_
  refine zn_newarray (K := 68) kc_93_37 (by decide +kernel) (by decide +kernel) (by decide) (by decide) ?_
  refine zn_putR kc_93_39 (by decide +kernel) rfl (by decide +kernel) ?_
  refine zn_aload_n kc_93_42 rfl ?_
  refine zn_bipush kc_93_43 ?_
  refine zn_newarray (K := 69) kc_93_45 (by decide +kernel) (by decide +kernel) (by decide) (by decide) ?_
  refine zn_putR kc_93_47 (by decide +kernel) rfl (by decide +kernel) ?_
  refine zn_aload_n kc_93_50 rfl ?_
  refine zn_bipush kc_93_51 ?_
  refine zn_newarray (K := 70) kc_93_53 (by decide +kernel) (by decide +kernel) (by decide) (by decide) ?_
  refine zn_putR kc_93_55 (by decide +kernel) rfl (by decide +kernel) ?_
  refine zn_aload_n kc_93_58 rfl ?_
  refine zn_bipush kc_93_59 ?_
  refine zn_newarray (K := 71) kc_93_61 (by decide +kernel) (by decide +kernel) (by decide) (by decide) ?_
  refine zn_putR kc_93_63 (by decide +kernel) rfl (by decide +kernel) ?_
  refine zn_aload_n kc_93_66 rfl ?_
  refine zn_bipush kc_93_67 ?_
  refine zn_newarray (K := 72) kc_93_69 (by decide +kernel) (by decide +kernel) (by decide) (by decide) ?_
  refine zn_putR kc_93_71 (by decide +kernel) rfl (by decide +kernel) ?_
  refine zn_aload_n kc_93_74 rfl ?_
  refine zn_bipush kc_93_75 ?_
  refine zn_newarray (K := 73) kc_93_77 (by decide +kernel) (by decide +kernel) (by decide) (by decide) ?_
  refine zn_putR kc_93_79 (by decide +kernel) rfl (by decide +kernel) ?_
  refine zn_aload_n kc_93_82 rfl ?_
  refine zn_bipush kc_93_83 ?_
  refine zn_newarray (K := 74) kc_93_85 (by decide +kernel) (by decide +kernel) (by decide) (by decide) ?_
  refine zn_putR kc_93_87 (by decide +kernel) rfl (by decide +kernel) ?_
  refine zn_aload_n kc_93_90 rfl ?_
  refine zn_bipush kc_93_91 ?_
  refine zn_newarray (K := 75) kc_93_93 (by decide +kernel) (by decide +kernel) (by decide) (by decide) ?_
  refine zn_putR kc_93_95 (by decide +kernel) rfl (by decide +kernel) ?_
  refine zn_aload_n kc_93_98 rfl ?_
  refine zn_bipush kc_93_99 ?_
  refine zn_newarray (K := 76) kc_93_101 (by decide +kernel) (by decide +kernel) (by decide) (by decide) ?_
  refine zn_dup kc_93_103 rfl ?_
  refine zn_iconst kc_93_104 ?_
  refine zn_iconst kc_93_105 ?_
  refine zn_iast (n := 6) kc_93_106 (by decide +kernel) (by decide) ?_
  refine zn_dup kc_93_107 rfl ?_
  refine zn_iconst kc_93_108 ?_
  refine zn_iconst kc_93_109 ?_
  refine zn_iast (n := 6) kc_93_110 (by decide +kernel) (by decide) ?_
  refine zn_dup kc_93_111 rfl ?_
  refine zn_iconst kc_93_112 ?_
  refine zn_iconst kc_93_113 ?_
  refine zn_iast (n := 6) kc_93_114 (by decide +kernel) (by decide) ?_
  refine zn_dup kc_93_115 rfl ?_
  refine zn_iconst kc_93_116 ?_
  refine zn_iconst kc_93_117 ?_
  refine zn_iast (n := 6) kc_93_118 (by decide +kernel) (by decide) ?_
  refine zn_dup kc_93_119 rfl ?_
  refine zn_iconst kc_93_120 ?_
  refine zn_iconst kc_93_121 ?_
  refine zn_iast (n := 6) kc_93_122 (by decide +kernel) (by decide) ?_
  refine zn_dup kc_93_123 rfl ?_
  refine zn_iconst kc_93_124 ?_
  refine zn_iconst kc_93_125 ?_
  refine zn_iast (n := 6) kc_93_126 (by decide +kernel) (by decide) ?_
  refine zn_putR kc_93_127 (by decide +kernel) rfl (by decide +kernel) ?_
  refine zn_aload_n kc_93_130 rfl ?_
  refine zn_bipush kc_93_131 ?_
  refine zn_newarray (K := 77) kc_93_133 (by decide +kernel) (by decide +kernel) (by decide) (by decide) ?_
  refine zn_putR kc_93_135 (by decide +kernel) rfl (by decide +kernel) ?_
  refine zn_aload_n kc_93_138 rfl ?_
  refine zn_sipush kc_93_139 ?_
  refine zn_newarray (K := 78) kc_93_142 (by decide +kernel) (by decide +kernel) (by decide) (by decide) ?_
  refine zn_putR kc_93_144 (by decide +kernel) rfl (by decide +kernel) ?_
  refine zn_aload_n kc_93_147 rfl ?_
  refine zn_bipush kc_93_148 ?_
  refine zn_newarray (K := 79) kc_93_150 (by decide +kernel) (by decide +kernel) (by decide) (by decide) ?_
  refine zn_putR kc_93_152 (by decide +kernel) rfl (by decide +kernel) ?_
  refine zn_return kc_93_155 ?_
  simp only [Option.toList_none, Option.toList_some, List.drop_succ_cons, List.drop_zero, List.cons_append, List.nil_append]
  refine zn_astore_n kc_184_15 (Nat.le_of_ble_eq_true rfl) ?_
  simp only [zset1, zset2, zcut, zf0, zf1, zf2, zf3, List.set_cons_zero, List.set_cons_succ, List.getD_cons_zero, List.getD_cons_succ]
  refine zn_iconst kc_184_16 ?_
  refine zn_istore_n kc_184_17 (Nat.le_of_ble_eq_true rfl) ?_
  simp only [zset1, zset2, zcut, zf0, zf1, zf2, zf3, List.set_cons_zero, List.set_cons_succ, List.getD_cons_zero, List.getD_cons_succ]
  refine zN_of (by decide +kernel) (by decide +kernel) (h _ ⟨⟨rfl, rfl, rfl, rfl, rfl, rfl⟩, ⟨rfl, rfl, rfl, rfl, rfl, rfl⟩, ⟨rfl, rfl, rfl, rfl, rfl, rfl⟩, ⟨rfl, rfl, rfl, rfl, rfl, rfl⟩, ⟨rfl, rfl, rfl, rfl, rfl, rfl⟩, ⟨rfl, rfl, rfl, rfl, rfl, rfl, rfl, rfl⟩, ⟨rfl, rfl, rfl, rfl, rfl, rfl⟩, fun _ => rfl, fun _ => rfl, rfl⟩)
