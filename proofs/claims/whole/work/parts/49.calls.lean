/-! COUNT, and the calls of the law -/
def oCount (N1 N2 N3 L : Nat) (w : Int) : Int := if w = 0 then (N1 : Nat) else if w = 1 then (N2 : Nat) else if w = 2 then (N3 : Nat) else if w = 3 then (L : Nat) else -2
theorem z64_any (v : Int64) : -9223372036854775808 ≤ v.toInt ∧ v.toInt ≤ 9223372036854775807 := by
  have h1 := Int64.le_toInt v
  have h2 := Int64.toInt_lt v
  omega

set_option maxHeartbeats 4000000 in
theorem m_countX {Z : zMem} {Q : Option zAV → zMem → Prop} {N1 N2 N3 L : Nat} {w : Int} (hw : -2147483648 ≤ w ∧ w ≤ 2147483647) (h1 : Z 20 3 = N1) (h2 : Z 23 3 = N2) (h3 : Z 26 3 = N3) (h4 : Z 29 1 = L) (q1 : Q (some (zI (oCount N1 N2 N3 L w))) Z) : zE 79 0 (zent 79 [zR 0, zI w]) [] Z Q := by
  show zE 79 0 [some (zR 0), some (zI w)] [] Z Q
  refine ze_iload_n kc_79_0 rfl ?_
  by_cases hs0 : w = 0
  · refine ze_tableIn 0 kc_79_1 hs0 (by decide) (by decide) rfl rfl ?_
    refine ze_aload_n kc_79_32 rfl ?_
    refine ze_getR kc_79_33 rfl rfl rfl ?_
    refine ze_getI kc_79_36 rfl (by decide) ?_
    rw [h1]
    refine ze_ireturn kc_79_39 (Or.inl rfl) ?_
    rw [show oCount N1 N2 N3 L w = (N1 : Nat) from if_pos (by omega)] at q1
    exact q1
  by_cases hs1 : w = 1
  · refine ze_tableIn 1 kc_79_1 hs1 (by decide) (by decide) rfl rfl ?_
    refine ze_aload_n kc_79_40 rfl ?_
    refine ze_getR kc_79_41 rfl rfl rfl ?_
    refine ze_getI kc_79_44 rfl (by decide) ?_
    rw [h2]
    refine ze_ireturn kc_79_47 (Or.inl rfl) ?_
    rw [show oCount N1 N2 N3 L w = (N2 : Nat) from (if_neg (by omega)).trans (if_pos (by omega))] at q1
    exact q1
  by_cases hs2 : w = 2
  · refine ze_tableIn 2 kc_79_1 hs2 (by decide) (by decide) rfl rfl ?_
    refine ze_aload_n kc_79_48 rfl ?_
    refine ze_getR kc_79_49 rfl rfl rfl ?_
    refine ze_getI kc_79_52 rfl (by decide) ?_
    rw [h3]
    refine ze_ireturn kc_79_55 (Or.inl rfl) ?_
    rw [show oCount N1 N2 N3 L w = (N3 : Nat) from (if_neg (by omega)).trans ((if_neg (by omega)).trans (if_pos (by omega)))] at q1
    exact q1
  by_cases hs3 : w = 3
  · refine ze_tableIn 3 kc_79_1 hs3 (by decide) (by decide) rfl rfl ?_
    refine ze_aload_n kc_79_56 rfl ?_
    refine ze_getR kc_79_57 rfl rfl rfl ?_
    refine ze_getI kc_79_60 rfl (by decide) ?_
    rw [h4]
    refine ze_ireturn kc_79_63 (Or.inl rfl) ?_
    rw [show oCount N1 N2 N3 L w = (L : Nat) from (if_neg (by omega)).trans ((if_neg (by omega)).trans ((if_neg (by omega)).trans (if_pos (by omega))))] at q1
    exact q1
  refine ze_tableOut kc_79_1 (by omega) (by omega) rfl ?_
  refine ze_bipush kc_79_64 ?_
  refine ze_ireturn kc_79_66 (Or.inl rfl) ?_
  rw [show oCount N1 N2 N3 L w = -2 from (if_neg (by omega)).trans ((if_neg (by omega)).trans ((if_neg (by omega)).trans (if_neg (by omega))))] at q1
  exact q1

set_option maxHeartbeats 4000000 in
theorem m_countM {Z : zMem} {Q : Option zAV → zMem → Prop} {N1 N2 N3 L : Nat} {w : Int} (hw : -2147483648 ≤ w ∧ w ≤ 2147483647) (h1 : Z 63 4 = N1) (h2 : Z 63 7 = N2) (h3 : Z 63 10 = N3) (h4 : Z 63 14 = L) (q1 : Q (some (zI (oCount N1 N2 N3 L w))) Z) : zE 165 0 (zent 165 [zR 63, zI w]) [] Z Q := by
  show zE 165 0 [some (zR 63), some (zI w)] [] Z Q
  refine ze_iload_n kc_165_0 rfl ?_
  by_cases hs0 : w = 0
  · refine ze_tableIn 0 kc_165_1 hs0 (by decide) (by decide) rfl rfl ?_
    refine ze_aload_n kc_165_32 rfl ?_
    refine ze_getI kc_165_33 rfl (by decide) ?_
    rw [h1]
    refine ze_ireturn kc_165_36 (Or.inl rfl) ?_
    rw [show oCount N1 N2 N3 L w = (N1 : Nat) from if_pos (by omega)] at q1
    exact q1
  by_cases hs1 : w = 1
  · refine ze_tableIn 1 kc_165_1 hs1 (by decide) (by decide) rfl rfl ?_
    refine ze_aload_n kc_165_37 rfl ?_
    refine ze_getI kc_165_38 rfl (by decide) ?_
    rw [h2]
    refine ze_ireturn kc_165_41 (Or.inl rfl) ?_
    rw [show oCount N1 N2 N3 L w = (N2 : Nat) from (if_neg (by omega)).trans (if_pos (by omega))] at q1
    exact q1
  by_cases hs2 : w = 2
  · refine ze_tableIn 2 kc_165_1 hs2 (by decide) (by decide) rfl rfl ?_
    refine ze_aload_n kc_165_42 rfl ?_
    refine ze_getI kc_165_43 rfl (by decide) ?_
    rw [h3]
    refine ze_ireturn kc_165_46 (Or.inl rfl) ?_
    rw [show oCount N1 N2 N3 L w = (N3 : Nat) from (if_neg (by omega)).trans ((if_neg (by omega)).trans (if_pos (by omega)))] at q1
    exact q1
  by_cases hs3 : w = 3
  · refine ze_tableIn 3 kc_165_1 hs3 (by decide) (by decide) rfl rfl ?_
    refine ze_aload_n kc_165_47 rfl ?_
    refine ze_getI kc_165_48 rfl (by decide) ?_
    rw [h4]
    refine ze_ireturn kc_165_51 (Or.inl rfl) ?_
    rw [show oCount N1 N2 N3 L w = (L : Nat) from (if_neg (by omega)).trans ((if_neg (by omega)).trans ((if_neg (by omega)).trans (if_pos (by omega))))] at q1
    exact q1
  refine ze_tableOut kc_165_1 (by omega) (by omega) rfl ?_
  refine ze_bipush kc_165_52 ?_
  refine ze_ireturn kc_165_54 (Or.inl rfl) ?_
  rw [show oCount N1 N2 N3 L w = -2 from (if_neg (by omega)).trans ((if_neg (by omega)).trans ((if_neg (by omega)).trans (if_neg (by omega))))] at q1
  exact q1

set_option maxHeartbeats 8000000 in
theorem law_claim {xs : Nat → Int} {Ln : Nat} {Z : zMem} {Q : Option zAV → zMem → Prop} {x : Int} {n N1 N2 N3 L : Nat} {c a1 b1 a2 b2 a3 b3 t : Nat → Int} {e ρ : Int} {P : zTps} {I : Option zKr} (hLn : Ln ≤ 3072) (hxr : ∀ j, -2147483648 ≤ xs j ∧ xs j ≤ 2147483647) (hx0 : 0 ≤ x) (hx6 : x + 6 ≤ Ln) (hI : zInv xs Ln (((n, c, e, ρ), (N1, a1, b1), (N2, a2, b2), (N3, a3, b3)), (L, t), P, I) Z) (kk : ∀ A' Z', zInv xs Ln A' Z' → zE 184 1390 [some (zR 1001), some (zR 0), some (zR 63), some (zI x)] [] Z' Q) : zE 184 192 [some (zR 1001), some (zR 0), some (zR 63), some (zI x)] [] Z Q := by
  obtain ⟨hX, hY, hOk, hxa, hla⟩ := hI
  have hC : zCl n c e ρ Z := hX.1.1
  have hW1 : zRw 20 5 N1 a1 b1 Z := hX.1.2.1
  have hW2 : zRw 23 8 N2 a2 b2 Z := hX.1.2.2.1
  have hW3 : zRw 26 8 N3 a3 b3 Z := hX.1.2.2.2
  have hT : zTxX L t Z := hX.2.1
  have hP : zTpX P Z := hX.2.2.1
  have hIx : zImX I Z := hX.2.2.2
  have hk1 : zRok n (N1, a1, b1) := hOk.1.1
  have hk2 : zEok n (N2, a2, b2) := hOk.1.2.1
  have hk3 : zRok n (N3, a3, b3) := hOk.1.2.2
  have r1 := hxr (x + 1).toNat
  have r2 := hxr (x + 2).toNat
  have r3 := hxr (x + 3).toNat
  have r4 := hxr (x + 4).toNat
  have r5 := hxr (x + 5).toNat
  refine ze_aload_n kc_184_192 rfl ?_
  refine ze_aload_n kc_184_193 rfl ?_
  refine ze_iload_n kc_184_194 rfl ?_
  refine ze_iconst kc_184_195 ?_
  refine ze_iadd kc_184_196 ?_
  refine ze_iald1 kc_184_197 (by omega) ?_
  first
    | rw [hxb]
    | rw [hxa]
  refine zE_callv 2 kc_184_198 rfl rfl (Nat.le_of_ble_eq_true rfl) (Nat.le_of_ble_eq_true rfl) (Nat.le_of_ble_eq_true rfl) rfl (by decide +kernel) rfl ?_
  refine m_claimX hC (by omega) (fun Z1 s1 f1 => ?_)
  simp only [Option.toList_some, Option.toList_none, List.drop_succ_cons, List.drop_zero, List.cons_append, List.nil_append]
  have hX1 := zX_S hX s1 f1
  have hY1 := zY_fr hY (fun k a b => f1 k (by omega))
  have hM1 : zMo n c e ρ Z1 := hY1.1.1
  have hV1 : zRwM 4 65 66 5 (N1, a1, b1) Z1 := hY1.1.2.1
  have hV2 : zRwM 7 67 68 8 (N2, a2, b2) Z1 := hY1.1.2.2.1
  have hV3 : zRwM 10 69 70 8 (N3, a3, b3) Z1 := hY1.1.2.2.2
  have hTm : zTxM L t Z1 := hY1.2.1
  have hPm : zTpM P Z1 := hY1.2.2.1
  have hIm : zImM I Z1 := hY1.2.2.2
  have hxb : ∀ j, Z1 1001 j = xs j := fun j => by rw [f1 1001 (by decide)]; exact hxa j
  have hlb : Z1 1002 0 = (Ln : Int) := by rw [f1 1002 (by decide)]; exact hla
  refine ze_aload_n kc_184_201 rfl ?_
  refine ze_aload_n kc_184_202 rfl ?_
  refine ze_iload_n kc_184_203 rfl ?_
  refine ze_iconst kc_184_204 ?_
  refine ze_iadd kc_184_205 ?_
  refine ze_iald1 kc_184_206 (by omega) ?_
  first
    | rw [hxb]
    | rw [hxa]
  refine zE_callv 2 kc_184_207 rfl rfl (Nat.le_of_ble_eq_true rfl) (Nat.le_of_ble_eq_true rfl) (Nat.le_of_ble_eq_true rfl) rfl (by decide +kernel) rfl ?_
  refine m_claimM hM1 (by omega) (fun Z2 s2 f2 => ?_)
  simp only [Option.toList_some, Option.toList_none, List.drop_succ_cons, List.drop_zero, List.cons_append, List.nil_append]
  have hX2 := zX_fr hX1 (fun k a => f2.1 k (by omega) (by omega))
  have hY2 := zY_S hY1 s2 f2
  have hx2 : ∀ j, Z2 1001 j = xs j := fun j => by rw [f2.1 1001 (by decide) (by decide)]; exact hxb j
  have hl2 : Z2 1002 0 = (Ln : Int) := by rw [f2.1 1002 (by decide) (by decide)]; exact hlb
  exact ze_icmpE kc_184_210 (kk _ _ ⟨hX2, hY2, (zOk_S hOk (sClaim_up _ _)), hx2, hl2⟩)

set_option maxHeartbeats 8000000 in
theorem law_renew {xs : Nat → Int} {Ln : Nat} {Z : zMem} {Q : Option zAV → zMem → Prop} {x : Int} {n N1 N2 N3 L : Nat} {c a1 b1 a2 b2 a3 b3 t : Nat → Int} {e ρ : Int} {P : zTps} {I : Option zKr} (hLn : Ln ≤ 3072) (hxr : ∀ j, -2147483648 ≤ xs j ∧ xs j ≤ 2147483647) (hx0 : 0 ≤ x) (hx6 : x + 6 ≤ Ln) (hI : zInv xs Ln (((n, c, e, ρ), (N1, a1, b1), (N2, a2, b2), (N3, a3, b3)), (L, t), P, I) Z) (kk : ∀ A' Z', zInv xs Ln A' Z' → zE 184 1390 [some (zR 1001), some (zR 0), some (zR 63), some (zI x)] [] Z' Q) : zE 184 215 [some (zR 1001), some (zR 0), some (zR 63), some (zI x)] [] Z Q := by
  obtain ⟨hX, hY, hOk, hxa, hla⟩ := hI
  have hC : zCl n c e ρ Z := hX.1.1
  have hW1 : zRw 20 5 N1 a1 b1 Z := hX.1.2.1
  have hW2 : zRw 23 8 N2 a2 b2 Z := hX.1.2.2.1
  have hW3 : zRw 26 8 N3 a3 b3 Z := hX.1.2.2.2
  have hT : zTxX L t Z := hX.2.1
  have hP : zTpX P Z := hX.2.2.1
  have hIx : zImX I Z := hX.2.2.2
  have hk1 : zRok n (N1, a1, b1) := hOk.1.1
  have hk2 : zEok n (N2, a2, b2) := hOk.1.2.1
  have hk3 : zRok n (N3, a3, b3) := hOk.1.2.2
  have r1 := hxr (x + 1).toNat
  have r2 := hxr (x + 2).toNat
  have r3 := hxr (x + 3).toNat
  have r4 := hxr (x + 4).toNat
  have r5 := hxr (x + 5).toNat
  refine ze_aload_n kc_184_215 rfl ?_
  refine ze_aload_n kc_184_216 rfl ?_
  refine ze_iload_n kc_184_217 rfl ?_
  refine ze_iconst kc_184_218 ?_
  refine ze_iadd kc_184_219 ?_
  refine ze_iald1 kc_184_220 (by omega) ?_
  first
    | rw [hxb]
    | rw [hxa]
  refine ze_aload_n kc_184_221 rfl ?_
  refine ze_iload_n kc_184_222 rfl ?_
  refine ze_iconst kc_184_223 ?_
  refine ze_iadd kc_184_224 ?_
  refine ze_iald1 kc_184_225 (by omega) ?_
  first
    | rw [hxb]
    | rw [hxa]
  refine zE_callv 3 kc_184_226 rfl rfl (Nat.le_of_ble_eq_true rfl) (Nat.le_of_ble_eq_true rfl) (Nat.le_of_ble_eq_true rfl) rfl (by decide +kernel) rfl ?_
  refine m_renewX hC (by omega) (by omega) (fun Z1 s1 f1 => ?_)
  simp only [Option.toList_some, Option.toList_none, List.drop_succ_cons, List.drop_zero, List.cons_append, List.nil_append]
  have hX1 := zX_S hX s1 f1
  have hY1 := zY_fr hY (fun k a b => f1 k (by omega))
  have hM1 : zMo n c e ρ Z1 := hY1.1.1
  have hV1 : zRwM 4 65 66 5 (N1, a1, b1) Z1 := hY1.1.2.1
  have hV2 : zRwM 7 67 68 8 (N2, a2, b2) Z1 := hY1.1.2.2.1
  have hV3 : zRwM 10 69 70 8 (N3, a3, b3) Z1 := hY1.1.2.2.2
  have hTm : zTxM L t Z1 := hY1.2.1
  have hPm : zTpM P Z1 := hY1.2.2.1
  have hIm : zImM I Z1 := hY1.2.2.2
  have hxb : ∀ j, Z1 1001 j = xs j := fun j => by rw [f1 1001 (by decide)]; exact hxa j
  have hlb : Z1 1002 0 = (Ln : Int) := by rw [f1 1002 (by decide)]; exact hla
  refine ze_aload_n kc_184_229 rfl ?_
  refine ze_aload_n kc_184_230 rfl ?_
  refine ze_iload_n kc_184_231 rfl ?_
  refine ze_iconst kc_184_232 ?_
  refine ze_iadd kc_184_233 ?_
  refine ze_iald1 kc_184_234 (by omega) ?_
  first
    | rw [hxb]
    | rw [hxa]
  refine ze_aload_n kc_184_235 rfl ?_
  refine ze_iload_n kc_184_236 rfl ?_
  refine ze_iconst kc_184_237 ?_
  refine ze_iadd kc_184_238 ?_
  refine ze_iald1 kc_184_239 (by omega) ?_
  first
    | rw [hxb]
    | rw [hxa]
  refine zE_callv 3 kc_184_240 rfl rfl (Nat.le_of_ble_eq_true rfl) (Nat.le_of_ble_eq_true rfl) (Nat.le_of_ble_eq_true rfl) rfl (by decide +kernel) rfl ?_
  refine m_renewM hM1 (by omega) (by omega) (fun Z2 s2 f2 => ?_)
  simp only [Option.toList_some, Option.toList_none, List.drop_succ_cons, List.drop_zero, List.cons_append, List.nil_append]
  have hX2 := zX_fr hX1 (fun k a => f2.1 k (by omega) (by omega))
  have hY2 := zY_S hY1 s2 f2
  have hx2 : ∀ j, Z2 1001 j = xs j := fun j => by rw [f2.1 1001 (by decide) (by decide)]; exact hxb j
  have hl2 : Z2 1002 0 = (Ln : Int) := by rw [f2.1 1002 (by decide) (by decide)]; exact hlb
  exact ze_icmpE kc_184_243 (kk _ _ ⟨hX2, hY2, (zOk_S hOk (sRenew_up _ _ _)), hx2, hl2⟩)

set_option maxHeartbeats 8000000 in
theorem law_estate {xs : Nat → Int} {Ln : Nat} {Z : zMem} {Q : Option zAV → zMem → Prop} {x : Int} {n N1 N2 N3 L : Nat} {c a1 b1 a2 b2 a3 b3 t : Nat → Int} {e ρ : Int} {P : zTps} {I : Option zKr} (hLn : Ln ≤ 3072) (hxr : ∀ j, -2147483648 ≤ xs j ∧ xs j ≤ 2147483647) (hx0 : 0 ≤ x) (hx6 : x + 6 ≤ Ln) (hI : zInv xs Ln (((n, c, e, ρ), (N1, a1, b1), (N2, a2, b2), (N3, a3, b3)), (L, t), P, I) Z) (kk : ∀ A' Z', zInv xs Ln A' Z' → zE 184 1390 [some (zR 1001), some (zR 0), some (zR 63), some (zI x)] [] Z' Q) : zE 184 248 [some (zR 1001), some (zR 0), some (zR 63), some (zI x)] [] Z Q := by
  obtain ⟨hX, hY, hOk, hxa, hla⟩ := hI
  have hC : zCl n c e ρ Z := hX.1.1
  have hW1 : zRw 20 5 N1 a1 b1 Z := hX.1.2.1
  have hW2 : zRw 23 8 N2 a2 b2 Z := hX.1.2.2.1
  have hW3 : zRw 26 8 N3 a3 b3 Z := hX.1.2.2.2
  have hT : zTxX L t Z := hX.2.1
  have hP : zTpX P Z := hX.2.2.1
  have hIx : zImX I Z := hX.2.2.2
  have hk1 : zRok n (N1, a1, b1) := hOk.1.1
  have hk2 : zEok n (N2, a2, b2) := hOk.1.2.1
  have hk3 : zRok n (N3, a3, b3) := hOk.1.2.2
  have r1 := hxr (x + 1).toNat
  have r2 := hxr (x + 2).toNat
  have r3 := hxr (x + 3).toNat
  have r4 := hxr (x + 4).toNat
  have r5 := hxr (x + 5).toNat
  refine ze_aload_n kc_184_248 rfl ?_
  refine ze_aload_n kc_184_249 rfl ?_
  refine ze_iload_n kc_184_250 rfl ?_
  refine ze_iconst kc_184_251 ?_
  refine ze_iadd kc_184_252 ?_
  refine ze_iald1 kc_184_253 (by omega) ?_
  first
    | rw [hxb]
    | rw [hxa]
  refine zE_callv 2 kc_184_254 rfl rfl (Nat.le_of_ble_eq_true rfl) (Nat.le_of_ble_eq_true rfl) (Nat.le_of_ble_eq_true rfl) rfl (by decide +kernel) rfl ?_
  refine m_estateX hC (by omega) (fun Z1 s1 f1 => ?_)
  simp only [Option.toList_some, Option.toList_none, List.drop_succ_cons, List.drop_zero, List.cons_append, List.nil_append]
  have hX1 := zX_S hX s1 f1
  have hY1 := zY_fr hY (fun k a b => f1 k (by omega))
  have hM1 : zMo n c e ρ Z1 := hY1.1.1
  have hV1 : zRwM 4 65 66 5 (N1, a1, b1) Z1 := hY1.1.2.1
  have hV2 : zRwM 7 67 68 8 (N2, a2, b2) Z1 := hY1.1.2.2.1
  have hV3 : zRwM 10 69 70 8 (N3, a3, b3) Z1 := hY1.1.2.2.2
  have hTm : zTxM L t Z1 := hY1.2.1
  have hPm : zTpM P Z1 := hY1.2.2.1
  have hIm : zImM I Z1 := hY1.2.2.2
  have hxb : ∀ j, Z1 1001 j = xs j := fun j => by rw [f1 1001 (by decide)]; exact hxa j
  have hlb : Z1 1002 0 = (Ln : Int) := by rw [f1 1002 (by decide)]; exact hla
  refine ze_aload_n kc_184_257 rfl ?_
  refine ze_aload_n kc_184_258 rfl ?_
  refine ze_iload_n kc_184_259 rfl ?_
  refine ze_iconst kc_184_260 ?_
  refine ze_iadd kc_184_261 ?_
  refine ze_iald1 kc_184_262 (by omega) ?_
  first
    | rw [hxb]
    | rw [hxa]
  refine zE_callv 2 kc_184_263 rfl rfl (Nat.le_of_ble_eq_true rfl) (Nat.le_of_ble_eq_true rfl) (Nat.le_of_ble_eq_true rfl) rfl (by decide +kernel) rfl ?_
  refine m_estateM hM1 (by omega) (fun Z2 s2 f2 => ?_)
  simp only [Option.toList_some, Option.toList_none, List.drop_succ_cons, List.drop_zero, List.cons_append, List.nil_append]
  have hX2 := zX_fr hX1 (fun k a => f2.1 k (by omega) (by omega))
  have hY2 := zY_S hY1 s2 f2
  have hx2 : ∀ j, Z2 1001 j = xs j := fun j => by rw [f2.1 1001 (by decide) (by decide)]; exact hxb j
  have hl2 : Z2 1002 0 = (Ln : Int) := by rw [f2.1 1002 (by decide) (by decide)]; exact hlb
  exact ze_icmpE kc_184_266 (kk _ _ ⟨hX2, hY2, (zOk_S hOk (sEstate_up _ _)), hx2, hl2⟩)

set_option maxHeartbeats 8000000 in
theorem law_rule {xs : Nat → Int} {Ln : Nat} {Z : zMem} {Q : Option zAV → zMem → Prop} {x : Int} {n N1 N2 N3 L : Nat} {c a1 b1 a2 b2 a3 b3 t : Nat → Int} {e ρ : Int} {P : zTps} {I : Option zKr} (hLn : Ln ≤ 3072) (hxr : ∀ j, -2147483648 ≤ xs j ∧ xs j ≤ 2147483647) (hx0 : 0 ≤ x) (hx6 : x + 6 ≤ Ln) (hI : zInv xs Ln (((n, c, e, ρ), (N1, a1, b1), (N2, a2, b2), (N3, a3, b3)), (L, t), P, I) Z) (kk : ∀ A' Z', zInv xs Ln A' Z' → zE 184 1390 [some (zR 1001), some (zR 0), some (zR 63), some (zI x)] [] Z' Q) : zE 184 271 [some (zR 1001), some (zR 0), some (zR 63), some (zI x)] [] Z Q := by
  obtain ⟨hX, hY, hOk, hxa, hla⟩ := hI
  have hC : zCl n c e ρ Z := hX.1.1
  have hW1 : zRw 20 5 N1 a1 b1 Z := hX.1.2.1
  have hW2 : zRw 23 8 N2 a2 b2 Z := hX.1.2.2.1
  have hW3 : zRw 26 8 N3 a3 b3 Z := hX.1.2.2.2
  have hT : zTxX L t Z := hX.2.1
  have hP : zTpX P Z := hX.2.2.1
  have hIx : zImX I Z := hX.2.2.2
  have hk1 : zRok n (N1, a1, b1) := hOk.1.1
  have hk2 : zEok n (N2, a2, b2) := hOk.1.2.1
  have hk3 : zRok n (N3, a3, b3) := hOk.1.2.2
  have r1 := hxr (x + 1).toNat
  have r2 := hxr (x + 2).toNat
  have r3 := hxr (x + 3).toNat
  have r4 := hxr (x + 4).toNat
  have r5 := hxr (x + 5).toNat
  refine ze_aload_n kc_184_271 rfl ?_
  refine ze_aload_n kc_184_272 rfl ?_
  refine ze_iload_n kc_184_273 rfl ?_
  refine ze_iconst kc_184_274 ?_
  refine ze_iadd kc_184_275 ?_
  refine ze_iald1 kc_184_276 (by omega) ?_
  first
    | rw [hxb]
    | rw [hxa]
  refine zE_callv 2 kc_184_277 rfl rfl (Nat.le_of_ble_eq_true rfl) (Nat.le_of_ble_eq_true rfl) (Nat.le_of_ble_eq_true rfl) rfl (by decide +kernel) rfl ?_
  refine m_ruleX hC (by omega) (fun Z1 s1 f1 => ?_)
  simp only [Option.toList_some, Option.toList_none, List.drop_succ_cons, List.drop_zero, List.cons_append, List.nil_append]
  have hX1 := zX_S hX s1 f1
  have hY1 := zY_fr hY (fun k a b => f1 k (by omega))
  have hM1 : zMo n c e ρ Z1 := hY1.1.1
  have hV1 : zRwM 4 65 66 5 (N1, a1, b1) Z1 := hY1.1.2.1
  have hV2 : zRwM 7 67 68 8 (N2, a2, b2) Z1 := hY1.1.2.2.1
  have hV3 : zRwM 10 69 70 8 (N3, a3, b3) Z1 := hY1.1.2.2.2
  have hTm : zTxM L t Z1 := hY1.2.1
  have hPm : zTpM P Z1 := hY1.2.2.1
  have hIm : zImM I Z1 := hY1.2.2.2
  have hxb : ∀ j, Z1 1001 j = xs j := fun j => by rw [f1 1001 (by decide)]; exact hxa j
  have hlb : Z1 1002 0 = (Ln : Int) := by rw [f1 1002 (by decide)]; exact hla
  refine ze_aload_n kc_184_280 rfl ?_
  refine ze_aload_n kc_184_281 rfl ?_
  refine ze_iload_n kc_184_282 rfl ?_
  refine ze_iconst kc_184_283 ?_
  refine ze_iadd kc_184_284 ?_
  refine ze_iald1 kc_184_285 (by omega) ?_
  first
    | rw [hxb]
    | rw [hxa]
  refine zE_callv 2 kc_184_286 rfl rfl (Nat.le_of_ble_eq_true rfl) (Nat.le_of_ble_eq_true rfl) (Nat.le_of_ble_eq_true rfl) rfl (by decide +kernel) rfl ?_
  refine m_ruleM hM1 (by omega) (fun Z2 s2 f2 => ?_)
  simp only [Option.toList_some, Option.toList_none, List.drop_succ_cons, List.drop_zero, List.cons_append, List.nil_append]
  have hX2 := zX_fr hX1 (fun k a => f2.1 k (by omega) (by omega))
  have hY2 := zY_S hY1 s2 f2
  have hx2 : ∀ j, Z2 1001 j = xs j := fun j => by rw [f2.1 1001 (by decide) (by decide)]; exact hxb j
  have hl2 : Z2 1002 0 = (Ln : Int) := by rw [f2.1 1002 (by decide) (by decide)]; exact hlb
  exact ze_icmpE kc_184_289 (kk _ _ ⟨hX2, hY2, (zOk_S hOk (sRule_up _ _)), hx2, hl2⟩)

set_option maxHeartbeats 8000000 in
theorem law_of {xs : Nat → Int} {Ln : Nat} {Z : zMem} {Q : Option zAV → zMem → Prop} {x : Int} {n N1 N2 N3 L : Nat} {c a1 b1 a2 b2 a3 b3 t : Nat → Int} {e ρ : Int} {P : zTps} {I : Option zKr} (hLn : Ln ≤ 3072) (hxr : ∀ j, -2147483648 ≤ xs j ∧ xs j ≤ 2147483647) (hx0 : 0 ≤ x) (hx6 : x + 6 ≤ Ln) (hI : zInv xs Ln (((n, c, e, ρ), (N1, a1, b1), (N2, a2, b2), (N3, a3, b3)), (L, t), P, I) Z) (kk : ∀ A' Z', zInv xs Ln A' Z' → zE 184 1390 [some (zR 1001), some (zR 0), some (zR 63), some (zI x)] [] Z' Q) : zE 184 294 [some (zR 1001), some (zR 0), some (zR 63), some (zI x)] [] Z Q := by
  obtain ⟨hX, hY, hOk, hxa, hla⟩ := hI
  have hC : zCl n c e ρ Z := hX.1.1
  have hW1 : zRw 20 5 N1 a1 b1 Z := hX.1.2.1
  have hW2 : zRw 23 8 N2 a2 b2 Z := hX.1.2.2.1
  have hW3 : zRw 26 8 N3 a3 b3 Z := hX.1.2.2.2
  have hT : zTxX L t Z := hX.2.1
  have hP : zTpX P Z := hX.2.2.1
  have hIx : zImX I Z := hX.2.2.2
  have hk1 : zRok n (N1, a1, b1) := hOk.1.1
  have hk2 : zEok n (N2, a2, b2) := hOk.1.2.1
  have hk3 : zRok n (N3, a3, b3) := hOk.1.2.2
  have r1 := hxr (x + 1).toNat
  have r2 := hxr (x + 2).toNat
  have r3 := hxr (x + 3).toNat
  have r4 := hxr (x + 4).toNat
  have r5 := hxr (x + 5).toNat
  refine ze_aload_n kc_184_294 rfl ?_
  refine ze_aload_n kc_184_295 rfl ?_
  refine ze_iload_n kc_184_296 rfl ?_
  refine ze_iconst kc_184_297 ?_
  refine ze_iadd kc_184_298 ?_
  refine ze_iald1 kc_184_299 (by omega) ?_
  first
    | rw [hxb]
    | rw [hxa]
  refine zE_callv 2 kc_184_300 rfl rfl (Nat.le_of_ble_eq_true rfl) (Nat.le_of_ble_eq_true rfl) (Nat.le_of_ble_eq_true rfl) rfl (by decide +kernel) rfl ?_
  refine m_ofX hC (by omega) (fun Z1 f1 => ?_)
  simp only [Option.toList_some, Option.toList_none, List.drop_succ_cons, List.drop_zero, List.cons_append, List.nil_append]
  have hX1 := zX_q hX f1
  have hY1 := zY_q hY f1
  have hM1 : zMo n c e ρ Z1 := hY1.1.1
  have hV1 : zRwM 4 65 66 5 (N1, a1, b1) Z1 := hY1.1.2.1
  have hV2 : zRwM 7 67 68 8 (N2, a2, b2) Z1 := hY1.1.2.2.1
  have hV3 : zRwM 10 69 70 8 (N3, a3, b3) Z1 := hY1.1.2.2.2
  have hTm : zTxM L t Z1 := hY1.2.1
  have hPm : zTpM P Z1 := hY1.2.2.1
  have hIm : zImM I Z1 := hY1.2.2.2
  have hxb : ∀ j, Z1 1001 j = xs j := fun j => by rw [f1.1 1001 (by decide) (by decide) (by decide) (by decide) (by decide)]; exact hxa j
  have hlb : Z1 1002 0 = (Ln : Int) := by rw [f1.1 1002 (by decide) (by decide) (by decide) (by decide) (by decide)]; exact hla
  refine ze_aload_n kc_184_303 rfl ?_
  refine ze_aload_n kc_184_304 rfl ?_
  refine ze_iload_n kc_184_305 rfl ?_
  refine ze_iconst kc_184_306 ?_
  refine ze_iadd kc_184_307 ?_
  refine ze_iald1 kc_184_308 (by omega) ?_
  first
    | rw [hxb]
    | rw [hxa]
  refine zE_callv 2 kc_184_309 rfl rfl (Nat.le_of_ble_eq_true rfl) (Nat.le_of_ble_eq_true rfl) (Nat.le_of_ble_eq_true rfl) rfl (by decide +kernel) rfl ?_
  refine m_ofM hM1 (by omega) (fun Z2 f2 => ?_)
  simp only [Option.toList_some, Option.toList_none, List.drop_succ_cons, List.drop_zero, List.cons_append, List.nil_append]
  have hX2 := zX_q hX1 f2
  have hY2 := zY_q hY1 f2
  have hx2 : ∀ j, Z2 1001 j = xs j := fun j => by rw [f2.1 1001 (by decide) (by decide) (by decide) (by decide) (by decide)]; exact hxb j
  have hl2 : Z2 1002 0 = (Ln : Int) := by rw [f2.1 1002 (by decide) (by decide) (by decide) (by decide) (by decide)]; exact hlb
  exact ze_icmpE kc_184_312 (kk _ _ ⟨hX2, hY2, hOk, hx2, hl2⟩)

set_option maxHeartbeats 8000000 in
theorem law_told {xs : Nat → Int} {Ln : Nat} {Z : zMem} {Q : Option zAV → zMem → Prop} {x : Int} {n N1 N2 N3 L : Nat} {c a1 b1 a2 b2 a3 b3 t : Nat → Int} {e ρ : Int} {P : zTps} {I : Option zKr} (hLn : Ln ≤ 3072) (hxr : ∀ j, -2147483648 ≤ xs j ∧ xs j ≤ 2147483647) (hx0 : 0 ≤ x) (hx6 : x + 6 ≤ Ln) (hI : zInv xs Ln (((n, c, e, ρ), (N1, a1, b1), (N2, a2, b2), (N3, a3, b3)), (L, t), P, I) Z) (kk : ∀ A' Z', zInv xs Ln A' Z' → zE 184 1390 [some (zR 1001), some (zR 0), some (zR 63), some (zI x)] [] Z' Q) : zE 184 317 [some (zR 1001), some (zR 0), some (zR 63), some (zI x)] [] Z Q := by
  obtain ⟨hX, hY, hOk, hxa, hla⟩ := hI
  have hC : zCl n c e ρ Z := hX.1.1
  have hW1 : zRw 20 5 N1 a1 b1 Z := hX.1.2.1
  have hW2 : zRw 23 8 N2 a2 b2 Z := hX.1.2.2.1
  have hW3 : zRw 26 8 N3 a3 b3 Z := hX.1.2.2.2
  have hT : zTxX L t Z := hX.2.1
  have hP : zTpX P Z := hX.2.2.1
  have hIx : zImX I Z := hX.2.2.2
  have hk1 : zRok n (N1, a1, b1) := hOk.1.1
  have hk2 : zEok n (N2, a2, b2) := hOk.1.2.1
  have hk3 : zRok n (N3, a3, b3) := hOk.1.2.2
  have r1 := hxr (x + 1).toNat
  have r2 := hxr (x + 2).toNat
  have r3 := hxr (x + 3).toNat
  have r4 := hxr (x + 4).toNat
  have r5 := hxr (x + 5).toNat
  refine ze_aload_n kc_184_317 rfl ?_
  refine ze_aload_n kc_184_318 rfl ?_
  refine ze_iload_n kc_184_319 rfl ?_
  refine ze_iconst kc_184_320 ?_
  refine ze_iadd kc_184_321 ?_
  refine ze_iald1 kc_184_322 (by omega) ?_
  first
    | rw [hxb]
    | rw [hxa]
  refine zE_callv 2 kc_184_323 rfl rfl (Nat.le_of_ble_eq_true rfl) (Nat.le_of_ble_eq_true rfl) (Nat.le_of_ble_eq_true rfl) rfl (by decide +kernel) rfl ?_
  refine m_toldX hC (by omega) (fun Z1 f1 => ?_)
  simp only [Option.toList_some, Option.toList_none, List.drop_succ_cons, List.drop_zero, List.cons_append, List.nil_append]
  have hX1 := zX_q hX f1
  have hY1 := zY_q hY f1
  have hM1 : zMo n c e ρ Z1 := hY1.1.1
  have hV1 : zRwM 4 65 66 5 (N1, a1, b1) Z1 := hY1.1.2.1
  have hV2 : zRwM 7 67 68 8 (N2, a2, b2) Z1 := hY1.1.2.2.1
  have hV3 : zRwM 10 69 70 8 (N3, a3, b3) Z1 := hY1.1.2.2.2
  have hTm : zTxM L t Z1 := hY1.2.1
  have hPm : zTpM P Z1 := hY1.2.2.1
  have hIm : zImM I Z1 := hY1.2.2.2
  have hxb : ∀ j, Z1 1001 j = xs j := fun j => by rw [f1.1 1001 (by decide) (by decide) (by decide) (by decide) (by decide)]; exact hxa j
  have hlb : Z1 1002 0 = (Ln : Int) := by rw [f1.1 1002 (by decide) (by decide) (by decide) (by decide) (by decide)]; exact hla
  refine ze_aload_n kc_184_326 rfl ?_
  refine ze_aload_n kc_184_327 rfl ?_
  refine ze_iload_n kc_184_328 rfl ?_
  refine ze_iconst kc_184_329 ?_
  refine ze_iadd kc_184_330 ?_
  refine ze_iald1 kc_184_331 (by omega) ?_
  first
    | rw [hxb]
    | rw [hxa]
  refine zE_callv 2 kc_184_332 rfl rfl (Nat.le_of_ble_eq_true rfl) (Nat.le_of_ble_eq_true rfl) (Nat.le_of_ble_eq_true rfl) rfl (by decide +kernel) rfl ?_
  refine m_toldM hM1 (by omega) (fun Z2 f2 => ?_)
  simp only [Option.toList_some, Option.toList_none, List.drop_succ_cons, List.drop_zero, List.cons_append, List.nil_append]
  have hX2 := zX_q hX1 f2
  have hY2 := zY_q hY1 f2
  have hx2 : ∀ j, Z2 1001 j = xs j := fun j => by rw [f2.1 1001 (by decide) (by decide) (by decide) (by decide) (by decide)]; exact hxb j
  have hl2 : Z2 1002 0 = (Ln : Int) := by rw [f2.1 1002 (by decide) (by decide) (by decide) (by decide) (by decide)]; exact hlb
  exact ze_icmpE kc_184_335 (kk _ _ ⟨hX2, hY2, hOk, hx2, hl2⟩)

set_option maxHeartbeats 8000000 in
theorem law_feed {xs : Nat → Int} {Ln : Nat} {Z : zMem} {Q : Option zAV → zMem → Prop} {x : Int} {n N1 N2 N3 L : Nat} {c a1 b1 a2 b2 a3 b3 t : Nat → Int} {e ρ : Int} {P : zTps} {I : Option zKr} (hLn : Ln ≤ 3072) (hxr : ∀ j, -2147483648 ≤ xs j ∧ xs j ≤ 2147483647) (hx0 : 0 ≤ x) (hx6 : x + 6 ≤ Ln) (hI : zInv xs Ln (((n, c, e, ρ), (N1, a1, b1), (N2, a2, b2), (N3, a3, b3)), (L, t), P, I) Z) (kk : ∀ A' Z', zInv xs Ln A' Z' → zE 184 1390 [some (zR 1001), some (zR 0), some (zR 63), some (zI x)] [] Z' Q) : zE 184 340 [some (zR 1001), some (zR 0), some (zR 63), some (zI x)] [] Z Q := by
  obtain ⟨hX, hY, hOk, hxa, hla⟩ := hI
  have hC : zCl n c e ρ Z := hX.1.1
  have hW1 : zRw 20 5 N1 a1 b1 Z := hX.1.2.1
  have hW2 : zRw 23 8 N2 a2 b2 Z := hX.1.2.2.1
  have hW3 : zRw 26 8 N3 a3 b3 Z := hX.1.2.2.2
  have hT : zTxX L t Z := hX.2.1
  have hP : zTpX P Z := hX.2.2.1
  have hIx : zImX I Z := hX.2.2.2
  have hk1 : zRok n (N1, a1, b1) := hOk.1.1
  have hk2 : zEok n (N2, a2, b2) := hOk.1.2.1
  have hk3 : zRok n (N3, a3, b3) := hOk.1.2.2
  have r1 := hxr (x + 1).toNat
  have r2 := hxr (x + 2).toNat
  have r3 := hxr (x + 3).toNat
  have r4 := hxr (x + 4).toNat
  have r5 := hxr (x + 5).toNat
  refine ze_aload_n kc_184_340 rfl ?_
  refine ze_aload_n kc_184_341 rfl ?_
  refine ze_iload_n kc_184_342 rfl ?_
  refine ze_iconst kc_184_343 ?_
  refine ze_iadd kc_184_344 ?_
  refine ze_iald1 kc_184_345 (by omega) ?_
  first
    | rw [hxb]
    | rw [hxa]
  refine zE_callv 2 kc_184_346 rfl rfl (Nat.le_of_ble_eq_true rfl) (Nat.le_of_ble_eq_true rfl) (Nat.le_of_ble_eq_true rfl) rfl (by decide +kernel) rfl ?_
  refine m_feedX hT (by omega) (fun Z1 s1 f1 => ?_)
  simp only [Option.toList_some, Option.toList_none, List.drop_succ_cons, List.drop_zero, List.cons_append, List.nil_append]
  have hX1 := zX_T (T' := (if (0 ≤ xs (x + 1).toNat ∧ xs (x + 1).toNat ≤ 127) ∧ L < 100 then L + 1 else L, zext t L (xs (x + 1).toNat))) hX s1 f1
  have hY1 := zY_fr hY (fun k a b => f1 k (by omega) (by omega))
  have hM1 : zMo n c e ρ Z1 := hY1.1.1
  have hV1 : zRwM 4 65 66 5 (N1, a1, b1) Z1 := hY1.1.2.1
  have hV2 : zRwM 7 67 68 8 (N2, a2, b2) Z1 := hY1.1.2.2.1
  have hV3 : zRwM 10 69 70 8 (N3, a3, b3) Z1 := hY1.1.2.2.2
  have hTm : zTxM L t Z1 := hY1.2.1
  have hPm : zTpM P Z1 := hY1.2.2.1
  have hIm : zImM I Z1 := hY1.2.2.2
  have hxb : ∀ j, Z1 1001 j = xs j := fun j => by rw [f1 1001 (by decide) (by decide)]; exact hxa j
  have hlb : Z1 1002 0 = (Ln : Int) := by rw [f1 1002 (by decide) (by decide)]; exact hla
  refine ze_aload_n kc_184_349 rfl ?_
  refine ze_aload_n kc_184_350 rfl ?_
  refine ze_iload_n kc_184_351 rfl ?_
  refine ze_iconst kc_184_352 ?_
  refine ze_iadd kc_184_353 ?_
  refine ze_iald1 kc_184_354 (by omega) ?_
  first
    | rw [hxb]
    | rw [hxa]
  refine zE_callv 2 kc_184_355 rfl rfl (Nat.le_of_ble_eq_true rfl) (Nat.le_of_ble_eq_true rfl) (Nat.le_of_ble_eq_true rfl) rfl (by decide +kernel) rfl ?_
  refine m_feedM hTm (by omega) (fun Z2 s2 f2 => ?_)
  simp only [Option.toList_some, Option.toList_none, List.drop_succ_cons, List.drop_zero, List.cons_append, List.nil_append]
  have hX2 := zX_fr hX1 (fun k a => f2.1 k (by omega) (by omega))
  have hY2 := zY_T (T' := (if (0 ≤ xs (x + 1).toNat ∧ xs (x + 1).toNat ≤ 127) ∧ L < 100 then L + 1 else L, zext t L (xs (x + 1).toNat))) hY1 s2 f2
  have hx2 : ∀ j, Z2 1001 j = xs j := fun j => by rw [f2.1 1001 (by decide) (by decide)]; exact hxb j
  have hl2 : Z2 1002 0 = (Ln : Int) := by rw [f2.1 1002 (by decide) (by decide)]; exact hlb
  exact ze_icmpE kc_184_358 (kk _ _ ⟨hX2, hY2, (zOk_P hOk), hx2, hl2⟩)

set_option maxHeartbeats 8000000 in
theorem law_read {xs : Nat → Int} {Ln : Nat} {Z : zMem} {Q : Option zAV → zMem → Prop} {x : Int} {n N1 N2 N3 L : Nat} {c a1 b1 a2 b2 a3 b3 t : Nat → Int} {e ρ : Int} {P : zTps} {I : Option zKr} (hLn : Ln ≤ 3072) (hxr : ∀ j, -2147483648 ≤ xs j ∧ xs j ≤ 2147483647) (hx0 : 0 ≤ x) (hx6 : x + 6 ≤ Ln) (hI : zInv xs Ln (((n, c, e, ρ), (N1, a1, b1), (N2, a2, b2), (N3, a3, b3)), (L, t), P, I) Z) (kk : ∀ A' Z', zInv xs Ln A' Z' → zE 184 1390 [some (zR 1001), some (zR 0), some (zR 63), some (zI x)] [] Z' Q) : zE 184 363 [some (zR 1001), some (zR 0), some (zR 63), some (zI x)] [] Z Q := by
  obtain ⟨hX, hY, hOk, hxa, hla⟩ := hI
  have hC : zCl n c e ρ Z := hX.1.1
  have hW1 : zRw 20 5 N1 a1 b1 Z := hX.1.2.1
  have hW2 : zRw 23 8 N2 a2 b2 Z := hX.1.2.2.1
  have hW3 : zRw 26 8 N3 a3 b3 Z := hX.1.2.2.2
  have hT : zTxX L t Z := hX.2.1
  have hP : zTpX P Z := hX.2.2.1
  have hIx : zImX I Z := hX.2.2.2
  have hk1 : zRok n (N1, a1, b1) := hOk.1.1
  have hk2 : zEok n (N2, a2, b2) := hOk.1.2.1
  have hk3 : zRok n (N3, a3, b3) := hOk.1.2.2
  have r1 := hxr (x + 1).toNat
  have r2 := hxr (x + 2).toNat
  have r3 := hxr (x + 3).toNat
  have r4 := hxr (x + 4).toNat
  have r5 := hxr (x + 5).toNat
  refine ze_aload_n kc_184_363 rfl ?_
  refine zE_callv 1 kc_184_364 rfl rfl (Nat.le_of_ble_eq_true rfl) (Nat.le_of_ble_eq_true rfl) (Nat.le_of_ble_eq_true rfl) rfl (by decide +kernel) rfl ?_
  refine m_readX hC hT (fun Z1 s1 s2 f1 => ?_)
  simp only [Option.toList_some, Option.toList_none, List.drop_succ_cons, List.drop_zero, List.cons_append, List.nil_append]
  have hX1 := zX_read hX s1 s2 f1
  have hY1 := zY_fr hY (fun k a b => f1 k (by omega) (by omega) (by omega) (by omega) (by omega))
  have hM1 : zMo n c e ρ Z1 := hY1.1.1
  have hV1 : zRwM 4 65 66 5 (N1, a1, b1) Z1 := hY1.1.2.1
  have hV2 : zRwM 7 67 68 8 (N2, a2, b2) Z1 := hY1.1.2.2.1
  have hV3 : zRwM 10 69 70 8 (N3, a3, b3) Z1 := hY1.1.2.2.2
  have hTm : zTxM L t Z1 := hY1.2.1
  have hPm : zTpM P Z1 := hY1.2.2.1
  have hIm : zImM I Z1 := hY1.2.2.2
  have hxb : ∀ j, Z1 1001 j = xs j := fun j => by rw [f1 1001 (by decide) (by decide) (by decide) (by decide) (by decide)]; exact hxa j
  have hlb : Z1 1002 0 = (Ln : Int) := by rw [f1 1002 (by decide) (by decide) (by decide) (by decide) (by decide)]; exact hla
  refine ze_aload_n kc_184_367 rfl ?_
  refine zE_callv 1 kc_184_368 rfl rfl (Nat.le_of_ble_eq_true rfl) (Nat.le_of_ble_eq_true rfl) (Nat.le_of_ble_eq_true rfl) rfl (by decide +kernel) rfl ?_
  refine m_readM hM1 hTm (fun Z2 s3 s4 f2 => ?_)
  simp only [Option.toList_some, Option.toList_none, List.drop_succ_cons, List.drop_zero, List.cons_append, List.nil_append]
  have hX2 := zX_fr hX1 (fun k a => f2.1 k (by omega) (by omega))
  have hY2 := zY_read hY1 s3 s4 f2
  have hx2 : ∀ j, Z2 1001 j = xs j := fun j => by rw [f2.1 1001 (by decide) (by decide)]; exact hxb j
  have hl2 : Z2 1002 0 = (Ln : Int) := by rw [f2.1 1002 (by decide) (by decide)]; exact hlb
  exact ze_icmpE kc_184_371 (kk _ _ ⟨hX2, hY2, (zOk_S hOk (sRead_up _ _ _)), hx2, hl2⟩)

set_option maxHeartbeats 8000000 in
theorem law_award {xs : Nat → Int} {Ln : Nat} {Z : zMem} {Q : Option zAV → zMem → Prop} {x : Int} {n N1 N2 N3 L : Nat} {c a1 b1 a2 b2 a3 b3 t : Nat → Int} {e ρ : Int} {P : zTps} {I : Option zKr} (hLn : Ln ≤ 3072) (hxr : ∀ j, -2147483648 ≤ xs j ∧ xs j ≤ 2147483647) (hx0 : 0 ≤ x) (hx6 : x + 6 ≤ Ln) (hI : zInv xs Ln (((n, c, e, ρ), (N1, a1, b1), (N2, a2, b2), (N3, a3, b3)), (L, t), P, I) Z) (kk : ∀ A' Z', zInv xs Ln A' Z' → zE 184 1390 [some (zR 1001), some (zR 0), some (zR 63), some (zI x)] [] Z' Q) : zE 184 376 [some (zR 1001), some (zR 0), some (zR 63), some (zI x)] [] Z Q := by
  obtain ⟨hX, hY, hOk, hxa, hla⟩ := hI
  have hC : zCl n c e ρ Z := hX.1.1
  have hW1 : zRw 20 5 N1 a1 b1 Z := hX.1.2.1
  have hW2 : zRw 23 8 N2 a2 b2 Z := hX.1.2.2.1
  have hW3 : zRw 26 8 N3 a3 b3 Z := hX.1.2.2.2
  have hT : zTxX L t Z := hX.2.1
  have hP : zTpX P Z := hX.2.2.1
  have hIx : zImX I Z := hX.2.2.2
  have hk1 : zRok n (N1, a1, b1) := hOk.1.1
  have hk2 : zEok n (N2, a2, b2) := hOk.1.2.1
  have hk3 : zRok n (N3, a3, b3) := hOk.1.2.2
  have r1 := hxr (x + 1).toNat
  have r2 := hxr (x + 2).toNat
  have r3 := hxr (x + 3).toNat
  have r4 := hxr (x + 4).toNat
  have r5 := hxr (x + 5).toNat
  refine ze_aload_n kc_184_376 rfl ?_
  refine ze_aload_n kc_184_377 rfl ?_
  refine ze_iload_n kc_184_378 rfl ?_
  refine ze_iconst kc_184_379 ?_
  refine ze_iadd kc_184_380 ?_
  refine ze_iald1 kc_184_381 (by omega) ?_
  first
    | rw [hxb]
    | rw [hxa]
  refine ze_aload_n kc_184_382 rfl ?_
  refine ze_iload_n kc_184_383 rfl ?_
  refine ze_iconst kc_184_384 ?_
  refine ze_iadd kc_184_385 ?_
  refine ze_iald1 kc_184_386 (by omega) ?_
  first
    | rw [hxb]
    | rw [hxa]
  refine ze_aload_n kc_184_387 rfl ?_
  refine ze_iload_n kc_184_388 rfl ?_
  refine ze_iconst kc_184_389 ?_
  refine ze_iadd kc_184_390 ?_
  refine ze_iald1 kc_184_391 (by omega) ?_
  first
    | rw [hxb]
    | rw [hxa]
  refine zE_callv 4 kc_184_392 rfl rfl (Nat.le_of_ble_eq_true rfl) (Nat.le_of_ble_eq_true rfl) (Nat.le_of_ble_eq_true rfl) rfl (by decide +kernel) rfl ?_
  refine m_awardX hC (by omega) (by omega) (by omega) (fun Z1 f1 => ?_)
  simp only [Option.toList_some, Option.toList_none, List.drop_succ_cons, List.drop_zero, List.cons_append, List.nil_append]
  have hX1 := zX_q hX f1
  have hY1 := zY_q hY f1
  have hM1 : zMo n c e ρ Z1 := hY1.1.1
  have hV1 : zRwM 4 65 66 5 (N1, a1, b1) Z1 := hY1.1.2.1
  have hV2 : zRwM 7 67 68 8 (N2, a2, b2) Z1 := hY1.1.2.2.1
  have hV3 : zRwM 10 69 70 8 (N3, a3, b3) Z1 := hY1.1.2.2.2
  have hTm : zTxM L t Z1 := hY1.2.1
  have hPm : zTpM P Z1 := hY1.2.2.1
  have hIm : zImM I Z1 := hY1.2.2.2
  have hxb : ∀ j, Z1 1001 j = xs j := fun j => by rw [f1.1 1001 (by decide) (by decide) (by decide) (by decide) (by decide)]; exact hxa j
  have hlb : Z1 1002 0 = (Ln : Int) := by rw [f1.1 1002 (by decide) (by decide) (by decide) (by decide) (by decide)]; exact hla
  refine ze_aload_n kc_184_395 rfl ?_
  refine ze_aload_n kc_184_396 rfl ?_
  refine ze_iload_n kc_184_397 rfl ?_
  refine ze_iconst kc_184_398 ?_
  refine ze_iadd kc_184_399 ?_
  refine ze_iald1 kc_184_400 (by omega) ?_
  first
    | rw [hxb]
    | rw [hxa]
  refine ze_aload_n kc_184_401 rfl ?_
  refine ze_iload_n kc_184_402 rfl ?_
  refine ze_iconst kc_184_403 ?_
  refine ze_iadd kc_184_404 ?_
  refine ze_iald1 kc_184_405 (by omega) ?_
  first
    | rw [hxb]
    | rw [hxa]
  refine ze_aload_n kc_184_406 rfl ?_
  refine ze_iload_n kc_184_407 rfl ?_
  refine ze_iconst kc_184_408 ?_
  refine ze_iadd kc_184_409 ?_
  refine ze_iald1 kc_184_410 (by omega) ?_
  first
    | rw [hxb]
    | rw [hxa]
  refine zE_callv 4 kc_184_411 rfl rfl (Nat.le_of_ble_eq_true rfl) (Nat.le_of_ble_eq_true rfl) (Nat.le_of_ble_eq_true rfl) rfl (by decide +kernel) rfl ?_
  refine m_awardM hM1 (by omega) (by omega) (by omega) (fun Z2 f2 => ?_)
  simp only [Option.toList_some, Option.toList_none, List.drop_succ_cons, List.drop_zero, List.cons_append, List.nil_append]
  have hX2 := zX_q hX1 f2
  have hY2 := zY_q hY1 f2
  have hx2 : ∀ j, Z2 1001 j = xs j := fun j => by rw [f2.1 1001 (by decide) (by decide) (by decide) (by decide) (by decide)]; exact hxb j
  have hl2 : Z2 1002 0 = (Ln : Int) := by rw [f2.1 1002 (by decide) (by decide) (by decide) (by decide) (by decide)]; exact hlb
  exact ze_lcmpE kc_184_414 kc_184_415 (kk _ _ ⟨hX2, hY2, hOk, hx2, hl2⟩)

set_option maxHeartbeats 8000000 in
theorem law_cut {xs : Nat → Int} {Ln : Nat} {Z : zMem} {Q : Option zAV → zMem → Prop} {x : Int} {n N1 N2 N3 L : Nat} {c a1 b1 a2 b2 a3 b3 t : Nat → Int} {e ρ : Int} {P : zTps} {I : Option zKr} (hLn : Ln ≤ 3072) (hxr : ∀ j, -2147483648 ≤ xs j ∧ xs j ≤ 2147483647) (hx0 : 0 ≤ x) (hx6 : x + 6 ≤ Ln) (hI : zInv xs Ln (((n, c, e, ρ), (N1, a1, b1), (N2, a2, b2), (N3, a3, b3)), (L, t), P, I) Z) (kk : ∀ A' Z', zInv xs Ln A' Z' → zE 184 1390 [some (zR 1001), some (zR 0), some (zR 63), some (zI x)] [] Z' Q) : zE 184 420 [some (zR 1001), some (zR 0), some (zR 63), some (zI x)] [] Z Q := by
  obtain ⟨hX, hY, hOk, hxa, hla⟩ := hI
  have hC : zCl n c e ρ Z := hX.1.1
  have hW1 : zRw 20 5 N1 a1 b1 Z := hX.1.2.1
  have hW2 : zRw 23 8 N2 a2 b2 Z := hX.1.2.2.1
  have hW3 : zRw 26 8 N3 a3 b3 Z := hX.1.2.2.2
  have hT : zTxX L t Z := hX.2.1
  have hP : zTpX P Z := hX.2.2.1
  have hIx : zImX I Z := hX.2.2.2
  have hk1 : zRok n (N1, a1, b1) := hOk.1.1
  have hk2 : zEok n (N2, a2, b2) := hOk.1.2.1
  have hk3 : zRok n (N3, a3, b3) := hOk.1.2.2
  have r1 := hxr (x + 1).toNat
  have r2 := hxr (x + 2).toNat
  have r3 := hxr (x + 3).toNat
  have r4 := hxr (x + 4).toNat
  have r5 := hxr (x + 5).toNat
  refine ze_aload_n kc_184_420 rfl ?_
  refine ze_aload_n kc_184_421 rfl ?_
  refine ze_iload_n kc_184_422 rfl ?_
  refine ze_iconst kc_184_423 ?_
  refine ze_iadd kc_184_424 ?_
  refine ze_iald1 kc_184_425 (by omega) ?_
  first
    | rw [hxb]
    | rw [hxa]
  refine ze_aload_n kc_184_426 rfl ?_
  refine ze_iload_n kc_184_427 rfl ?_
  refine ze_iconst kc_184_428 ?_
  refine ze_iadd kc_184_429 ?_
  refine ze_iald1 kc_184_430 (by omega) ?_
  first
    | rw [hxb]
    | rw [hxa]
  refine zE_callv 3 kc_184_431 rfl rfl (Nat.le_of_ble_eq_true rfl) (Nat.le_of_ble_eq_true rfl) (Nat.le_of_ble_eq_true rfl) rfl (by decide +kernel) rfl ?_
  refine m_cutX hC (by omega) (by omega) (fun Z1 f1 => ?_)
  simp only [Option.toList_some, Option.toList_none, List.drop_succ_cons, List.drop_zero, List.cons_append, List.nil_append]
  have hX1 := zX_q hX f1
  have hY1 := zY_q hY f1
  have hM1 : zMo n c e ρ Z1 := hY1.1.1
  have hV1 : zRwM 4 65 66 5 (N1, a1, b1) Z1 := hY1.1.2.1
  have hV2 : zRwM 7 67 68 8 (N2, a2, b2) Z1 := hY1.1.2.2.1
  have hV3 : zRwM 10 69 70 8 (N3, a3, b3) Z1 := hY1.1.2.2.2
  have hTm : zTxM L t Z1 := hY1.2.1
  have hPm : zTpM P Z1 := hY1.2.2.1
  have hIm : zImM I Z1 := hY1.2.2.2
  have hxb : ∀ j, Z1 1001 j = xs j := fun j => by rw [f1.1 1001 (by decide) (by decide) (by decide) (by decide) (by decide)]; exact hxa j
  have hlb : Z1 1002 0 = (Ln : Int) := by rw [f1.1 1002 (by decide) (by decide) (by decide) (by decide) (by decide)]; exact hla
  refine ze_aload_n kc_184_434 rfl ?_
  refine ze_aload_n kc_184_435 rfl ?_
  refine ze_iload_n kc_184_436 rfl ?_
  refine ze_iconst kc_184_437 ?_
  refine ze_iadd kc_184_438 ?_
  refine ze_iald1 kc_184_439 (by omega) ?_
  first
    | rw [hxb]
    | rw [hxa]
  refine ze_aload_n kc_184_440 rfl ?_
  refine ze_iload_n kc_184_441 rfl ?_
  refine ze_iconst kc_184_442 ?_
  refine ze_iadd kc_184_443 ?_
  refine ze_iald1 kc_184_444 (by omega) ?_
  first
    | rw [hxb]
    | rw [hxa]
  refine zE_callv 3 kc_184_445 rfl rfl (Nat.le_of_ble_eq_true rfl) (Nat.le_of_ble_eq_true rfl) (Nat.le_of_ble_eq_true rfl) rfl (by decide +kernel) rfl ?_
  refine m_cutM hM1 (by omega) (by omega) (fun Z2 f2 => ?_)
  simp only [Option.toList_some, Option.toList_none, List.drop_succ_cons, List.drop_zero, List.cons_append, List.nil_append]
  have hX2 := zX_q hX1 f2
  have hY2 := zY_q hY1 f2
  have hx2 : ∀ j, Z2 1001 j = xs j := fun j => by rw [f2.1 1001 (by decide) (by decide) (by decide) (by decide) (by decide)]; exact hxb j
  have hl2 : Z2 1002 0 = (Ln : Int) := by rw [f2.1 1002 (by decide) (by decide) (by decide) (by decide) (by decide)]; exact hlb
  exact ze_icmpE kc_184_448 (kk _ _ ⟨hX2, hY2, hOk, hx2, hl2⟩)

set_option maxHeartbeats 8000000 in
theorem law_dual {xs : Nat → Int} {Ln : Nat} {Z : zMem} {Q : Option zAV → zMem → Prop} {x : Int} {n N1 N2 N3 L : Nat} {c a1 b1 a2 b2 a3 b3 t : Nat → Int} {e ρ : Int} {P : zTps} {I : Option zKr} (hLn : Ln ≤ 3072) (hxr : ∀ j, -2147483648 ≤ xs j ∧ xs j ≤ 2147483647) (hx0 : 0 ≤ x) (hx6 : x + 6 ≤ Ln) (hI : zInv xs Ln (((n, c, e, ρ), (N1, a1, b1), (N2, a2, b2), (N3, a3, b3)), (L, t), P, I) Z) (kk : ∀ A' Z', zInv xs Ln A' Z' → zE 184 1390 [some (zR 1001), some (zR 0), some (zR 63), some (zI x)] [] Z' Q) : zE 184 453 [some (zR 1001), some (zR 0), some (zR 63), some (zI x)] [] Z Q := by
  obtain ⟨hX, hY, hOk, hxa, hla⟩ := hI
  have hC : zCl n c e ρ Z := hX.1.1
  have hW1 : zRw 20 5 N1 a1 b1 Z := hX.1.2.1
  have hW2 : zRw 23 8 N2 a2 b2 Z := hX.1.2.2.1
  have hW3 : zRw 26 8 N3 a3 b3 Z := hX.1.2.2.2
  have hT : zTxX L t Z := hX.2.1
  have hP : zTpX P Z := hX.2.2.1
  have hIx : zImX I Z := hX.2.2.2
  have hk1 : zRok n (N1, a1, b1) := hOk.1.1
  have hk2 : zEok n (N2, a2, b2) := hOk.1.2.1
  have hk3 : zRok n (N3, a3, b3) := hOk.1.2.2
  have r1 := hxr (x + 1).toNat
  have r2 := hxr (x + 2).toNat
  have r3 := hxr (x + 3).toNat
  have r4 := hxr (x + 4).toNat
  have r5 := hxr (x + 5).toNat
  refine ze_aload_n kc_184_453 rfl ?_
  refine ze_aload_n kc_184_454 rfl ?_
  refine ze_iload_n kc_184_455 rfl ?_
  refine ze_iconst kc_184_456 ?_
  refine ze_iadd kc_184_457 ?_
  refine ze_iald1 kc_184_458 (by omega) ?_
  first
    | rw [hxb]
    | rw [hxa]
  refine ze_aload_n kc_184_459 rfl ?_
  refine ze_iload_n kc_184_460 rfl ?_
  refine ze_iconst kc_184_461 ?_
  refine ze_iadd kc_184_462 ?_
  refine ze_iald1 kc_184_463 (by omega) ?_
  first
    | rw [hxb]
    | rw [hxa]
  refine ze_aload_n kc_184_464 rfl ?_
  refine ze_iload_n kc_184_465 rfl ?_
  refine ze_iconst kc_184_466 ?_
  refine ze_iadd kc_184_467 ?_
  refine ze_iald1 kc_184_468 (by omega) ?_
  first
    | rw [hxb]
    | rw [hxa]
  refine zE_callv 4 kc_184_469 rfl rfl (Nat.le_of_ble_eq_true rfl) (Nat.le_of_ble_eq_true rfl) (Nat.le_of_ble_eq_true rfl) rfl (by decide +kernel) rfl ?_
  refine m_dualX hC (by omega) (by omega) (by omega) (fun Z1 f1 => ?_)
  simp only [Option.toList_some, Option.toList_none, List.drop_succ_cons, List.drop_zero, List.cons_append, List.nil_append]
  have hX1 := zX_q hX f1
  have hY1 := zY_q hY f1
  have hM1 : zMo n c e ρ Z1 := hY1.1.1
  have hV1 : zRwM 4 65 66 5 (N1, a1, b1) Z1 := hY1.1.2.1
  have hV2 : zRwM 7 67 68 8 (N2, a2, b2) Z1 := hY1.1.2.2.1
  have hV3 : zRwM 10 69 70 8 (N3, a3, b3) Z1 := hY1.1.2.2.2
  have hTm : zTxM L t Z1 := hY1.2.1
  have hPm : zTpM P Z1 := hY1.2.2.1
  have hIm : zImM I Z1 := hY1.2.2.2
  have hxb : ∀ j, Z1 1001 j = xs j := fun j => by rw [f1.1 1001 (by decide) (by decide) (by decide) (by decide) (by decide)]; exact hxa j
  have hlb : Z1 1002 0 = (Ln : Int) := by rw [f1.1 1002 (by decide) (by decide) (by decide) (by decide) (by decide)]; exact hla
  refine ze_aload_n kc_184_472 rfl ?_
  refine ze_aload_n kc_184_473 rfl ?_
  refine ze_iload_n kc_184_474 rfl ?_
  refine ze_iconst kc_184_475 ?_
  refine ze_iadd kc_184_476 ?_
  refine ze_iald1 kc_184_477 (by omega) ?_
  first
    | rw [hxb]
    | rw [hxa]
  refine ze_aload_n kc_184_478 rfl ?_
  refine ze_iload_n kc_184_479 rfl ?_
  refine ze_iconst kc_184_480 ?_
  refine ze_iadd kc_184_481 ?_
  refine ze_iald1 kc_184_482 (by omega) ?_
  first
    | rw [hxb]
    | rw [hxa]
  refine ze_aload_n kc_184_483 rfl ?_
  refine ze_iload_n kc_184_484 rfl ?_
  refine ze_iconst kc_184_485 ?_
  refine ze_iadd kc_184_486 ?_
  refine ze_iald1 kc_184_487 (by omega) ?_
  first
    | rw [hxb]
    | rw [hxa]
  refine zE_callv 4 kc_184_488 rfl rfl (Nat.le_of_ble_eq_true rfl) (Nat.le_of_ble_eq_true rfl) (Nat.le_of_ble_eq_true rfl) rfl (by decide +kernel) rfl ?_
  refine m_dualM hM1 (by omega) (by omega) (by omega) (fun Z2 f2 => ?_)
  simp only [Option.toList_some, Option.toList_none, List.drop_succ_cons, List.drop_zero, List.cons_append, List.nil_append]
  have hX2 := zX_q hX1 f2
  have hY2 := zY_q hY1 f2
  have hx2 : ∀ j, Z2 1001 j = xs j := fun j => by rw [f2.1 1001 (by decide) (by decide) (by decide) (by decide) (by decide)]; exact hxb j
  have hl2 : Z2 1002 0 = (Ln : Int) := by rw [f2.1 1002 (by decide) (by decide) (by decide) (by decide) (by decide)]; exact hlb
  exact ze_lcmpE kc_184_491 kc_184_492 (kk _ _ ⟨hX2, hY2, hOk, hx2, hl2⟩)

set_option maxHeartbeats 8000000 in
theorem law_alone {xs : Nat → Int} {Ln : Nat} {Z : zMem} {Q : Option zAV → zMem → Prop} {x : Int} {n N1 N2 N3 L : Nat} {c a1 b1 a2 b2 a3 b3 t : Nat → Int} {e ρ : Int} {P : zTps} {I : Option zKr} (hLn : Ln ≤ 3072) (hxr : ∀ j, -2147483648 ≤ xs j ∧ xs j ≤ 2147483647) (hx0 : 0 ≤ x) (hx6 : x + 6 ≤ Ln) (hI : zInv xs Ln (((n, c, e, ρ), (N1, a1, b1), (N2, a2, b2), (N3, a3, b3)), (L, t), P, I) Z) (kk : ∀ A' Z', zInv xs Ln A' Z' → zE 184 1390 [some (zR 1001), some (zR 0), some (zR 63), some (zI x)] [] Z' Q) : zE 184 497 [some (zR 1001), some (zR 0), some (zR 63), some (zI x)] [] Z Q := by
  obtain ⟨hX, hY, hOk, hxa, hla⟩ := hI
  have hC : zCl n c e ρ Z := hX.1.1
  have hW1 : zRw 20 5 N1 a1 b1 Z := hX.1.2.1
  have hW2 : zRw 23 8 N2 a2 b2 Z := hX.1.2.2.1
  have hW3 : zRw 26 8 N3 a3 b3 Z := hX.1.2.2.2
  have hT : zTxX L t Z := hX.2.1
  have hP : zTpX P Z := hX.2.2.1
  have hIx : zImX I Z := hX.2.2.2
  have hk1 : zRok n (N1, a1, b1) := hOk.1.1
  have hk2 : zEok n (N2, a2, b2) := hOk.1.2.1
  have hk3 : zRok n (N3, a3, b3) := hOk.1.2.2
  have r1 := hxr (x + 1).toNat
  have r2 := hxr (x + 2).toNat
  have r3 := hxr (x + 3).toNat
  have r4 := hxr (x + 4).toNat
  have r5 := hxr (x + 5).toNat
  refine ze_aload_n kc_184_497 rfl ?_
  refine ze_aload_n kc_184_498 rfl ?_
  refine ze_iload_n kc_184_499 rfl ?_
  refine ze_iconst kc_184_500 ?_
  refine ze_iadd kc_184_501 ?_
  refine ze_iald1 kc_184_502 (by omega) ?_
  first
    | rw [hxb]
    | rw [hxa]
  refine ze_aload_n kc_184_503 rfl ?_
  refine ze_iload_n kc_184_504 rfl ?_
  refine ze_iconst kc_184_505 ?_
  refine ze_iadd kc_184_506 ?_
  refine ze_iald1 kc_184_507 (by omega) ?_
  first
    | rw [hxb]
    | rw [hxa]
  refine ze_aload_n kc_184_508 rfl ?_
  refine ze_iload_n kc_184_509 rfl ?_
  refine ze_iconst kc_184_510 ?_
  refine ze_iadd kc_184_511 ?_
  refine ze_iald1 kc_184_512 (by omega) ?_
  first
    | rw [hxb]
    | rw [hxa]
  refine ze_aload_n kc_184_513 rfl ?_
  refine ze_iload_n kc_184_514 rfl ?_
  refine ze_iconst kc_184_515 ?_
  refine ze_iadd kc_184_516 ?_
  refine ze_iald1 kc_184_517 (by omega) ?_
  first
    | rw [hxb]
    | rw [hxa]
  refine zE_callv 5 kc_184_518 rfl rfl (Nat.le_of_ble_eq_true rfl) (Nat.le_of_ble_eq_true rfl) (Nat.le_of_ble_eq_true rfl) rfl (by decide +kernel) rfl ?_
  refine m_aloneX hC (by omega) (by omega) (by omega) (by omega) (fun Z1 f1 => ?_)
  simp only [Option.toList_some, Option.toList_none, List.drop_succ_cons, List.drop_zero, List.cons_append, List.nil_append]
  have hX1 := zX_q hX f1
  have hY1 := zY_q hY f1
  have hM1 : zMo n c e ρ Z1 := hY1.1.1
  have hV1 : zRwM 4 65 66 5 (N1, a1, b1) Z1 := hY1.1.2.1
  have hV2 : zRwM 7 67 68 8 (N2, a2, b2) Z1 := hY1.1.2.2.1
  have hV3 : zRwM 10 69 70 8 (N3, a3, b3) Z1 := hY1.1.2.2.2
  have hTm : zTxM L t Z1 := hY1.2.1
  have hPm : zTpM P Z1 := hY1.2.2.1
  have hIm : zImM I Z1 := hY1.2.2.2
  have hxb : ∀ j, Z1 1001 j = xs j := fun j => by rw [f1.1 1001 (by decide) (by decide) (by decide) (by decide) (by decide)]; exact hxa j
  have hlb : Z1 1002 0 = (Ln : Int) := by rw [f1.1 1002 (by decide) (by decide) (by decide) (by decide) (by decide)]; exact hla
  refine ze_aload_n kc_184_521 rfl ?_
  refine ze_aload_n kc_184_522 rfl ?_
  refine ze_iload_n kc_184_523 rfl ?_
  refine ze_iconst kc_184_524 ?_
  refine ze_iadd kc_184_525 ?_
  refine ze_iald1 kc_184_526 (by omega) ?_
  first
    | rw [hxb]
    | rw [hxa]
  refine ze_aload_n kc_184_527 rfl ?_
  refine ze_iload_n kc_184_528 rfl ?_
  refine ze_iconst kc_184_529 ?_
  refine ze_iadd kc_184_530 ?_
  refine ze_iald1 kc_184_531 (by omega) ?_
  first
    | rw [hxb]
    | rw [hxa]
  refine ze_aload_n kc_184_532 rfl ?_
  refine ze_iload_n kc_184_533 rfl ?_
  refine ze_iconst kc_184_534 ?_
  refine ze_iadd kc_184_535 ?_
  refine ze_iald1 kc_184_536 (by omega) ?_
  first
    | rw [hxb]
    | rw [hxa]
  refine ze_aload_n kc_184_537 rfl ?_
  refine ze_iload_n kc_184_538 rfl ?_
  refine ze_iconst kc_184_539 ?_
  refine ze_iadd kc_184_540 ?_
  refine ze_iald1 kc_184_541 (by omega) ?_
  first
    | rw [hxb]
    | rw [hxa]
  refine zE_callv 5 kc_184_542 rfl rfl (Nat.le_of_ble_eq_true rfl) (Nat.le_of_ble_eq_true rfl) (Nat.le_of_ble_eq_true rfl) rfl (by decide +kernel) rfl ?_
  refine m_aloneM hM1 (by omega) (by omega) (by omega) (by omega) (fun Z2 f2 => ?_)
  simp only [Option.toList_some, Option.toList_none, List.drop_succ_cons, List.drop_zero, List.cons_append, List.nil_append]
  have hX2 := zX_q hX1 f2
  have hY2 := zY_q hY1 f2
  have hx2 : ∀ j, Z2 1001 j = xs j := fun j => by rw [f2.1 1001 (by decide) (by decide) (by decide) (by decide) (by decide)]; exact hxb j
  have hl2 : Z2 1002 0 = (Ln : Int) := by rw [f2.1 1002 (by decide) (by decide) (by decide) (by decide) (by decide)]; exact hlb
  exact ze_lcmpE kc_184_545 kc_184_546 (kk _ _ ⟨hX2, hY2, hOk, hx2, hl2⟩)

set_option maxHeartbeats 8000000 in
theorem law_consistent {xs : Nat → Int} {Ln : Nat} {Z : zMem} {Q : Option zAV → zMem → Prop} {x : Int} {n N1 N2 N3 L : Nat} {c a1 b1 a2 b2 a3 b3 t : Nat → Int} {e ρ : Int} {P : zTps} {I : Option zKr} (hLn : Ln ≤ 3072) (hxr : ∀ j, -2147483648 ≤ xs j ∧ xs j ≤ 2147483647) (hx0 : 0 ≤ x) (hx6 : x + 6 ≤ Ln) (hI : zInv xs Ln (((n, c, e, ρ), (N1, a1, b1), (N2, a2, b2), (N3, a3, b3)), (L, t), P, I) Z) (kk : ∀ A' Z', zInv xs Ln A' Z' → zE 184 1390 [some (zR 1001), some (zR 0), some (zR 63), some (zI x)] [] Z' Q) : zE 184 551 [some (zR 1001), some (zR 0), some (zR 63), some (zI x)] [] Z Q := by
  obtain ⟨hX, hY, hOk, hxa, hla⟩ := hI
  have hC : zCl n c e ρ Z := hX.1.1
  have hW1 : zRw 20 5 N1 a1 b1 Z := hX.1.2.1
  have hW2 : zRw 23 8 N2 a2 b2 Z := hX.1.2.2.1
  have hW3 : zRw 26 8 N3 a3 b3 Z := hX.1.2.2.2
  have hT : zTxX L t Z := hX.2.1
  have hP : zTpX P Z := hX.2.2.1
  have hIx : zImX I Z := hX.2.2.2
  have hk1 : zRok n (N1, a1, b1) := hOk.1.1
  have hk2 : zEok n (N2, a2, b2) := hOk.1.2.1
  have hk3 : zRok n (N3, a3, b3) := hOk.1.2.2
  have r1 := hxr (x + 1).toNat
  have r2 := hxr (x + 2).toNat
  have r3 := hxr (x + 3).toNat
  have r4 := hxr (x + 4).toNat
  have r5 := hxr (x + 5).toNat
  refine ze_aload_n kc_184_551 rfl ?_
  refine ze_aload_n kc_184_552 rfl ?_
  refine ze_iload_n kc_184_553 rfl ?_
  refine ze_iconst kc_184_554 ?_
  refine ze_iadd kc_184_555 ?_
  refine ze_iald1 kc_184_556 (by omega) ?_
  first
    | rw [hxb]
    | rw [hxa]
  refine zE_callv 2 kc_184_557 rfl rfl (Nat.le_of_ble_eq_true rfl) (Nat.le_of_ble_eq_true rfl) (Nat.le_of_ble_eq_true rfl) rfl (by decide +kernel) rfl ?_
  refine m_consX hC (by omega) (fun Z1 f1 => ?_)
  simp only [Option.toList_some, Option.toList_none, List.drop_succ_cons, List.drop_zero, List.cons_append, List.nil_append]
  have hX1 := zX_q hX f1
  have hY1 := zY_q hY f1
  have hM1 : zMo n c e ρ Z1 := hY1.1.1
  have hV1 : zRwM 4 65 66 5 (N1, a1, b1) Z1 := hY1.1.2.1
  have hV2 : zRwM 7 67 68 8 (N2, a2, b2) Z1 := hY1.1.2.2.1
  have hV3 : zRwM 10 69 70 8 (N3, a3, b3) Z1 := hY1.1.2.2.2
  have hTm : zTxM L t Z1 := hY1.2.1
  have hPm : zTpM P Z1 := hY1.2.2.1
  have hIm : zImM I Z1 := hY1.2.2.2
  have hxb : ∀ j, Z1 1001 j = xs j := fun j => by rw [f1.1 1001 (by decide) (by decide) (by decide) (by decide) (by decide)]; exact hxa j
  have hlb : Z1 1002 0 = (Ln : Int) := by rw [f1.1 1002 (by decide) (by decide) (by decide) (by decide) (by decide)]; exact hla
  refine ze_aload_n kc_184_560 rfl ?_
  refine ze_aload_n kc_184_561 rfl ?_
  refine ze_iload_n kc_184_562 rfl ?_
  refine ze_iconst kc_184_563 ?_
  refine ze_iadd kc_184_564 ?_
  refine ze_iald1 kc_184_565 (by omega) ?_
  first
    | rw [hxb]
    | rw [hxa]
  refine zE_callv 2 kc_184_566 rfl rfl (Nat.le_of_ble_eq_true rfl) (Nat.le_of_ble_eq_true rfl) (Nat.le_of_ble_eq_true rfl) rfl (by decide +kernel) rfl ?_
  refine m_consM hM1 (by omega) (fun Z2 f2 => ?_)
  simp only [Option.toList_some, Option.toList_none, List.drop_succ_cons, List.drop_zero, List.cons_append, List.nil_append]
  have hX2 := zX_q hX1 f2
  have hY2 := zY_q hY1 f2
  have hx2 : ∀ j, Z2 1001 j = xs j := fun j => by rw [f2.1 1001 (by decide) (by decide) (by decide) (by decide) (by decide)]; exact hxb j
  have hl2 : Z2 1002 0 = (Ln : Int) := by rw [f2.1 1002 (by decide) (by decide) (by decide) (by decide) (by decide)]; exact hlb
  exact ze_icmpE kc_184_569 (kk _ _ ⟨hX2, hY2, hOk, hx2, hl2⟩)

set_option maxHeartbeats 8000000 in
theorem law_change {xs : Nat → Int} {Ln : Nat} {Z : zMem} {Q : Option zAV → zMem → Prop} {x : Int} {n N1 N2 N3 L : Nat} {c a1 b1 a2 b2 a3 b3 t : Nat → Int} {e ρ : Int} {P : zTps} {I : Option zKr} (hLn : Ln ≤ 3072) (hxr : ∀ j, -2147483648 ≤ xs j ∧ xs j ≤ 2147483647) (hx0 : 0 ≤ x) (hx6 : x + 6 ≤ Ln) (hI : zInv xs Ln (((n, c, e, ρ), (N1, a1, b1), (N2, a2, b2), (N3, a3, b3)), (L, t), P, I) Z) (kk : ∀ A' Z', zInv xs Ln A' Z' → zE 184 1390 [some (zR 1001), some (zR 0), some (zR 63), some (zI x)] [] Z' Q) : zE 184 574 [some (zR 1001), some (zR 0), some (zR 63), some (zI x)] [] Z Q := by
  obtain ⟨hX, hY, hOk, hxa, hla⟩ := hI
  have hC : zCl n c e ρ Z := hX.1.1
  have hW1 : zRw 20 5 N1 a1 b1 Z := hX.1.2.1
  have hW2 : zRw 23 8 N2 a2 b2 Z := hX.1.2.2.1
  have hW3 : zRw 26 8 N3 a3 b3 Z := hX.1.2.2.2
  have hT : zTxX L t Z := hX.2.1
  have hP : zTpX P Z := hX.2.2.1
  have hIx : zImX I Z := hX.2.2.2
  have hk1 : zRok n (N1, a1, b1) := hOk.1.1
  have hk2 : zEok n (N2, a2, b2) := hOk.1.2.1
  have hk3 : zRok n (N3, a3, b3) := hOk.1.2.2
  have r1 := hxr (x + 1).toNat
  have r2 := hxr (x + 2).toNat
  have r3 := hxr (x + 3).toNat
  have r4 := hxr (x + 4).toNat
  have r5 := hxr (x + 5).toNat
  refine ze_aload_n kc_184_574 rfl ?_
  refine ze_aload_n kc_184_575 rfl ?_
  refine ze_iload_n kc_184_576 rfl ?_
  refine ze_iconst kc_184_577 ?_
  refine ze_iadd kc_184_578 ?_
  refine ze_iald1 kc_184_579 (by omega) ?_
  first
    | rw [hxb]
    | rw [hxa]
  refine ze_aload_n kc_184_580 rfl ?_
  refine ze_iload_n kc_184_581 rfl ?_
  refine ze_iconst kc_184_582 ?_
  refine ze_iadd kc_184_583 ?_
  refine ze_iald1 kc_184_584 (by omega) ?_
  first
    | rw [hxb]
    | rw [hxa]
  refine ze_aload_n kc_184_585 rfl ?_
  refine ze_iload_n kc_184_586 rfl ?_
  refine ze_iconst kc_184_587 ?_
  refine ze_iadd kc_184_588 ?_
  refine ze_iald1 kc_184_589 (by omega) ?_
  first
    | rw [hxb]
    | rw [hxa]
  refine ze_aload_n kc_184_590 rfl ?_
  refine ze_iload_n kc_184_591 rfl ?_
  refine ze_iconst kc_184_592 ?_
  refine ze_iadd kc_184_593 ?_
  refine ze_iald1 kc_184_594 (by omega) ?_
  first
    | rw [hxb]
    | rw [hxa]
  refine ze_aload_n kc_184_595 rfl ?_
  refine ze_iload_n kc_184_596 rfl ?_
  refine ze_iconst kc_184_597 ?_
  refine ze_iadd kc_184_598 ?_
  refine ze_iald1 kc_184_599 (by omega) ?_
  first
    | rw [hxb]
    | rw [hxa]
  refine zE_callv 6 kc_184_600 rfl rfl (Nat.le_of_ble_eq_true rfl) (Nat.le_of_ble_eq_true rfl) (Nat.le_of_ble_eq_true rfl) rfl (by decide +kernel) rfl ?_
  refine m_changeX hC (by omega) (by omega) (by omega) (by omega) (by omega) (fun Z1 f1 => ?_)
  simp only [Option.toList_some, Option.toList_none, List.drop_succ_cons, List.drop_zero, List.cons_append, List.nil_append]
  have hX1 := zX_q hX f1
  have hY1 := zY_q hY f1
  have hM1 : zMo n c e ρ Z1 := hY1.1.1
  have hV1 : zRwM 4 65 66 5 (N1, a1, b1) Z1 := hY1.1.2.1
  have hV2 : zRwM 7 67 68 8 (N2, a2, b2) Z1 := hY1.1.2.2.1
  have hV3 : zRwM 10 69 70 8 (N3, a3, b3) Z1 := hY1.1.2.2.2
  have hTm : zTxM L t Z1 := hY1.2.1
  have hPm : zTpM P Z1 := hY1.2.2.1
  have hIm : zImM I Z1 := hY1.2.2.2
  have hxb : ∀ j, Z1 1001 j = xs j := fun j => by rw [f1.1 1001 (by decide) (by decide) (by decide) (by decide) (by decide)]; exact hxa j
  have hlb : Z1 1002 0 = (Ln : Int) := by rw [f1.1 1002 (by decide) (by decide) (by decide) (by decide) (by decide)]; exact hla
  refine ze_aload_n kc_184_603 rfl ?_
  refine ze_aload_n kc_184_604 rfl ?_
  refine ze_iload_n kc_184_605 rfl ?_
  refine ze_iconst kc_184_606 ?_
  refine ze_iadd kc_184_607 ?_
  refine ze_iald1 kc_184_608 (by omega) ?_
  first
    | rw [hxb]
    | rw [hxa]
  refine ze_aload_n kc_184_609 rfl ?_
  refine ze_iload_n kc_184_610 rfl ?_
  refine ze_iconst kc_184_611 ?_
  refine ze_iadd kc_184_612 ?_
  refine ze_iald1 kc_184_613 (by omega) ?_
  first
    | rw [hxb]
    | rw [hxa]
  refine ze_aload_n kc_184_614 rfl ?_
  refine ze_iload_n kc_184_615 rfl ?_
  refine ze_iconst kc_184_616 ?_
  refine ze_iadd kc_184_617 ?_
  refine ze_iald1 kc_184_618 (by omega) ?_
  first
    | rw [hxb]
    | rw [hxa]
  refine ze_aload_n kc_184_619 rfl ?_
  refine ze_iload_n kc_184_620 rfl ?_
  refine ze_iconst kc_184_621 ?_
  refine ze_iadd kc_184_622 ?_
  refine ze_iald1 kc_184_623 (by omega) ?_
  first
    | rw [hxb]
    | rw [hxa]
  refine ze_aload_n kc_184_624 rfl ?_
  refine ze_iload_n kc_184_625 rfl ?_
  refine ze_iconst kc_184_626 ?_
  refine ze_iadd kc_184_627 ?_
  refine ze_iald1 kc_184_628 (by omega) ?_
  first
    | rw [hxb]
    | rw [hxa]
  refine zE_callv 6 kc_184_629 rfl rfl (Nat.le_of_ble_eq_true rfl) (Nat.le_of_ble_eq_true rfl) (Nat.le_of_ble_eq_true rfl) rfl (by decide +kernel) rfl ?_
  refine m_changeM hM1 (by omega) (by omega) (by omega) (by omega) (by omega) (fun Z2 f2 => ?_)
  simp only [Option.toList_some, Option.toList_none, List.drop_succ_cons, List.drop_zero, List.cons_append, List.nil_append]
  have hX2 := zX_q hX1 f2
  have hY2 := zY_q hY1 f2
  have hx2 : ∀ j, Z2 1001 j = xs j := fun j => by rw [f2.1 1001 (by decide) (by decide) (by decide) (by decide) (by decide)]; exact hxb j
  have hl2 : Z2 1002 0 = (Ln : Int) := by rw [f2.1 1002 (by decide) (by decide) (by decide) (by decide) (by decide)]; exact hlb
  exact ze_lcmpE kc_184_632 kc_184_633 (kk _ _ ⟨hX2, hY2, hOk, hx2, hl2⟩)

set_option maxHeartbeats 8000000 in
theorem law_inverse {xs : Nat → Int} {Ln : Nat} {Z : zMem} {Q : Option zAV → zMem → Prop} {x : Int} {n N1 N2 N3 L : Nat} {c a1 b1 a2 b2 a3 b3 t : Nat → Int} {e ρ : Int} {P : zTps} {I : Option zKr} (hLn : Ln ≤ 3072) (hxr : ∀ j, -2147483648 ≤ xs j ∧ xs j ≤ 2147483647) (hx0 : 0 ≤ x) (hx6 : x + 6 ≤ Ln) (hI : zInv xs Ln (((n, c, e, ρ), (N1, a1, b1), (N2, a2, b2), (N3, a3, b3)), (L, t), P, I) Z) (kk : ∀ A' Z', zInv xs Ln A' Z' → zE 184 1390 [some (zR 1001), some (zR 0), some (zR 63), some (zI x)] [] Z' Q) : zE 184 638 [some (zR 1001), some (zR 0), some (zR 63), some (zI x)] [] Z Q := by
  obtain ⟨hX, hY, hOk, hxa, hla⟩ := hI
  have hC : zCl n c e ρ Z := hX.1.1
  have hW1 : zRw 20 5 N1 a1 b1 Z := hX.1.2.1
  have hW2 : zRw 23 8 N2 a2 b2 Z := hX.1.2.2.1
  have hW3 : zRw 26 8 N3 a3 b3 Z := hX.1.2.2.2
  have hT : zTxX L t Z := hX.2.1
  have hP : zTpX P Z := hX.2.2.1
  have hIx : zImX I Z := hX.2.2.2
  have hk1 : zRok n (N1, a1, b1) := hOk.1.1
  have hk2 : zEok n (N2, a2, b2) := hOk.1.2.1
  have hk3 : zRok n (N3, a3, b3) := hOk.1.2.2
  have r1 := hxr (x + 1).toNat
  have r2 := hxr (x + 2).toNat
  have r3 := hxr (x + 3).toNat
  have r4 := hxr (x + 4).toNat
  have r5 := hxr (x + 5).toNat
  refine ze_aload_n kc_184_638 rfl ?_
  refine ze_aload_n kc_184_639 rfl ?_
  refine ze_iload_n kc_184_640 rfl ?_
  refine ze_iconst kc_184_641 ?_
  refine ze_iadd kc_184_642 ?_
  refine ze_iald1 kc_184_643 (by omega) ?_
  first
    | rw [hxb]
    | rw [hxa]
  refine ze_aload_n kc_184_644 rfl ?_
  refine ze_iload_n kc_184_645 rfl ?_
  refine ze_iconst kc_184_646 ?_
  refine ze_iadd kc_184_647 ?_
  refine ze_iald1 kc_184_648 (by omega) ?_
  first
    | rw [hxb]
    | rw [hxa]
  refine ze_aload_n kc_184_649 rfl ?_
  refine ze_iload_n kc_184_650 rfl ?_
  refine ze_iconst kc_184_651 ?_
  refine ze_iadd kc_184_652 ?_
  refine ze_iald1 kc_184_653 (by omega) ?_
  first
    | rw [hxb]
    | rw [hxa]
  refine zE_callv 4 kc_184_654 rfl rfl (Nat.le_of_ble_eq_true rfl) (Nat.le_of_ble_eq_true rfl) (Nat.le_of_ble_eq_true rfl) rfl (by decide +kernel) rfl ?_
  refine m_invX hC (by omega) (by omega) (by omega) (fun Z1 f1 => ?_)
  simp only [Option.toList_some, Option.toList_none, List.drop_succ_cons, List.drop_zero, List.cons_append, List.nil_append]
  have hX1 := zX_q hX f1
  have hY1 := zY_q hY f1
  have hM1 : zMo n c e ρ Z1 := hY1.1.1
  have hV1 : zRwM 4 65 66 5 (N1, a1, b1) Z1 := hY1.1.2.1
  have hV2 : zRwM 7 67 68 8 (N2, a2, b2) Z1 := hY1.1.2.2.1
  have hV3 : zRwM 10 69 70 8 (N3, a3, b3) Z1 := hY1.1.2.2.2
  have hTm : zTxM L t Z1 := hY1.2.1
  have hPm : zTpM P Z1 := hY1.2.2.1
  have hIm : zImM I Z1 := hY1.2.2.2
  have hxb : ∀ j, Z1 1001 j = xs j := fun j => by rw [f1.1 1001 (by decide) (by decide) (by decide) (by decide) (by decide)]; exact hxa j
  have hlb : Z1 1002 0 = (Ln : Int) := by rw [f1.1 1002 (by decide) (by decide) (by decide) (by decide) (by decide)]; exact hla
  refine ze_aload_n kc_184_657 rfl ?_
  refine ze_aload_n kc_184_658 rfl ?_
  refine ze_iload_n kc_184_659 rfl ?_
  refine ze_iconst kc_184_660 ?_
  refine ze_iadd kc_184_661 ?_
  refine ze_iald1 kc_184_662 (by omega) ?_
  first
    | rw [hxb]
    | rw [hxa]
  refine ze_aload_n kc_184_663 rfl ?_
  refine ze_iload_n kc_184_664 rfl ?_
  refine ze_iconst kc_184_665 ?_
  refine ze_iadd kc_184_666 ?_
  refine ze_iald1 kc_184_667 (by omega) ?_
  first
    | rw [hxb]
    | rw [hxa]
  refine ze_aload_n kc_184_668 rfl ?_
  refine ze_iload_n kc_184_669 rfl ?_
  refine ze_iconst kc_184_670 ?_
  refine ze_iadd kc_184_671 ?_
  refine ze_iald1 kc_184_672 (by omega) ?_
  first
    | rw [hxb]
    | rw [hxa]
  refine zE_callv 4 kc_184_673 rfl rfl (Nat.le_of_ble_eq_true rfl) (Nat.le_of_ble_eq_true rfl) (Nat.le_of_ble_eq_true rfl) rfl (by decide +kernel) rfl ?_
  refine m_invM hM1 (by omega) (by omega) (by omega) (fun Z2 f2 => ?_)
  simp only [Option.toList_some, Option.toList_none, List.drop_succ_cons, List.drop_zero, List.cons_append, List.nil_append]
  have hX2 := zX_q hX1 f2
  have hY2 := zY_q hY1 f2
  have hx2 : ∀ j, Z2 1001 j = xs j := fun j => by rw [f2.1 1001 (by decide) (by decide) (by decide) (by decide) (by decide)]; exact hxb j
  have hl2 : Z2 1002 0 = (Ln : Int) := by rw [f2.1 1002 (by decide) (by decide) (by decide) (by decide) (by decide)]; exact hlb
  exact ze_icmpE kc_184_676 (kk _ _ ⟨hX2, hY2, hOk, hx2, hl2⟩)

set_option maxHeartbeats 8000000 in
theorem law_bends {xs : Nat → Int} {Ln : Nat} {Z : zMem} {Q : Option zAV → zMem → Prop} {x : Int} {n N1 N2 N3 L : Nat} {c a1 b1 a2 b2 a3 b3 t : Nat → Int} {e ρ : Int} {P : zTps} {I : Option zKr} (hLn : Ln ≤ 3072) (hxr : ∀ j, -2147483648 ≤ xs j ∧ xs j ≤ 2147483647) (hx0 : 0 ≤ x) (hx6 : x + 6 ≤ Ln) (hI : zInv xs Ln (((n, c, e, ρ), (N1, a1, b1), (N2, a2, b2), (N3, a3, b3)), (L, t), P, I) Z) (kk : ∀ A' Z', zInv xs Ln A' Z' → zE 184 1390 [some (zR 1001), some (zR 0), some (zR 63), some (zI x)] [] Z' Q) : zE 184 681 [some (zR 1001), some (zR 0), some (zR 63), some (zI x)] [] Z Q := by
  obtain ⟨hX, hY, hOk, hxa, hla⟩ := hI
  have hC : zCl n c e ρ Z := hX.1.1
  have hW1 : zRw 20 5 N1 a1 b1 Z := hX.1.2.1
  have hW2 : zRw 23 8 N2 a2 b2 Z := hX.1.2.2.1
  have hW3 : zRw 26 8 N3 a3 b3 Z := hX.1.2.2.2
  have hT : zTxX L t Z := hX.2.1
  have hP : zTpX P Z := hX.2.2.1
  have hIx : zImX I Z := hX.2.2.2
  have hk1 : zRok n (N1, a1, b1) := hOk.1.1
  have hk2 : zEok n (N2, a2, b2) := hOk.1.2.1
  have hk3 : zRok n (N3, a3, b3) := hOk.1.2.2
  have r1 := hxr (x + 1).toNat
  have r2 := hxr (x + 2).toNat
  have r3 := hxr (x + 3).toNat
  have r4 := hxr (x + 4).toNat
  have r5 := hxr (x + 5).toNat
  refine ze_aload_n kc_184_681 rfl ?_
  refine ze_aload_n kc_184_682 rfl ?_
  refine ze_iload_n kc_184_683 rfl ?_
  refine ze_iconst kc_184_684 ?_
  refine ze_iadd kc_184_685 ?_
  refine ze_iald1 kc_184_686 (by omega) ?_
  first
    | rw [hxb]
    | rw [hxa]
  refine ze_aload_n kc_184_687 rfl ?_
  refine ze_iload_n kc_184_688 rfl ?_
  refine ze_iconst kc_184_689 ?_
  refine ze_iadd kc_184_690 ?_
  refine ze_iald1 kc_184_691 (by omega) ?_
  first
    | rw [hxb]
    | rw [hxa]
  refine zE_callv 3 kc_184_692 rfl rfl (Nat.le_of_ble_eq_true rfl) (Nat.le_of_ble_eq_true rfl) (Nat.le_of_ble_eq_true rfl) rfl (by decide +kernel) rfl ?_
  refine m_bendsX hC (by omega) (by omega) (fun Z1 f1 => ?_)
  simp only [Option.toList_some, Option.toList_none, List.drop_succ_cons, List.drop_zero, List.cons_append, List.nil_append]
  have hX1 := zX_q hX f1
  have hY1 := zY_q hY f1
  have hM1 : zMo n c e ρ Z1 := hY1.1.1
  have hV1 : zRwM 4 65 66 5 (N1, a1, b1) Z1 := hY1.1.2.1
  have hV2 : zRwM 7 67 68 8 (N2, a2, b2) Z1 := hY1.1.2.2.1
  have hV3 : zRwM 10 69 70 8 (N3, a3, b3) Z1 := hY1.1.2.2.2
  have hTm : zTxM L t Z1 := hY1.2.1
  have hPm : zTpM P Z1 := hY1.2.2.1
  have hIm : zImM I Z1 := hY1.2.2.2
  have hxb : ∀ j, Z1 1001 j = xs j := fun j => by rw [f1.1 1001 (by decide) (by decide) (by decide) (by decide) (by decide)]; exact hxa j
  have hlb : Z1 1002 0 = (Ln : Int) := by rw [f1.1 1002 (by decide) (by decide) (by decide) (by decide) (by decide)]; exact hla
  refine ze_aload_n kc_184_695 rfl ?_
  refine ze_aload_n kc_184_696 rfl ?_
  refine ze_iload_n kc_184_697 rfl ?_
  refine ze_iconst kc_184_698 ?_
  refine ze_iadd kc_184_699 ?_
  refine ze_iald1 kc_184_700 (by omega) ?_
  first
    | rw [hxb]
    | rw [hxa]
  refine ze_aload_n kc_184_701 rfl ?_
  refine ze_iload_n kc_184_702 rfl ?_
  refine ze_iconst kc_184_703 ?_
  refine ze_iadd kc_184_704 ?_
  refine ze_iald1 kc_184_705 (by omega) ?_
  first
    | rw [hxb]
    | rw [hxa]
  refine zE_callv 3 kc_184_706 rfl rfl (Nat.le_of_ble_eq_true rfl) (Nat.le_of_ble_eq_true rfl) (Nat.le_of_ble_eq_true rfl) rfl (by decide +kernel) rfl ?_
  refine m_bendsM hM1 (by omega) (by omega) (fun Z2 f2 => ?_)
  simp only [Option.toList_some, Option.toList_none, List.drop_succ_cons, List.drop_zero, List.cons_append, List.nil_append]
  have hX2 := zX_q hX1 f2
  have hY2 := zY_q hY1 f2
  have hx2 : ∀ j, Z2 1001 j = xs j := fun j => by rw [f2.1 1001 (by decide) (by decide) (by decide) (by decide) (by decide)]; exact hxb j
  have hl2 : Z2 1002 0 = (Ln : Int) := by rw [f2.1 1002 (by decide) (by decide) (by decide) (by decide) (by decide)]; exact hlb
  exact ze_icmpE kc_184_709 (kk _ _ ⟨hX2, hY2, hOk, hx2, hl2⟩)

set_option maxHeartbeats 8000000 in
theorem law_like {xs : Nat → Int} {Ln : Nat} {Z : zMem} {Q : Option zAV → zMem → Prop} {x : Int} {n N1 N2 N3 L : Nat} {c a1 b1 a2 b2 a3 b3 t : Nat → Int} {e ρ : Int} {P : zTps} {I : Option zKr} (hLn : Ln ≤ 3072) (hxr : ∀ j, -2147483648 ≤ xs j ∧ xs j ≤ 2147483647) (hx0 : 0 ≤ x) (hx6 : x + 6 ≤ Ln) (hI : zInv xs Ln (((n, c, e, ρ), (N1, a1, b1), (N2, a2, b2), (N3, a3, b3)), (L, t), P, I) Z) (kk : ∀ A' Z', zInv xs Ln A' Z' → zE 184 1390 [some (zR 1001), some (zR 0), some (zR 63), some (zI x)] [] Z' Q) : zE 184 714 [some (zR 1001), some (zR 0), some (zR 63), some (zI x)] [] Z Q := by
  obtain ⟨hX, hY, hOk, hxa, hla⟩ := hI
  have hC : zCl n c e ρ Z := hX.1.1
  have hW1 : zRw 20 5 N1 a1 b1 Z := hX.1.2.1
  have hW2 : zRw 23 8 N2 a2 b2 Z := hX.1.2.2.1
  have hW3 : zRw 26 8 N3 a3 b3 Z := hX.1.2.2.2
  have hT : zTxX L t Z := hX.2.1
  have hP : zTpX P Z := hX.2.2.1
  have hIx : zImX I Z := hX.2.2.2
  have hk1 : zRok n (N1, a1, b1) := hOk.1.1
  have hk2 : zEok n (N2, a2, b2) := hOk.1.2.1
  have hk3 : zRok n (N3, a3, b3) := hOk.1.2.2
  have r1 := hxr (x + 1).toNat
  have r2 := hxr (x + 2).toNat
  have r3 := hxr (x + 3).toNat
  have r4 := hxr (x + 4).toNat
  have r5 := hxr (x + 5).toNat
  refine ze_aload_n kc_184_714 rfl ?_
  refine ze_aload_n kc_184_715 rfl ?_
  refine ze_iload_n kc_184_716 rfl ?_
  refine ze_iconst kc_184_717 ?_
  refine ze_iadd kc_184_718 ?_
  refine ze_iald1 kc_184_719 (by omega) ?_
  first
    | rw [hxb]
    | rw [hxa]
  refine zE_callv 2 kc_184_720 rfl rfl (Nat.le_of_ble_eq_true rfl) (Nat.le_of_ble_eq_true rfl) (Nat.le_of_ble_eq_true rfl) rfl (by decide +kernel) rfl ?_
  refine m_likeX hC (by omega) (fun Z1 f1 => ?_)
  simp only [Option.toList_some, Option.toList_none, List.drop_succ_cons, List.drop_zero, List.cons_append, List.nil_append]
  have hX1 := zX_q hX f1
  have hY1 := zY_q hY f1
  have hM1 : zMo n c e ρ Z1 := hY1.1.1
  have hV1 : zRwM 4 65 66 5 (N1, a1, b1) Z1 := hY1.1.2.1
  have hV2 : zRwM 7 67 68 8 (N2, a2, b2) Z1 := hY1.1.2.2.1
  have hV3 : zRwM 10 69 70 8 (N3, a3, b3) Z1 := hY1.1.2.2.2
  have hTm : zTxM L t Z1 := hY1.2.1
  have hPm : zTpM P Z1 := hY1.2.2.1
  have hIm : zImM I Z1 := hY1.2.2.2
  have hxb : ∀ j, Z1 1001 j = xs j := fun j => by rw [f1.1 1001 (by decide) (by decide) (by decide) (by decide) (by decide)]; exact hxa j
  have hlb : Z1 1002 0 = (Ln : Int) := by rw [f1.1 1002 (by decide) (by decide) (by decide) (by decide) (by decide)]; exact hla
  refine ze_aload_n kc_184_723 rfl ?_
  refine ze_aload_n kc_184_724 rfl ?_
  refine ze_iload_n kc_184_725 rfl ?_
  refine ze_iconst kc_184_726 ?_
  refine ze_iadd kc_184_727 ?_
  refine ze_iald1 kc_184_728 (by omega) ?_
  first
    | rw [hxb]
    | rw [hxa]
  refine zE_callv 2 kc_184_729 rfl rfl (Nat.le_of_ble_eq_true rfl) (Nat.le_of_ble_eq_true rfl) (Nat.le_of_ble_eq_true rfl) rfl (by decide +kernel) rfl ?_
  refine m_likeM hM1 (by omega) (fun Z2 f2 => ?_)
  simp only [Option.toList_some, Option.toList_none, List.drop_succ_cons, List.drop_zero, List.cons_append, List.nil_append]
  have hX2 := zX_q hX1 f2
  have hY2 := zY_q hY1 f2
  have hx2 : ∀ j, Z2 1001 j = xs j := fun j => by rw [f2.1 1001 (by decide) (by decide) (by decide) (by decide) (by decide)]; exact hxb j
  have hl2 : Z2 1002 0 = (Ln : Int) := by rw [f2.1 1002 (by decide) (by decide) (by decide) (by decide) (by decide)]; exact hlb
  exact ze_icmpE kc_184_732 (kk _ _ ⟨hX2, hY2, hOk, hx2, hl2⟩)

set_option maxHeartbeats 8000000 in
theorem law_sore {xs : Nat → Int} {Ln : Nat} {Z : zMem} {Q : Option zAV → zMem → Prop} {x : Int} {n N1 N2 N3 L : Nat} {c a1 b1 a2 b2 a3 b3 t : Nat → Int} {e ρ : Int} {P : zTps} {I : Option zKr} (hLn : Ln ≤ 3072) (hxr : ∀ j, -2147483648 ≤ xs j ∧ xs j ≤ 2147483647) (hx0 : 0 ≤ x) (hx6 : x + 6 ≤ Ln) (hI : zInv xs Ln (((n, c, e, ρ), (N1, a1, b1), (N2, a2, b2), (N3, a3, b3)), (L, t), P, I) Z) (kk : ∀ A' Z', zInv xs Ln A' Z' → zE 184 1390 [some (zR 1001), some (zR 0), some (zR 63), some (zI x)] [] Z' Q) : zE 184 737 [some (zR 1001), some (zR 0), some (zR 63), some (zI x)] [] Z Q := by
  obtain ⟨hX, hY, hOk, hxa, hla⟩ := hI
  have hC : zCl n c e ρ Z := hX.1.1
  have hW1 : zRw 20 5 N1 a1 b1 Z := hX.1.2.1
  have hW2 : zRw 23 8 N2 a2 b2 Z := hX.1.2.2.1
  have hW3 : zRw 26 8 N3 a3 b3 Z := hX.1.2.2.2
  have hT : zTxX L t Z := hX.2.1
  have hP : zTpX P Z := hX.2.2.1
  have hIx : zImX I Z := hX.2.2.2
  have hk1 : zRok n (N1, a1, b1) := hOk.1.1
  have hk2 : zEok n (N2, a2, b2) := hOk.1.2.1
  have hk3 : zRok n (N3, a3, b3) := hOk.1.2.2
  have r1 := hxr (x + 1).toNat
  have r2 := hxr (x + 2).toNat
  have r3 := hxr (x + 3).toNat
  have r4 := hxr (x + 4).toNat
  have r5 := hxr (x + 5).toNat
  refine ze_aload_n kc_184_737 rfl ?_
  refine ze_aload_n kc_184_738 rfl ?_
  refine ze_iload_n kc_184_739 rfl ?_
  refine ze_iconst kc_184_740 ?_
  refine ze_iadd kc_184_741 ?_
  refine ze_iald1 kc_184_742 (by omega) ?_
  first
    | rw [hxb]
    | rw [hxa]
  refine ze_aload_n kc_184_743 rfl ?_
  refine ze_iload_n kc_184_744 rfl ?_
  refine ze_iconst kc_184_745 ?_
  refine ze_iadd kc_184_746 ?_
  refine ze_iald1 kc_184_747 (by omega) ?_
  first
    | rw [hxb]
    | rw [hxa]
  refine zE_callv 3 kc_184_748 rfl rfl (Nat.le_of_ble_eq_true rfl) (Nat.le_of_ble_eq_true rfl) (Nat.le_of_ble_eq_true rfl) rfl (by decide +kernel) rfl ?_
  refine m_soreX hC (by omega) (by omega) (fun Z1 f1 => ?_)
  simp only [Option.toList_some, Option.toList_none, List.drop_succ_cons, List.drop_zero, List.cons_append, List.nil_append]
  have hX1 := zX_q hX f1
  have hY1 := zY_q hY f1
  have hM1 : zMo n c e ρ Z1 := hY1.1.1
  have hV1 : zRwM 4 65 66 5 (N1, a1, b1) Z1 := hY1.1.2.1
  have hV2 : zRwM 7 67 68 8 (N2, a2, b2) Z1 := hY1.1.2.2.1
  have hV3 : zRwM 10 69 70 8 (N3, a3, b3) Z1 := hY1.1.2.2.2
  have hTm : zTxM L t Z1 := hY1.2.1
  have hPm : zTpM P Z1 := hY1.2.2.1
  have hIm : zImM I Z1 := hY1.2.2.2
  have hxb : ∀ j, Z1 1001 j = xs j := fun j => by rw [f1.1 1001 (by decide) (by decide) (by decide) (by decide) (by decide)]; exact hxa j
  have hlb : Z1 1002 0 = (Ln : Int) := by rw [f1.1 1002 (by decide) (by decide) (by decide) (by decide) (by decide)]; exact hla
  refine ze_aload_n kc_184_751 rfl ?_
  refine ze_aload_n kc_184_752 rfl ?_
  refine ze_iload_n kc_184_753 rfl ?_
  refine ze_iconst kc_184_754 ?_
  refine ze_iadd kc_184_755 ?_
  refine ze_iald1 kc_184_756 (by omega) ?_
  first
    | rw [hxb]
    | rw [hxa]
  refine ze_aload_n kc_184_757 rfl ?_
  refine ze_iload_n kc_184_758 rfl ?_
  refine ze_iconst kc_184_759 ?_
  refine ze_iadd kc_184_760 ?_
  refine ze_iald1 kc_184_761 (by omega) ?_
  first
    | rw [hxb]
    | rw [hxa]
  refine zE_callv 3 kc_184_762 rfl rfl (Nat.le_of_ble_eq_true rfl) (Nat.le_of_ble_eq_true rfl) (Nat.le_of_ble_eq_true rfl) rfl (by decide +kernel) rfl ?_
  refine m_soreM hM1 (by omega) (by omega) (fun Z2 f2 => ?_)
  simp only [Option.toList_some, Option.toList_none, List.drop_succ_cons, List.drop_zero, List.cons_append, List.nil_append]
  have hX2 := zX_q hX1 f2
  have hY2 := zY_q hY1 f2
  have hx2 : ∀ j, Z2 1001 j = xs j := fun j => by rw [f2.1 1001 (by decide) (by decide) (by decide) (by decide) (by decide)]; exact hxb j
  have hl2 : Z2 1002 0 = (Ln : Int) := by rw [f2.1 1002 (by decide) (by decide) (by decide) (by decide) (by decide)]; exact hlb
  exact ze_icmpE kc_184_765 (kk _ _ ⟨hX2, hY2, hOk, hx2, hl2⟩)

set_option maxHeartbeats 8000000 in
theorem law_poured {xs : Nat → Int} {Ln : Nat} {Z : zMem} {Q : Option zAV → zMem → Prop} {x : Int} {n N1 N2 N3 L : Nat} {c a1 b1 a2 b2 a3 b3 t : Nat → Int} {e ρ : Int} {P : zTps} {I : Option zKr} (hLn : Ln ≤ 3072) (hxr : ∀ j, -2147483648 ≤ xs j ∧ xs j ≤ 2147483647) (hx0 : 0 ≤ x) (hx6 : x + 6 ≤ Ln) (hI : zInv xs Ln (((n, c, e, ρ), (N1, a1, b1), (N2, a2, b2), (N3, a3, b3)), (L, t), P, I) Z) (kk : ∀ A' Z', zInv xs Ln A' Z' → zE 184 1390 [some (zR 1001), some (zR 0), some (zR 63), some (zI x)] [] Z' Q) : zE 184 770 [some (zR 1001), some (zR 0), some (zR 63), some (zI x)] [] Z Q := by
  obtain ⟨hX, hY, hOk, hxa, hla⟩ := hI
  have hC : zCl n c e ρ Z := hX.1.1
  have hW1 : zRw 20 5 N1 a1 b1 Z := hX.1.2.1
  have hW2 : zRw 23 8 N2 a2 b2 Z := hX.1.2.2.1
  have hW3 : zRw 26 8 N3 a3 b3 Z := hX.1.2.2.2
  have hT : zTxX L t Z := hX.2.1
  have hP : zTpX P Z := hX.2.2.1
  have hIx : zImX I Z := hX.2.2.2
  have hk1 : zRok n (N1, a1, b1) := hOk.1.1
  have hk2 : zEok n (N2, a2, b2) := hOk.1.2.1
  have hk3 : zRok n (N3, a3, b3) := hOk.1.2.2
  have r1 := hxr (x + 1).toNat
  have r2 := hxr (x + 2).toNat
  have r3 := hxr (x + 3).toNat
  have r4 := hxr (x + 4).toNat
  have r5 := hxr (x + 5).toNat
  refine ze_aload_n kc_184_770 rfl ?_
  refine ze_aload_n kc_184_771 rfl ?_
  refine ze_iload_n kc_184_772 rfl ?_
  refine ze_iconst kc_184_773 ?_
  refine ze_iadd kc_184_774 ?_
  refine ze_iald1 kc_184_775 (by omega) ?_
  first
    | rw [hxb]
    | rw [hxa]
  refine ze_aload_n kc_184_776 rfl ?_
  refine ze_iload_n kc_184_777 rfl ?_
  refine ze_iconst kc_184_778 ?_
  refine ze_iadd kc_184_779 ?_
  refine ze_iald1 kc_184_780 (by omega) ?_
  first
    | rw [hxb]
    | rw [hxa]
  refine ze_aload_n kc_184_781 rfl ?_
  refine ze_iload_n kc_184_782 rfl ?_
  refine ze_iconst kc_184_783 ?_
  refine ze_iadd kc_184_784 ?_
  refine ze_iald1 kc_184_785 (by omega) ?_
  first
    | rw [hxb]
    | rw [hxa]
  refine zE_callv 4 kc_184_786 rfl rfl (Nat.le_of_ble_eq_true rfl) (Nat.le_of_ble_eq_true rfl) (Nat.le_of_ble_eq_true rfl) rfl (by decide +kernel) rfl ?_
  refine m_pouredX hC (by omega) (by omega) (by omega) (fun Z1 f1 => ?_)
  simp only [Option.toList_some, Option.toList_none, List.drop_succ_cons, List.drop_zero, List.cons_append, List.nil_append]
  have hX1 := zX_q hX f1
  have hY1 := zY_q hY f1
  have hM1 : zMo n c e ρ Z1 := hY1.1.1
  have hV1 : zRwM 4 65 66 5 (N1, a1, b1) Z1 := hY1.1.2.1
  have hV2 : zRwM 7 67 68 8 (N2, a2, b2) Z1 := hY1.1.2.2.1
  have hV3 : zRwM 10 69 70 8 (N3, a3, b3) Z1 := hY1.1.2.2.2
  have hTm : zTxM L t Z1 := hY1.2.1
  have hPm : zTpM P Z1 := hY1.2.2.1
  have hIm : zImM I Z1 := hY1.2.2.2
  have hxb : ∀ j, Z1 1001 j = xs j := fun j => by rw [f1.1 1001 (by decide) (by decide) (by decide) (by decide) (by decide)]; exact hxa j
  have hlb : Z1 1002 0 = (Ln : Int) := by rw [f1.1 1002 (by decide) (by decide) (by decide) (by decide) (by decide)]; exact hla
  refine ze_aload_n kc_184_789 rfl ?_
  refine ze_aload_n kc_184_790 rfl ?_
  refine ze_iload_n kc_184_791 rfl ?_
  refine ze_iconst kc_184_792 ?_
  refine ze_iadd kc_184_793 ?_
  refine ze_iald1 kc_184_794 (by omega) ?_
  first
    | rw [hxb]
    | rw [hxa]
  refine ze_aload_n kc_184_795 rfl ?_
  refine ze_iload_n kc_184_796 rfl ?_
  refine ze_iconst kc_184_797 ?_
  refine ze_iadd kc_184_798 ?_
  refine ze_iald1 kc_184_799 (by omega) ?_
  first
    | rw [hxb]
    | rw [hxa]
  refine ze_aload_n kc_184_800 rfl ?_
  refine ze_iload_n kc_184_801 rfl ?_
  refine ze_iconst kc_184_802 ?_
  refine ze_iadd kc_184_803 ?_
  refine ze_iald1 kc_184_804 (by omega) ?_
  first
    | rw [hxb]
    | rw [hxa]
  refine zE_callv 4 kc_184_805 rfl rfl (Nat.le_of_ble_eq_true rfl) (Nat.le_of_ble_eq_true rfl) (Nat.le_of_ble_eq_true rfl) rfl (by decide +kernel) rfl ?_
  refine m_pouredM hM1 (by omega) (by omega) (by omega) (fun Z2 f2 => ?_)
  simp only [Option.toList_some, Option.toList_none, List.drop_succ_cons, List.drop_zero, List.cons_append, List.nil_append]
  have hX2 := zX_q hX1 f2
  have hY2 := zY_q hY1 f2
  have hx2 : ∀ j, Z2 1001 j = xs j := fun j => by rw [f2.1 1001 (by decide) (by decide) (by decide) (by decide) (by decide)]; exact hxb j
  have hl2 : Z2 1002 0 = (Ln : Int) := by rw [f2.1 1002 (by decide) (by decide) (by decide) (by decide) (by decide)]; exact hlb
  exact ze_lcmpE kc_184_808 kc_184_809 (kk _ _ ⟨hX2, hY2, hOk, hx2, hl2⟩)

set_option maxHeartbeats 8000000 in
theorem law_gap {xs : Nat → Int} {Ln : Nat} {Z : zMem} {Q : Option zAV → zMem → Prop} {x : Int} {n N1 N2 N3 L : Nat} {c a1 b1 a2 b2 a3 b3 t : Nat → Int} {e ρ : Int} {P : zTps} {I : Option zKr} (hLn : Ln ≤ 3072) (hxr : ∀ j, -2147483648 ≤ xs j ∧ xs j ≤ 2147483647) (hx0 : 0 ≤ x) (hx6 : x + 6 ≤ Ln) (hI : zInv xs Ln (((n, c, e, ρ), (N1, a1, b1), (N2, a2, b2), (N3, a3, b3)), (L, t), P, I) Z) (kk : ∀ A' Z', zInv xs Ln A' Z' → zE 184 1390 [some (zR 1001), some (zR 0), some (zR 63), some (zI x)] [] Z' Q) : zE 184 814 [some (zR 1001), some (zR 0), some (zR 63), some (zI x)] [] Z Q := by
  obtain ⟨hX, hY, hOk, hxa, hla⟩ := hI
  have hC : zCl n c e ρ Z := hX.1.1
  have hW1 : zRw 20 5 N1 a1 b1 Z := hX.1.2.1
  have hW2 : zRw 23 8 N2 a2 b2 Z := hX.1.2.2.1
  have hW3 : zRw 26 8 N3 a3 b3 Z := hX.1.2.2.2
  have hT : zTxX L t Z := hX.2.1
  have hP : zTpX P Z := hX.2.2.1
  have hIx : zImX I Z := hX.2.2.2
  have hk1 : zRok n (N1, a1, b1) := hOk.1.1
  have hk2 : zEok n (N2, a2, b2) := hOk.1.2.1
  have hk3 : zRok n (N3, a3, b3) := hOk.1.2.2
  have r1 := hxr (x + 1).toNat
  have r2 := hxr (x + 2).toNat
  have r3 := hxr (x + 3).toNat
  have r4 := hxr (x + 4).toNat
  have r5 := hxr (x + 5).toNat
  refine ze_aload_n kc_184_814 rfl ?_
  refine ze_aload_n kc_184_815 rfl ?_
  refine ze_iload_n kc_184_816 rfl ?_
  refine ze_iconst kc_184_817 ?_
  refine ze_iadd kc_184_818 ?_
  refine ze_iald1 kc_184_819 (by omega) ?_
  first
    | rw [hxb]
    | rw [hxa]
  refine ze_aload_n kc_184_820 rfl ?_
  refine ze_iload_n kc_184_821 rfl ?_
  refine ze_iconst kc_184_822 ?_
  refine ze_iadd kc_184_823 ?_
  refine ze_iald1 kc_184_824 (by omega) ?_
  first
    | rw [hxb]
    | rw [hxa]
  refine ze_aload_n kc_184_825 rfl ?_
  refine ze_iload_n kc_184_826 rfl ?_
  refine ze_iconst kc_184_827 ?_
  refine ze_iadd kc_184_828 ?_
  refine ze_iald1 kc_184_829 (by omega) ?_
  first
    | rw [hxb]
    | rw [hxa]
  refine zE_callv 4 kc_184_830 rfl rfl (Nat.le_of_ble_eq_true rfl) (Nat.le_of_ble_eq_true rfl) (Nat.le_of_ble_eq_true rfl) rfl (by decide +kernel) rfl ?_
  refine m_gapX hC (by omega) (by omega) (by omega) (fun Z1 f1 => ?_)
  simp only [Option.toList_some, Option.toList_none, List.drop_succ_cons, List.drop_zero, List.cons_append, List.nil_append]
  have hX1 := zX_q hX f1
  have hY1 := zY_q hY f1
  have hM1 : zMo n c e ρ Z1 := hY1.1.1
  have hV1 : zRwM 4 65 66 5 (N1, a1, b1) Z1 := hY1.1.2.1
  have hV2 : zRwM 7 67 68 8 (N2, a2, b2) Z1 := hY1.1.2.2.1
  have hV3 : zRwM 10 69 70 8 (N3, a3, b3) Z1 := hY1.1.2.2.2
  have hTm : zTxM L t Z1 := hY1.2.1
  have hPm : zTpM P Z1 := hY1.2.2.1
  have hIm : zImM I Z1 := hY1.2.2.2
  have hxb : ∀ j, Z1 1001 j = xs j := fun j => by rw [f1.1 1001 (by decide) (by decide) (by decide) (by decide) (by decide)]; exact hxa j
  have hlb : Z1 1002 0 = (Ln : Int) := by rw [f1.1 1002 (by decide) (by decide) (by decide) (by decide) (by decide)]; exact hla
  refine ze_aload_n kc_184_833 rfl ?_
  refine ze_aload_n kc_184_834 rfl ?_
  refine ze_iload_n kc_184_835 rfl ?_
  refine ze_iconst kc_184_836 ?_
  refine ze_iadd kc_184_837 ?_
  refine ze_iald1 kc_184_838 (by omega) ?_
  first
    | rw [hxb]
    | rw [hxa]
  refine ze_aload_n kc_184_839 rfl ?_
  refine ze_iload_n kc_184_840 rfl ?_
  refine ze_iconst kc_184_841 ?_
  refine ze_iadd kc_184_842 ?_
  refine ze_iald1 kc_184_843 (by omega) ?_
  first
    | rw [hxb]
    | rw [hxa]
  refine ze_aload_n kc_184_844 rfl ?_
  refine ze_iload_n kc_184_845 rfl ?_
  refine ze_iconst kc_184_846 ?_
  refine ze_iadd kc_184_847 ?_
  refine ze_iald1 kc_184_848 (by omega) ?_
  first
    | rw [hxb]
    | rw [hxa]
  refine zE_callv 4 kc_184_849 rfl rfl (Nat.le_of_ble_eq_true rfl) (Nat.le_of_ble_eq_true rfl) (Nat.le_of_ble_eq_true rfl) rfl (by decide +kernel) rfl ?_
  refine m_gapM hM1 (by omega) (by omega) (by omega) (fun Z2 f2 => ?_)
  simp only [Option.toList_some, Option.toList_none, List.drop_succ_cons, List.drop_zero, List.cons_append, List.nil_append]
  have hX2 := zX_q hX1 f2
  have hY2 := zY_q hY1 f2
  have hx2 : ∀ j, Z2 1001 j = xs j := fun j => by rw [f2.1 1001 (by decide) (by decide) (by decide) (by decide) (by decide)]; exact hxb j
  have hl2 : Z2 1002 0 = (Ln : Int) := by rw [f2.1 1002 (by decide) (by decide) (by decide) (by decide) (by decide)]; exact hlb
  exact ze_lcmpE kc_184_852 kc_184_853 (kk _ _ ⟨hX2, hY2, hOk, hx2, hl2⟩)

set_option maxHeartbeats 8000000 in
theorem law_see {xs : Nat → Int} {Ln : Nat} {Z : zMem} {Q : Option zAV → zMem → Prop} {x : Int} {n N1 N2 N3 L : Nat} {c a1 b1 a2 b2 a3 b3 t : Nat → Int} {e ρ : Int} {P : zTps} {I : Option zKr} (hLn : Ln ≤ 3072) (hxr : ∀ j, -2147483648 ≤ xs j ∧ xs j ≤ 2147483647) (hx0 : 0 ≤ x) (hx6 : x + 6 ≤ Ln) (hI : zInv xs Ln (((n, c, e, ρ), (N1, a1, b1), (N2, a2, b2), (N3, a3, b3)), (L, t), P, I) Z) (kk : ∀ A' Z', zInv xs Ln A' Z' → zE 184 1390 [some (zR 1001), some (zR 0), some (zR 63), some (zI x)] [] Z' Q) : zE 184 858 [some (zR 1001), some (zR 0), some (zR 63), some (zI x)] [] Z Q := by
  obtain ⟨hX, hY, hOk, hxa, hla⟩ := hI
  have hC : zCl n c e ρ Z := hX.1.1
  have hW1 : zRw 20 5 N1 a1 b1 Z := hX.1.2.1
  have hW2 : zRw 23 8 N2 a2 b2 Z := hX.1.2.2.1
  have hW3 : zRw 26 8 N3 a3 b3 Z := hX.1.2.2.2
  have hT : zTxX L t Z := hX.2.1
  have hP : zTpX P Z := hX.2.2.1
  have hIx : zImX I Z := hX.2.2.2
  have hk1 : zRok n (N1, a1, b1) := hOk.1.1
  have hk2 : zEok n (N2, a2, b2) := hOk.1.2.1
  have hk3 : zRok n (N3, a3, b3) := hOk.1.2.2
  have r1 := hxr (x + 1).toNat
  have r2 := hxr (x + 2).toNat
  have r3 := hxr (x + 3).toNat
  have r4 := hxr (x + 4).toNat
  have r5 := hxr (x + 5).toNat
  refine ze_aload_n kc_184_858 rfl ?_
  refine ze_aload_n kc_184_859 rfl ?_
  refine ze_iload_n kc_184_860 rfl ?_
  refine ze_iconst kc_184_861 ?_
  refine ze_iadd kc_184_862 ?_
  refine ze_iald1 kc_184_863 (by omega) ?_
  first
    | rw [hxb]
    | rw [hxa]
  refine ze_aload_n kc_184_864 rfl ?_
  refine ze_iload_n kc_184_865 rfl ?_
  refine ze_iconst kc_184_866 ?_
  refine ze_iadd kc_184_867 ?_
  refine ze_iald1 kc_184_868 (by omega) ?_
  first
    | rw [hxb]
    | rw [hxa]
  refine zE_callv 3 kc_184_869 rfl rfl (Nat.le_of_ble_eq_true rfl) (Nat.le_of_ble_eq_true rfl) (Nat.le_of_ble_eq_true rfl) rfl (by decide +kernel) rfl ?_
  refine m_seeX hC hW1 (by omega) (by omega) (fun Z1 s1 f1 => ?_)
  simp only [Option.toList_some, Option.toList_none, List.drop_succ_cons, List.drop_zero, List.cons_append, List.nil_append]
  have hX1 := zX_R1 hX s1 f1
  have hY1 := zY_fr hY (fun k a b => f1 k (by omega))
  have hM1 : zMo n c e ρ Z1 := hY1.1.1
  have hV1 : zRwM 4 65 66 5 (N1, a1, b1) Z1 := hY1.1.2.1
  have hV2 : zRwM 7 67 68 8 (N2, a2, b2) Z1 := hY1.1.2.2.1
  have hV3 : zRwM 10 69 70 8 (N3, a3, b3) Z1 := hY1.1.2.2.2
  have hTm : zTxM L t Z1 := hY1.2.1
  have hPm : zTpM P Z1 := hY1.2.2.1
  have hIm : zImM I Z1 := hY1.2.2.2
  have hxb : ∀ j, Z1 1001 j = xs j := fun j => by rw [f1 1001 (by decide)]; exact hxa j
  have hlb : Z1 1002 0 = (Ln : Int) := by rw [f1 1002 (by decide)]; exact hla
  refine ze_aload_n kc_184_872 rfl ?_
  refine ze_aload_n kc_184_873 rfl ?_
  refine ze_iload_n kc_184_874 rfl ?_
  refine ze_iconst kc_184_875 ?_
  refine ze_iadd kc_184_876 ?_
  refine ze_iald1 kc_184_877 (by omega) ?_
  first
    | rw [hxb]
    | rw [hxa]
  refine ze_aload_n kc_184_878 rfl ?_
  refine ze_iload_n kc_184_879 rfl ?_
  refine ze_iconst kc_184_880 ?_
  refine ze_iadd kc_184_881 ?_
  refine ze_iald1 kc_184_882 (by omega) ?_
  first
    | rw [hxb]
    | rw [hxa]
  refine zE_callv 3 kc_184_883 rfl rfl (Nat.le_of_ble_eq_true rfl) (Nat.le_of_ble_eq_true rfl) (Nat.le_of_ble_eq_true rfl) rfl (by decide +kernel) rfl ?_
  refine m_seeM hM1 hV1 (by omega) (by omega) (fun Z2 s2 f2 => ?_)
  simp only [Option.toList_some, Option.toList_none, List.drop_succ_cons, List.drop_zero, List.cons_append, List.nil_append]
  have hX2 := zX_fr hX1 (fun k a => f2.1 k (by omega) (by omega) (by omega))
  have hY2 := zY_R1 hY1 s2 f2
  have hx2 : ∀ j, Z2 1001 j = xs j := fun j => by rw [f2.1 1001 (by decide) (by decide) (by decide)]; exact hxb j
  have hl2 : Z2 1002 0 = (Ln : Int) := by rw [f2.1 1002 (by decide) (by decide) (by decide)]; exact hlb
  exact ze_icmpE kc_184_886 (kk _ _ ⟨hX2, hY2, ⟨⟨zRok_tell hOk.1.1, hOk.1.2.1, hOk.1.2.2⟩, hOk.2⟩, hx2, hl2⟩)

set_option maxHeartbeats 8000000 in
theorem law_fits {xs : Nat → Int} {Ln : Nat} {Z : zMem} {Q : Option zAV → zMem → Prop} {x : Int} {n N1 N2 N3 L : Nat} {c a1 b1 a2 b2 a3 b3 t : Nat → Int} {e ρ : Int} {P : zTps} {I : Option zKr} (hLn : Ln ≤ 3072) (hxr : ∀ j, -2147483648 ≤ xs j ∧ xs j ≤ 2147483647) (hx0 : 0 ≤ x) (hx6 : x + 6 ≤ Ln) (hI : zInv xs Ln (((n, c, e, ρ), (N1, a1, b1), (N2, a2, b2), (N3, a3, b3)), (L, t), P, I) Z) (kk : ∀ A' Z', zInv xs Ln A' Z' → zE 184 1390 [some (zR 1001), some (zR 0), some (zR 63), some (zI x)] [] Z' Q) : zE 184 891 [some (zR 1001), some (zR 0), some (zR 63), some (zI x)] [] Z Q := by
  obtain ⟨hX, hY, hOk, hxa, hla⟩ := hI
  have hC : zCl n c e ρ Z := hX.1.1
  have hW1 : zRw 20 5 N1 a1 b1 Z := hX.1.2.1
  have hW2 : zRw 23 8 N2 a2 b2 Z := hX.1.2.2.1
  have hW3 : zRw 26 8 N3 a3 b3 Z := hX.1.2.2.2
  have hT : zTxX L t Z := hX.2.1
  have hP : zTpX P Z := hX.2.2.1
  have hIx : zImX I Z := hX.2.2.2
  have hk1 : zRok n (N1, a1, b1) := hOk.1.1
  have hk2 : zEok n (N2, a2, b2) := hOk.1.2.1
  have hk3 : zRok n (N3, a3, b3) := hOk.1.2.2
  have r1 := hxr (x + 1).toNat
  have r2 := hxr (x + 2).toNat
  have r3 := hxr (x + 3).toNat
  have r4 := hxr (x + 4).toNat
  have r5 := hxr (x + 5).toNat
  refine ze_aload_n kc_184_891 rfl ?_
  refine ze_aload_n kc_184_892 rfl ?_
  refine ze_iload_n kc_184_893 rfl ?_
  refine ze_iconst kc_184_894 ?_
  refine ze_iadd kc_184_895 ?_
  refine ze_iald1 kc_184_896 (by omega) ?_
  first
    | rw [hxb]
    | rw [hxa]
  refine ze_aload_n kc_184_897 rfl ?_
  refine ze_iload_n kc_184_898 rfl ?_
  refine ze_iconst kc_184_899 ?_
  refine ze_iadd kc_184_900 ?_
  refine ze_iald1 kc_184_901 (by omega) ?_
  first
    | rw [hxb]
    | rw [hxa]
  refine zE_callv 3 kc_184_902 rfl rfl (Nat.le_of_ble_eq_true rfl) (Nat.le_of_ble_eq_true rfl) (Nat.le_of_ble_eq_true rfl) rfl (by decide +kernel) rfl ?_
  refine m_fitsX hC hW1 hk1 (by omega) (by omega) (fun Z1 f1 => ?_)
  simp only [Option.toList_some, Option.toList_none, List.drop_succ_cons, List.drop_zero, List.cons_append, List.nil_append]
  have hX1 := zX_q hX f1
  have hY1 := zY_q hY f1
  have hM1 : zMo n c e ρ Z1 := hY1.1.1
  have hV1 : zRwM 4 65 66 5 (N1, a1, b1) Z1 := hY1.1.2.1
  have hV2 : zRwM 7 67 68 8 (N2, a2, b2) Z1 := hY1.1.2.2.1
  have hV3 : zRwM 10 69 70 8 (N3, a3, b3) Z1 := hY1.1.2.2.2
  have hTm : zTxM L t Z1 := hY1.2.1
  have hPm : zTpM P Z1 := hY1.2.2.1
  have hIm : zImM I Z1 := hY1.2.2.2
  have hxb : ∀ j, Z1 1001 j = xs j := fun j => by rw [f1.1 1001 (by decide) (by decide) (by decide) (by decide) (by decide)]; exact hxa j
  have hlb : Z1 1002 0 = (Ln : Int) := by rw [f1.1 1002 (by decide) (by decide) (by decide) (by decide) (by decide)]; exact hla
  refine ze_aload_n kc_184_905 rfl ?_
  refine ze_aload_n kc_184_906 rfl ?_
  refine ze_iload_n kc_184_907 rfl ?_
  refine ze_iconst kc_184_908 ?_
  refine ze_iadd kc_184_909 ?_
  refine ze_iald1 kc_184_910 (by omega) ?_
  first
    | rw [hxb]
    | rw [hxa]
  refine ze_aload_n kc_184_911 rfl ?_
  refine ze_iload_n kc_184_912 rfl ?_
  refine ze_iconst kc_184_913 ?_
  refine ze_iadd kc_184_914 ?_
  refine ze_iald1 kc_184_915 (by omega) ?_
  first
    | rw [hxb]
    | rw [hxa]
  refine zE_callv 3 kc_184_916 rfl rfl (Nat.le_of_ble_eq_true rfl) (Nat.le_of_ble_eq_true rfl) (Nat.le_of_ble_eq_true rfl) rfl (by decide +kernel) rfl ?_
  refine m_fitsM hM1 hV1 hk1 (by omega) (by omega) (fun Z2 f2 => ?_)
  simp only [Option.toList_some, Option.toList_none, List.drop_succ_cons, List.drop_zero, List.cons_append, List.nil_append]
  have hX2 := zX_q hX1 f2
  have hY2 := zY_q hY1 f2
  have hx2 : ∀ j, Z2 1001 j = xs j := fun j => by rw [f2.1 1001 (by decide) (by decide) (by decide) (by decide) (by decide)]; exact hxb j
  have hl2 : Z2 1002 0 = (Ln : Int) := by rw [f2.1 1002 (by decide) (by decide) (by decide) (by decide) (by decide)]; exact hlb
  exact ze_icmpE kc_184_919 (kk _ _ ⟨hX2, hY2, hOk, hx2, hl2⟩)

set_option maxHeartbeats 8000000 in
theorem law_odds {xs : Nat → Int} {Ln : Nat} {Z : zMem} {Q : Option zAV → zMem → Prop} {x : Int} {n N1 N2 N3 L : Nat} {c a1 b1 a2 b2 a3 b3 t : Nat → Int} {e ρ : Int} {P : zTps} {I : Option zKr} (hLn : Ln ≤ 3072) (hxr : ∀ j, -2147483648 ≤ xs j ∧ xs j ≤ 2147483647) (hx0 : 0 ≤ x) (hx6 : x + 6 ≤ Ln) (hI : zInv xs Ln (((n, c, e, ρ), (N1, a1, b1), (N2, a2, b2), (N3, a3, b3)), (L, t), P, I) Z) (kk : ∀ A' Z', zInv xs Ln A' Z' → zE 184 1390 [some (zR 1001), some (zR 0), some (zR 63), some (zI x)] [] Z' Q) : zE 184 924 [some (zR 1001), some (zR 0), some (zR 63), some (zI x)] [] Z Q := by
  obtain ⟨hX, hY, hOk, hxa, hla⟩ := hI
  have hC : zCl n c e ρ Z := hX.1.1
  have hW1 : zRw 20 5 N1 a1 b1 Z := hX.1.2.1
  have hW2 : zRw 23 8 N2 a2 b2 Z := hX.1.2.2.1
  have hW3 : zRw 26 8 N3 a3 b3 Z := hX.1.2.2.2
  have hT : zTxX L t Z := hX.2.1
  have hP : zTpX P Z := hX.2.2.1
  have hIx : zImX I Z := hX.2.2.2
  have hk1 : zRok n (N1, a1, b1) := hOk.1.1
  have hk2 : zEok n (N2, a2, b2) := hOk.1.2.1
  have hk3 : zRok n (N3, a3, b3) := hOk.1.2.2
  have r1 := hxr (x + 1).toNat
  have r2 := hxr (x + 2).toNat
  have r3 := hxr (x + 3).toNat
  have r4 := hxr (x + 4).toNat
  have r5 := hxr (x + 5).toNat
  refine ze_aload_n kc_184_924 rfl ?_
  refine ze_aload_n kc_184_925 rfl ?_
  refine ze_iload_n kc_184_926 rfl ?_
  refine ze_iconst kc_184_927 ?_
  refine ze_iadd kc_184_928 ?_
  refine ze_iald1 kc_184_929 (by omega) ?_
  first
    | rw [hxb]
    | rw [hxa]
  refine ze_aload_n kc_184_930 rfl ?_
  refine ze_iload_n kc_184_931 rfl ?_
  refine ze_iconst kc_184_932 ?_
  refine ze_iadd kc_184_933 ?_
  refine ze_iald1 kc_184_934 (by omega) ?_
  first
    | rw [hxb]
    | rw [hxa]
  refine ze_aload_n kc_184_935 rfl ?_
  refine ze_iload_n kc_184_936 rfl ?_
  refine ze_iconst kc_184_937 ?_
  refine ze_iadd kc_184_938 ?_
  refine ze_iald1 kc_184_939 (by omega) ?_
  first
    | rw [hxb]
    | rw [hxa]
  refine zE_callv 4 kc_184_940 rfl rfl (Nat.le_of_ble_eq_true rfl) (Nat.le_of_ble_eq_true rfl) (Nat.le_of_ble_eq_true rfl) rfl (by decide +kernel) rfl ?_
  refine m_oddsX hC (by omega) (by omega) (by omega) (fun Z1 f1 => ?_)
  simp only [Option.toList_some, Option.toList_none, List.drop_succ_cons, List.drop_zero, List.cons_append, List.nil_append]
  have hX1 := zX_q hX f1
  have hY1 := zY_q hY f1
  have hM1 : zMo n c e ρ Z1 := hY1.1.1
  have hV1 : zRwM 4 65 66 5 (N1, a1, b1) Z1 := hY1.1.2.1
  have hV2 : zRwM 7 67 68 8 (N2, a2, b2) Z1 := hY1.1.2.2.1
  have hV3 : zRwM 10 69 70 8 (N3, a3, b3) Z1 := hY1.1.2.2.2
  have hTm : zTxM L t Z1 := hY1.2.1
  have hPm : zTpM P Z1 := hY1.2.2.1
  have hIm : zImM I Z1 := hY1.2.2.2
  have hxb : ∀ j, Z1 1001 j = xs j := fun j => by rw [f1.1 1001 (by decide) (by decide) (by decide) (by decide) (by decide)]; exact hxa j
  have hlb : Z1 1002 0 = (Ln : Int) := by rw [f1.1 1002 (by decide) (by decide) (by decide) (by decide) (by decide)]; exact hla
  refine ze_aload_n kc_184_943 rfl ?_
  refine ze_aload_n kc_184_944 rfl ?_
  refine ze_iload_n kc_184_945 rfl ?_
  refine ze_iconst kc_184_946 ?_
  refine ze_iadd kc_184_947 ?_
  refine ze_iald1 kc_184_948 (by omega) ?_
  first
    | rw [hxb]
    | rw [hxa]
  refine ze_aload_n kc_184_949 rfl ?_
  refine ze_iload_n kc_184_950 rfl ?_
  refine ze_iconst kc_184_951 ?_
  refine ze_iadd kc_184_952 ?_
  refine ze_iald1 kc_184_953 (by omega) ?_
  first
    | rw [hxb]
    | rw [hxa]
  refine ze_aload_n kc_184_954 rfl ?_
  refine ze_iload_n kc_184_955 rfl ?_
  refine ze_iconst kc_184_956 ?_
  refine ze_iadd kc_184_957 ?_
  refine ze_iald1 kc_184_958 (by omega) ?_
  first
    | rw [hxb]
    | rw [hxa]
  refine zE_callv 4 kc_184_959 rfl rfl (Nat.le_of_ble_eq_true rfl) (Nat.le_of_ble_eq_true rfl) (Nat.le_of_ble_eq_true rfl) rfl (by decide +kernel) rfl ?_
  refine m_oddsM hM1 (by omega) (by omega) (by omega) (fun Z2 f2 => ?_)
  simp only [Option.toList_some, Option.toList_none, List.drop_succ_cons, List.drop_zero, List.cons_append, List.nil_append]
  have hX2 := zX_q hX1 f2
  have hY2 := zY_q hY1 f2
  have hx2 : ∀ j, Z2 1001 j = xs j := fun j => by rw [f2.1 1001 (by decide) (by decide) (by decide) (by decide) (by decide)]; exact hxb j
  have hl2 : Z2 1002 0 = (Ln : Int) := by rw [f2.1 1002 (by decide) (by decide) (by decide) (by decide) (by decide)]; exact hlb
  exact ze_lcmpE kc_184_962 kc_184_963 (kk _ _ ⟨hX2, hY2, hOk, hx2, hl2⟩)

set_option maxHeartbeats 8000000 in
theorem law_mean {xs : Nat → Int} {Ln : Nat} {Z : zMem} {Q : Option zAV → zMem → Prop} {x : Int} {n N1 N2 N3 L : Nat} {c a1 b1 a2 b2 a3 b3 t : Nat → Int} {e ρ : Int} {P : zTps} {I : Option zKr} (hLn : Ln ≤ 3072) (hxr : ∀ j, -2147483648 ≤ xs j ∧ xs j ≤ 2147483647) (hx0 : 0 ≤ x) (hx6 : x + 6 ≤ Ln) (hI : zInv xs Ln (((n, c, e, ρ), (N1, a1, b1), (N2, a2, b2), (N3, a3, b3)), (L, t), P, I) Z) (kk : ∀ A' Z', zInv xs Ln A' Z' → zE 184 1390 [some (zR 1001), some (zR 0), some (zR 63), some (zI x)] [] Z' Q) : zE 184 968 [some (zR 1001), some (zR 0), some (zR 63), some (zI x)] [] Z Q := by
  obtain ⟨hX, hY, hOk, hxa, hla⟩ := hI
  have hC : zCl n c e ρ Z := hX.1.1
  have hW1 : zRw 20 5 N1 a1 b1 Z := hX.1.2.1
  have hW2 : zRw 23 8 N2 a2 b2 Z := hX.1.2.2.1
  have hW3 : zRw 26 8 N3 a3 b3 Z := hX.1.2.2.2
  have hT : zTxX L t Z := hX.2.1
  have hP : zTpX P Z := hX.2.2.1
  have hIx : zImX I Z := hX.2.2.2
  have hk1 : zRok n (N1, a1, b1) := hOk.1.1
  have hk2 : zEok n (N2, a2, b2) := hOk.1.2.1
  have hk3 : zRok n (N3, a3, b3) := hOk.1.2.2
  have r1 := hxr (x + 1).toNat
  have r2 := hxr (x + 2).toNat
  have r3 := hxr (x + 3).toNat
  have r4 := hxr (x + 4).toNat
  have r5 := hxr (x + 5).toNat
  refine ze_aload_n kc_184_968 rfl ?_
  refine ze_aload_n kc_184_969 rfl ?_
  refine ze_iload_n kc_184_970 rfl ?_
  refine ze_iconst kc_184_971 ?_
  refine ze_iadd kc_184_972 ?_
  refine ze_iald1 kc_184_973 (by omega) ?_
  first
    | rw [hxb]
    | rw [hxa]
  refine zE_callv 2 kc_184_974 rfl rfl (Nat.le_of_ble_eq_true rfl) (Nat.le_of_ble_eq_true rfl) (Nat.le_of_ble_eq_true rfl) rfl (by decide +kernel) rfl ?_
  refine m_meanX hC (by omega) (fun Z1 f1 => ?_)
  simp only [Option.toList_some, Option.toList_none, List.drop_succ_cons, List.drop_zero, List.cons_append, List.nil_append]
  have hX1 := zX_q hX f1
  have hY1 := zY_q hY f1
  have hM1 : zMo n c e ρ Z1 := hY1.1.1
  have hV1 : zRwM 4 65 66 5 (N1, a1, b1) Z1 := hY1.1.2.1
  have hV2 : zRwM 7 67 68 8 (N2, a2, b2) Z1 := hY1.1.2.2.1
  have hV3 : zRwM 10 69 70 8 (N3, a3, b3) Z1 := hY1.1.2.2.2
  have hTm : zTxM L t Z1 := hY1.2.1
  have hPm : zTpM P Z1 := hY1.2.2.1
  have hIm : zImM I Z1 := hY1.2.2.2
  have hxb : ∀ j, Z1 1001 j = xs j := fun j => by rw [f1.1 1001 (by decide) (by decide) (by decide) (by decide) (by decide)]; exact hxa j
  have hlb : Z1 1002 0 = (Ln : Int) := by rw [f1.1 1002 (by decide) (by decide) (by decide) (by decide) (by decide)]; exact hla
  refine ze_aload_n kc_184_977 rfl ?_
  refine ze_aload_n kc_184_978 rfl ?_
  refine ze_iload_n kc_184_979 rfl ?_
  refine ze_iconst kc_184_980 ?_
  refine ze_iadd kc_184_981 ?_
  refine ze_iald1 kc_184_982 (by omega) ?_
  first
    | rw [hxb]
    | rw [hxa]
  refine zE_callv 2 kc_184_983 rfl rfl (Nat.le_of_ble_eq_true rfl) (Nat.le_of_ble_eq_true rfl) (Nat.le_of_ble_eq_true rfl) rfl (by decide +kernel) rfl ?_
  refine m_meanM hM1 (by omega) (fun Z2 f2 => ?_)
  simp only [Option.toList_some, Option.toList_none, List.drop_succ_cons, List.drop_zero, List.cons_append, List.nil_append]
  have hX2 := zX_q hX1 f2
  have hY2 := zY_q hY1 f2
  have hx2 : ∀ j, Z2 1001 j = xs j := fun j => by rw [f2.1 1001 (by decide) (by decide) (by decide) (by decide) (by decide)]; exact hxb j
  have hl2 : Z2 1002 0 = (Ln : Int) := by rw [f2.1 1002 (by decide) (by decide) (by decide) (by decide) (by decide)]; exact hlb
  exact ze_lcmpE kc_184_986 kc_184_987 (kk _ _ ⟨hX2, hY2, hOk, hx2, hl2⟩)

set_option maxHeartbeats 8000000 in
theorem law_event {xs : Nat → Int} {Ln : Nat} {Z : zMem} {Q : Option zAV → zMem → Prop} {x : Int} {n N1 N2 N3 L : Nat} {c a1 b1 a2 b2 a3 b3 t : Nat → Int} {e ρ : Int} {P : zTps} {I : Option zKr} (hLn : Ln ≤ 3072) (hxr : ∀ j, -2147483648 ≤ xs j ∧ xs j ≤ 2147483647) (hx0 : 0 ≤ x) (hx6 : x + 6 ≤ Ln) (hI : zInv xs Ln (((n, c, e, ρ), (N1, a1, b1), (N2, a2, b2), (N3, a3, b3)), (L, t), P, I) Z) (kk : ∀ A' Z', zInv xs Ln A' Z' → zE 184 1390 [some (zR 1001), some (zR 0), some (zR 63), some (zI x)] [] Z' Q) : zE 184 992 [some (zR 1001), some (zR 0), some (zR 63), some (zI x)] [] Z Q := by
  obtain ⟨hX, hY, hOk, hxa, hla⟩ := hI
  have hC : zCl n c e ρ Z := hX.1.1
  have hW1 : zRw 20 5 N1 a1 b1 Z := hX.1.2.1
  have hW2 : zRw 23 8 N2 a2 b2 Z := hX.1.2.2.1
  have hW3 : zRw 26 8 N3 a3 b3 Z := hX.1.2.2.2
  have hT : zTxX L t Z := hX.2.1
  have hP : zTpX P Z := hX.2.2.1
  have hIx : zImX I Z := hX.2.2.2
  have hk1 : zRok n (N1, a1, b1) := hOk.1.1
  have hk2 : zEok n (N2, a2, b2) := hOk.1.2.1
  have hk3 : zRok n (N3, a3, b3) := hOk.1.2.2
  have r1 := hxr (x + 1).toNat
  have r2 := hxr (x + 2).toNat
  have r3 := hxr (x + 3).toNat
  have r4 := hxr (x + 4).toNat
  have r5 := hxr (x + 5).toNat
  refine ze_aload_n kc_184_992 rfl ?_
  refine ze_aload_n kc_184_993 rfl ?_
  refine ze_iload_n kc_184_994 rfl ?_
  refine ze_iconst kc_184_995 ?_
  refine ze_iadd kc_184_996 ?_
  refine ze_iald1 kc_184_997 (by omega) ?_
  first
    | rw [hxb]
    | rw [hxa]
  refine ze_aload_n kc_184_998 rfl ?_
  refine ze_iload_n kc_184_999 rfl ?_
  refine ze_iconst kc_184_1000 ?_
  refine ze_iadd kc_184_1001 ?_
  refine ze_iald1 kc_184_1002 (by omega) ?_
  first
    | rw [hxb]
    | rw [hxa]
  refine zE_callv 3 kc_184_1003 rfl rfl (Nat.le_of_ble_eq_true rfl) (Nat.le_of_ble_eq_true rfl) (Nat.le_of_ble_eq_true rfl) rfl (by decide +kernel) rfl ?_
  refine m_eventX hC hW2 (by omega) (by omega) (fun Z1 s1 f1 => ?_)
  simp only [Option.toList_some, Option.toList_none, List.drop_succ_cons, List.drop_zero, List.cons_append, List.nil_append]
  have hX1 := zX_R2 hX s1 f1
  have hY1 := zY_fr hY (fun k a b => f1 k (by omega))
  have hM1 : zMo n c e ρ Z1 := hY1.1.1
  have hV1 : zRwM 4 65 66 5 (N1, a1, b1) Z1 := hY1.1.2.1
  have hV2 : zRwM 7 67 68 8 (N2, a2, b2) Z1 := hY1.1.2.2.1
  have hV3 : zRwM 10 69 70 8 (N3, a3, b3) Z1 := hY1.1.2.2.2
  have hTm : zTxM L t Z1 := hY1.2.1
  have hPm : zTpM P Z1 := hY1.2.2.1
  have hIm : zImM I Z1 := hY1.2.2.2
  have hxb : ∀ j, Z1 1001 j = xs j := fun j => by rw [f1 1001 (by decide)]; exact hxa j
  have hlb : Z1 1002 0 = (Ln : Int) := by rw [f1 1002 (by decide)]; exact hla
  refine ze_aload_n kc_184_1006 rfl ?_
  refine ze_aload_n kc_184_1007 rfl ?_
  refine ze_iload_n kc_184_1008 rfl ?_
  refine ze_iconst kc_184_1009 ?_
  refine ze_iadd kc_184_1010 ?_
  refine ze_iald1 kc_184_1011 (by omega) ?_
  first
    | rw [hxb]
    | rw [hxa]
  refine ze_aload_n kc_184_1012 rfl ?_
  refine ze_iload_n kc_184_1013 rfl ?_
  refine ze_iconst kc_184_1014 ?_
  refine ze_iadd kc_184_1015 ?_
  refine ze_iald1 kc_184_1016 (by omega) ?_
  first
    | rw [hxb]
    | rw [hxa]
  refine zE_callv 3 kc_184_1017 rfl rfl (Nat.le_of_ble_eq_true rfl) (Nat.le_of_ble_eq_true rfl) (Nat.le_of_ble_eq_true rfl) rfl (by decide +kernel) rfl ?_
  refine m_eventM hM1 hV2 (by omega) (by omega) (fun Z2 s2 f2 => ?_)
  simp only [Option.toList_some, Option.toList_none, List.drop_succ_cons, List.drop_zero, List.cons_append, List.nil_append]
  have hX2 := zX_fr hX1 (fun k a => f2.1 k (by omega) (by omega) (by omega))
  have hY2 := zY_R2 hY1 s2 f2
  have hx2 : ∀ j, Z2 1001 j = xs j := fun j => by rw [f2.1 1001 (by decide) (by decide) (by decide)]; exact hxb j
  have hl2 : Z2 1002 0 = (Ln : Int) := by rw [f2.1 1002 (by decide) (by decide) (by decide)]; exact hlb
  exact ze_icmpE kc_184_1020 (kk _ _ ⟨hX2, hY2, ⟨⟨hOk.1.1, zEok_ev hOk.1.2.1 r2 hM1.2.1, hOk.1.2.2⟩, hOk.2⟩, hx2, hl2⟩)

set_option maxHeartbeats 8000000 in
theorem law_after {xs : Nat → Int} {Ln : Nat} {Z : zMem} {Q : Option zAV → zMem → Prop} {x : Int} {n N1 N2 N3 L : Nat} {c a1 b1 a2 b2 a3 b3 t : Nat → Int} {e ρ : Int} {P : zTps} {I : Option zKr} (hLn : Ln ≤ 3072) (hxr : ∀ j, -2147483648 ≤ xs j ∧ xs j ≤ 2147483647) (hx0 : 0 ≤ x) (hx6 : x + 6 ≤ Ln) (hI : zInv xs Ln (((n, c, e, ρ), (N1, a1, b1), (N2, a2, b2), (N3, a3, b3)), (L, t), P, I) Z) (kk : ∀ A' Z', zInv xs Ln A' Z' → zE 184 1390 [some (zR 1001), some (zR 0), some (zR 63), some (zI x)] [] Z' Q) : zE 184 1025 [some (zR 1001), some (zR 0), some (zR 63), some (zI x)] [] Z Q := by
  obtain ⟨hX, hY, hOk, hxa, hla⟩ := hI
  have hC : zCl n c e ρ Z := hX.1.1
  have hW1 : zRw 20 5 N1 a1 b1 Z := hX.1.2.1
  have hW2 : zRw 23 8 N2 a2 b2 Z := hX.1.2.2.1
  have hW3 : zRw 26 8 N3 a3 b3 Z := hX.1.2.2.2
  have hT : zTxX L t Z := hX.2.1
  have hP : zTpX P Z := hX.2.2.1
  have hIx : zImX I Z := hX.2.2.2
  have hk1 : zRok n (N1, a1, b1) := hOk.1.1
  have hk2 : zEok n (N2, a2, b2) := hOk.1.2.1
  have hk3 : zRok n (N3, a3, b3) := hOk.1.2.2
  have r1 := hxr (x + 1).toNat
  have r2 := hxr (x + 2).toNat
  have r3 := hxr (x + 3).toNat
  have r4 := hxr (x + 4).toNat
  have r5 := hxr (x + 5).toNat
  refine ze_aload_n kc_184_1025 rfl ?_
  refine ze_aload_n kc_184_1026 rfl ?_
  refine ze_iload_n kc_184_1027 rfl ?_
  refine ze_iconst kc_184_1028 ?_
  refine ze_iadd kc_184_1029 ?_
  refine ze_iald1 kc_184_1030 (by omega) ?_
  first
    | rw [hxb]
    | rw [hxa]
  refine zE_callv 2 kc_184_1031 rfl rfl (Nat.le_of_ble_eq_true rfl) (Nat.le_of_ble_eq_true rfl) (Nat.le_of_ble_eq_true rfl) rfl (by decide +kernel) rfl ?_
  refine m_afterX hC hW2 hk2 (by omega) (fun Z1 f1 => ?_)
  simp only [Option.toList_some, Option.toList_none, List.drop_succ_cons, List.drop_zero, List.cons_append, List.nil_append]
  have hX1 := zX_q hX f1
  have hY1 := zY_q hY f1
  have hM1 : zMo n c e ρ Z1 := hY1.1.1
  have hV1 : zRwM 4 65 66 5 (N1, a1, b1) Z1 := hY1.1.2.1
  have hV2 : zRwM 7 67 68 8 (N2, a2, b2) Z1 := hY1.1.2.2.1
  have hV3 : zRwM 10 69 70 8 (N3, a3, b3) Z1 := hY1.1.2.2.2
  have hTm : zTxM L t Z1 := hY1.2.1
  have hPm : zTpM P Z1 := hY1.2.2.1
  have hIm : zImM I Z1 := hY1.2.2.2
  have hxb : ∀ j, Z1 1001 j = xs j := fun j => by rw [f1.1 1001 (by decide) (by decide) (by decide) (by decide) (by decide)]; exact hxa j
  have hlb : Z1 1002 0 = (Ln : Int) := by rw [f1.1 1002 (by decide) (by decide) (by decide) (by decide) (by decide)]; exact hla
  refine ze_aload_n kc_184_1034 rfl ?_
  refine ze_aload_n kc_184_1035 rfl ?_
  refine ze_iload_n kc_184_1036 rfl ?_
  refine ze_iconst kc_184_1037 ?_
  refine ze_iadd kc_184_1038 ?_
  refine ze_iald1 kc_184_1039 (by omega) ?_
  first
    | rw [hxb]
    | rw [hxa]
  refine zE_callv 2 kc_184_1040 rfl rfl (Nat.le_of_ble_eq_true rfl) (Nat.le_of_ble_eq_true rfl) (Nat.le_of_ble_eq_true rfl) rfl (by decide +kernel) rfl ?_
  refine m_afterM hM1 hV2 hk2 (by omega) (fun Z2 f2 => ?_)
  simp only [Option.toList_some, Option.toList_none, List.drop_succ_cons, List.drop_zero, List.cons_append, List.nil_append]
  have hX2 := zX_q hX1 f2
  have hY2 := zY_q hY1 f2
  have hx2 : ∀ j, Z2 1001 j = xs j := fun j => by rw [f2.1 1001 (by decide) (by decide) (by decide) (by decide) (by decide)]; exact hxb j
  have hl2 : Z2 1002 0 = (Ln : Int) := by rw [f2.1 1002 (by decide) (by decide) (by decide) (by decide) (by decide)]; exact hlb
  exact ze_lcmpE kc_184_1043 kc_184_1044 (kk _ _ ⟨hX2, hY2, hOk, hx2, hl2⟩)

set_option maxHeartbeats 8000000 in
theorem law_book {xs : Nat → Int} {Ln : Nat} {Z : zMem} {Q : Option zAV → zMem → Prop} {x : Int} {n N1 N2 N3 L : Nat} {c a1 b1 a2 b2 a3 b3 t : Nat → Int} {e ρ : Int} {P : zTps} {I : Option zKr} (hLn : Ln ≤ 3072) (hxr : ∀ j, -2147483648 ≤ xs j ∧ xs j ≤ 2147483647) (hx0 : 0 ≤ x) (hx6 : x + 6 ≤ Ln) (hI : zInv xs Ln (((n, c, e, ρ), (N1, a1, b1), (N2, a2, b2), (N3, a3, b3)), (L, t), P, I) Z) (kk : ∀ A' Z', zInv xs Ln A' Z' → zE 184 1390 [some (zR 1001), some (zR 0), some (zR 63), some (zI x)] [] Z' Q) : zE 184 1049 [some (zR 1001), some (zR 0), some (zR 63), some (zI x)] [] Z Q := by
  obtain ⟨hX, hY, hOk, hxa, hla⟩ := hI
  have hC : zCl n c e ρ Z := hX.1.1
  have hW1 : zRw 20 5 N1 a1 b1 Z := hX.1.2.1
  have hW2 : zRw 23 8 N2 a2 b2 Z := hX.1.2.2.1
  have hW3 : zRw 26 8 N3 a3 b3 Z := hX.1.2.2.2
  have hT : zTxX L t Z := hX.2.1
  have hP : zTpX P Z := hX.2.2.1
  have hIx : zImX I Z := hX.2.2.2
  have hk1 : zRok n (N1, a1, b1) := hOk.1.1
  have hk2 : zEok n (N2, a2, b2) := hOk.1.2.1
  have hk3 : zRok n (N3, a3, b3) := hOk.1.2.2
  have r1 := hxr (x + 1).toNat
  have r2 := hxr (x + 2).toNat
  have r3 := hxr (x + 3).toNat
  have r4 := hxr (x + 4).toNat
  have r5 := hxr (x + 5).toNat
  refine ze_aload_n kc_184_1049 rfl ?_
  refine ze_aload_n kc_184_1050 rfl ?_
  refine ze_iload_n kc_184_1051 rfl ?_
  refine ze_iconst kc_184_1052 ?_
  refine ze_iadd kc_184_1053 ?_
  refine ze_iald1 kc_184_1054 (by omega) ?_
  first
    | rw [hxb]
    | rw [hxa]
  refine ze_aload_n kc_184_1055 rfl ?_
  refine ze_iload_n kc_184_1056 rfl ?_
  refine ze_iconst kc_184_1057 ?_
  refine ze_iadd kc_184_1058 ?_
  refine ze_iald1 kc_184_1059 (by omega) ?_
  first
    | rw [hxb]
    | rw [hxa]
  refine zE_callv 3 kc_184_1060 rfl rfl (Nat.le_of_ble_eq_true rfl) (Nat.le_of_ble_eq_true rfl) (Nat.le_of_ble_eq_true rfl) rfl (by decide +kernel) rfl ?_
  refine m_bookX hC hW3 (by omega) (by omega) (fun Z1 s1 f1 => ?_)
  simp only [Option.toList_some, Option.toList_none, List.drop_succ_cons, List.drop_zero, List.cons_append, List.nil_append]
  have hX1 := zX_R3 hX s1 f1
  have hY1 := zY_fr hY (fun k a b => f1 k (by omega))
  have hM1 : zMo n c e ρ Z1 := hY1.1.1
  have hV1 : zRwM 4 65 66 5 (N1, a1, b1) Z1 := hY1.1.2.1
  have hV2 : zRwM 7 67 68 8 (N2, a2, b2) Z1 := hY1.1.2.2.1
  have hV3 : zRwM 10 69 70 8 (N3, a3, b3) Z1 := hY1.1.2.2.2
  have hTm : zTxM L t Z1 := hY1.2.1
  have hPm : zTpM P Z1 := hY1.2.2.1
  have hIm : zImM I Z1 := hY1.2.2.2
  have hxb : ∀ j, Z1 1001 j = xs j := fun j => by rw [f1 1001 (by decide)]; exact hxa j
  have hlb : Z1 1002 0 = (Ln : Int) := by rw [f1 1002 (by decide)]; exact hla
  refine ze_aload_n kc_184_1063 rfl ?_
  refine ze_aload_n kc_184_1064 rfl ?_
  refine ze_iload_n kc_184_1065 rfl ?_
  refine ze_iconst kc_184_1066 ?_
  refine ze_iadd kc_184_1067 ?_
  refine ze_iald1 kc_184_1068 (by omega) ?_
  first
    | rw [hxb]
    | rw [hxa]
  refine ze_aload_n kc_184_1069 rfl ?_
  refine ze_iload_n kc_184_1070 rfl ?_
  refine ze_iconst kc_184_1071 ?_
  refine ze_iadd kc_184_1072 ?_
  refine ze_iald1 kc_184_1073 (by omega) ?_
  first
    | rw [hxb]
    | rw [hxa]
  refine zE_callv 3 kc_184_1074 rfl rfl (Nat.le_of_ble_eq_true rfl) (Nat.le_of_ble_eq_true rfl) (Nat.le_of_ble_eq_true rfl) rfl (by decide +kernel) rfl ?_
  refine m_bookM hM1 hV3 (by omega) (by omega) (fun Z2 s2 f2 => ?_)
  simp only [Option.toList_some, Option.toList_none, List.drop_succ_cons, List.drop_zero, List.cons_append, List.nil_append]
  have hX2 := zX_fr hX1 (fun k a => f2.1 k (by omega) (by omega) (by omega))
  have hY2 := zY_R3 hY1 s2 f2
  have hx2 : ∀ j, Z2 1001 j = xs j := fun j => by rw [f2.1 1001 (by decide) (by decide) (by decide)]; exact hxb j
  have hl2 : Z2 1002 0 = (Ln : Int) := by rw [f2.1 1002 (by decide) (by decide) (by decide)]; exact hlb
  exact ze_icmpE kc_184_1077 (kk _ _ ⟨hX2, hY2, ⟨⟨hOk.1.1, hOk.1.2.1, zRok_tell hOk.1.2.2⟩, hOk.2⟩, hx2, hl2⟩)

set_option maxHeartbeats 8000000 in
theorem law_looked {xs : Nat → Int} {Ln : Nat} {Z : zMem} {Q : Option zAV → zMem → Prop} {x : Int} {n N1 N2 N3 L : Nat} {c a1 b1 a2 b2 a3 b3 t : Nat → Int} {e ρ : Int} {P : zTps} {I : Option zKr} (hLn : Ln ≤ 3072) (hxr : ∀ j, -2147483648 ≤ xs j ∧ xs j ≤ 2147483647) (hx0 : 0 ≤ x) (hx6 : x + 6 ≤ Ln) (hI : zInv xs Ln (((n, c, e, ρ), (N1, a1, b1), (N2, a2, b2), (N3, a3, b3)), (L, t), P, I) Z) (kk : ∀ A' Z', zInv xs Ln A' Z' → zE 184 1390 [some (zR 1001), some (zR 0), some (zR 63), some (zI x)] [] Z' Q) : zE 184 1082 [some (zR 1001), some (zR 0), some (zR 63), some (zI x)] [] Z Q := by
  obtain ⟨hX, hY, hOk, hxa, hla⟩ := hI
  have hC : zCl n c e ρ Z := hX.1.1
  have hW1 : zRw 20 5 N1 a1 b1 Z := hX.1.2.1
  have hW2 : zRw 23 8 N2 a2 b2 Z := hX.1.2.2.1
  have hW3 : zRw 26 8 N3 a3 b3 Z := hX.1.2.2.2
  have hT : zTxX L t Z := hX.2.1
  have hP : zTpX P Z := hX.2.2.1
  have hIx : zImX I Z := hX.2.2.2
  have hk1 : zRok n (N1, a1, b1) := hOk.1.1
  have hk2 : zEok n (N2, a2, b2) := hOk.1.2.1
  have hk3 : zRok n (N3, a3, b3) := hOk.1.2.2
  have r1 := hxr (x + 1).toNat
  have r2 := hxr (x + 2).toNat
  have r3 := hxr (x + 3).toNat
  have r4 := hxr (x + 4).toNat
  have r5 := hxr (x + 5).toNat
  refine ze_aload_n kc_184_1082 rfl ?_
  refine zE_callv 1 kc_184_1083 rfl rfl (Nat.le_of_ble_eq_true rfl) (Nat.le_of_ble_eq_true rfl) (Nat.le_of_ble_eq_true rfl) rfl (by decide +kernel) rfl ?_
  refine m_lookedX hC hW3 hk3 (fun Z1 f1 => ?_)
  simp only [Option.toList_some, Option.toList_none, List.drop_succ_cons, List.drop_zero, List.cons_append, List.nil_append]
  have hX1 := zX_q hX f1
  have hY1 := zY_q hY f1
  have hM1 : zMo n c e ρ Z1 := hY1.1.1
  have hV1 : zRwM 4 65 66 5 (N1, a1, b1) Z1 := hY1.1.2.1
  have hV2 : zRwM 7 67 68 8 (N2, a2, b2) Z1 := hY1.1.2.2.1
  have hV3 : zRwM 10 69 70 8 (N3, a3, b3) Z1 := hY1.1.2.2.2
  have hTm : zTxM L t Z1 := hY1.2.1
  have hPm : zTpM P Z1 := hY1.2.2.1
  have hIm : zImM I Z1 := hY1.2.2.2
  have hxb : ∀ j, Z1 1001 j = xs j := fun j => by rw [f1.1 1001 (by decide) (by decide) (by decide) (by decide) (by decide)]; exact hxa j
  have hlb : Z1 1002 0 = (Ln : Int) := by rw [f1.1 1002 (by decide) (by decide) (by decide) (by decide) (by decide)]; exact hla
  refine ze_aload_n kc_184_1086 rfl ?_
  refine zE_callv 1 kc_184_1087 rfl rfl (Nat.le_of_ble_eq_true rfl) (Nat.le_of_ble_eq_true rfl) (Nat.le_of_ble_eq_true rfl) rfl (by decide +kernel) rfl ?_
  refine m_lookedM hM1 hV3 hk3 (fun Z2 f2 => ?_)
  simp only [Option.toList_some, Option.toList_none, List.drop_succ_cons, List.drop_zero, List.cons_append, List.nil_append]
  have hX2 := zX_q hX1 f2
  have hY2 := zY_q hY1 f2
  have hx2 : ∀ j, Z2 1001 j = xs j := fun j => by rw [f2.1 1001 (by decide) (by decide) (by decide) (by decide) (by decide)]; exact hxb j
  have hl2 : Z2 1002 0 = (Ln : Int) := by rw [f2.1 1002 (by decide) (by decide) (by decide) (by decide) (by decide)]; exact hlb
  exact ze_icmpE kc_184_1090 (kk _ _ ⟨hX2, hY2, hOk, hx2, hl2⟩)

set_option maxHeartbeats 8000000 in
theorem law_judge {xs : Nat → Int} {Ln : Nat} {Z : zMem} {Q : Option zAV → zMem → Prop} {x : Int} {n N1 N2 N3 L : Nat} {c a1 b1 a2 b2 a3 b3 t : Nat → Int} {e ρ : Int} {P : zTps} {I : Option zKr} (hLn : Ln ≤ 3072) (hxr : ∀ j, -2147483648 ≤ xs j ∧ xs j ≤ 2147483647) (hx0 : 0 ≤ x) (hx6 : x + 6 ≤ Ln) (hI : zInv xs Ln (((n, c, e, ρ), (N1, a1, b1), (N2, a2, b2), (N3, a3, b3)), (L, t), P, I) Z) (kk : ∀ A' Z', zInv xs Ln A' Z' → zE 184 1390 [some (zR 1001), some (zR 0), some (zR 63), some (zI x)] [] Z' Q) : zE 184 1095 [some (zR 1001), some (zR 0), some (zR 63), some (zI x)] [] Z Q := by
  obtain ⟨hX, hY, hOk, hxa, hla⟩ := hI
  have hC : zCl n c e ρ Z := hX.1.1
  have hW1 : zRw 20 5 N1 a1 b1 Z := hX.1.2.1
  have hW2 : zRw 23 8 N2 a2 b2 Z := hX.1.2.2.1
  have hW3 : zRw 26 8 N3 a3 b3 Z := hX.1.2.2.2
  have hT : zTxX L t Z := hX.2.1
  have hP : zTpX P Z := hX.2.2.1
  have hIx : zImX I Z := hX.2.2.2
  have hk1 : zRok n (N1, a1, b1) := hOk.1.1
  have hk2 : zEok n (N2, a2, b2) := hOk.1.2.1
  have hk3 : zRok n (N3, a3, b3) := hOk.1.2.2
  have r1 := hxr (x + 1).toNat
  have r2 := hxr (x + 2).toNat
  have r3 := hxr (x + 3).toNat
  have r4 := hxr (x + 4).toNat
  have r5 := hxr (x + 5).toNat
  refine ze_aload_n kc_184_1095 rfl ?_
  refine ze_aload_n kc_184_1096 rfl ?_
  refine ze_iload_n kc_184_1097 rfl ?_
  refine ze_iconst kc_184_1098 ?_
  refine ze_iadd kc_184_1099 ?_
  refine ze_iald1 kc_184_1100 (by omega) ?_
  first
    | rw [hxb]
    | rw [hxa]
  refine ze_aload_n kc_184_1101 rfl ?_
  refine ze_iload_n kc_184_1102 rfl ?_
  refine ze_iconst kc_184_1103 ?_
  refine ze_iadd kc_184_1104 ?_
  refine ze_iald1 kc_184_1105 (by omega) ?_
  first
    | rw [hxb]
    | rw [hxa]
  refine zE_callv 3 kc_184_1106 rfl rfl (Nat.le_of_ble_eq_true rfl) (Nat.le_of_ble_eq_true rfl) (Nat.le_of_ble_eq_true rfl) rfl (by decide +kernel) rfl ?_
  refine m_judgeX hC hP (by omega) (by omega) (fun Z1 f1 => ?_)
  simp only [Option.toList_some, Option.toList_none, List.drop_succ_cons, List.drop_zero, List.cons_append, List.nil_append]
  have hX1 := zX_q hX f1
  have hY1 := zY_q hY f1
  have hM1 : zMo n c e ρ Z1 := hY1.1.1
  have hV1 : zRwM 4 65 66 5 (N1, a1, b1) Z1 := hY1.1.2.1
  have hV2 : zRwM 7 67 68 8 (N2, a2, b2) Z1 := hY1.1.2.2.1
  have hV3 : zRwM 10 69 70 8 (N3, a3, b3) Z1 := hY1.1.2.2.2
  have hTm : zTxM L t Z1 := hY1.2.1
  have hPm : zTpM P Z1 := hY1.2.2.1
  have hIm : zImM I Z1 := hY1.2.2.2
  have hxb : ∀ j, Z1 1001 j = xs j := fun j => by rw [f1.1 1001 (by decide) (by decide) (by decide) (by decide) (by decide)]; exact hxa j
  have hlb : Z1 1002 0 = (Ln : Int) := by rw [f1.1 1002 (by decide) (by decide) (by decide) (by decide) (by decide)]; exact hla
  refine ze_aload_n kc_184_1109 rfl ?_
  refine ze_aload_n kc_184_1110 rfl ?_
  refine ze_iload_n kc_184_1111 rfl ?_
  refine ze_iconst kc_184_1112 ?_
  refine ze_iadd kc_184_1113 ?_
  refine ze_iald1 kc_184_1114 (by omega) ?_
  first
    | rw [hxb]
    | rw [hxa]
  refine ze_aload_n kc_184_1115 rfl ?_
  refine ze_iload_n kc_184_1116 rfl ?_
  refine ze_iconst kc_184_1117 ?_
  refine ze_iadd kc_184_1118 ?_
  refine ze_iald1 kc_184_1119 (by omega) ?_
  first
    | rw [hxb]
    | rw [hxa]
  refine zE_callv 3 kc_184_1120 rfl rfl (Nat.le_of_ble_eq_true rfl) (Nat.le_of_ble_eq_true rfl) (Nat.le_of_ble_eq_true rfl) rfl (by decide +kernel) rfl ?_
  refine m_judgeM hM1 hPm (by omega) (by omega) (fun Z2 f2 => ?_)
  simp only [Option.toList_some, Option.toList_none, List.drop_succ_cons, List.drop_zero, List.cons_append, List.nil_append]
  have hX2 := zX_q hX1 f2
  have hY2 := zY_q hY1 f2
  have hx2 : ∀ j, Z2 1001 j = xs j := fun j => by rw [f2.1 1001 (by decide) (by decide) (by decide) (by decide) (by decide)]; exact hxb j
  have hl2 : Z2 1002 0 = (Ln : Int) := by rw [f2.1 1002 (by decide) (by decide) (by decide) (by decide) (by decide)]; exact hlb
  exact ze_icmpE kc_184_1123 (kk _ _ ⟨hX2, hY2, hOk, hx2, hl2⟩)

set_option maxHeartbeats 8000000 in
theorem law_image {xs : Nat → Int} {Ln : Nat} {Z : zMem} {Q : Option zAV → zMem → Prop} {x : Int} {n N1 N2 N3 L : Nat} {c a1 b1 a2 b2 a3 b3 t : Nat → Int} {e ρ : Int} {P : zTps} {I : Option zKr} (hLn : Ln ≤ 3072) (hxr : ∀ j, -2147483648 ≤ xs j ∧ xs j ≤ 2147483647) (hx0 : 0 ≤ x) (hx6 : x + 6 ≤ Ln) (hI : zInv xs Ln (((n, c, e, ρ), (N1, a1, b1), (N2, a2, b2), (N3, a3, b3)), (L, t), P, I) Z) (kk : ∀ A' Z', zInv xs Ln A' Z' → zE 184 1390 [some (zR 1001), some (zR 0), some (zR 63), some (zI x)] [] Z' Q) : zE 184 1128 [some (zR 1001), some (zR 0), some (zR 63), some (zI x)] [] Z Q := by
  obtain ⟨hX, hY, hOk, hxa, hla⟩ := hI
  have hC : zCl n c e ρ Z := hX.1.1
  have hW1 : zRw 20 5 N1 a1 b1 Z := hX.1.2.1
  have hW2 : zRw 23 8 N2 a2 b2 Z := hX.1.2.2.1
  have hW3 : zRw 26 8 N3 a3 b3 Z := hX.1.2.2.2
  have hT : zTxX L t Z := hX.2.1
  have hP : zTpX P Z := hX.2.2.1
  have hIx : zImX I Z := hX.2.2.2
  have hk1 : zRok n (N1, a1, b1) := hOk.1.1
  have hk2 : zEok n (N2, a2, b2) := hOk.1.2.1
  have hk3 : zRok n (N3, a3, b3) := hOk.1.2.2
  have r1 := hxr (x + 1).toNat
  have r2 := hxr (x + 2).toNat
  have r3 := hxr (x + 3).toNat
  have r4 := hxr (x + 4).toNat
  have r5 := hxr (x + 5).toNat
  refine ze_aload_n kc_184_1128 rfl ?_
  refine zE_callv 1 kc_184_1129 rfl rfl (Nat.le_of_ble_eq_true rfl) (Nat.le_of_ble_eq_true rfl) (Nat.le_of_ble_eq_true rfl) rfl (by decide +kernel) rfl ?_
  refine m_imageX (R1 := (N1, a1, b1)) (R2 := (N2, a2, b2)) (R3 := (N3, a3, b3)) hC hW1 hW2 hW3 hIx (fun Z1 s1 f1 => ?_)
  simp only [Option.toList_some, Option.toList_none, List.drop_succ_cons, List.drop_zero, List.cons_append, List.nil_append]
  have hX1 := zX_I hX s1 f1
  have hY1 := zY_fr hY (fun k a b => f1 k (by omega))
  have hM1 : zMo n c e ρ Z1 := hY1.1.1
  have hV1 : zRwM 4 65 66 5 (N1, a1, b1) Z1 := hY1.1.2.1
  have hV2 : zRwM 7 67 68 8 (N2, a2, b2) Z1 := hY1.1.2.2.1
  have hV3 : zRwM 10 69 70 8 (N3, a3, b3) Z1 := hY1.1.2.2.2
  have hTm : zTxM L t Z1 := hY1.2.1
  have hPm : zTpM P Z1 := hY1.2.2.1
  have hIm : zImM I Z1 := hY1.2.2.2
  have hxb : ∀ j, Z1 1001 j = xs j := fun j => by rw [f1 1001 (by decide)]; exact hxa j
  have hlb : Z1 1002 0 = (Ln : Int) := by rw [f1 1002 (by decide)]; exact hla
  refine ze_aload_n kc_184_1132 rfl ?_
  refine zE_callv 1 kc_184_1133 rfl rfl (Nat.le_of_ble_eq_true rfl) (Nat.le_of_ble_eq_true rfl) (Nat.le_of_ble_eq_true rfl) rfl (by decide +kernel) rfl ?_
  refine m_imageM hM1 hV1 hV2 hV3 hIm (fun Z2 s2 f2 g2 => ?_)
  simp only [Option.toList_some, Option.toList_none, List.drop_succ_cons, List.drop_zero, List.cons_append, List.nil_append]
  have hX2 := zX_fr hX1 (fun k a => f2 k (by omega) (by omega))
  have hY2 := zY_I hY1 s2 f2 g2
  have hx2 : ∀ j, Z2 1001 j = xs j := fun j => by rw [f2 1001 (by decide) (by decide)]; exact hxb j
  have hl2 : Z2 1002 0 = (Ln : Int) := by rw [f2 1002 (by decide) (by decide)]; exact hlb
  exact ze_icmpE kc_184_1136 (kk _ _ ⟨hX2, hY2, (zOk_I hOk), hx2, hl2⟩)

set_option maxHeartbeats 8000000 in
theorem law_undo {xs : Nat → Int} {Ln : Nat} {Z : zMem} {Q : Option zAV → zMem → Prop} {x : Int} {n N1 N2 N3 L : Nat} {c a1 b1 a2 b2 a3 b3 t : Nat → Int} {e ρ : Int} {P : zTps} {I : Option zKr} (hLn : Ln ≤ 3072) (hxr : ∀ j, -2147483648 ≤ xs j ∧ xs j ≤ 2147483647) (hx0 : 0 ≤ x) (hx6 : x + 6 ≤ Ln) (hI : zInv xs Ln (((n, c, e, ρ), (N1, a1, b1), (N2, a2, b2), (N3, a3, b3)), (L, t), P, I) Z) (kk : ∀ A' Z', zInv xs Ln A' Z' → zE 184 1390 [some (zR 1001), some (zR 0), some (zR 63), some (zI x)] [] Z' Q) : zE 184 1141 [some (zR 1001), some (zR 0), some (zR 63), some (zI x)] [] Z Q := by
  obtain ⟨hX, hY, hOk, hxa, hla⟩ := hI
  have hC : zCl n c e ρ Z := hX.1.1
  have hW1 : zRw 20 5 N1 a1 b1 Z := hX.1.2.1
  have hW2 : zRw 23 8 N2 a2 b2 Z := hX.1.2.2.1
  have hW3 : zRw 26 8 N3 a3 b3 Z := hX.1.2.2.2
  have hT : zTxX L t Z := hX.2.1
  have hP : zTpX P Z := hX.2.2.1
  have hIx : zImX I Z := hX.2.2.2
  have hk1 : zRok n (N1, a1, b1) := hOk.1.1
  have hk2 : zEok n (N2, a2, b2) := hOk.1.2.1
  have hk3 : zRok n (N3, a3, b3) := hOk.1.2.2
  have r1 := hxr (x + 1).toNat
  have r2 := hxr (x + 2).toNat
  have r3 := hxr (x + 3).toNat
  have r4 := hxr (x + 4).toNat
  have r5 := hxr (x + 5).toNat
  refine ze_aload_n kc_184_1141 rfl ?_
  refine zE_callv 1 kc_184_1142 rfl rfl (Nat.le_of_ble_eq_true rfl) (Nat.le_of_ble_eq_true rfl) (Nat.le_of_ble_eq_true rfl) rfl (by decide +kernel) rfl ?_
  refine m_undoX (R1 := (N1, a1, b1)) (R2 := (N2, a2, b2)) (R3 := (N3, a3, b3)) hC hW1 hW2 hW3 hIx (fun Z1 s1 f1 _ => ?_)
  simp only [Option.toList_some, Option.toList_none, List.drop_succ_cons, List.drop_zero, List.cons_append, List.nil_append]
  have hX1 := zX_U hX s1 f1
  have hY1 := zY_fr hY (fun k a b => f1 k (by omega))
  have hM1 : zMo n c e ρ Z1 := hY1.1.1
  have hV1 : zRwM 4 65 66 5 (N1, a1, b1) Z1 := hY1.1.2.1
  have hV2 : zRwM 7 67 68 8 (N2, a2, b2) Z1 := hY1.1.2.2.1
  have hV3 : zRwM 10 69 70 8 (N3, a3, b3) Z1 := hY1.1.2.2.2
  have hTm : zTxM L t Z1 := hY1.2.1
  have hPm : zTpM P Z1 := hY1.2.2.1
  have hIm : zImM I Z1 := hY1.2.2.2
  have hxb : ∀ j, Z1 1001 j = xs j := fun j => by rw [f1 1001 (by decide)]; exact hxa j
  have hlb : Z1 1002 0 = (Ln : Int) := by rw [f1 1002 (by decide)]; exact hla
  refine ze_aload_n kc_184_1145 rfl ?_
  refine zE_callv 1 kc_184_1146 rfl rfl (Nat.le_of_ble_eq_true rfl) (Nat.le_of_ble_eq_true rfl) (Nat.le_of_ble_eq_true rfl) rfl (by decide +kernel) rfl ?_
  refine m_undoM hM1 hV1 hV2 hV3 hIm (fun Z2 s2 f2 g2 => ?_)
  simp only [Option.toList_some, Option.toList_none, List.drop_succ_cons, List.drop_zero, List.cons_append, List.nil_append]
  have hX2 := zX_fr hX1 (fun k a => f2 k (by omega))
  have hY2 := zY_U hY1 s2 f2 g2
  have hx2 : ∀ j, Z2 1001 j = xs j := fun j => by rw [f2 1001 (by decide)]; exact hxb j
  have hl2 : Z2 1002 0 = (Ln : Int) := by rw [f2 1002 (by decide)]; exact hlb
  exact ze_icmpE kc_184_1149 (kk _ _ ⟨hX2, hY2, (zOk_U hOk), hx2, hl2⟩)

set_option maxHeartbeats 8000000 in
theorem law_count {xs : Nat → Int} {Ln : Nat} {Z : zMem} {Q : Option zAV → zMem → Prop} {x : Int} {n N1 N2 N3 L : Nat} {c a1 b1 a2 b2 a3 b3 t : Nat → Int} {e ρ : Int} {P : zTps} {I : Option zKr} (hLn : Ln ≤ 3072) (hxr : ∀ j, -2147483648 ≤ xs j ∧ xs j ≤ 2147483647) (hx0 : 0 ≤ x) (hx6 : x + 6 ≤ Ln) (hI : zInv xs Ln (((n, c, e, ρ), (N1, a1, b1), (N2, a2, b2), (N3, a3, b3)), (L, t), P, I) Z) (kk : ∀ A' Z', zInv xs Ln A' Z' → zE 184 1390 [some (zR 1001), some (zR 0), some (zR 63), some (zI x)] [] Z' Q) : zE 184 1154 [some (zR 1001), some (zR 0), some (zR 63), some (zI x)] [] Z Q := by
  obtain ⟨hX, hY, hOk, hxa, hla⟩ := hI
  have hC : zCl n c e ρ Z := hX.1.1
  have hW1 : zRw 20 5 N1 a1 b1 Z := hX.1.2.1
  have hW2 : zRw 23 8 N2 a2 b2 Z := hX.1.2.2.1
  have hW3 : zRw 26 8 N3 a3 b3 Z := hX.1.2.2.2
  have hT : zTxX L t Z := hX.2.1
  have hP : zTpX P Z := hX.2.2.1
  have hIx : zImX I Z := hX.2.2.2
  have hk1 : zRok n (N1, a1, b1) := hOk.1.1
  have hk2 : zEok n (N2, a2, b2) := hOk.1.2.1
  have hk3 : zRok n (N3, a3, b3) := hOk.1.2.2
  have r1 := hxr (x + 1).toNat
  have r2 := hxr (x + 2).toNat
  have r3 := hxr (x + 3).toNat
  have r4 := hxr (x + 4).toNat
  have r5 := hxr (x + 5).toNat
  refine ze_aload_n kc_184_1154 rfl ?_
  refine ze_aload_n kc_184_1155 rfl ?_
  refine ze_iload_n kc_184_1156 rfl ?_
  refine ze_iconst kc_184_1157 ?_
  refine ze_iadd kc_184_1158 ?_
  refine ze_iald1 kc_184_1159 (by omega) ?_
  first
    | rw [hxb]
    | rw [hxa]
  refine zE_callv 2 kc_184_1160 rfl rfl (Nat.le_of_ble_eq_true rfl) (Nat.le_of_ble_eq_true rfl) (Nat.le_of_ble_eq_true rfl) rfl (by decide +kernel) rfl ?_
  refine m_countX (by omega) hW1.2.1 hW2.2.1 hW3.2.1 hT.1 ?_
  simp only [Option.toList_some, Option.toList_none, List.drop_succ_cons, List.drop_zero, List.cons_append, List.nil_append]
  have hX1 := hX
  have hY1 := hY
  have hM1 : zMo n c e ρ Z := hY1.1.1
  have hV1 : zRwM 4 65 66 5 (N1, a1, b1) Z := hY1.1.2.1
  have hV2 : zRwM 7 67 68 8 (N2, a2, b2) Z := hY1.1.2.2.1
  have hV3 : zRwM 10 69 70 8 (N3, a3, b3) Z := hY1.1.2.2.2
  have hTm : zTxM L t Z := hY1.2.1
  have hPm : zTpM P Z := hY1.2.2.1
  have hIm : zImM I Z := hY1.2.2.2
  have hxb : ∀ j, Z 1001 j = xs j := fun j => hxa j
  have hlb : Z 1002 0 = (Ln : Int) := hla
  refine ze_aload_n kc_184_1163 rfl ?_
  refine ze_aload_n kc_184_1164 rfl ?_
  refine ze_iload_n kc_184_1165 rfl ?_
  refine ze_iconst kc_184_1166 ?_
  refine ze_iadd kc_184_1167 ?_
  refine ze_iald1 kc_184_1168 (by omega) ?_
  first
    | rw [hxb]
    | rw [hxa]
  refine zE_callv 2 kc_184_1169 rfl rfl (Nat.le_of_ble_eq_true rfl) (Nat.le_of_ble_eq_true rfl) (Nat.le_of_ble_eq_true rfl) rfl (by decide +kernel) rfl ?_
  refine m_countM (by omega) hV1.1 hV2.1 hV3.1 hTm.1 ?_
  simp only [Option.toList_some, Option.toList_none, List.drop_succ_cons, List.drop_zero, List.cons_append, List.nil_append]
  have hX2 := hX1
  have hY2 := hY1
  have hx2 : ∀ j, Z 1001 j = xs j := fun j => by exact hxb j
  have hl2 : Z 1002 0 = (Ln : Int) := by exact hlb
  exact ze_icmpE kc_184_1172 (kk _ _ ⟨hX2, hY2, hOk, hx2, hl2⟩)

set_option maxHeartbeats 8000000 in
theorem law_tape {xs : Nat → Int} {Ln : Nat} {Z : zMem} {Q : Option zAV → zMem → Prop} {x : Int} {n N1 N2 N3 L : Nat} {c a1 b1 a2 b2 a3 b3 t : Nat → Int} {e ρ : Int} {P : zTps} {I : Option zKr} (hLn : Ln ≤ 3072) (hxr : ∀ j, -2147483648 ≤ xs j ∧ xs j ≤ 2147483647) (hx0 : 0 ≤ x) (hx6 : x + 6 ≤ Ln) (hI : zInv xs Ln (((n, c, e, ρ), (N1, a1, b1), (N2, a2, b2), (N3, a3, b3)), (L, t), P, I) Z) (kk : ∀ A' Z', zInv xs Ln A' Z' → zE 184 1390 [some (zR 1001), some (zR 0), some (zR 63), some (zI x)] [] Z' Q) : zE 184 1177 [some (zR 1001), some (zR 0), some (zR 63), some (zI x)] [] Z Q := by
  obtain ⟨hX, hY, hOk, hxa, hla⟩ := hI
  have hC : zCl n c e ρ Z := hX.1.1
  have hW1 : zRw 20 5 N1 a1 b1 Z := hX.1.2.1
  have hW2 : zRw 23 8 N2 a2 b2 Z := hX.1.2.2.1
  have hW3 : zRw 26 8 N3 a3 b3 Z := hX.1.2.2.2
  have hT : zTxX L t Z := hX.2.1
  have hP : zTpX P Z := hX.2.2.1
  have hIx : zImX I Z := hX.2.2.2
  have hk1 : zRok n (N1, a1, b1) := hOk.1.1
  have hk2 : zEok n (N2, a2, b2) := hOk.1.2.1
  have hk3 : zRok n (N3, a3, b3) := hOk.1.2.2
  have r1 := hxr (x + 1).toNat
  have r2 := hxr (x + 2).toNat
  have r3 := hxr (x + 3).toNat
  have r4 := hxr (x + 4).toNat
  have r5 := hxr (x + 5).toNat
  refine ze_aload_n kc_184_1177 rfl ?_
  refine ze_aload_n kc_184_1178 rfl ?_
  refine ze_iload_n kc_184_1179 rfl ?_
  refine ze_iconst kc_184_1180 ?_
  refine ze_iadd kc_184_1181 ?_
  refine ze_iald1 kc_184_1182 (by omega) ?_
  first
    | rw [hxb]
    | rw [hxa]
  refine ze_aload_n kc_184_1183 rfl ?_
  refine ze_iload_n kc_184_1184 rfl ?_
  refine ze_iconst kc_184_1185 ?_
  refine ze_iadd kc_184_1186 ?_
  refine ze_iald1 kc_184_1187 (by omega) ?_
  first
    | rw [hxb]
    | rw [hxa]
  refine ze_aload_n kc_184_1188 rfl ?_
  refine ze_iload_n kc_184_1189 rfl ?_
  refine ze_iconst kc_184_1190 ?_
  refine ze_iadd kc_184_1191 ?_
  refine ze_iald1 kc_184_1192 (by omega) ?_
  first
    | rw [hxb]
    | rw [hxa]
  refine zE_callv 4 kc_184_1193 rfl rfl (Nat.le_of_ble_eq_true rfl) (Nat.le_of_ble_eq_true rfl) (Nat.le_of_ble_eq_true rfl) rfl (by decide +kernel) rfl ?_
  refine m_tapeX hP (by omega) (by omega) (by omega) (fun Z1 s1 f1 => ?_)
  simp only [Option.toList_some, Option.toList_none, List.drop_succ_cons, List.drop_zero, List.cons_append, List.nil_append]
  have hX1 := zX_P hX s1 f1
  have hY1 := zY_fr hY (fun k a b => f1 k (by omega))
  have hM1 : zMo n c e ρ Z1 := hY1.1.1
  have hV1 : zRwM 4 65 66 5 (N1, a1, b1) Z1 := hY1.1.2.1
  have hV2 : zRwM 7 67 68 8 (N2, a2, b2) Z1 := hY1.1.2.2.1
  have hV3 : zRwM 10 69 70 8 (N3, a3, b3) Z1 := hY1.1.2.2.2
  have hTm : zTxM L t Z1 := hY1.2.1
  have hPm : zTpM P Z1 := hY1.2.2.1
  have hIm : zImM I Z1 := hY1.2.2.2
  have hxb : ∀ j, Z1 1001 j = xs j := fun j => by rw [f1 1001 (by decide)]; exact hxa j
  have hlb : Z1 1002 0 = (Ln : Int) := by rw [f1 1002 (by decide)]; exact hla
  refine ze_aload_n kc_184_1196 rfl ?_
  refine ze_aload_n kc_184_1197 rfl ?_
  refine ze_iload_n kc_184_1198 rfl ?_
  refine ze_iconst kc_184_1199 ?_
  refine ze_iadd kc_184_1200 ?_
  refine ze_iald1 kc_184_1201 (by omega) ?_
  first
    | rw [hxb]
    | rw [hxa]
  refine ze_aload_n kc_184_1202 rfl ?_
  refine ze_iload_n kc_184_1203 rfl ?_
  refine ze_iconst kc_184_1204 ?_
  refine ze_iadd kc_184_1205 ?_
  refine ze_iald1 kc_184_1206 (by omega) ?_
  first
    | rw [hxb]
    | rw [hxa]
  refine ze_aload_n kc_184_1207 rfl ?_
  refine ze_iload_n kc_184_1208 rfl ?_
  refine ze_iconst kc_184_1209 ?_
  refine ze_iadd kc_184_1210 ?_
  refine ze_iald1 kc_184_1211 (by omega) ?_
  first
    | rw [hxb]
    | rw [hxa]
  refine zE_callv 4 kc_184_1212 rfl rfl (Nat.le_of_ble_eq_true rfl) (Nat.le_of_ble_eq_true rfl) (Nat.le_of_ble_eq_true rfl) rfl (by decide +kernel) rfl ?_
  refine m_tapeM hPm (by omega) (by omega) (by omega) (fun Z2 s2 f2 => ?_)
  simp only [Option.toList_some, Option.toList_none, List.drop_succ_cons, List.drop_zero, List.cons_append, List.nil_append]
  have hX2 := zX_fr hX1 (fun k a => f2 k (by omega) (by omega) (by omega) (by omega))
  have hY2 := zY_P hY1 s2 f2
  have hx2 : ∀ j, Z2 1001 j = xs j := fun j => by rw [f2 1001 (by decide) (by decide) (by decide) (by decide)]; exact hxb j
  have hl2 : Z2 1002 0 = (Ln : Int) := by rw [f2 1002 (by decide) (by decide) (by decide) (by decide)]; exact hlb
  exact ze_icmpE kc_184_1215 (kk _ _ ⟨hX2, hY2, (zOk_P hOk), hx2, hl2⟩)

set_option maxHeartbeats 8000000 in
theorem law_item {xs : Nat → Int} {Ln : Nat} {Z : zMem} {Q : Option zAV → zMem → Prop} {x : Int} {n N1 N2 N3 L : Nat} {c a1 b1 a2 b2 a3 b3 t : Nat → Int} {e ρ : Int} {P : zTps} {I : Option zKr} (hLn : Ln ≤ 3072) (hxr : ∀ j, -2147483648 ≤ xs j ∧ xs j ≤ 2147483647) (hx0 : 0 ≤ x) (hx6 : x + 6 ≤ Ln) (hI : zInv xs Ln (((n, c, e, ρ), (N1, a1, b1), (N2, a2, b2), (N3, a3, b3)), (L, t), P, I) Z) (kk : ∀ A' Z', zInv xs Ln A' Z' → zE 184 1390 [some (zR 1001), some (zR 0), some (zR 63), some (zI x)] [] Z' Q) : zE 184 1220 [some (zR 1001), some (zR 0), some (zR 63), some (zI x)] [] Z Q := by
  obtain ⟨hX, hY, hOk, hxa, hla⟩ := hI
  have hC : zCl n c e ρ Z := hX.1.1
  have hW1 : zRw 20 5 N1 a1 b1 Z := hX.1.2.1
  have hW2 : zRw 23 8 N2 a2 b2 Z := hX.1.2.2.1
  have hW3 : zRw 26 8 N3 a3 b3 Z := hX.1.2.2.2
  have hT : zTxX L t Z := hX.2.1
  have hP : zTpX P Z := hX.2.2.1
  have hIx : zImX I Z := hX.2.2.2
  have hk1 : zRok n (N1, a1, b1) := hOk.1.1
  have hk2 : zEok n (N2, a2, b2) := hOk.1.2.1
  have hk3 : zRok n (N3, a3, b3) := hOk.1.2.2
  have r1 := hxr (x + 1).toNat
  have r2 := hxr (x + 2).toNat
  have r3 := hxr (x + 3).toNat
  have r4 := hxr (x + 4).toNat
  have r5 := hxr (x + 5).toNat
  refine ze_aload_n kc_184_1220 rfl ?_
  refine ze_aload_n kc_184_1221 rfl ?_
  refine ze_iload_n kc_184_1222 rfl ?_
  refine ze_iconst kc_184_1223 ?_
  refine ze_iadd kc_184_1224 ?_
  refine ze_iald1 kc_184_1225 (by omega) ?_
  first
    | rw [hxb]
    | rw [hxa]
  refine ze_aload_n kc_184_1226 rfl ?_
  refine ze_iload_n kc_184_1227 rfl ?_
  refine ze_iconst kc_184_1228 ?_
  refine ze_iadd kc_184_1229 ?_
  refine ze_iald1 kc_184_1230 (by omega) ?_
  first
    | rw [hxb]
    | rw [hxa]
  refine ze_aload_n kc_184_1231 rfl ?_
  refine ze_iload_n kc_184_1232 rfl ?_
  refine ze_iconst kc_184_1233 ?_
  refine ze_iadd kc_184_1234 ?_
  refine ze_iald1 kc_184_1235 (by omega) ?_
  first
    | rw [hxb]
    | rw [hxa]
  refine ze_i2l kc_184_1236 (by omega) ?_
  refine ze_bipush kc_184_1237 ?_
  refine ze_lshl kc_184_1239 ?_
  refine ze_aload_n kc_184_1240 rfl ?_
  refine ze_iload_n kc_184_1241 rfl ?_
  refine ze_iconst kc_184_1242 ?_
  refine ze_iadd kc_184_1243 ?_
  refine ze_iald1 kc_184_1244 (by omega) ?_
  first
    | rw [hxb]
    | rw [hxa]
  refine ze_i2l kc_184_1245 (by omega) ?_
  refine ze_ldc2L kc_184_1246 ?_
  refine ze_land kc_184_1249 ?_
  refine ze_lor kc_184_1250 ?_
  refine zE_callv 4 kc_184_1251 rfl rfl (Nat.le_of_ble_eq_true rfl) (Nat.le_of_ble_eq_true rfl) (Nat.le_of_ble_eq_true rfl) rfl (by decide +kernel) rfl ?_
  refine m_itemX hP (by omega) (by omega) (z64_any _) (fun Z1 s1 f1 => ?_)
  simp only [Option.toList_some, Option.toList_none, List.drop_succ_cons, List.drop_zero, List.cons_append, List.nil_append]
  have hX1 := zX_P hX s1 f1
  have hY1 := zY_fr hY (fun k a b => f1 k (by omega))
  have hM1 : zMo n c e ρ Z1 := hY1.1.1
  have hV1 : zRwM 4 65 66 5 (N1, a1, b1) Z1 := hY1.1.2.1
  have hV2 : zRwM 7 67 68 8 (N2, a2, b2) Z1 := hY1.1.2.2.1
  have hV3 : zRwM 10 69 70 8 (N3, a3, b3) Z1 := hY1.1.2.2.2
  have hTm : zTxM L t Z1 := hY1.2.1
  have hPm : zTpM P Z1 := hY1.2.2.1
  have hIm : zImM I Z1 := hY1.2.2.2
  have hxb : ∀ j, Z1 1001 j = xs j := fun j => by rw [f1 1001 (by decide)]; exact hxa j
  have hlb : Z1 1002 0 = (Ln : Int) := by rw [f1 1002 (by decide)]; exact hla
  refine ze_aload_n kc_184_1254 rfl ?_
  refine ze_aload_n kc_184_1255 rfl ?_
  refine ze_iload_n kc_184_1256 rfl ?_
  refine ze_iconst kc_184_1257 ?_
  refine ze_iadd kc_184_1258 ?_
  refine ze_iald1 kc_184_1259 (by omega) ?_
  first
    | rw [hxb]
    | rw [hxa]
  refine ze_aload_n kc_184_1260 rfl ?_
  refine ze_iload_n kc_184_1261 rfl ?_
  refine ze_iconst kc_184_1262 ?_
  refine ze_iadd kc_184_1263 ?_
  refine ze_iald1 kc_184_1264 (by omega) ?_
  first
    | rw [hxb]
    | rw [hxa]
  refine ze_aload_n kc_184_1265 rfl ?_
  refine ze_iload_n kc_184_1266 rfl ?_
  refine ze_iconst kc_184_1267 ?_
  refine ze_iadd kc_184_1268 ?_
  refine ze_iald1 kc_184_1269 (by omega) ?_
  first
    | rw [hxb]
    | rw [hxa]
  refine ze_i2l kc_184_1270 (by omega) ?_
  refine ze_bipush kc_184_1271 ?_
  refine ze_lshl kc_184_1273 ?_
  refine ze_aload_n kc_184_1274 rfl ?_
  refine ze_iload_n kc_184_1275 rfl ?_
  refine ze_iconst kc_184_1276 ?_
  refine ze_iadd kc_184_1277 ?_
  refine ze_iald1 kc_184_1278 (by omega) ?_
  first
    | rw [hxb]
    | rw [hxa]
  refine ze_i2l kc_184_1279 (by omega) ?_
  refine ze_ldc2L kc_184_1280 ?_
  refine ze_land kc_184_1283 ?_
  refine ze_lor kc_184_1284 ?_
  refine zE_callv 4 kc_184_1285 rfl rfl (Nat.le_of_ble_eq_true rfl) (Nat.le_of_ble_eq_true rfl) (Nat.le_of_ble_eq_true rfl) rfl (by decide +kernel) rfl ?_
  refine m_itemM hPm (by omega) (by omega) (z64_any _) (fun Z2 s2 f2 => ?_)
  simp only [Option.toList_some, Option.toList_none, List.drop_succ_cons, List.drop_zero, List.cons_append, List.nil_append]
  have hX2 := zX_fr hX1 (fun k a => f2 k (by omega) (by omega) (by omega) (by omega))
  have hY2 := zY_P hY1 s2 f2
  have hx2 : ∀ j, Z2 1001 j = xs j := fun j => by rw [f2 1001 (by decide) (by decide) (by decide) (by decide)]; exact hxb j
  have hl2 : Z2 1002 0 = (Ln : Int) := by rw [f2 1002 (by decide) (by decide) (by decide) (by decide)]; exact hlb
  exact ze_icmpE kc_184_1288 (kk _ _ ⟨hX2, hY2, (zOk_P hOk), hx2, hl2⟩)

set_option maxHeartbeats 8000000 in
theorem law_peek {xs : Nat → Int} {Ln : Nat} {Z : zMem} {Q : Option zAV → zMem → Prop} {x : Int} {n N1 N2 N3 L : Nat} {c a1 b1 a2 b2 a3 b3 t : Nat → Int} {e ρ : Int} {P : zTps} {I : Option zKr} (hLn : Ln ≤ 3072) (hxr : ∀ j, -2147483648 ≤ xs j ∧ xs j ≤ 2147483647) (hx0 : 0 ≤ x) (hx6 : x + 6 ≤ Ln) (hI : zInv xs Ln (((n, c, e, ρ), (N1, a1, b1), (N2, a2, b2), (N3, a3, b3)), (L, t), P, I) Z) (kk : ∀ A' Z', zInv xs Ln A' Z' → zE 184 1390 [some (zR 1001), some (zR 0), some (zR 63), some (zI x)] [] Z' Q) : zE 184 1293 [some (zR 1001), some (zR 0), some (zR 63), some (zI x)] [] Z Q := by
  obtain ⟨hX, hY, hOk, hxa, hla⟩ := hI
  have hC : zCl n c e ρ Z := hX.1.1
  have hW1 : zRw 20 5 N1 a1 b1 Z := hX.1.2.1
  have hW2 : zRw 23 8 N2 a2 b2 Z := hX.1.2.2.1
  have hW3 : zRw 26 8 N3 a3 b3 Z := hX.1.2.2.2
  have hT : zTxX L t Z := hX.2.1
  have hP : zTpX P Z := hX.2.2.1
  have hIx : zImX I Z := hX.2.2.2
  have hk1 : zRok n (N1, a1, b1) := hOk.1.1
  have hk2 : zEok n (N2, a2, b2) := hOk.1.2.1
  have hk3 : zRok n (N3, a3, b3) := hOk.1.2.2
  have r1 := hxr (x + 1).toNat
  have r2 := hxr (x + 2).toNat
  have r3 := hxr (x + 3).toNat
  have r4 := hxr (x + 4).toNat
  have r5 := hxr (x + 5).toNat
  refine ze_aload_n kc_184_1293 rfl ?_
  refine ze_aload_n kc_184_1294 rfl ?_
  refine ze_iload_n kc_184_1295 rfl ?_
  refine ze_iconst kc_184_1296 ?_
  refine ze_iadd kc_184_1297 ?_
  refine ze_iald1 kc_184_1298 (by omega) ?_
  first
    | rw [hxb]
    | rw [hxa]
  refine ze_aload_n kc_184_1299 rfl ?_
  refine ze_iload_n kc_184_1300 rfl ?_
  refine ze_iconst kc_184_1301 ?_
  refine ze_iadd kc_184_1302 ?_
  refine ze_iald1 kc_184_1303 (by omega) ?_
  first
    | rw [hxb]
    | rw [hxa]
  refine zE_callv 3 kc_184_1304 rfl rfl (Nat.le_of_ble_eq_true rfl) (Nat.le_of_ble_eq_true rfl) (Nat.le_of_ble_eq_true rfl) rfl (by decide +kernel) rfl ?_
  refine m_peekX hP (by omega) (by omega) ?_
  simp only [Option.toList_some, Option.toList_none, List.drop_succ_cons, List.drop_zero, List.cons_append, List.nil_append]
  have hX1 := hX
  have hY1 := hY
  have hM1 : zMo n c e ρ Z := hY1.1.1
  have hV1 : zRwM 4 65 66 5 (N1, a1, b1) Z := hY1.1.2.1
  have hV2 : zRwM 7 67 68 8 (N2, a2, b2) Z := hY1.1.2.2.1
  have hV3 : zRwM 10 69 70 8 (N3, a3, b3) Z := hY1.1.2.2.2
  have hTm : zTxM L t Z := hY1.2.1
  have hPm : zTpM P Z := hY1.2.2.1
  have hIm : zImM I Z := hY1.2.2.2
  have hxb : ∀ j, Z 1001 j = xs j := fun j => hxa j
  have hlb : Z 1002 0 = (Ln : Int) := hla
  refine ze_aload_n kc_184_1307 rfl ?_
  refine ze_aload_n kc_184_1308 rfl ?_
  refine ze_iload_n kc_184_1309 rfl ?_
  refine ze_iconst kc_184_1310 ?_
  refine ze_iadd kc_184_1311 ?_
  refine ze_iald1 kc_184_1312 (by omega) ?_
  first
    | rw [hxb]
    | rw [hxa]
  refine ze_aload_n kc_184_1313 rfl ?_
  refine ze_iload_n kc_184_1314 rfl ?_
  refine ze_iconst kc_184_1315 ?_
  refine ze_iadd kc_184_1316 ?_
  refine ze_iald1 kc_184_1317 (by omega) ?_
  first
    | rw [hxb]
    | rw [hxa]
  refine zE_callv 3 kc_184_1318 rfl rfl (Nat.le_of_ble_eq_true rfl) (Nat.le_of_ble_eq_true rfl) (Nat.le_of_ble_eq_true rfl) rfl (by decide +kernel) rfl ?_
  refine m_peekM hPm (by omega) (by omega) ?_
  simp only [Option.toList_some, Option.toList_none, List.drop_succ_cons, List.drop_zero, List.cons_append, List.nil_append]
  have hX2 := hX1
  have hY2 := hY1
  have hx2 : ∀ j, Z 1001 j = xs j := fun j => by exact hxb j
  have hl2 : Z 1002 0 = (Ln : Int) := by exact hlb
  exact ze_lcmpE kc_184_1321 kc_184_1322 (kk _ _ ⟨hX2, hY2, hOk, hx2, hl2⟩)

set_option maxHeartbeats 8000000 in
theorem law_shift {xs : Nat → Int} {Ln : Nat} {Z : zMem} {Q : Option zAV → zMem → Prop} {x : Int} {n N1 N2 N3 L : Nat} {c a1 b1 a2 b2 a3 b3 t : Nat → Int} {e ρ : Int} {P : zTps} {I : Option zKr} (hLn : Ln ≤ 3072) (hxr : ∀ j, -2147483648 ≤ xs j ∧ xs j ≤ 2147483647) (hx0 : 0 ≤ x) (hx6 : x + 6 ≤ Ln) (hI : zInv xs Ln (((n, c, e, ρ), (N1, a1, b1), (N2, a2, b2), (N3, a3, b3)), (L, t), P, I) Z) (kk : ∀ A' Z', zInv xs Ln A' Z' → zE 184 1390 [some (zR 1001), some (zR 0), some (zR 63), some (zI x)] [] Z' Q) : zE 184 1327 [some (zR 1001), some (zR 0), some (zR 63), some (zI x)] [] Z Q := by
  obtain ⟨hX, hY, hOk, hxa, hla⟩ := hI
  have hC : zCl n c e ρ Z := hX.1.1
  have hW1 : zRw 20 5 N1 a1 b1 Z := hX.1.2.1
  have hW2 : zRw 23 8 N2 a2 b2 Z := hX.1.2.2.1
  have hW3 : zRw 26 8 N3 a3 b3 Z := hX.1.2.2.2
  have hT : zTxX L t Z := hX.2.1
  have hP : zTpX P Z := hX.2.2.1
  have hIx : zImX I Z := hX.2.2.2
  have hk1 : zRok n (N1, a1, b1) := hOk.1.1
  have hk2 : zEok n (N2, a2, b2) := hOk.1.2.1
  have hk3 : zRok n (N3, a3, b3) := hOk.1.2.2
  have r1 := hxr (x + 1).toNat
  have r2 := hxr (x + 2).toNat
  have r3 := hxr (x + 3).toNat
  have r4 := hxr (x + 4).toNat
  have r5 := hxr (x + 5).toNat
  refine ze_aload_n kc_184_1327 rfl ?_
  refine ze_aload_n kc_184_1328 rfl ?_
  refine ze_iload_n kc_184_1329 rfl ?_
  refine ze_iconst kc_184_1330 ?_
  refine ze_iadd kc_184_1331 ?_
  refine ze_iald1 kc_184_1332 (by omega) ?_
  first
    | rw [hxb]
    | rw [hxa]
  refine ze_aload_n kc_184_1333 rfl ?_
  refine ze_iload_n kc_184_1334 rfl ?_
  refine ze_iconst kc_184_1335 ?_
  refine ze_iadd kc_184_1336 ?_
  refine ze_iald1 kc_184_1337 (by omega) ?_
  first
    | rw [hxb]
    | rw [hxa]
  refine ze_aload_n kc_184_1338 rfl ?_
  refine ze_iload_n kc_184_1339 rfl ?_
  refine ze_iconst kc_184_1340 ?_
  refine ze_iadd kc_184_1341 ?_
  refine ze_iald1 kc_184_1342 (by omega) ?_
  first
    | rw [hxb]
    | rw [hxa]
  refine ze_aload_n kc_184_1343 rfl ?_
  refine ze_iload_n kc_184_1344 rfl ?_
  refine ze_iconst kc_184_1345 ?_
  refine ze_iadd kc_184_1346 ?_
  refine ze_iald1 kc_184_1347 (by omega) ?_
  first
    | rw [hxb]
    | rw [hxa]
  refine ze_aload_n kc_184_1348 rfl ?_
  refine ze_iload_n kc_184_1349 rfl ?_
  refine ze_iconst kc_184_1350 ?_
  refine ze_iadd kc_184_1351 ?_
  refine ze_iald1 kc_184_1352 (by omega) ?_
  first
    | rw [hxb]
    | rw [hxa]
  refine zE_callv 6 kc_184_1353 rfl rfl (Nat.le_of_ble_eq_true rfl) (Nat.le_of_ble_eq_true rfl) (Nat.le_of_ble_eq_true rfl) rfl (by decide +kernel) rfl ?_
  refine m_shiftX hP (by omega) (by omega) (by omega) (by omega) (by omega) (fun Z1 s1 f1 => ?_)
  simp only [Option.toList_some, Option.toList_none, List.drop_succ_cons, List.drop_zero, List.cons_append, List.nil_append]
  have hX1 := zX_P hX s1 f1
  have hY1 := zY_fr hY (fun k a b => f1 k (by omega))
  have hM1 : zMo n c e ρ Z1 := hY1.1.1
  have hV1 : zRwM 4 65 66 5 (N1, a1, b1) Z1 := hY1.1.2.1
  have hV2 : zRwM 7 67 68 8 (N2, a2, b2) Z1 := hY1.1.2.2.1
  have hV3 : zRwM 10 69 70 8 (N3, a3, b3) Z1 := hY1.1.2.2.2
  have hTm : zTxM L t Z1 := hY1.2.1
  have hPm : zTpM P Z1 := hY1.2.2.1
  have hIm : zImM I Z1 := hY1.2.2.2
  have hxb : ∀ j, Z1 1001 j = xs j := fun j => by rw [f1 1001 (by decide)]; exact hxa j
  have hlb : Z1 1002 0 = (Ln : Int) := by rw [f1 1002 (by decide)]; exact hla
  refine ze_aload_n kc_184_1356 rfl ?_
  refine ze_aload_n kc_184_1357 rfl ?_
  refine ze_iload_n kc_184_1358 rfl ?_
  refine ze_iconst kc_184_1359 ?_
  refine ze_iadd kc_184_1360 ?_
  refine ze_iald1 kc_184_1361 (by omega) ?_
  first
    | rw [hxb]
    | rw [hxa]
  refine ze_aload_n kc_184_1362 rfl ?_
  refine ze_iload_n kc_184_1363 rfl ?_
  refine ze_iconst kc_184_1364 ?_
  refine ze_iadd kc_184_1365 ?_
  refine ze_iald1 kc_184_1366 (by omega) ?_
  first
    | rw [hxb]
    | rw [hxa]
  refine ze_aload_n kc_184_1367 rfl ?_
  refine ze_iload_n kc_184_1368 rfl ?_
  refine ze_iconst kc_184_1369 ?_
  refine ze_iadd kc_184_1370 ?_
  refine ze_iald1 kc_184_1371 (by omega) ?_
  first
    | rw [hxb]
    | rw [hxa]
  refine ze_aload_n kc_184_1372 rfl ?_
  refine ze_iload_n kc_184_1373 rfl ?_
  refine ze_iconst kc_184_1374 ?_
  refine ze_iadd kc_184_1375 ?_
  refine ze_iald1 kc_184_1376 (by omega) ?_
  first
    | rw [hxb]
    | rw [hxa]
  refine ze_aload_n kc_184_1377 rfl ?_
  refine ze_iload_n kc_184_1378 rfl ?_
  refine ze_iconst kc_184_1379 ?_
  refine ze_iadd kc_184_1380 ?_
  refine ze_iald1 kc_184_1381 (by omega) ?_
  first
    | rw [hxb]
    | rw [hxa]
  refine zE_callv 6 kc_184_1382 rfl rfl (Nat.le_of_ble_eq_true rfl) (Nat.le_of_ble_eq_true rfl) (Nat.le_of_ble_eq_true rfl) rfl (by decide +kernel) rfl ?_
  refine m_shiftM hPm (by omega) (by omega) (by omega) (by omega) (by omega) (fun Z2 s2 f2 => ?_)
  simp only [Option.toList_some, Option.toList_none, List.drop_succ_cons, List.drop_zero, List.cons_append, List.nil_append]
  have hX2 := zX_fr hX1 (fun k a => f2 k (by omega) (by omega) (by omega) (by omega))
  have hY2 := zY_P hY1 s2 f2
  have hx2 : ∀ j, Z2 1001 j = xs j := fun j => by rw [f2 1001 (by decide) (by decide) (by decide) (by decide)]; exact hxb j
  have hl2 : Z2 1002 0 = (Ln : Int) := by rw [f2 1002 (by decide) (by decide) (by decide) (by decide)]; exact hlb
  exact ze_icmpE kc_184_1385 (kk _ _ ⟨hX2, hY2, (zOk_P hOk), hx2, hl2⟩)
