/-! ROWS TOLD BY HAND -/
set_option maxHeartbeats 4000000 in
theorem m_tell {Z : zMem} {Q : Option zAV → zMem → Prop} {n : Nat} {c : Nat → Int} {e ρ : Int} (hC : zCl n c e ρ Z) {r m N : Nat} {a b : Nat → Int} (hR : zrF r m) (hm : m ≤ 8) (hW : zRw r m N a b Z) {i v : Int} (hi : -2147483648 ≤ i ∧ i ≤ 2147483647) (hv : -2147483648 ≤ v ∧ v ≤ 2147483647) (q1 : ∀ Z', zRwX r m (sTell n m (N, a, b) i v) Z' → (∀ k, k < r ∨ r + 2 < k → Z' k = Z k) → Q (some (zI (oTell n m (N, a, b) i v))) Z') : zE 67 0 (zent 67 [zR 0, zR r, zI i, zI v]) [] Z Q := by
  show zE 67 0 [some (zR 0), some (zR r), some (zI i), some (zI v)] [] Z Q
  obtain ⟨hU0, hG0, n6, n0, cc, cr, ce, cρ, ceR, cρR, c11, c16⟩ := zCl_o hC
  have csr := zsum_range cr
  have hR0 := hR
  obtain ⟨rT0, rT1, rT2, rR0, rR1⟩ := hR
  have hW0 := hW
  obtain ⟨w1, w2, w3, w4, w5⟩ := hW
  refine ze_iload_n kc_67_0 rfl ?_
  refine ze_iconst kc_67_1 ?_
  refine ze_icmp_ne kc_67_2 (by omega) (by omega) (fun h2 => ?_) (fun h2 => ?_)
  · skip
    refine ze_aload_n kc_67_12 rfl ?_
    refine ze_getR kc_67_13 (by first | assumption | rfl) rfl (by first | assumption | rfl) ?_
    refine ze_getR kc_67_16 (by first | assumption | rfl) rfl (by first | assumption | rfl) ?_
    refine ze_iload_n kc_67_19 rfl ?_
    refine zE_callv 2 kc_67_20 rfl rfl (Nat.le_of_ble_eq_true rfl) (Nat.le_of_ble_eq_true rfl) (Nat.le_of_ble_eq_true rfl) (by first | assumption | rfl) (by decide +kernel) rfl ?_
    refine m_has zgF_2 (by omega) (by omega) (fun g20 => ?_) (fun g20 => ?_)
    · simp only [Option.toList_some, Option.toList_none, List.drop_succ_cons, List.drop_zero, List.cons_append, List.nil_append]
      refine ze_if_ne kc_67_23 (by decide) (fun _ => ?_) (fun q => absurd q (by decide))
      refine ze_iload_n kc_67_28 rfl ?_
      refine ze_if_lt kc_67_29 (by omega) (fun h29 => ?_) (fun h29 => ?_)
      · skip
        refine ze_bipush kc_67_38 ?_
        refine ze_goto kc_67_40 ?_
        refine ze_ireturn kc_67_49 (Or.inl rfl) ?_
        first
          | (have hz := r1
             have g1 : 0 ≤ i ∧ i < (n : Int) := by omega
             have g2 : 0 ≤ v ∧ v ≤ 60 := by omega
             rw [show sTell n m (N, a, b) i v = (N + 1, zext a N i, zext b N v) from (if_neg (by omega)).trans (if_pos (show ((0 ≤ i ∧ i < (n : Int)) ∧ (0 ≤ v ∧ v ≤ 60)) ∧ N < m from ⟨⟨g1, g2⟩, hN⟩))] at q1
             rw [show oTell n m (N, a, b) i v = ((N + 1 : Nat) : Int) from (if_neg (by omega)).trans ((if_neg (fun q => q g1)).trans ((if_neg (fun q => q g2)).trans (if_pos hN)))] at q1
             exact q1 _ r1 r2)
          | (have hz : N = m := hN
             have g1 : 0 ≤ i ∧ i < (n : Int) := by omega
             have g2 : 0 ≤ v ∧ v ≤ 60 := by omega
             rw [show sTell n m (N, a, b) i v = (N, a, b) from (if_neg (by omega)).trans (if_neg (show ¬ (((0 ≤ i ∧ i < (n : Int)) ∧ (0 ≤ v ∧ v ≤ 60)) ∧ N < m) by omega))] at q1
             rw [show oTell n m (N, a, b) i v = -4 from (if_neg (by omega)).trans ((if_neg (fun q => q g1)).trans ((if_neg (fun q => q g2)).trans (if_neg (show ¬ N < m by omega))))] at q1
             exact q1 _ hW0 (fun _ _ => rfl))
          | (have g1 : 0 ≤ i ∧ i < (n : Int) := by omega
             rw [show sTell n m (N, a, b) i v = (N, a, b) from (if_neg (by omega)).trans (if_neg (show ¬ (((0 ≤ i ∧ i < (n : Int)) ∧ (0 ≤ v ∧ v ≤ 60)) ∧ N < m) by omega))] at q1
             rw [show oTell n m (N, a, b) i v = -2 from (if_neg (by omega)).trans ((if_neg (fun q => q g1)).trans (if_pos (show ¬ (0 ≤ v ∧ v ≤ 60) by omega)))] at q1
             exact q1 _ hW0 (fun _ _ => rfl))
      · skip
        refine ze_iload_n kc_67_32 rfl ?_
        refine ze_bipush kc_67_33 ?_
        refine ze_icmp_le kc_67_35 (by omega) (by omega) (fun h35 => ?_) (fun h35 => ?_)
        · skip
          refine ze_aload_n kc_67_43 rfl ?_
          refine ze_iload_n kc_67_44 rfl ?_
          refine ze_iload_n kc_67_45 rfl ?_
          refine zE_callv 3 kc_67_46 rfl rfl (Nat.le_of_ble_eq_true rfl) (Nat.le_of_ble_eq_true rfl) (Nat.le_of_ble_eq_true rfl) (by first | assumption | rfl) (by decide +kernel) rfl ?_
          refine m_addR hR0 hm hW0 (fun hN Z2 r1 r2 => ?_) (fun hN => ?_)
          · simp only [Option.toList_some, Option.toList_none, List.drop_succ_cons, List.drop_zero, List.cons_append, List.nil_append]
            refine ze_ireturn kc_67_49 (Or.inl rfl) ?_
            first
              | (have hz := r1
                 have g1 : 0 ≤ i ∧ i < (n : Int) := by omega
                 have g2 : 0 ≤ v ∧ v ≤ 60 := by omega
                 rw [show sTell n m (N, a, b) i v = (N + 1, zext a N i, zext b N v) from (if_neg (by omega)).trans (if_pos (show ((0 ≤ i ∧ i < (n : Int)) ∧ (0 ≤ v ∧ v ≤ 60)) ∧ N < m from ⟨⟨g1, g2⟩, hN⟩))] at q1
                 rw [show oTell n m (N, a, b) i v = ((N + 1 : Nat) : Int) from (if_neg (by omega)).trans ((if_neg (fun q => q g1)).trans ((if_neg (fun q => q g2)).trans (if_pos hN)))] at q1
                 exact q1 _ r1 r2)
              | (have hz : N = m := hN
                 have g1 : 0 ≤ i ∧ i < (n : Int) := by omega
                 have g2 : 0 ≤ v ∧ v ≤ 60 := by omega
                 rw [show sTell n m (N, a, b) i v = (N, a, b) from (if_neg (by omega)).trans (if_neg (show ¬ (((0 ≤ i ∧ i < (n : Int)) ∧ (0 ≤ v ∧ v ≤ 60)) ∧ N < m) by omega))] at q1
                 rw [show oTell n m (N, a, b) i v = -4 from (if_neg (by omega)).trans ((if_neg (fun q => q g1)).trans ((if_neg (fun q => q g2)).trans (if_neg (show ¬ N < m by omega))))] at q1
                 exact q1 _ hW0 (fun _ _ => rfl))
              | (have g1 : 0 ≤ i ∧ i < (n : Int) := by omega
                 rw [show sTell n m (N, a, b) i v = (N, a, b) from (if_neg (by omega)).trans (if_neg (show ¬ (((0 ≤ i ∧ i < (n : Int)) ∧ (0 ≤ v ∧ v ≤ 60)) ∧ N < m) by omega))] at q1
                 rw [show oTell n m (N, a, b) i v = -2 from (if_neg (by omega)).trans ((if_neg (fun q => q g1)).trans (if_pos (show ¬ (0 ≤ v ∧ v ≤ 60) by omega)))] at q1
                 exact q1 _ hW0 (fun _ _ => rfl))
          · simp only [Option.toList_some, Option.toList_none, List.drop_succ_cons, List.drop_zero, List.cons_append, List.nil_append]
            refine ze_ireturn kc_67_49 (Or.inl rfl) ?_
            first
              | (have hz := r1
                 have g1 : 0 ≤ i ∧ i < (n : Int) := by omega
                 have g2 : 0 ≤ v ∧ v ≤ 60 := by omega
                 rw [show sTell n m (N, a, b) i v = (N + 1, zext a N i, zext b N v) from (if_neg (by omega)).trans (if_pos (show ((0 ≤ i ∧ i < (n : Int)) ∧ (0 ≤ v ∧ v ≤ 60)) ∧ N < m from ⟨⟨g1, g2⟩, hN⟩))] at q1
                 rw [show oTell n m (N, a, b) i v = ((N + 1 : Nat) : Int) from (if_neg (by omega)).trans ((if_neg (fun q => q g1)).trans ((if_neg (fun q => q g2)).trans (if_pos hN)))] at q1
                 exact q1 _ r1 r2)
              | (have hz : N = m := hN
                 have g1 : 0 ≤ i ∧ i < (n : Int) := by omega
                 have g2 : 0 ≤ v ∧ v ≤ 60 := by omega
                 rw [show sTell n m (N, a, b) i v = (N, a, b) from (if_neg (by omega)).trans (if_neg (show ¬ (((0 ≤ i ∧ i < (n : Int)) ∧ (0 ≤ v ∧ v ≤ 60)) ∧ N < m) by omega))] at q1
                 rw [show oTell n m (N, a, b) i v = -4 from (if_neg (by omega)).trans ((if_neg (fun q => q g1)).trans ((if_neg (fun q => q g2)).trans (if_neg (show ¬ N < m by omega))))] at q1
                 exact q1 _ hW0 (fun _ _ => rfl))
              | (have g1 : 0 ≤ i ∧ i < (n : Int) := by omega
                 rw [show sTell n m (N, a, b) i v = (N, a, b) from (if_neg (by omega)).trans (if_neg (show ¬ (((0 ≤ i ∧ i < (n : Int)) ∧ (0 ≤ v ∧ v ≤ 60)) ∧ N < m) by omega))] at q1
                 rw [show oTell n m (N, a, b) i v = -2 from (if_neg (by omega)).trans ((if_neg (fun q => q g1)).trans (if_pos (show ¬ (0 ≤ v ∧ v ≤ 60) by omega)))] at q1
                 exact q1 _ hW0 (fun _ _ => rfl))
        · skip
          refine ze_bipush kc_67_38 ?_
          refine ze_goto kc_67_40 ?_
          refine ze_ireturn kc_67_49 (Or.inl rfl) ?_
          first
            | (have hz := r1
               have g1 : 0 ≤ i ∧ i < (n : Int) := by omega
               have g2 : 0 ≤ v ∧ v ≤ 60 := by omega
               rw [show sTell n m (N, a, b) i v = (N + 1, zext a N i, zext b N v) from (if_neg (by omega)).trans (if_pos (show ((0 ≤ i ∧ i < (n : Int)) ∧ (0 ≤ v ∧ v ≤ 60)) ∧ N < m from ⟨⟨g1, g2⟩, hN⟩))] at q1
               rw [show oTell n m (N, a, b) i v = ((N + 1 : Nat) : Int) from (if_neg (by omega)).trans ((if_neg (fun q => q g1)).trans ((if_neg (fun q => q g2)).trans (if_pos hN)))] at q1
               exact q1 _ r1 r2)
            | (have hz : N = m := hN
               have g1 : 0 ≤ i ∧ i < (n : Int) := by omega
               have g2 : 0 ≤ v ∧ v ≤ 60 := by omega
               rw [show sTell n m (N, a, b) i v = (N, a, b) from (if_neg (by omega)).trans (if_neg (show ¬ (((0 ≤ i ∧ i < (n : Int)) ∧ (0 ≤ v ∧ v ≤ 60)) ∧ N < m) by omega))] at q1
               rw [show oTell n m (N, a, b) i v = -4 from (if_neg (by omega)).trans ((if_neg (fun q => q g1)).trans ((if_neg (fun q => q g2)).trans (if_neg (show ¬ N < m by omega))))] at q1
               exact q1 _ hW0 (fun _ _ => rfl))
            | (have g1 : 0 ≤ i ∧ i < (n : Int) := by omega
               rw [show sTell n m (N, a, b) i v = (N, a, b) from (if_neg (by omega)).trans (if_neg (show ¬ (((0 ≤ i ∧ i < (n : Int)) ∧ (0 ≤ v ∧ v ≤ 60)) ∧ N < m) by omega))] at q1
               rw [show oTell n m (N, a, b) i v = -2 from (if_neg (by omega)).trans ((if_neg (fun q => q g1)).trans (if_pos (show ¬ (0 ≤ v ∧ v ≤ 60) by omega)))] at q1
               exact q1 _ hW0 (fun _ _ => rfl))
    · simp only [Option.toList_some, Option.toList_none, List.drop_succ_cons, List.drop_zero, List.cons_append, List.nil_append]
      refine ze_if_ne kc_67_23 (by decide) (fun q => absurd q (by decide)) (fun _ => ?_)
      refine ze_iconst kc_67_26 ?_
      refine ze_ireturn kc_67_27 (Or.inl rfl) ?_
      rw [show sTell n m (N, a, b) i v = (N, a, b) from (if_neg (by omega)).trans (if_neg (show ¬ (((0 ≤ i ∧ i < (n : Int)) ∧ (0 ≤ v ∧ v ≤ 60)) ∧ N < m) by omega))] at q1
      rw [show oTell n m (N, a, b) i v = -1 from (if_neg (by omega)).trans (if_pos (show ¬ (0 ≤ i ∧ i < (n : Int)) by omega))] at q1
      exact q1 _ hW0 (fun _ _ => rfl)
  · skip
    refine ze_aload_n kc_67_5 rfl ?_
    refine ze_iconst kc_67_6 ?_
    refine ze_putI kc_67_7 (by first | assumption | rfl) rfl ?_
    refine ze_iconst kc_67_10 ?_
    refine ze_ireturn kc_67_11 (Or.inl rfl) ?_
    rw [show sTell n m (N, a, b) i v = (0, a, b) from if_pos (by omega)] at q1
    rw [show oTell n m (N, a, b) i v = 0 from if_pos (by omega)] at q1
    refine q1 _ ⟨?_, zup_s, by omega, fun i hi => by omega, fun i hi => by omega⟩ (fun k hk => zup_ne' (by omega))
    rw [zup_o (by decide)]; exact w1

set_option maxHeartbeats 4000000 in
theorem m_seeX {Z : zMem} {Q : Option zAV → zMem → Prop} {n : Nat} {c : Nat → Int} {e ρ : Int} (hC : zCl n c e ρ Z) {N : Nat} {a b : Nat → Int} (hW : zRw 20 5 N a b Z) {i v : Int} (hi : -2147483648 ≤ i ∧ i ≤ 2147483647) (hv : -2147483648 ≤ v ∧ v ≤ 2147483647) (q1 : ∀ Z', zRwX 20 5 (sTell n 5 (N, a, b) i v) Z' → (∀ k, k < 20 ∨ 20 + 2 < k → Z' k = Z k) → Q (some (zI (oTell n 5 (N, a, b) i v))) Z') : zE 66 0 (zent 66 [zR 0, zI i, zI v]) [] Z Q := by
  show zE 66 0 [some (zR 0), some (zI i), some (zI v)] [] Z Q
  refine ze_aload_n kc_66_0 rfl ?_
  refine ze_aload_n kc_66_1 rfl ?_
  refine ze_getR kc_66_2 rfl rfl rfl ?_
  refine ze_iload_n kc_66_5 rfl ?_
  refine ze_iload_n kc_66_6 rfl ?_
  refine zE_callv 4 kc_66_7 rfl rfl (Nat.le_of_ble_eq_true rfl) (Nat.le_of_ble_eq_true rfl) (Nat.le_of_ble_eq_true rfl) rfl (by decide +kernel) rfl ?_
  refine m_tell (r := 20) (m := 5) hC zrF_20 (by decide) hW (by omega) (by omega) (fun Z2 r1 r2 => ?_)
  simp only [Option.toList_some, Option.toList_none, List.drop_succ_cons, List.drop_zero, List.cons_append, List.nil_append]
  refine ze_ireturn kc_66_10 (Or.inl rfl) ?_
  exact q1 _ r1 r2

set_option maxHeartbeats 4000000 in
theorem m_bookX {Z : zMem} {Q : Option zAV → zMem → Prop} {n : Nat} {c : Nat → Int} {e ρ : Int} (hC : zCl n c e ρ Z) {N : Nat} {a b : Nat → Int} (hW : zRw 26 8 N a b Z) {i v : Int} (hi : -2147483648 ≤ i ∧ i ≤ 2147483647) (hv : -2147483648 ≤ v ∧ v ≤ 2147483647) (q1 : ∀ Z', zRwX 26 8 (sTell n 8 (N, a, b) i v) Z' → (∀ k, k < 26 ∨ 26 + 2 < k → Z' k = Z k) → Q (some (zI (oTell n 8 (N, a, b) i v))) Z') : zE 74 0 (zent 74 [zR 0, zI i, zI v]) [] Z Q := by
  show zE 74 0 [some (zR 0), some (zI i), some (zI v)] [] Z Q
  refine ze_aload_n kc_74_0 rfl ?_
  refine ze_aload_n kc_74_1 rfl ?_
  refine ze_getR kc_74_2 rfl rfl rfl ?_
  refine ze_iload_n kc_74_5 rfl ?_
  refine ze_iload_n kc_74_6 rfl ?_
  refine zE_callv 4 kc_74_7 rfl rfl (Nat.le_of_ble_eq_true rfl) (Nat.le_of_ble_eq_true rfl) (Nat.le_of_ble_eq_true rfl) rfl (by decide +kernel) rfl ?_
  refine m_tell (r := 26) (m := 8) hC zrF_26 (by decide) hW (by omega) (by omega) (fun Z2 r1 r2 => ?_)
  simp only [Option.toList_some, Option.toList_none, List.drop_succ_cons, List.drop_zero, List.cons_append, List.nil_append]
  refine ze_ireturn kc_74_10 (Or.inl rfl) ?_
  exact q1 _ r1 r2

set_option maxHeartbeats 4000000 in
theorem m_seeM {Z : zMem} {Q : Option zAV → zMem → Prop} {n : Nat} {c : Nat → Int} {e ρ : Int} (hM : zMo n c e ρ Z) {N : Nat} {a b : Nat → Int} (hW : zRwM 4 65 66 5 (N, a, b) Z) {i v : Int} (hi : -2147483648 ≤ i ∧ i ≤ 2147483647) (hv : -2147483648 ≤ v ∧ v ≤ 2147483647) (q1 : ∀ Z', zRwM 4 65 66 5 (sTell n 5 (N, a, b) i v) Z' → zFRm 4 65 66 Z Z' → Q (some (zI (oTell n 5 (N, a, b) i v))) Z') : zE 151 0 (zent 151 [zR 63, zI i, zI v]) [] Z Q := by
  show zE 151 0 [some (zR 63), some (zI i), some (zI v)] [] Z Q
  have hM0 := hM
  obtain ⟨n0, n6, mc, mr, me, mρ, meR, mρR⟩ := hM
  have msr := zsum_range mr
  have hp6 := zpow6 n6
  have hW0 := hW
  obtain ⟨w1, w2, w3, w4⟩ := hW
  replace w1 : Z 63 4 = (N : Int) := w1
  replace w2 : N ≤ 5 := w2
  refine ze_iload_n kc_151_0 rfl ?_
  refine ze_iconst kc_151_1 ?_
  refine ze_icmp_ne kc_151_2 (by omega) (by omega) (fun h2 => ?_) (fun h2 => ?_)
  · skip
    refine ze_aload_n kc_151_12 rfl ?_
    refine ze_iload_n kc_151_13 rfl ?_
    refine zE_callv 2 kc_151_14 rfl rfl (Nat.le_of_ble_eq_true rfl) (Nat.le_of_ble_eq_true rfl) (Nat.le_of_ble_eq_true rfl) rfl (by decide +kernel) rfl ?_
    refine m_isOne hM0 (by omega) (fun g14 => ?_) (fun g14 => ?_)
    · simp only [Option.toList_some, Option.toList_none, List.drop_succ_cons, List.drop_zero, List.cons_append, List.nil_append]
      refine ze_if_ne kc_151_17 (by decide) (fun _ => ?_) (fun q => absurd q (by decide))
      refine ze_iload_n kc_151_22 rfl ?_
      refine ze_iconst kc_151_23 ?_
      refine ze_bipush kc_151_24 ?_
      refine zE_calls 3 kc_151_26 rfl rfl (Nat.le_of_ble_eq_true rfl) (Nat.le_of_ble_eq_true rfl) (Nat.le_of_ble_eq_true rfl) rfl ?_
      refine m_in (by omega) (by omega) (by omega) (fun g26 => ?_) (fun g26 => ?_)
      · simp only [Option.toList_some, Option.toList_none, List.drop_succ_cons, List.drop_zero, List.cons_append, List.nil_append]
        refine ze_if_ne kc_151_29 (by decide) (fun _ => ?_) (fun q => absurd q (by decide))
        refine ze_aload_n kc_151_35 rfl ?_
        refine ze_getI kc_151_36 rfl (by decide) ?_
        rw [w1]
        refine ze_iconst kc_151_39 ?_
        refine ze_icmp_ne kc_151_40 (by omega) (by omega) (fun h40 => ?_) (fun h40 => ?_)
        · skip
          refine ze_aload_n kc_151_46 rfl ?_
          refine ze_getR kc_151_47 rfl rfl rfl ?_
          refine ze_aload_n kc_151_50 rfl ?_
          refine ze_getI kc_151_51 rfl (by decide) ?_
          rw [w1]
          refine ze_iload_n kc_151_54 rfl ?_
          refine ze_iast kc_151_55 rfl (by omega) ?_
          rw [Int.toNat_natCast]
          refine ze_aload_n kc_151_56 rfl ?_
          refine ze_getR kc_151_57 rfl rfl rfl ?_
          refine ze_aload_n kc_151_60 rfl ?_
          refine ze_getI kc_151_61 rfl (by decide) ?_
          rw [zup_ne' (by decide), w1]
          refine ze_iload_n kc_151_64 rfl ?_
          refine ze_iast kc_151_65 rfl (by omega) ?_
          rw [Int.toNat_natCast]
          refine ze_aload_n kc_151_66 rfl ?_
          refine ze_dup kc_151_67 rfl ?_
          refine ze_getI kc_151_68 rfl (by decide) ?_
          rw [zup_ne' (by decide), zup_ne' (by decide), w1]
          refine ze_iconst kc_151_71 ?_
          refine ze_iadd kc_151_72 ?_
          refine ze_putI kc_151_73 rfl rfl ?_
          refine ze_aload_n kc_151_76 rfl ?_
          refine ze_getI kc_151_77 rfl (by decide) ?_
          rw [zup_s]
          refine ze_ireturn kc_151_80 (Or.inl rfl) ?_
          have hN : N < 5 := by omega
          have g1 : 0 ≤ i ∧ i < (n : Int) := by omega
          have g2 : 0 ≤ v ∧ v ≤ 60 := by omega
          rw [show sTell n 5 (N, a, b) i v = (N + 1, zext a N i, zext b N v) from (if_neg (by omega)).trans (if_pos (show ((0 ≤ i ∧ i < (n : Int)) ∧ (0 ≤ v ∧ v ≤ 60)) ∧ N < 5 from ⟨⟨g1, g2⟩, hN⟩))] at q1
          rw [show oTell n 5 (N, a, b) i v = ((N + 1 : Nat) : Int) from (if_neg (by omega)).trans ((if_neg (fun q => q g1)).trans ((if_neg (fun q => q g2)).trans (if_pos hN)))] at q1
          rw [show (N : Int) + 1 = ((N + 1 : Nat) : Int) by omega]
          refine q1 _ ⟨by rw [zup_s], by omega, fun j hj => ?_, fun j hj => ?_⟩ ⟨fun k a b d => ?_, fun j a => ?_⟩
          · replace hj : j < N + 1 := hj
            show zup _ 63 4 _ 65 j = zext a N i j
            rw [zup_ne' (by decide), zup_ne' (by decide)]
            by_cases q : j = N
            · rw [q, zup_s]; exact (if_pos rfl).symm
            · rw [zup_o q, zext_lt (by omega)]; exact w3 j (by show j < N; omega)
          · replace hj : j < N + 1 := hj
            show zup _ 63 4 _ 66 j = zext b N v j
            rw [zup_ne' (by decide)]
            by_cases q : j = N
            · rw [q, zup_s]; exact (if_pos rfl).symm
            · rw [zup_o q, zup_ne' (by decide), zext_lt (by omega)]; exact w4 j (by show j < N; omega)
          · rw [zup_ne' a, zup_ne' d, zup_ne' b]
          · rw [zup_o a, zup_ne' (by decide), zup_ne' (by decide)]
        · skip
          refine ze_bipush kc_151_43 ?_
          refine ze_ireturn kc_151_45 (Or.inl rfl) ?_
          have g1 : 0 ≤ i ∧ i < (n : Int) := by omega
          have g2 : 0 ≤ v ∧ v ≤ 60 := by omega
          rw [show sTell n 5 (N, a, b) i v = (N, a, b) from (if_neg (by omega)).trans (if_neg (show ¬ (((0 ≤ i ∧ i < (n : Int)) ∧ (0 ≤ v ∧ v ≤ 60)) ∧ N < 5) by omega))] at q1
          rw [show oTell n 5 (N, a, b) i v = -4 from (if_neg (by omega)).trans ((if_neg (fun q => q g1)).trans ((if_neg (fun q => q g2)).trans (if_neg (show ¬ N < 5 by omega))))] at q1
          exact q1 _ hW0 zFRm_refl
      · simp only [Option.toList_some, Option.toList_none, List.drop_succ_cons, List.drop_zero, List.cons_append, List.nil_append]
        refine ze_if_ne kc_151_29 (by decide) (fun q => absurd q (by decide)) (fun _ => ?_)
        refine ze_bipush kc_151_32 ?_
        refine ze_ireturn kc_151_34 (Or.inl rfl) ?_
        have g1 : 0 ≤ i ∧ i < (n : Int) := by omega
        rw [show sTell n 5 (N, a, b) i v = (N, a, b) from (if_neg (by omega)).trans (if_neg (show ¬ (((0 ≤ i ∧ i < (n : Int)) ∧ (0 ≤ v ∧ v ≤ 60)) ∧ N < 5) by omega))] at q1
        rw [show oTell n 5 (N, a, b) i v = -2 from (if_neg (by omega)).trans ((if_neg (fun q => q g1)).trans (if_pos (show ¬ (0 ≤ v ∧ v ≤ 60) by omega)))] at q1
        exact q1 _ hW0 zFRm_refl
    · simp only [Option.toList_some, Option.toList_none, List.drop_succ_cons, List.drop_zero, List.cons_append, List.nil_append]
      refine ze_if_ne kc_151_17 (by decide) (fun q => absurd q (by decide)) (fun _ => ?_)
      refine ze_iconst kc_151_20 ?_
      refine ze_ireturn kc_151_21 (Or.inl rfl) ?_
      rw [show sTell n 5 (N, a, b) i v = (N, a, b) from (if_neg (by omega)).trans (if_neg (show ¬ (((0 ≤ i ∧ i < (n : Int)) ∧ (0 ≤ v ∧ v ≤ 60)) ∧ N < 5) by omega))] at q1
      rw [show oTell n 5 (N, a, b) i v = -1 from (if_neg (by omega)).trans (if_pos (show ¬ (0 ≤ i ∧ i < (n : Int)) by omega))] at q1
      exact q1 _ hW0 zFRm_refl
  · skip
    refine ze_aload_n kc_151_5 rfl ?_
    refine ze_iconst kc_151_6 ?_
    refine ze_putI kc_151_7 rfl rfl ?_
    refine ze_iconst kc_151_10 ?_
    refine ze_ireturn kc_151_11 (Or.inl rfl) ?_
    rw [show sTell n 5 (N, a, b) i v = (0, a, b) from if_pos (by omega)] at q1
    rw [show oTell n 5 (N, a, b) i v = 0 from if_pos (by omega)] at q1
    refine q1 _ ⟨zup_s, by omega, fun i hi => absurd hi (by omega), fun i hi => absurd hi (by omega)⟩ ⟨fun k a b d => zup_ne' a, fun j a => zup_o a⟩

set_option maxHeartbeats 4000000 in
theorem m_bookM {Z : zMem} {Q : Option zAV → zMem → Prop} {n : Nat} {c : Nat → Int} {e ρ : Int} (hM : zMo n c e ρ Z) {N : Nat} {a b : Nat → Int} (hW : zRwM 10 69 70 8 (N, a, b) Z) {i v : Int} (hi : -2147483648 ≤ i ∧ i ≤ 2147483647) (hv : -2147483648 ≤ v ∧ v ≤ 2147483647) (q1 : ∀ Z', zRwM 10 69 70 8 (sTell n 8 (N, a, b) i v) Z' → zFRm 10 69 70 Z Z' → Q (some (zI (oTell n 8 (N, a, b) i v))) Z') : zE 159 0 (zent 159 [zR 63, zI i, zI v]) [] Z Q := by
  show zE 159 0 [some (zR 63), some (zI i), some (zI v)] [] Z Q
  have hM0 := hM
  obtain ⟨n0, n6, mc, mr, me, mρ, meR, mρR⟩ := hM
  have msr := zsum_range mr
  have hp6 := zpow6 n6
  have hW0 := hW
  obtain ⟨w1, w2, w3, w4⟩ := hW
  replace w1 : Z 63 10 = (N : Int) := w1
  replace w2 : N ≤ 8 := w2
  refine ze_iload_n kc_159_0 rfl ?_
  refine ze_iconst kc_159_1 ?_
  refine ze_icmp_ne kc_159_2 (by omega) (by omega) (fun h2 => ?_) (fun h2 => ?_)
  · skip
    refine ze_aload_n kc_159_12 rfl ?_
    refine ze_iload_n kc_159_13 rfl ?_
    refine zE_callv 2 kc_159_14 rfl rfl (Nat.le_of_ble_eq_true rfl) (Nat.le_of_ble_eq_true rfl) (Nat.le_of_ble_eq_true rfl) rfl (by decide +kernel) rfl ?_
    refine m_isOne hM0 (by omega) (fun g14 => ?_) (fun g14 => ?_)
    · simp only [Option.toList_some, Option.toList_none, List.drop_succ_cons, List.drop_zero, List.cons_append, List.nil_append]
      refine ze_if_ne kc_159_17 (by decide) (fun _ => ?_) (fun q => absurd q (by decide))
      refine ze_iload_n kc_159_22 rfl ?_
      refine ze_iconst kc_159_23 ?_
      refine ze_bipush kc_159_24 ?_
      refine zE_calls 3 kc_159_26 rfl rfl (Nat.le_of_ble_eq_true rfl) (Nat.le_of_ble_eq_true rfl) (Nat.le_of_ble_eq_true rfl) rfl ?_
      refine m_in (by omega) (by omega) (by omega) (fun g26 => ?_) (fun g26 => ?_)
      · simp only [Option.toList_some, Option.toList_none, List.drop_succ_cons, List.drop_zero, List.cons_append, List.nil_append]
        refine ze_if_ne kc_159_29 (by decide) (fun _ => ?_) (fun q => absurd q (by decide))
        refine ze_aload_n kc_159_35 rfl ?_
        refine ze_getI kc_159_36 rfl (by decide) ?_
        rw [w1]
        refine ze_bipush kc_159_39 ?_
        refine ze_icmp_ne kc_159_41 (by omega) (by omega) (fun h41 => ?_) (fun h41 => ?_)
        · skip
          refine ze_aload_n kc_159_47 rfl ?_
          refine ze_getR kc_159_48 rfl rfl rfl ?_
          refine ze_aload_n kc_159_51 rfl ?_
          refine ze_getI kc_159_52 rfl (by decide) ?_
          rw [w1]
          refine ze_iload_n kc_159_55 rfl ?_
          refine ze_iast kc_159_56 rfl (by omega) ?_
          rw [Int.toNat_natCast]
          refine ze_aload_n kc_159_57 rfl ?_
          refine ze_getR kc_159_58 rfl rfl rfl ?_
          refine ze_aload_n kc_159_61 rfl ?_
          refine ze_getI kc_159_62 rfl (by decide) ?_
          rw [zup_ne' (by decide), w1]
          refine ze_iload_n kc_159_65 rfl ?_
          refine ze_iast kc_159_66 rfl (by omega) ?_
          rw [Int.toNat_natCast]
          refine ze_aload_n kc_159_67 rfl ?_
          refine ze_dup kc_159_68 rfl ?_
          refine ze_getI kc_159_69 rfl (by decide) ?_
          rw [zup_ne' (by decide), zup_ne' (by decide), w1]
          refine ze_iconst kc_159_72 ?_
          refine ze_iadd kc_159_73 ?_
          refine ze_putI kc_159_74 rfl rfl ?_
          refine ze_aload_n kc_159_77 rfl ?_
          refine ze_getI kc_159_78 rfl (by decide) ?_
          rw [zup_s]
          refine ze_ireturn kc_159_81 (Or.inl rfl) ?_
          have hN : N < 8 := by omega
          have g1 : 0 ≤ i ∧ i < (n : Int) := by omega
          have g2 : 0 ≤ v ∧ v ≤ 60 := by omega
          rw [show sTell n 8 (N, a, b) i v = (N + 1, zext a N i, zext b N v) from (if_neg (by omega)).trans (if_pos (show ((0 ≤ i ∧ i < (n : Int)) ∧ (0 ≤ v ∧ v ≤ 60)) ∧ N < 8 from ⟨⟨g1, g2⟩, hN⟩))] at q1
          rw [show oTell n 8 (N, a, b) i v = ((N + 1 : Nat) : Int) from (if_neg (by omega)).trans ((if_neg (fun q => q g1)).trans ((if_neg (fun q => q g2)).trans (if_pos hN)))] at q1
          rw [show (N : Int) + 1 = ((N + 1 : Nat) : Int) by omega]
          refine q1 _ ⟨by rw [zup_s], by omega, fun j hj => ?_, fun j hj => ?_⟩ ⟨fun k a b d => ?_, fun j a => ?_⟩
          · replace hj : j < N + 1 := hj
            show zup _ 63 10 _ 69 j = zext a N i j
            rw [zup_ne' (by decide), zup_ne' (by decide)]
            by_cases q : j = N
            · rw [q, zup_s]; exact (if_pos rfl).symm
            · rw [zup_o q, zext_lt (by omega)]; exact w3 j (by show j < N; omega)
          · replace hj : j < N + 1 := hj
            show zup _ 63 10 _ 70 j = zext b N v j
            rw [zup_ne' (by decide)]
            by_cases q : j = N
            · rw [q, zup_s]; exact (if_pos rfl).symm
            · rw [zup_o q, zup_ne' (by decide), zext_lt (by omega)]; exact w4 j (by show j < N; omega)
          · rw [zup_ne' a, zup_ne' d, zup_ne' b]
          · rw [zup_o a, zup_ne' (by decide), zup_ne' (by decide)]
        · skip
          refine ze_bipush kc_159_44 ?_
          refine ze_ireturn kc_159_46 (Or.inl rfl) ?_
          have g1 : 0 ≤ i ∧ i < (n : Int) := by omega
          have g2 : 0 ≤ v ∧ v ≤ 60 := by omega
          rw [show sTell n 8 (N, a, b) i v = (N, a, b) from (if_neg (by omega)).trans (if_neg (show ¬ (((0 ≤ i ∧ i < (n : Int)) ∧ (0 ≤ v ∧ v ≤ 60)) ∧ N < 8) by omega))] at q1
          rw [show oTell n 8 (N, a, b) i v = -4 from (if_neg (by omega)).trans ((if_neg (fun q => q g1)).trans ((if_neg (fun q => q g2)).trans (if_neg (show ¬ N < 8 by omega))))] at q1
          exact q1 _ hW0 zFRm_refl
      · simp only [Option.toList_some, Option.toList_none, List.drop_succ_cons, List.drop_zero, List.cons_append, List.nil_append]
        refine ze_if_ne kc_159_29 (by decide) (fun q => absurd q (by decide)) (fun _ => ?_)
        refine ze_bipush kc_159_32 ?_
        refine ze_ireturn kc_159_34 (Or.inl rfl) ?_
        have g1 : 0 ≤ i ∧ i < (n : Int) := by omega
        rw [show sTell n 8 (N, a, b) i v = (N, a, b) from (if_neg (by omega)).trans (if_neg (show ¬ (((0 ≤ i ∧ i < (n : Int)) ∧ (0 ≤ v ∧ v ≤ 60)) ∧ N < 8) by omega))] at q1
        rw [show oTell n 8 (N, a, b) i v = -2 from (if_neg (by omega)).trans ((if_neg (fun q => q g1)).trans (if_pos (show ¬ (0 ≤ v ∧ v ≤ 60) by omega)))] at q1
        exact q1 _ hW0 zFRm_refl
    · simp only [Option.toList_some, Option.toList_none, List.drop_succ_cons, List.drop_zero, List.cons_append, List.nil_append]
      refine ze_if_ne kc_159_17 (by decide) (fun q => absurd q (by decide)) (fun _ => ?_)
      refine ze_iconst kc_159_20 ?_
      refine ze_ireturn kc_159_21 (Or.inl rfl) ?_
      rw [show sTell n 8 (N, a, b) i v = (N, a, b) from (if_neg (by omega)).trans (if_neg (show ¬ (((0 ≤ i ∧ i < (n : Int)) ∧ (0 ≤ v ∧ v ≤ 60)) ∧ N < 8) by omega))] at q1
      rw [show oTell n 8 (N, a, b) i v = -1 from (if_neg (by omega)).trans (if_pos (show ¬ (0 ≤ i ∧ i < (n : Int)) by omega))] at q1
      exact q1 _ hW0 zFRm_refl
  · skip
    refine ze_aload_n kc_159_5 rfl ?_
    refine ze_iconst kc_159_6 ?_
    refine ze_putI kc_159_7 rfl rfl ?_
    refine ze_iconst kc_159_10 ?_
    refine ze_ireturn kc_159_11 (Or.inl rfl) ?_
    rw [show sTell n 8 (N, a, b) i v = (0, a, b) from if_pos (by omega)] at q1
    rw [show oTell n 8 (N, a, b) i v = 0 from if_pos (by omega)] at q1
    refine q1 _ ⟨zup_s, by omega, fun i hi => absurd hi (by omega), fun i hi => absurd hi (by omega)⟩ ⟨fun k a b d => zup_ne' a, fun j a => zup_o a⟩

set_option maxHeartbeats 4000000 in
theorem m_eventX {Z : zMem} {Q : Option zAV → zMem → Prop} {n : Nat} {c : Nat → Int} {e ρ : Int} (hC : zCl n c e ρ Z) {N : Nat} {a b : Nat → Int} (hW : zRw 23 8 N a b Z) {w i : Int} (hw : -2147483648 ≤ w ∧ w ≤ 2147483647) (hi : -2147483648 ≤ i ∧ i ≤ 2147483647) (q1 : ∀ Z', zRwX 23 8 (sEvent n (N, a, b) w i) Z' → (∀ k, k < 23 ∨ 23 + 2 < k → Z' k = Z k) → Q (some (zI (oEvent n (N, a, b) w i))) Z') : zE 72 0 (zent 72 [zR 0, zI w, zI i]) [] Z Q := by
  show zE 72 0 [some (zR 0), some (zI w), some (zI i)] [] Z Q
  obtain ⟨hU0, hG0, n6, n0, cc, cr, ce, cρ, ceR, cρR, c11, c16⟩ := zCl_o hC
  have csr := zsum_range cr
  have hW0 := hW
  obtain ⟨w1, w2, w3, w4, w5⟩ := hW
  refine ze_iload_n kc_72_0 rfl ?_
  refine ze_iconst kc_72_1 ?_
  refine ze_icmp_ne kc_72_2 (by omega) (by omega) (fun h2 => ?_) (fun h2 => ?_)
  · skip
    refine ze_iload_n kc_72_15 rfl ?_
    refine ze_if_lt kc_72_16 (by omega) (fun h16 => ?_) (fun h16 => ?_)
    · skip
      refine ze_iconst kc_72_43 ?_
      refine ze_ireturn kc_72_44 (Or.inl rfl) ?_
      have gA : ¬ zEvA n w i := by unfold zEvA; omega
      rw [show sEvent n (N, a, b) w i = (N, a, b) from (if_neg (by omega)).trans (if_neg (fun q => gA q.1.1)), show oEvent n (N, a, b) w i = -1 from (if_neg (by omega)).trans (if_pos gA)] at q1
      exact q1 _ hW0 (fun _ _ => rfl)
    · skip
      refine ze_iload_n kc_72_19 rfl ?_
      refine ze_iconst kc_72_20 ?_
      refine ze_icmp_gt kc_72_21 (by omega) (by omega) (fun h21 => ?_) (fun h21 => ?_)
      · skip
        refine ze_iconst kc_72_43 ?_
        refine ze_ireturn kc_72_44 (Or.inl rfl) ?_
        have gA : ¬ zEvA n w i := by unfold zEvA; omega
        rw [show sEvent n (N, a, b) w i = (N, a, b) from (if_neg (by omega)).trans (if_neg (fun q => gA q.1.1)), show oEvent n (N, a, b) w i = -1 from (if_neg (by omega)).trans (if_pos gA)] at q1
        exact q1 _ hW0 (fun _ _ => rfl)
      · skip
        refine ze_iload_n kc_72_24 rfl ?_
        refine ze_iconst kc_72_25 ?_
        refine ze_icmp_ge kc_72_26 (by omega) (by omega) (fun h26 => ?_) (fun h26 => ?_)
        · skip
          refine ze_iload_n kc_72_45 rfl ?_
          refine ze_iconst kc_72_46 ?_
          refine ze_icmp_ne kc_72_47 (by omega) (by omega) (fun h47 => ?_) (fun h47 => ?_)
          · skip
            refine ze_iload_n kc_72_57 rfl ?_
            refine ze_iconst kc_72_58 ?_
            refine ze_icmp_ne kc_72_59 (by omega) (by omega) (fun h59 => ?_) (fun h59 => ?_)
            · skip
              refine ze_aload_n kc_72_72 rfl ?_
              refine ze_getR kc_72_73 rfl rfl rfl ?_
              refine ze_iload_n kc_72_76 rfl ?_
              refine ze_iload_n kc_72_77 rfl ?_
              refine zE_callv 3 kc_72_78 rfl rfl (Nat.le_of_ble_eq_true rfl) (Nat.le_of_ble_eq_true rfl) (Nat.le_of_ble_eq_true rfl) rfl (by decide +kernel) rfl ?_
              refine m_addR zrF_23 (by decide) hW0 (fun hN Z2 r1 r2 => ?_) (fun hN => ?_)
              · simp only [Option.toList_some, Option.toList_none, List.drop_succ_cons, List.drop_zero, List.cons_append, List.nil_append]
                refine ze_ireturn kc_72_81 (Or.inl rfl) ?_
                first
                  | (have hz := r1
                     have gA : zEvA n w i := by unfold zEvA; omega
                     have gB : zEvB w i := by unfold zEvB; omega
                     rw [show sEvent n (N, a, b) w i = (N + 1, zext a N w, zext b N i) from (if_neg (by omega)).trans (if_pos ⟨⟨gA, gB⟩, hN⟩), show oEvent n (N, a, b) w i = ((N + 1 : Nat) : Int) from (if_neg (by omega)).trans ((if_neg (fun q => q gA)).trans ((if_neg (fun q => q gB)).trans (if_pos hN)))] at q1
                     exact q1 _ r1 r2)
                  | (have hz : N = 8 := hN
                     have gA : zEvA n w i := by unfold zEvA; omega
                     have gB : zEvB w i := by unfold zEvB; omega
                     rw [show sEvent n (N, a, b) w i = (N, a, b) from (if_neg (by omega)).trans (if_neg (fun q => absurd q.2 (show ¬ N < 8 by omega))), show oEvent n (N, a, b) w i = -4 from (if_neg (by omega)).trans ((if_neg (fun q => q gA)).trans ((if_neg (fun q => q gB)).trans (if_neg (show ¬ N < 8 by omega))))] at q1
                     exact q1 _ hW0 (fun _ _ => rfl))
              · simp only [Option.toList_some, Option.toList_none, List.drop_succ_cons, List.drop_zero, List.cons_append, List.nil_append]
                refine ze_ireturn kc_72_81 (Or.inl rfl) ?_
                first
                  | (have hz := r1
                     have gA : zEvA n w i := by unfold zEvA; omega
                     have gB : zEvB w i := by unfold zEvB; omega
                     rw [show sEvent n (N, a, b) w i = (N + 1, zext a N w, zext b N i) from (if_neg (by omega)).trans (if_pos ⟨⟨gA, gB⟩, hN⟩), show oEvent n (N, a, b) w i = ((N + 1 : Nat) : Int) from (if_neg (by omega)).trans ((if_neg (fun q => q gA)).trans ((if_neg (fun q => q gB)).trans (if_pos hN)))] at q1
                     exact q1 _ r1 r2)
                  | (have hz : N = 8 := hN
                     have gA : zEvA n w i := by unfold zEvA; omega
                     have gB : zEvB w i := by unfold zEvB; omega
                     rw [show sEvent n (N, a, b) w i = (N, a, b) from (if_neg (by omega)).trans (if_neg (fun q => absurd q.2 (show ¬ N < 8 by omega))), show oEvent n (N, a, b) w i = -4 from (if_neg (by omega)).trans ((if_neg (fun q => q gA)).trans ((if_neg (fun q => q gB)).trans (if_neg (show ¬ N < 8 by omega))))] at q1
                     exact q1 _ hW0 (fun _ _ => rfl))
            · skip
              refine ze_iload_n kc_72_62 rfl ?_
              refine zE_calls 1 kc_72_63 rfl rfl (Nat.le_of_ble_eq_true rfl) (Nat.le_of_ble_eq_true rfl) (Nat.le_of_ble_eq_true rfl) rfl ?_
              refine m_isEstate (by omega) (fun g63 => ?_) (fun g63 => ?_)
              · simp only [Option.toList_some, Option.toList_none, List.drop_succ_cons, List.drop_zero, List.cons_append, List.nil_append]
                refine ze_if_ne kc_72_66 (by decide) (fun _ => ?_) (fun q => absurd q (by decide))
                refine ze_aload_n kc_72_72 rfl ?_
                refine ze_getR kc_72_73 rfl rfl rfl ?_
                refine ze_iload_n kc_72_76 rfl ?_
                refine ze_iload_n kc_72_77 rfl ?_
                refine zE_callv 3 kc_72_78 rfl rfl (Nat.le_of_ble_eq_true rfl) (Nat.le_of_ble_eq_true rfl) (Nat.le_of_ble_eq_true rfl) rfl (by decide +kernel) rfl ?_
                refine m_addR zrF_23 (by decide) hW0 (fun hN Z2 r1 r2 => ?_) (fun hN => ?_)
                · simp only [Option.toList_some, Option.toList_none, List.drop_succ_cons, List.drop_zero, List.cons_append, List.nil_append]
                  refine ze_ireturn kc_72_81 (Or.inl rfl) ?_
                  first
                    | (have hz := r1
                       have gA : zEvA n w i := by unfold zEvA; omega
                       have gB : zEvB w i := by unfold zEvB; omega
                       rw [show sEvent n (N, a, b) w i = (N + 1, zext a N w, zext b N i) from (if_neg (by omega)).trans (if_pos ⟨⟨gA, gB⟩, hN⟩), show oEvent n (N, a, b) w i = ((N + 1 : Nat) : Int) from (if_neg (by omega)).trans ((if_neg (fun q => q gA)).trans ((if_neg (fun q => q gB)).trans (if_pos hN)))] at q1
                       exact q1 _ r1 r2)
                    | (have hz : N = 8 := hN
                       have gA : zEvA n w i := by unfold zEvA; omega
                       have gB : zEvB w i := by unfold zEvB; omega
                       rw [show sEvent n (N, a, b) w i = (N, a, b) from (if_neg (by omega)).trans (if_neg (fun q => absurd q.2 (show ¬ N < 8 by omega))), show oEvent n (N, a, b) w i = -4 from (if_neg (by omega)).trans ((if_neg (fun q => q gA)).trans ((if_neg (fun q => q gB)).trans (if_neg (show ¬ N < 8 by omega))))] at q1
                       exact q1 _ hW0 (fun _ _ => rfl))
                · simp only [Option.toList_some, Option.toList_none, List.drop_succ_cons, List.drop_zero, List.cons_append, List.nil_append]
                  refine ze_ireturn kc_72_81 (Or.inl rfl) ?_
                  first
                    | (have hz := r1
                       have gA : zEvA n w i := by unfold zEvA; omega
                       have gB : zEvB w i := by unfold zEvB; omega
                       rw [show sEvent n (N, a, b) w i = (N + 1, zext a N w, zext b N i) from (if_neg (by omega)).trans (if_pos ⟨⟨gA, gB⟩, hN⟩), show oEvent n (N, a, b) w i = ((N + 1 : Nat) : Int) from (if_neg (by omega)).trans ((if_neg (fun q => q gA)).trans ((if_neg (fun q => q gB)).trans (if_pos hN)))] at q1
                       exact q1 _ r1 r2)
                    | (have hz : N = 8 := hN
                       have gA : zEvA n w i := by unfold zEvA; omega
                       have gB : zEvB w i := by unfold zEvB; omega
                       rw [show sEvent n (N, a, b) w i = (N, a, b) from (if_neg (by omega)).trans (if_neg (fun q => absurd q.2 (show ¬ N < 8 by omega))), show oEvent n (N, a, b) w i = -4 from (if_neg (by omega)).trans ((if_neg (fun q => q gA)).trans ((if_neg (fun q => q gB)).trans (if_neg (show ¬ N < 8 by omega))))] at q1
                       exact q1 _ hW0 (fun _ _ => rfl))
              · simp only [Option.toList_some, Option.toList_none, List.drop_succ_cons, List.drop_zero, List.cons_append, List.nil_append]
                refine ze_if_ne kc_72_66 (by decide) (fun q => absurd q (by decide)) (fun _ => ?_)
                refine ze_bipush kc_72_69 ?_
                refine ze_ireturn kc_72_71 (Or.inl rfl) ?_
                have gA : zEvA n w i := by unfold zEvA; omega
                have gB : ¬ zEvB w i := by unfold zEvB; omega
                rw [show sEvent n (N, a, b) w i = (N, a, b) from (if_neg (by omega)).trans (if_neg (fun q => gB q.1.2)), show oEvent n (N, a, b) w i = -2 from (if_neg (by omega)).trans ((if_neg (fun q => q gA)).trans (if_pos gB))] at q1
                exact q1 _ hW0 (fun _ _ => rfl)
          · skip
            refine ze_iload_n kc_72_50 rfl ?_
            refine zE_calls 1 kc_72_51 rfl rfl (Nat.le_of_ble_eq_true rfl) (Nat.le_of_ble_eq_true rfl) (Nat.le_of_ble_eq_true rfl) rfl ?_
            refine m_isRule (by omega) (fun g51 => ?_) (fun g51 => ?_)
            · simp only [Option.toList_some, Option.toList_none, List.drop_succ_cons, List.drop_zero, List.cons_append, List.nil_append]
              refine ze_if_eq kc_72_54 (by decide) (fun q => absurd q (by decide)) (fun _ => ?_)
              refine ze_iload_n kc_72_57 rfl ?_
              refine ze_iconst kc_72_58 ?_
              refine ze_icmp_ne kc_72_59 (by omega) (by omega) (fun h59 => ?_) (fun h59 => ?_)
              · skip
                refine ze_aload_n kc_72_72 rfl ?_
                refine ze_getR kc_72_73 rfl rfl rfl ?_
                refine ze_iload_n kc_72_76 rfl ?_
                refine ze_iload_n kc_72_77 rfl ?_
                refine zE_callv 3 kc_72_78 rfl rfl (Nat.le_of_ble_eq_true rfl) (Nat.le_of_ble_eq_true rfl) (Nat.le_of_ble_eq_true rfl) rfl (by decide +kernel) rfl ?_
                refine m_addR zrF_23 (by decide) hW0 (fun hN Z2 r1 r2 => ?_) (fun hN => ?_)
                · simp only [Option.toList_some, Option.toList_none, List.drop_succ_cons, List.drop_zero, List.cons_append, List.nil_append]
                  refine ze_ireturn kc_72_81 (Or.inl rfl) ?_
                  first
                    | (have hz := r1
                       have gA : zEvA n w i := by unfold zEvA; omega
                       have gB : zEvB w i := by unfold zEvB; omega
                       rw [show sEvent n (N, a, b) w i = (N + 1, zext a N w, zext b N i) from (if_neg (by omega)).trans (if_pos ⟨⟨gA, gB⟩, hN⟩), show oEvent n (N, a, b) w i = ((N + 1 : Nat) : Int) from (if_neg (by omega)).trans ((if_neg (fun q => q gA)).trans ((if_neg (fun q => q gB)).trans (if_pos hN)))] at q1
                       exact q1 _ r1 r2)
                    | (have hz : N = 8 := hN
                       have gA : zEvA n w i := by unfold zEvA; omega
                       have gB : zEvB w i := by unfold zEvB; omega
                       rw [show sEvent n (N, a, b) w i = (N, a, b) from (if_neg (by omega)).trans (if_neg (fun q => absurd q.2 (show ¬ N < 8 by omega))), show oEvent n (N, a, b) w i = -4 from (if_neg (by omega)).trans ((if_neg (fun q => q gA)).trans ((if_neg (fun q => q gB)).trans (if_neg (show ¬ N < 8 by omega))))] at q1
                       exact q1 _ hW0 (fun _ _ => rfl))
                · simp only [Option.toList_some, Option.toList_none, List.drop_succ_cons, List.drop_zero, List.cons_append, List.nil_append]
                  refine ze_ireturn kc_72_81 (Or.inl rfl) ?_
                  first
                    | (have hz := r1
                       have gA : zEvA n w i := by unfold zEvA; omega
                       have gB : zEvB w i := by unfold zEvB; omega
                       rw [show sEvent n (N, a, b) w i = (N + 1, zext a N w, zext b N i) from (if_neg (by omega)).trans (if_pos ⟨⟨gA, gB⟩, hN⟩), show oEvent n (N, a, b) w i = ((N + 1 : Nat) : Int) from (if_neg (by omega)).trans ((if_neg (fun q => q gA)).trans ((if_neg (fun q => q gB)).trans (if_pos hN)))] at q1
                       exact q1 _ r1 r2)
                    | (have hz : N = 8 := hN
                       have gA : zEvA n w i := by unfold zEvA; omega
                       have gB : zEvB w i := by unfold zEvB; omega
                       rw [show sEvent n (N, a, b) w i = (N, a, b) from (if_neg (by omega)).trans (if_neg (fun q => absurd q.2 (show ¬ N < 8 by omega))), show oEvent n (N, a, b) w i = -4 from (if_neg (by omega)).trans ((if_neg (fun q => q gA)).trans ((if_neg (fun q => q gB)).trans (if_neg (show ¬ N < 8 by omega))))] at q1
                       exact q1 _ hW0 (fun _ _ => rfl))
              · skip
                refine ze_iload_n kc_72_62 rfl ?_
                refine zE_calls 1 kc_72_63 rfl rfl (Nat.le_of_ble_eq_true rfl) (Nat.le_of_ble_eq_true rfl) (Nat.le_of_ble_eq_true rfl) rfl ?_
                refine m_isEstate (by omega) (fun g63 => ?_) (fun g63 => ?_)
                · simp only [Option.toList_some, Option.toList_none, List.drop_succ_cons, List.drop_zero, List.cons_append, List.nil_append]
                  refine ze_if_ne kc_72_66 (by decide) (fun _ => ?_) (fun q => absurd q (by decide))
                  refine ze_aload_n kc_72_72 rfl ?_
                  refine ze_getR kc_72_73 rfl rfl rfl ?_
                  refine ze_iload_n kc_72_76 rfl ?_
                  refine ze_iload_n kc_72_77 rfl ?_
                  refine zE_callv 3 kc_72_78 rfl rfl (Nat.le_of_ble_eq_true rfl) (Nat.le_of_ble_eq_true rfl) (Nat.le_of_ble_eq_true rfl) rfl (by decide +kernel) rfl ?_
                  refine m_addR zrF_23 (by decide) hW0 (fun hN Z2 r1 r2 => ?_) (fun hN => ?_)
                  · simp only [Option.toList_some, Option.toList_none, List.drop_succ_cons, List.drop_zero, List.cons_append, List.nil_append]
                    refine ze_ireturn kc_72_81 (Or.inl rfl) ?_
                    first
                      | (have hz := r1
                         have gA : zEvA n w i := by unfold zEvA; omega
                         have gB : zEvB w i := by unfold zEvB; omega
                         rw [show sEvent n (N, a, b) w i = (N + 1, zext a N w, zext b N i) from (if_neg (by omega)).trans (if_pos ⟨⟨gA, gB⟩, hN⟩), show oEvent n (N, a, b) w i = ((N + 1 : Nat) : Int) from (if_neg (by omega)).trans ((if_neg (fun q => q gA)).trans ((if_neg (fun q => q gB)).trans (if_pos hN)))] at q1
                         exact q1 _ r1 r2)
                      | (have hz : N = 8 := hN
                         have gA : zEvA n w i := by unfold zEvA; omega
                         have gB : zEvB w i := by unfold zEvB; omega
                         rw [show sEvent n (N, a, b) w i = (N, a, b) from (if_neg (by omega)).trans (if_neg (fun q => absurd q.2 (show ¬ N < 8 by omega))), show oEvent n (N, a, b) w i = -4 from (if_neg (by omega)).trans ((if_neg (fun q => q gA)).trans ((if_neg (fun q => q gB)).trans (if_neg (show ¬ N < 8 by omega))))] at q1
                         exact q1 _ hW0 (fun _ _ => rfl))
                  · simp only [Option.toList_some, Option.toList_none, List.drop_succ_cons, List.drop_zero, List.cons_append, List.nil_append]
                    refine ze_ireturn kc_72_81 (Or.inl rfl) ?_
                    first
                      | (have hz := r1
                         have gA : zEvA n w i := by unfold zEvA; omega
                         have gB : zEvB w i := by unfold zEvB; omega
                         rw [show sEvent n (N, a, b) w i = (N + 1, zext a N w, zext b N i) from (if_neg (by omega)).trans (if_pos ⟨⟨gA, gB⟩, hN⟩), show oEvent n (N, a, b) w i = ((N + 1 : Nat) : Int) from (if_neg (by omega)).trans ((if_neg (fun q => q gA)).trans ((if_neg (fun q => q gB)).trans (if_pos hN)))] at q1
                         exact q1 _ r1 r2)
                      | (have hz : N = 8 := hN
                         have gA : zEvA n w i := by unfold zEvA; omega
                         have gB : zEvB w i := by unfold zEvB; omega
                         rw [show sEvent n (N, a, b) w i = (N, a, b) from (if_neg (by omega)).trans (if_neg (fun q => absurd q.2 (show ¬ N < 8 by omega))), show oEvent n (N, a, b) w i = -4 from (if_neg (by omega)).trans ((if_neg (fun q => q gA)).trans ((if_neg (fun q => q gB)).trans (if_neg (show ¬ N < 8 by omega))))] at q1
                         exact q1 _ hW0 (fun _ _ => rfl))
                · simp only [Option.toList_some, Option.toList_none, List.drop_succ_cons, List.drop_zero, List.cons_append, List.nil_append]
                  refine ze_if_ne kc_72_66 (by decide) (fun q => absurd q (by decide)) (fun _ => ?_)
                  refine ze_bipush kc_72_69 ?_
                  refine ze_ireturn kc_72_71 (Or.inl rfl) ?_
                  have gA : zEvA n w i := by unfold zEvA; omega
                  have gB : ¬ zEvB w i := by unfold zEvB; omega
                  rw [show sEvent n (N, a, b) w i = (N, a, b) from (if_neg (by omega)).trans (if_neg (fun q => gB q.1.2)), show oEvent n (N, a, b) w i = -2 from (if_neg (by omega)).trans ((if_neg (fun q => q gA)).trans (if_pos gB))] at q1
                  exact q1 _ hW0 (fun _ _ => rfl)
            · simp only [Option.toList_some, Option.toList_none, List.drop_succ_cons, List.drop_zero, List.cons_append, List.nil_append]
              refine ze_if_eq kc_72_54 (by decide) (fun _ => ?_) (fun q => absurd q (by decide))
              refine ze_bipush kc_72_69 ?_
              refine ze_ireturn kc_72_71 (Or.inl rfl) ?_
              have gA : zEvA n w i := by unfold zEvA; omega
              have gB : ¬ zEvB w i := by unfold zEvB; omega
              rw [show sEvent n (N, a, b) w i = (N, a, b) from (if_neg (by omega)).trans (if_neg (fun q => gB q.1.2)), show oEvent n (N, a, b) w i = -2 from (if_neg (by omega)).trans ((if_neg (fun q => q gA)).trans (if_pos gB))] at q1
              exact q1 _ hW0 (fun _ _ => rfl)
        · skip
          refine ze_aload_n kc_72_29 rfl ?_
          refine ze_getR kc_72_30 rfl rfl rfl ?_
          refine ze_getR kc_72_33 rfl rfl rfl ?_
          refine ze_iload_n kc_72_36 rfl ?_
          refine zE_callv 2 kc_72_37 rfl rfl (Nat.le_of_ble_eq_true rfl) (Nat.le_of_ble_eq_true rfl) (Nat.le_of_ble_eq_true rfl) rfl (by decide +kernel) rfl ?_
          refine m_has zgF_2 (by omega) (by omega) (fun g37 => ?_) (fun g37 => ?_)
          · simp only [Option.toList_some, Option.toList_none, List.drop_succ_cons, List.drop_zero, List.cons_append, List.nil_append]
            refine ze_if_ne kc_72_40 (by decide) (fun _ => ?_) (fun q => absurd q (by decide))
            refine ze_iload_n kc_72_45 rfl ?_
            refine ze_iconst kc_72_46 ?_
            refine ze_icmp_ne kc_72_47 (by omega) (by omega) (fun h47 => ?_) (fun h47 => ?_)
            · skip
              refine ze_iload_n kc_72_57 rfl ?_
              refine ze_iconst kc_72_58 ?_
              refine ze_icmp_ne kc_72_59 (by omega) (by omega) (fun h59 => ?_) (fun h59 => ?_)
              · skip
                refine ze_aload_n kc_72_72 rfl ?_
                refine ze_getR kc_72_73 rfl rfl rfl ?_
                refine ze_iload_n kc_72_76 rfl ?_
                refine ze_iload_n kc_72_77 rfl ?_
                refine zE_callv 3 kc_72_78 rfl rfl (Nat.le_of_ble_eq_true rfl) (Nat.le_of_ble_eq_true rfl) (Nat.le_of_ble_eq_true rfl) rfl (by decide +kernel) rfl ?_
                refine m_addR zrF_23 (by decide) hW0 (fun hN Z2 r1 r2 => ?_) (fun hN => ?_)
                · simp only [Option.toList_some, Option.toList_none, List.drop_succ_cons, List.drop_zero, List.cons_append, List.nil_append]
                  refine ze_ireturn kc_72_81 (Or.inl rfl) ?_
                  first
                    | (have hz := r1
                       have gA : zEvA n w i := by unfold zEvA; omega
                       have gB : zEvB w i := by unfold zEvB; omega
                       rw [show sEvent n (N, a, b) w i = (N + 1, zext a N w, zext b N i) from (if_neg (by omega)).trans (if_pos ⟨⟨gA, gB⟩, hN⟩), show oEvent n (N, a, b) w i = ((N + 1 : Nat) : Int) from (if_neg (by omega)).trans ((if_neg (fun q => q gA)).trans ((if_neg (fun q => q gB)).trans (if_pos hN)))] at q1
                       exact q1 _ r1 r2)
                    | (have hz : N = 8 := hN
                       have gA : zEvA n w i := by unfold zEvA; omega
                       have gB : zEvB w i := by unfold zEvB; omega
                       rw [show sEvent n (N, a, b) w i = (N, a, b) from (if_neg (by omega)).trans (if_neg (fun q => absurd q.2 (show ¬ N < 8 by omega))), show oEvent n (N, a, b) w i = -4 from (if_neg (by omega)).trans ((if_neg (fun q => q gA)).trans ((if_neg (fun q => q gB)).trans (if_neg (show ¬ N < 8 by omega))))] at q1
                       exact q1 _ hW0 (fun _ _ => rfl))
                · simp only [Option.toList_some, Option.toList_none, List.drop_succ_cons, List.drop_zero, List.cons_append, List.nil_append]
                  refine ze_ireturn kc_72_81 (Or.inl rfl) ?_
                  first
                    | (have hz := r1
                       have gA : zEvA n w i := by unfold zEvA; omega
                       have gB : zEvB w i := by unfold zEvB; omega
                       rw [show sEvent n (N, a, b) w i = (N + 1, zext a N w, zext b N i) from (if_neg (by omega)).trans (if_pos ⟨⟨gA, gB⟩, hN⟩), show oEvent n (N, a, b) w i = ((N + 1 : Nat) : Int) from (if_neg (by omega)).trans ((if_neg (fun q => q gA)).trans ((if_neg (fun q => q gB)).trans (if_pos hN)))] at q1
                       exact q1 _ r1 r2)
                    | (have hz : N = 8 := hN
                       have gA : zEvA n w i := by unfold zEvA; omega
                       have gB : zEvB w i := by unfold zEvB; omega
                       rw [show sEvent n (N, a, b) w i = (N, a, b) from (if_neg (by omega)).trans (if_neg (fun q => absurd q.2 (show ¬ N < 8 by omega))), show oEvent n (N, a, b) w i = -4 from (if_neg (by omega)).trans ((if_neg (fun q => q gA)).trans ((if_neg (fun q => q gB)).trans (if_neg (show ¬ N < 8 by omega))))] at q1
                       exact q1 _ hW0 (fun _ _ => rfl))
              · skip
                refine ze_iload_n kc_72_62 rfl ?_
                refine zE_calls 1 kc_72_63 rfl rfl (Nat.le_of_ble_eq_true rfl) (Nat.le_of_ble_eq_true rfl) (Nat.le_of_ble_eq_true rfl) rfl ?_
                refine m_isEstate (by omega) (fun g63 => ?_) (fun g63 => ?_)
                · simp only [Option.toList_some, Option.toList_none, List.drop_succ_cons, List.drop_zero, List.cons_append, List.nil_append]
                  refine ze_if_ne kc_72_66 (by decide) (fun _ => ?_) (fun q => absurd q (by decide))
                  refine ze_aload_n kc_72_72 rfl ?_
                  refine ze_getR kc_72_73 rfl rfl rfl ?_
                  refine ze_iload_n kc_72_76 rfl ?_
                  refine ze_iload_n kc_72_77 rfl ?_
                  refine zE_callv 3 kc_72_78 rfl rfl (Nat.le_of_ble_eq_true rfl) (Nat.le_of_ble_eq_true rfl) (Nat.le_of_ble_eq_true rfl) rfl (by decide +kernel) rfl ?_
                  refine m_addR zrF_23 (by decide) hW0 (fun hN Z2 r1 r2 => ?_) (fun hN => ?_)
                  · simp only [Option.toList_some, Option.toList_none, List.drop_succ_cons, List.drop_zero, List.cons_append, List.nil_append]
                    refine ze_ireturn kc_72_81 (Or.inl rfl) ?_
                    first
                      | (have hz := r1
                         have gA : zEvA n w i := by unfold zEvA; omega
                         have gB : zEvB w i := by unfold zEvB; omega
                         rw [show sEvent n (N, a, b) w i = (N + 1, zext a N w, zext b N i) from (if_neg (by omega)).trans (if_pos ⟨⟨gA, gB⟩, hN⟩), show oEvent n (N, a, b) w i = ((N + 1 : Nat) : Int) from (if_neg (by omega)).trans ((if_neg (fun q => q gA)).trans ((if_neg (fun q => q gB)).trans (if_pos hN)))] at q1
                         exact q1 _ r1 r2)
                      | (have hz : N = 8 := hN
                         have gA : zEvA n w i := by unfold zEvA; omega
                         have gB : zEvB w i := by unfold zEvB; omega
                         rw [show sEvent n (N, a, b) w i = (N, a, b) from (if_neg (by omega)).trans (if_neg (fun q => absurd q.2 (show ¬ N < 8 by omega))), show oEvent n (N, a, b) w i = -4 from (if_neg (by omega)).trans ((if_neg (fun q => q gA)).trans ((if_neg (fun q => q gB)).trans (if_neg (show ¬ N < 8 by omega))))] at q1
                         exact q1 _ hW0 (fun _ _ => rfl))
                  · simp only [Option.toList_some, Option.toList_none, List.drop_succ_cons, List.drop_zero, List.cons_append, List.nil_append]
                    refine ze_ireturn kc_72_81 (Or.inl rfl) ?_
                    first
                      | (have hz := r1
                         have gA : zEvA n w i := by unfold zEvA; omega
                         have gB : zEvB w i := by unfold zEvB; omega
                         rw [show sEvent n (N, a, b) w i = (N + 1, zext a N w, zext b N i) from (if_neg (by omega)).trans (if_pos ⟨⟨gA, gB⟩, hN⟩), show oEvent n (N, a, b) w i = ((N + 1 : Nat) : Int) from (if_neg (by omega)).trans ((if_neg (fun q => q gA)).trans ((if_neg (fun q => q gB)).trans (if_pos hN)))] at q1
                         exact q1 _ r1 r2)
                      | (have hz : N = 8 := hN
                         have gA : zEvA n w i := by unfold zEvA; omega
                         have gB : zEvB w i := by unfold zEvB; omega
                         rw [show sEvent n (N, a, b) w i = (N, a, b) from (if_neg (by omega)).trans (if_neg (fun q => absurd q.2 (show ¬ N < 8 by omega))), show oEvent n (N, a, b) w i = -4 from (if_neg (by omega)).trans ((if_neg (fun q => q gA)).trans ((if_neg (fun q => q gB)).trans (if_neg (show ¬ N < 8 by omega))))] at q1
                         exact q1 _ hW0 (fun _ _ => rfl))
                · simp only [Option.toList_some, Option.toList_none, List.drop_succ_cons, List.drop_zero, List.cons_append, List.nil_append]
                  refine ze_if_ne kc_72_66 (by decide) (fun q => absurd q (by decide)) (fun _ => ?_)
                  refine ze_bipush kc_72_69 ?_
                  refine ze_ireturn kc_72_71 (Or.inl rfl) ?_
                  have gA : zEvA n w i := by unfold zEvA; omega
                  have gB : ¬ zEvB w i := by unfold zEvB; omega
                  rw [show sEvent n (N, a, b) w i = (N, a, b) from (if_neg (by omega)).trans (if_neg (fun q => gB q.1.2)), show oEvent n (N, a, b) w i = -2 from (if_neg (by omega)).trans ((if_neg (fun q => q gA)).trans (if_pos gB))] at q1
                  exact q1 _ hW0 (fun _ _ => rfl)
            · skip
              refine ze_iload_n kc_72_50 rfl ?_
              refine zE_calls 1 kc_72_51 rfl rfl (Nat.le_of_ble_eq_true rfl) (Nat.le_of_ble_eq_true rfl) (Nat.le_of_ble_eq_true rfl) rfl ?_
              refine m_isRule (by omega) (fun g51 => ?_) (fun g51 => ?_)
              · simp only [Option.toList_some, Option.toList_none, List.drop_succ_cons, List.drop_zero, List.cons_append, List.nil_append]
                refine ze_if_eq kc_72_54 (by decide) (fun q => absurd q (by decide)) (fun _ => ?_)
                refine ze_iload_n kc_72_57 rfl ?_
                refine ze_iconst kc_72_58 ?_
                refine ze_icmp_ne kc_72_59 (by omega) (by omega) (fun h59 => ?_) (fun h59 => ?_)
                · skip
                  refine ze_aload_n kc_72_72 rfl ?_
                  refine ze_getR kc_72_73 rfl rfl rfl ?_
                  refine ze_iload_n kc_72_76 rfl ?_
                  refine ze_iload_n kc_72_77 rfl ?_
                  refine zE_callv 3 kc_72_78 rfl rfl (Nat.le_of_ble_eq_true rfl) (Nat.le_of_ble_eq_true rfl) (Nat.le_of_ble_eq_true rfl) rfl (by decide +kernel) rfl ?_
                  refine m_addR zrF_23 (by decide) hW0 (fun hN Z2 r1 r2 => ?_) (fun hN => ?_)
                  · simp only [Option.toList_some, Option.toList_none, List.drop_succ_cons, List.drop_zero, List.cons_append, List.nil_append]
                    refine ze_ireturn kc_72_81 (Or.inl rfl) ?_
                    first
                      | (have hz := r1
                         have gA : zEvA n w i := by unfold zEvA; omega
                         have gB : zEvB w i := by unfold zEvB; omega
                         rw [show sEvent n (N, a, b) w i = (N + 1, zext a N w, zext b N i) from (if_neg (by omega)).trans (if_pos ⟨⟨gA, gB⟩, hN⟩), show oEvent n (N, a, b) w i = ((N + 1 : Nat) : Int) from (if_neg (by omega)).trans ((if_neg (fun q => q gA)).trans ((if_neg (fun q => q gB)).trans (if_pos hN)))] at q1
                         exact q1 _ r1 r2)
                      | (have hz : N = 8 := hN
                         have gA : zEvA n w i := by unfold zEvA; omega
                         have gB : zEvB w i := by unfold zEvB; omega
                         rw [show sEvent n (N, a, b) w i = (N, a, b) from (if_neg (by omega)).trans (if_neg (fun q => absurd q.2 (show ¬ N < 8 by omega))), show oEvent n (N, a, b) w i = -4 from (if_neg (by omega)).trans ((if_neg (fun q => q gA)).trans ((if_neg (fun q => q gB)).trans (if_neg (show ¬ N < 8 by omega))))] at q1
                         exact q1 _ hW0 (fun _ _ => rfl))
                  · simp only [Option.toList_some, Option.toList_none, List.drop_succ_cons, List.drop_zero, List.cons_append, List.nil_append]
                    refine ze_ireturn kc_72_81 (Or.inl rfl) ?_
                    first
                      | (have hz := r1
                         have gA : zEvA n w i := by unfold zEvA; omega
                         have gB : zEvB w i := by unfold zEvB; omega
                         rw [show sEvent n (N, a, b) w i = (N + 1, zext a N w, zext b N i) from (if_neg (by omega)).trans (if_pos ⟨⟨gA, gB⟩, hN⟩), show oEvent n (N, a, b) w i = ((N + 1 : Nat) : Int) from (if_neg (by omega)).trans ((if_neg (fun q => q gA)).trans ((if_neg (fun q => q gB)).trans (if_pos hN)))] at q1
                         exact q1 _ r1 r2)
                      | (have hz : N = 8 := hN
                         have gA : zEvA n w i := by unfold zEvA; omega
                         have gB : zEvB w i := by unfold zEvB; omega
                         rw [show sEvent n (N, a, b) w i = (N, a, b) from (if_neg (by omega)).trans (if_neg (fun q => absurd q.2 (show ¬ N < 8 by omega))), show oEvent n (N, a, b) w i = -4 from (if_neg (by omega)).trans ((if_neg (fun q => q gA)).trans ((if_neg (fun q => q gB)).trans (if_neg (show ¬ N < 8 by omega))))] at q1
                         exact q1 _ hW0 (fun _ _ => rfl))
                · skip
                  refine ze_iload_n kc_72_62 rfl ?_
                  refine zE_calls 1 kc_72_63 rfl rfl (Nat.le_of_ble_eq_true rfl) (Nat.le_of_ble_eq_true rfl) (Nat.le_of_ble_eq_true rfl) rfl ?_
                  refine m_isEstate (by omega) (fun g63 => ?_) (fun g63 => ?_)
                  · simp only [Option.toList_some, Option.toList_none, List.drop_succ_cons, List.drop_zero, List.cons_append, List.nil_append]
                    refine ze_if_ne kc_72_66 (by decide) (fun _ => ?_) (fun q => absurd q (by decide))
                    refine ze_aload_n kc_72_72 rfl ?_
                    refine ze_getR kc_72_73 rfl rfl rfl ?_
                    refine ze_iload_n kc_72_76 rfl ?_
                    refine ze_iload_n kc_72_77 rfl ?_
                    refine zE_callv 3 kc_72_78 rfl rfl (Nat.le_of_ble_eq_true rfl) (Nat.le_of_ble_eq_true rfl) (Nat.le_of_ble_eq_true rfl) rfl (by decide +kernel) rfl ?_
                    refine m_addR zrF_23 (by decide) hW0 (fun hN Z2 r1 r2 => ?_) (fun hN => ?_)
                    · simp only [Option.toList_some, Option.toList_none, List.drop_succ_cons, List.drop_zero, List.cons_append, List.nil_append]
                      refine ze_ireturn kc_72_81 (Or.inl rfl) ?_
                      first
                        | (have hz := r1
                           have gA : zEvA n w i := by unfold zEvA; omega
                           have gB : zEvB w i := by unfold zEvB; omega
                           rw [show sEvent n (N, a, b) w i = (N + 1, zext a N w, zext b N i) from (if_neg (by omega)).trans (if_pos ⟨⟨gA, gB⟩, hN⟩), show oEvent n (N, a, b) w i = ((N + 1 : Nat) : Int) from (if_neg (by omega)).trans ((if_neg (fun q => q gA)).trans ((if_neg (fun q => q gB)).trans (if_pos hN)))] at q1
                           exact q1 _ r1 r2)
                        | (have hz : N = 8 := hN
                           have gA : zEvA n w i := by unfold zEvA; omega
                           have gB : zEvB w i := by unfold zEvB; omega
                           rw [show sEvent n (N, a, b) w i = (N, a, b) from (if_neg (by omega)).trans (if_neg (fun q => absurd q.2 (show ¬ N < 8 by omega))), show oEvent n (N, a, b) w i = -4 from (if_neg (by omega)).trans ((if_neg (fun q => q gA)).trans ((if_neg (fun q => q gB)).trans (if_neg (show ¬ N < 8 by omega))))] at q1
                           exact q1 _ hW0 (fun _ _ => rfl))
                    · simp only [Option.toList_some, Option.toList_none, List.drop_succ_cons, List.drop_zero, List.cons_append, List.nil_append]
                      refine ze_ireturn kc_72_81 (Or.inl rfl) ?_
                      first
                        | (have hz := r1
                           have gA : zEvA n w i := by unfold zEvA; omega
                           have gB : zEvB w i := by unfold zEvB; omega
                           rw [show sEvent n (N, a, b) w i = (N + 1, zext a N w, zext b N i) from (if_neg (by omega)).trans (if_pos ⟨⟨gA, gB⟩, hN⟩), show oEvent n (N, a, b) w i = ((N + 1 : Nat) : Int) from (if_neg (by omega)).trans ((if_neg (fun q => q gA)).trans ((if_neg (fun q => q gB)).trans (if_pos hN)))] at q1
                           exact q1 _ r1 r2)
                        | (have hz : N = 8 := hN
                           have gA : zEvA n w i := by unfold zEvA; omega
                           have gB : zEvB w i := by unfold zEvB; omega
                           rw [show sEvent n (N, a, b) w i = (N, a, b) from (if_neg (by omega)).trans (if_neg (fun q => absurd q.2 (show ¬ N < 8 by omega))), show oEvent n (N, a, b) w i = -4 from (if_neg (by omega)).trans ((if_neg (fun q => q gA)).trans ((if_neg (fun q => q gB)).trans (if_neg (show ¬ N < 8 by omega))))] at q1
                           exact q1 _ hW0 (fun _ _ => rfl))
                  · simp only [Option.toList_some, Option.toList_none, List.drop_succ_cons, List.drop_zero, List.cons_append, List.nil_append]
                    refine ze_if_ne kc_72_66 (by decide) (fun q => absurd q (by decide)) (fun _ => ?_)
                    refine ze_bipush kc_72_69 ?_
                    refine ze_ireturn kc_72_71 (Or.inl rfl) ?_
                    have gA : zEvA n w i := by unfold zEvA; omega
                    have gB : ¬ zEvB w i := by unfold zEvB; omega
                    rw [show sEvent n (N, a, b) w i = (N, a, b) from (if_neg (by omega)).trans (if_neg (fun q => gB q.1.2)), show oEvent n (N, a, b) w i = -2 from (if_neg (by omega)).trans ((if_neg (fun q => q gA)).trans (if_pos gB))] at q1
                    exact q1 _ hW0 (fun _ _ => rfl)
              · simp only [Option.toList_some, Option.toList_none, List.drop_succ_cons, List.drop_zero, List.cons_append, List.nil_append]
                refine ze_if_eq kc_72_54 (by decide) (fun _ => ?_) (fun q => absurd q (by decide))
                refine ze_bipush kc_72_69 ?_
                refine ze_ireturn kc_72_71 (Or.inl rfl) ?_
                have gA : zEvA n w i := by unfold zEvA; omega
                have gB : ¬ zEvB w i := by unfold zEvB; omega
                rw [show sEvent n (N, a, b) w i = (N, a, b) from (if_neg (by omega)).trans (if_neg (fun q => gB q.1.2)), show oEvent n (N, a, b) w i = -2 from (if_neg (by omega)).trans ((if_neg (fun q => q gA)).trans (if_pos gB))] at q1
                exact q1 _ hW0 (fun _ _ => rfl)
          · simp only [Option.toList_some, Option.toList_none, List.drop_succ_cons, List.drop_zero, List.cons_append, List.nil_append]
            refine ze_if_ne kc_72_40 (by decide) (fun q => absurd q (by decide)) (fun _ => ?_)
            refine ze_iconst kc_72_43 ?_
            refine ze_ireturn kc_72_44 (Or.inl rfl) ?_
            have gA : ¬ zEvA n w i := by unfold zEvA; omega
            rw [show sEvent n (N, a, b) w i = (N, a, b) from (if_neg (by omega)).trans (if_neg (fun q => gA q.1.1)), show oEvent n (N, a, b) w i = -1 from (if_neg (by omega)).trans (if_pos gA)] at q1
            exact q1 _ hW0 (fun _ _ => rfl)
  · skip
    refine ze_aload_n kc_72_5 rfl ?_
    refine ze_getR kc_72_6 rfl rfl rfl ?_
    refine ze_iconst kc_72_9 ?_
    refine ze_putI kc_72_10 rfl rfl ?_
    refine ze_iconst kc_72_13 ?_
    refine ze_ireturn kc_72_14 (Or.inl rfl) ?_
    rw [show sEvent n (N, a, b) w i = (0, a, b) from if_pos (by omega), show oEvent n (N, a, b) w i = 0 from if_pos (by omega)] at q1
    refine q1 _ ⟨?_, zup_s, Nat.zero_le _, fun i hi => absurd hi (Nat.not_lt_zero _), fun i hi => absurd hi (Nat.not_lt_zero _)⟩ (fun k hk => zup_ne' (by omega))
    rw [zup_o (by decide)]; exact w1

set_option maxHeartbeats 4000000 in
theorem m_eventM {Z : zMem} {Q : Option zAV → zMem → Prop} {n : Nat} {c : Nat → Int} {e ρ : Int} (hM : zMo n c e ρ Z) {N : Nat} {a b : Nat → Int} (hW : zRwM 7 67 68 8 (N, a, b) Z) {w i : Int} (hw : -2147483648 ≤ w ∧ w ≤ 2147483647) (hi : -2147483648 ≤ i ∧ i ≤ 2147483647) (q1 : ∀ Z', zRwM 7 67 68 8 (sEvent n (N, a, b) w i) Z' → zFRm 7 67 68 Z Z' → Q (some (zI (oEvent n (N, a, b) w i))) Z') : zE 156 0 (zent 156 [zR 63, zI w, zI i]) [] Z Q := by
  show zE 156 0 [some (zR 63), some (zI w), some (zI i)] [] Z Q
  have hM0 := hM
  obtain ⟨n0, n6, mc, mr, me, mρ, meR, mρR⟩ := hM
  have msr := zsum_range mr
  have hp6 := zpow6 n6
  have hW0 := hW
  obtain ⟨w1, w2, w3, w4⟩ := hW
  replace w1 : Z 63 7 = (N : Int) := w1
  replace w2 : N ≤ 8 := w2
  refine ze_iload_n kc_156_0 rfl ?_
  refine ze_iconst kc_156_1 ?_
  refine ze_icmp_ne kc_156_2 (by omega) (by omega) (fun h2 => ?_) (fun h2 => ?_)
  · skip
    refine ze_iload_n kc_156_12 rfl ?_
    refine ze_iconst kc_156_13 ?_
    refine ze_iconst kc_156_14 ?_
    refine zE_calls 3 kc_156_15 rfl rfl (Nat.le_of_ble_eq_true rfl) (Nat.le_of_ble_eq_true rfl) (Nat.le_of_ble_eq_true rfl) rfl ?_
    refine m_in (by omega) (by omega) (by omega) (fun g15 => ?_) (fun g15 => ?_)
    · simp only [Option.toList_some, Option.toList_none, List.drop_succ_cons, List.drop_zero, List.cons_append, List.nil_append]
      refine ze_if_eq kc_156_18 (by decide) (fun q => absurd q (by decide)) (fun _ => ?_)
      refine ze_iload_n kc_156_21 rfl ?_
      refine ze_iconst kc_156_22 ?_
      refine ze_icmp_ge kc_156_23 (by omega) (by omega) (fun h23 => ?_) (fun h23 => ?_)
      · skip
        refine ze_iload_n kc_156_36 rfl ?_
        refine ze_iconst kc_156_37 ?_
        refine ze_icmp_ne kc_156_38 (by omega) (by omega) (fun h38 => ?_) (fun h38 => ?_)
        · skip
          refine ze_iload_n kc_156_48 rfl ?_
          refine ze_iconst kc_156_49 ?_
          refine ze_icmp_ne kc_156_50 (by omega) (by omega) (fun h50 => ?_) (fun h50 => ?_)
          · skip
            refine ze_aload_n kc_156_67 rfl ?_
            refine ze_getI kc_156_68 rfl (by decide) ?_
            rw [w1]
            refine ze_bipush kc_156_71 ?_
            refine ze_icmp_ne kc_156_73 (by omega) (by omega) (fun h73 => ?_) (fun h73 => ?_)
            · skip
              refine ze_aload_n kc_156_79 rfl ?_
              refine ze_getR kc_156_80 rfl rfl rfl ?_
              refine ze_aload_n kc_156_83 rfl ?_
              refine ze_getI kc_156_84 rfl (by decide) ?_
              rw [w1]
              refine ze_iload_n kc_156_87 rfl ?_
              refine ze_iast kc_156_88 rfl (by omega) ?_
              rw [Int.toNat_natCast]
              refine ze_aload_n kc_156_89 rfl ?_
              refine ze_getR kc_156_90 rfl rfl rfl ?_
              refine ze_aload_n kc_156_93 rfl ?_
              refine ze_getI kc_156_94 rfl (by decide) ?_
              rw [zup_ne' (by decide), w1]
              refine ze_iload_n kc_156_97 rfl ?_
              refine ze_iast kc_156_98 rfl (by omega) ?_
              rw [Int.toNat_natCast]
              refine ze_aload_n kc_156_99 rfl ?_
              refine ze_dup kc_156_100 rfl ?_
              refine ze_getI kc_156_101 rfl (by decide) ?_
              rw [zup_ne' (by decide), zup_ne' (by decide), w1]
              refine ze_iconst kc_156_104 ?_
              refine ze_iadd kc_156_105 ?_
              refine ze_putI kc_156_106 rfl rfl ?_
              refine ze_aload_n kc_156_109 rfl ?_
              refine ze_getI kc_156_110 rfl (by decide) ?_
              rw [zup_s]
              refine ze_ireturn kc_156_113 (Or.inl rfl) ?_
              have hN : N < 8 := by omega
              have gA : zEvA n w i := by unfold zEvA; omega
              have gB : zEvB w i := by unfold zEvB; omega
              rw [show sEvent n (N, a, b) w i = (N + 1, zext a N w, zext b N i) from (if_neg (by omega)).trans (if_pos ⟨⟨gA, gB⟩, hN⟩), show oEvent n (N, a, b) w i = ((N + 1 : Nat) : Int) from (if_neg (by omega)).trans ((if_neg (fun q => q gA)).trans ((if_neg (fun q => q gB)).trans (if_pos hN)))] at q1
              rw [show (N : Int) + 1 = ((N + 1 : Nat) : Int) by omega]
              refine q1 _ ⟨by rw [zup_s], by omega, fun j hj => ?_, fun j hj => ?_⟩ ⟨fun k a b d => ?_, fun j a => ?_⟩
              · replace hj : j < N + 1 := hj
                show zup _ 63 7 _ 67 j = zext a N w j
                rw [zup_ne' (by decide), zup_ne' (by decide)]
                by_cases q : j = N
                · rw [q, zup_s]; exact (if_pos rfl).symm
                · rw [zup_o q, zext_lt (by omega)]; exact w3 j (by show j < N; omega)
              · replace hj : j < N + 1 := hj
                show zup _ 63 7 _ 68 j = zext b N i j
                rw [zup_ne' (by decide)]
                by_cases q : j = N
                · rw [q, zup_s]; exact (if_pos rfl).symm
                · rw [zup_o q, zup_ne' (by decide), zext_lt (by omega)]; exact w4 j (by show j < N; omega)
              · rw [zup_ne' a, zup_ne' d, zup_ne' b]
              · rw [zup_o a, zup_ne' (by decide), zup_ne' (by decide)]
            · skip
              refine ze_bipush kc_156_76 ?_
              refine ze_ireturn kc_156_78 (Or.inl rfl) ?_
              have gA : zEvA n w i := by unfold zEvA; omega
              have gB : zEvB w i := by unfold zEvB; omega
              rw [show sEvent n (N, a, b) w i = (N, a, b) from (if_neg (by omega)).trans (if_neg (fun q => absurd q.2 (show ¬ N < 8 by omega))), show oEvent n (N, a, b) w i = -4 from (if_neg (by omega)).trans ((if_neg (fun q => q gA)).trans ((if_neg (fun q => q gB)).trans (if_neg (show ¬ N < 8 by omega))))] at q1
              exact q1 _ hW0 zFRm_refl
          · skip
            refine ze_iload_n kc_156_53 rfl ?_
            refine ze_iconst kc_156_54 ?_
            refine ze_sipush kc_156_55 ?_
            refine zE_calls 3 kc_156_58 rfl rfl (Nat.le_of_ble_eq_true rfl) (Nat.le_of_ble_eq_true rfl) (Nat.le_of_ble_eq_true rfl) rfl ?_
            refine m_in (by omega) (by omega) (by omega) (fun g58 => ?_) (fun g58 => ?_)
            · simp only [Option.toList_some, Option.toList_none, List.drop_succ_cons, List.drop_zero, List.cons_append, List.nil_append]
              refine ze_if_ne kc_156_61 (by decide) (fun _ => ?_) (fun q => absurd q (by decide))
              refine ze_aload_n kc_156_67 rfl ?_
              refine ze_getI kc_156_68 rfl (by decide) ?_
              rw [w1]
              refine ze_bipush kc_156_71 ?_
              refine ze_icmp_ne kc_156_73 (by omega) (by omega) (fun h73 => ?_) (fun h73 => ?_)
              · skip
                refine ze_aload_n kc_156_79 rfl ?_
                refine ze_getR kc_156_80 rfl rfl rfl ?_
                refine ze_aload_n kc_156_83 rfl ?_
                refine ze_getI kc_156_84 rfl (by decide) ?_
                rw [w1]
                refine ze_iload_n kc_156_87 rfl ?_
                refine ze_iast kc_156_88 rfl (by omega) ?_
                rw [Int.toNat_natCast]
                refine ze_aload_n kc_156_89 rfl ?_
                refine ze_getR kc_156_90 rfl rfl rfl ?_
                refine ze_aload_n kc_156_93 rfl ?_
                refine ze_getI kc_156_94 rfl (by decide) ?_
                rw [zup_ne' (by decide), w1]
                refine ze_iload_n kc_156_97 rfl ?_
                refine ze_iast kc_156_98 rfl (by omega) ?_
                rw [Int.toNat_natCast]
                refine ze_aload_n kc_156_99 rfl ?_
                refine ze_dup kc_156_100 rfl ?_
                refine ze_getI kc_156_101 rfl (by decide) ?_
                rw [zup_ne' (by decide), zup_ne' (by decide), w1]
                refine ze_iconst kc_156_104 ?_
                refine ze_iadd kc_156_105 ?_
                refine ze_putI kc_156_106 rfl rfl ?_
                refine ze_aload_n kc_156_109 rfl ?_
                refine ze_getI kc_156_110 rfl (by decide) ?_
                rw [zup_s]
                refine ze_ireturn kc_156_113 (Or.inl rfl) ?_
                have hN : N < 8 := by omega
                have gA : zEvA n w i := by unfold zEvA; omega
                have gB : zEvB w i := by unfold zEvB; omega
                rw [show sEvent n (N, a, b) w i = (N + 1, zext a N w, zext b N i) from (if_neg (by omega)).trans (if_pos ⟨⟨gA, gB⟩, hN⟩), show oEvent n (N, a, b) w i = ((N + 1 : Nat) : Int) from (if_neg (by omega)).trans ((if_neg (fun q => q gA)).trans ((if_neg (fun q => q gB)).trans (if_pos hN)))] at q1
                rw [show (N : Int) + 1 = ((N + 1 : Nat) : Int) by omega]
                refine q1 _ ⟨by rw [zup_s], by omega, fun j hj => ?_, fun j hj => ?_⟩ ⟨fun k a b d => ?_, fun j a => ?_⟩
                · replace hj : j < N + 1 := hj
                  show zup _ 63 7 _ 67 j = zext a N w j
                  rw [zup_ne' (by decide), zup_ne' (by decide)]
                  by_cases q : j = N
                  · rw [q, zup_s]; exact (if_pos rfl).symm
                  · rw [zup_o q, zext_lt (by omega)]; exact w3 j (by show j < N; omega)
                · replace hj : j < N + 1 := hj
                  show zup _ 63 7 _ 68 j = zext b N i j
                  rw [zup_ne' (by decide)]
                  by_cases q : j = N
                  · rw [q, zup_s]; exact (if_pos rfl).symm
                  · rw [zup_o q, zup_ne' (by decide), zext_lt (by omega)]; exact w4 j (by show j < N; omega)
                · rw [zup_ne' a, zup_ne' d, zup_ne' b]
                · rw [zup_o a, zup_ne' (by decide), zup_ne' (by decide)]
              · skip
                refine ze_bipush kc_156_76 ?_
                refine ze_ireturn kc_156_78 (Or.inl rfl) ?_
                have gA : zEvA n w i := by unfold zEvA; omega
                have gB : zEvB w i := by unfold zEvB; omega
                rw [show sEvent n (N, a, b) w i = (N, a, b) from (if_neg (by omega)).trans (if_neg (fun q => absurd q.2 (show ¬ N < 8 by omega))), show oEvent n (N, a, b) w i = -4 from (if_neg (by omega)).trans ((if_neg (fun q => q gA)).trans ((if_neg (fun q => q gB)).trans (if_neg (show ¬ N < 8 by omega))))] at q1
                exact q1 _ hW0 zFRm_refl
            · simp only [Option.toList_some, Option.toList_none, List.drop_succ_cons, List.drop_zero, List.cons_append, List.nil_append]
              refine ze_if_ne kc_156_61 (by decide) (fun q => absurd q (by decide)) (fun _ => ?_)
              refine ze_bipush kc_156_64 ?_
              refine ze_ireturn kc_156_66 (Or.inl rfl) ?_
              have gA : zEvA n w i := by unfold zEvA; omega
              have gB : ¬ zEvB w i := by unfold zEvB; omega
              rw [show sEvent n (N, a, b) w i = (N, a, b) from (if_neg (by omega)).trans (if_neg (fun q => gB q.1.2)), show oEvent n (N, a, b) w i = -2 from (if_neg (by omega)).trans ((if_neg (fun q => q gA)).trans (if_pos gB))] at q1
              exact q1 _ hW0 zFRm_refl
        · skip
          refine ze_iload_n kc_156_41 rfl ?_
          refine zE_calls 1 kc_156_42 rfl rfl (Nat.le_of_ble_eq_true rfl) (Nat.le_of_ble_eq_true rfl) (Nat.le_of_ble_eq_true rfl) rfl ?_
          refine m_isRuleM (by omega) (fun g42 => ?_) (fun g42 => ?_)
          · simp only [Option.toList_some, Option.toList_none, List.drop_succ_cons, List.drop_zero, List.cons_append, List.nil_append]
            refine ze_if_eq kc_156_45 (by decide) (fun q => absurd q (by decide)) (fun _ => ?_)
            refine ze_iload_n kc_156_48 rfl ?_
            refine ze_iconst kc_156_49 ?_
            refine ze_icmp_ne kc_156_50 (by omega) (by omega) (fun h50 => ?_) (fun h50 => ?_)
            · skip
              refine ze_aload_n kc_156_67 rfl ?_
              refine ze_getI kc_156_68 rfl (by decide) ?_
              rw [w1]
              refine ze_bipush kc_156_71 ?_
              refine ze_icmp_ne kc_156_73 (by omega) (by omega) (fun h73 => ?_) (fun h73 => ?_)
              · skip
                refine ze_aload_n kc_156_79 rfl ?_
                refine ze_getR kc_156_80 rfl rfl rfl ?_
                refine ze_aload_n kc_156_83 rfl ?_
                refine ze_getI kc_156_84 rfl (by decide) ?_
                rw [w1]
                refine ze_iload_n kc_156_87 rfl ?_
                refine ze_iast kc_156_88 rfl (by omega) ?_
                rw [Int.toNat_natCast]
                refine ze_aload_n kc_156_89 rfl ?_
                refine ze_getR kc_156_90 rfl rfl rfl ?_
                refine ze_aload_n kc_156_93 rfl ?_
                refine ze_getI kc_156_94 rfl (by decide) ?_
                rw [zup_ne' (by decide), w1]
                refine ze_iload_n kc_156_97 rfl ?_
                refine ze_iast kc_156_98 rfl (by omega) ?_
                rw [Int.toNat_natCast]
                refine ze_aload_n kc_156_99 rfl ?_
                refine ze_dup kc_156_100 rfl ?_
                refine ze_getI kc_156_101 rfl (by decide) ?_
                rw [zup_ne' (by decide), zup_ne' (by decide), w1]
                refine ze_iconst kc_156_104 ?_
                refine ze_iadd kc_156_105 ?_
                refine ze_putI kc_156_106 rfl rfl ?_
                refine ze_aload_n kc_156_109 rfl ?_
                refine ze_getI kc_156_110 rfl (by decide) ?_
                rw [zup_s]
                refine ze_ireturn kc_156_113 (Or.inl rfl) ?_
                have hN : N < 8 := by omega
                have gA : zEvA n w i := by unfold zEvA; omega
                have gB : zEvB w i := by unfold zEvB; omega
                rw [show sEvent n (N, a, b) w i = (N + 1, zext a N w, zext b N i) from (if_neg (by omega)).trans (if_pos ⟨⟨gA, gB⟩, hN⟩), show oEvent n (N, a, b) w i = ((N + 1 : Nat) : Int) from (if_neg (by omega)).trans ((if_neg (fun q => q gA)).trans ((if_neg (fun q => q gB)).trans (if_pos hN)))] at q1
                rw [show (N : Int) + 1 = ((N + 1 : Nat) : Int) by omega]
                refine q1 _ ⟨by rw [zup_s], by omega, fun j hj => ?_, fun j hj => ?_⟩ ⟨fun k a b d => ?_, fun j a => ?_⟩
                · replace hj : j < N + 1 := hj
                  show zup _ 63 7 _ 67 j = zext a N w j
                  rw [zup_ne' (by decide), zup_ne' (by decide)]
                  by_cases q : j = N
                  · rw [q, zup_s]; exact (if_pos rfl).symm
                  · rw [zup_o q, zext_lt (by omega)]; exact w3 j (by show j < N; omega)
                · replace hj : j < N + 1 := hj
                  show zup _ 63 7 _ 68 j = zext b N i j
                  rw [zup_ne' (by decide)]
                  by_cases q : j = N
                  · rw [q, zup_s]; exact (if_pos rfl).symm
                  · rw [zup_o q, zup_ne' (by decide), zext_lt (by omega)]; exact w4 j (by show j < N; omega)
                · rw [zup_ne' a, zup_ne' d, zup_ne' b]
                · rw [zup_o a, zup_ne' (by decide), zup_ne' (by decide)]
              · skip
                refine ze_bipush kc_156_76 ?_
                refine ze_ireturn kc_156_78 (Or.inl rfl) ?_
                have gA : zEvA n w i := by unfold zEvA; omega
                have gB : zEvB w i := by unfold zEvB; omega
                rw [show sEvent n (N, a, b) w i = (N, a, b) from (if_neg (by omega)).trans (if_neg (fun q => absurd q.2 (show ¬ N < 8 by omega))), show oEvent n (N, a, b) w i = -4 from (if_neg (by omega)).trans ((if_neg (fun q => q gA)).trans ((if_neg (fun q => q gB)).trans (if_neg (show ¬ N < 8 by omega))))] at q1
                exact q1 _ hW0 zFRm_refl
            · skip
              refine ze_iload_n kc_156_53 rfl ?_
              refine ze_iconst kc_156_54 ?_
              refine ze_sipush kc_156_55 ?_
              refine zE_calls 3 kc_156_58 rfl rfl (Nat.le_of_ble_eq_true rfl) (Nat.le_of_ble_eq_true rfl) (Nat.le_of_ble_eq_true rfl) rfl ?_
              refine m_in (by omega) (by omega) (by omega) (fun g58 => ?_) (fun g58 => ?_)
              · simp only [Option.toList_some, Option.toList_none, List.drop_succ_cons, List.drop_zero, List.cons_append, List.nil_append]
                refine ze_if_ne kc_156_61 (by decide) (fun _ => ?_) (fun q => absurd q (by decide))
                refine ze_aload_n kc_156_67 rfl ?_
                refine ze_getI kc_156_68 rfl (by decide) ?_
                rw [w1]
                refine ze_bipush kc_156_71 ?_
                refine ze_icmp_ne kc_156_73 (by omega) (by omega) (fun h73 => ?_) (fun h73 => ?_)
                · skip
                  refine ze_aload_n kc_156_79 rfl ?_
                  refine ze_getR kc_156_80 rfl rfl rfl ?_
                  refine ze_aload_n kc_156_83 rfl ?_
                  refine ze_getI kc_156_84 rfl (by decide) ?_
                  rw [w1]
                  refine ze_iload_n kc_156_87 rfl ?_
                  refine ze_iast kc_156_88 rfl (by omega) ?_
                  rw [Int.toNat_natCast]
                  refine ze_aload_n kc_156_89 rfl ?_
                  refine ze_getR kc_156_90 rfl rfl rfl ?_
                  refine ze_aload_n kc_156_93 rfl ?_
                  refine ze_getI kc_156_94 rfl (by decide) ?_
                  rw [zup_ne' (by decide), w1]
                  refine ze_iload_n kc_156_97 rfl ?_
                  refine ze_iast kc_156_98 rfl (by omega) ?_
                  rw [Int.toNat_natCast]
                  refine ze_aload_n kc_156_99 rfl ?_
                  refine ze_dup kc_156_100 rfl ?_
                  refine ze_getI kc_156_101 rfl (by decide) ?_
                  rw [zup_ne' (by decide), zup_ne' (by decide), w1]
                  refine ze_iconst kc_156_104 ?_
                  refine ze_iadd kc_156_105 ?_
                  refine ze_putI kc_156_106 rfl rfl ?_
                  refine ze_aload_n kc_156_109 rfl ?_
                  refine ze_getI kc_156_110 rfl (by decide) ?_
                  rw [zup_s]
                  refine ze_ireturn kc_156_113 (Or.inl rfl) ?_
                  have hN : N < 8 := by omega
                  have gA : zEvA n w i := by unfold zEvA; omega
                  have gB : zEvB w i := by unfold zEvB; omega
                  rw [show sEvent n (N, a, b) w i = (N + 1, zext a N w, zext b N i) from (if_neg (by omega)).trans (if_pos ⟨⟨gA, gB⟩, hN⟩), show oEvent n (N, a, b) w i = ((N + 1 : Nat) : Int) from (if_neg (by omega)).trans ((if_neg (fun q => q gA)).trans ((if_neg (fun q => q gB)).trans (if_pos hN)))] at q1
                  rw [show (N : Int) + 1 = ((N + 1 : Nat) : Int) by omega]
                  refine q1 _ ⟨by rw [zup_s], by omega, fun j hj => ?_, fun j hj => ?_⟩ ⟨fun k a b d => ?_, fun j a => ?_⟩
                  · replace hj : j < N + 1 := hj
                    show zup _ 63 7 _ 67 j = zext a N w j
                    rw [zup_ne' (by decide), zup_ne' (by decide)]
                    by_cases q : j = N
                    · rw [q, zup_s]; exact (if_pos rfl).symm
                    · rw [zup_o q, zext_lt (by omega)]; exact w3 j (by show j < N; omega)
                  · replace hj : j < N + 1 := hj
                    show zup _ 63 7 _ 68 j = zext b N i j
                    rw [zup_ne' (by decide)]
                    by_cases q : j = N
                    · rw [q, zup_s]; exact (if_pos rfl).symm
                    · rw [zup_o q, zup_ne' (by decide), zext_lt (by omega)]; exact w4 j (by show j < N; omega)
                  · rw [zup_ne' a, zup_ne' d, zup_ne' b]
                  · rw [zup_o a, zup_ne' (by decide), zup_ne' (by decide)]
                · skip
                  refine ze_bipush kc_156_76 ?_
                  refine ze_ireturn kc_156_78 (Or.inl rfl) ?_
                  have gA : zEvA n w i := by unfold zEvA; omega
                  have gB : zEvB w i := by unfold zEvB; omega
                  rw [show sEvent n (N, a, b) w i = (N, a, b) from (if_neg (by omega)).trans (if_neg (fun q => absurd q.2 (show ¬ N < 8 by omega))), show oEvent n (N, a, b) w i = -4 from (if_neg (by omega)).trans ((if_neg (fun q => q gA)).trans ((if_neg (fun q => q gB)).trans (if_neg (show ¬ N < 8 by omega))))] at q1
                  exact q1 _ hW0 zFRm_refl
              · simp only [Option.toList_some, Option.toList_none, List.drop_succ_cons, List.drop_zero, List.cons_append, List.nil_append]
                refine ze_if_ne kc_156_61 (by decide) (fun q => absurd q (by decide)) (fun _ => ?_)
                refine ze_bipush kc_156_64 ?_
                refine ze_ireturn kc_156_66 (Or.inl rfl) ?_
                have gA : zEvA n w i := by unfold zEvA; omega
                have gB : ¬ zEvB w i := by unfold zEvB; omega
                rw [show sEvent n (N, a, b) w i = (N, a, b) from (if_neg (by omega)).trans (if_neg (fun q => gB q.1.2)), show oEvent n (N, a, b) w i = -2 from (if_neg (by omega)).trans ((if_neg (fun q => q gA)).trans (if_pos gB))] at q1
                exact q1 _ hW0 zFRm_refl
          · simp only [Option.toList_some, Option.toList_none, List.drop_succ_cons, List.drop_zero, List.cons_append, List.nil_append]
            refine ze_if_eq kc_156_45 (by decide) (fun _ => ?_) (fun q => absurd q (by decide))
            refine ze_bipush kc_156_64 ?_
            refine ze_ireturn kc_156_66 (Or.inl rfl) ?_
            have gA : zEvA n w i := by unfold zEvA; omega
            have gB : ¬ zEvB w i := by unfold zEvB; omega
            rw [show sEvent n (N, a, b) w i = (N, a, b) from (if_neg (by omega)).trans (if_neg (fun q => gB q.1.2)), show oEvent n (N, a, b) w i = -2 from (if_neg (by omega)).trans ((if_neg (fun q => q gA)).trans (if_pos gB))] at q1
            exact q1 _ hW0 zFRm_refl
      · skip
        refine ze_aload_n kc_156_26 rfl ?_
        refine ze_iload_n kc_156_27 rfl ?_
        refine zE_callv 2 kc_156_28 rfl rfl (Nat.le_of_ble_eq_true rfl) (Nat.le_of_ble_eq_true rfl) (Nat.le_of_ble_eq_true rfl) rfl (by decide +kernel) rfl ?_
        refine m_isOne hM0 (by omega) (fun g28 => ?_) (fun g28 => ?_)
        · simp only [Option.toList_some, Option.toList_none, List.drop_succ_cons, List.drop_zero, List.cons_append, List.nil_append]
          refine ze_if_ne kc_156_31 (by decide) (fun _ => ?_) (fun q => absurd q (by decide))
          refine ze_iload_n kc_156_36 rfl ?_
          refine ze_iconst kc_156_37 ?_
          refine ze_icmp_ne kc_156_38 (by omega) (by omega) (fun h38 => ?_) (fun h38 => ?_)
          · skip
            refine ze_iload_n kc_156_48 rfl ?_
            refine ze_iconst kc_156_49 ?_
            refine ze_icmp_ne kc_156_50 (by omega) (by omega) (fun h50 => ?_) (fun h50 => ?_)
            · skip
              refine ze_aload_n kc_156_67 rfl ?_
              refine ze_getI kc_156_68 rfl (by decide) ?_
              rw [w1]
              refine ze_bipush kc_156_71 ?_
              refine ze_icmp_ne kc_156_73 (by omega) (by omega) (fun h73 => ?_) (fun h73 => ?_)
              · skip
                refine ze_aload_n kc_156_79 rfl ?_
                refine ze_getR kc_156_80 rfl rfl rfl ?_
                refine ze_aload_n kc_156_83 rfl ?_
                refine ze_getI kc_156_84 rfl (by decide) ?_
                rw [w1]
                refine ze_iload_n kc_156_87 rfl ?_
                refine ze_iast kc_156_88 rfl (by omega) ?_
                rw [Int.toNat_natCast]
                refine ze_aload_n kc_156_89 rfl ?_
                refine ze_getR kc_156_90 rfl rfl rfl ?_
                refine ze_aload_n kc_156_93 rfl ?_
                refine ze_getI kc_156_94 rfl (by decide) ?_
                rw [zup_ne' (by decide), w1]
                refine ze_iload_n kc_156_97 rfl ?_
                refine ze_iast kc_156_98 rfl (by omega) ?_
                rw [Int.toNat_natCast]
                refine ze_aload_n kc_156_99 rfl ?_
                refine ze_dup kc_156_100 rfl ?_
                refine ze_getI kc_156_101 rfl (by decide) ?_
                rw [zup_ne' (by decide), zup_ne' (by decide), w1]
                refine ze_iconst kc_156_104 ?_
                refine ze_iadd kc_156_105 ?_
                refine ze_putI kc_156_106 rfl rfl ?_
                refine ze_aload_n kc_156_109 rfl ?_
                refine ze_getI kc_156_110 rfl (by decide) ?_
                rw [zup_s]
                refine ze_ireturn kc_156_113 (Or.inl rfl) ?_
                have hN : N < 8 := by omega
                have gA : zEvA n w i := by unfold zEvA; omega
                have gB : zEvB w i := by unfold zEvB; omega
                rw [show sEvent n (N, a, b) w i = (N + 1, zext a N w, zext b N i) from (if_neg (by omega)).trans (if_pos ⟨⟨gA, gB⟩, hN⟩), show oEvent n (N, a, b) w i = ((N + 1 : Nat) : Int) from (if_neg (by omega)).trans ((if_neg (fun q => q gA)).trans ((if_neg (fun q => q gB)).trans (if_pos hN)))] at q1
                rw [show (N : Int) + 1 = ((N + 1 : Nat) : Int) by omega]
                refine q1 _ ⟨by rw [zup_s], by omega, fun j hj => ?_, fun j hj => ?_⟩ ⟨fun k a b d => ?_, fun j a => ?_⟩
                · replace hj : j < N + 1 := hj
                  show zup _ 63 7 _ 67 j = zext a N w j
                  rw [zup_ne' (by decide), zup_ne' (by decide)]
                  by_cases q : j = N
                  · rw [q, zup_s]; exact (if_pos rfl).symm
                  · rw [zup_o q, zext_lt (by omega)]; exact w3 j (by show j < N; omega)
                · replace hj : j < N + 1 := hj
                  show zup _ 63 7 _ 68 j = zext b N i j
                  rw [zup_ne' (by decide)]
                  by_cases q : j = N
                  · rw [q, zup_s]; exact (if_pos rfl).symm
                  · rw [zup_o q, zup_ne' (by decide), zext_lt (by omega)]; exact w4 j (by show j < N; omega)
                · rw [zup_ne' a, zup_ne' d, zup_ne' b]
                · rw [zup_o a, zup_ne' (by decide), zup_ne' (by decide)]
              · skip
                refine ze_bipush kc_156_76 ?_
                refine ze_ireturn kc_156_78 (Or.inl rfl) ?_
                have gA : zEvA n w i := by unfold zEvA; omega
                have gB : zEvB w i := by unfold zEvB; omega
                rw [show sEvent n (N, a, b) w i = (N, a, b) from (if_neg (by omega)).trans (if_neg (fun q => absurd q.2 (show ¬ N < 8 by omega))), show oEvent n (N, a, b) w i = -4 from (if_neg (by omega)).trans ((if_neg (fun q => q gA)).trans ((if_neg (fun q => q gB)).trans (if_neg (show ¬ N < 8 by omega))))] at q1
                exact q1 _ hW0 zFRm_refl
            · skip
              refine ze_iload_n kc_156_53 rfl ?_
              refine ze_iconst kc_156_54 ?_
              refine ze_sipush kc_156_55 ?_
              refine zE_calls 3 kc_156_58 rfl rfl (Nat.le_of_ble_eq_true rfl) (Nat.le_of_ble_eq_true rfl) (Nat.le_of_ble_eq_true rfl) rfl ?_
              refine m_in (by omega) (by omega) (by omega) (fun g58 => ?_) (fun g58 => ?_)
              · simp only [Option.toList_some, Option.toList_none, List.drop_succ_cons, List.drop_zero, List.cons_append, List.nil_append]
                refine ze_if_ne kc_156_61 (by decide) (fun _ => ?_) (fun q => absurd q (by decide))
                refine ze_aload_n kc_156_67 rfl ?_
                refine ze_getI kc_156_68 rfl (by decide) ?_
                rw [w1]
                refine ze_bipush kc_156_71 ?_
                refine ze_icmp_ne kc_156_73 (by omega) (by omega) (fun h73 => ?_) (fun h73 => ?_)
                · skip
                  refine ze_aload_n kc_156_79 rfl ?_
                  refine ze_getR kc_156_80 rfl rfl rfl ?_
                  refine ze_aload_n kc_156_83 rfl ?_
                  refine ze_getI kc_156_84 rfl (by decide) ?_
                  rw [w1]
                  refine ze_iload_n kc_156_87 rfl ?_
                  refine ze_iast kc_156_88 rfl (by omega) ?_
                  rw [Int.toNat_natCast]
                  refine ze_aload_n kc_156_89 rfl ?_
                  refine ze_getR kc_156_90 rfl rfl rfl ?_
                  refine ze_aload_n kc_156_93 rfl ?_
                  refine ze_getI kc_156_94 rfl (by decide) ?_
                  rw [zup_ne' (by decide), w1]
                  refine ze_iload_n kc_156_97 rfl ?_
                  refine ze_iast kc_156_98 rfl (by omega) ?_
                  rw [Int.toNat_natCast]
                  refine ze_aload_n kc_156_99 rfl ?_
                  refine ze_dup kc_156_100 rfl ?_
                  refine ze_getI kc_156_101 rfl (by decide) ?_
                  rw [zup_ne' (by decide), zup_ne' (by decide), w1]
                  refine ze_iconst kc_156_104 ?_
                  refine ze_iadd kc_156_105 ?_
                  refine ze_putI kc_156_106 rfl rfl ?_
                  refine ze_aload_n kc_156_109 rfl ?_
                  refine ze_getI kc_156_110 rfl (by decide) ?_
                  rw [zup_s]
                  refine ze_ireturn kc_156_113 (Or.inl rfl) ?_
                  have hN : N < 8 := by omega
                  have gA : zEvA n w i := by unfold zEvA; omega
                  have gB : zEvB w i := by unfold zEvB; omega
                  rw [show sEvent n (N, a, b) w i = (N + 1, zext a N w, zext b N i) from (if_neg (by omega)).trans (if_pos ⟨⟨gA, gB⟩, hN⟩), show oEvent n (N, a, b) w i = ((N + 1 : Nat) : Int) from (if_neg (by omega)).trans ((if_neg (fun q => q gA)).trans ((if_neg (fun q => q gB)).trans (if_pos hN)))] at q1
                  rw [show (N : Int) + 1 = ((N + 1 : Nat) : Int) by omega]
                  refine q1 _ ⟨by rw [zup_s], by omega, fun j hj => ?_, fun j hj => ?_⟩ ⟨fun k a b d => ?_, fun j a => ?_⟩
                  · replace hj : j < N + 1 := hj
                    show zup _ 63 7 _ 67 j = zext a N w j
                    rw [zup_ne' (by decide), zup_ne' (by decide)]
                    by_cases q : j = N
                    · rw [q, zup_s]; exact (if_pos rfl).symm
                    · rw [zup_o q, zext_lt (by omega)]; exact w3 j (by show j < N; omega)
                  · replace hj : j < N + 1 := hj
                    show zup _ 63 7 _ 68 j = zext b N i j
                    rw [zup_ne' (by decide)]
                    by_cases q : j = N
                    · rw [q, zup_s]; exact (if_pos rfl).symm
                    · rw [zup_o q, zup_ne' (by decide), zext_lt (by omega)]; exact w4 j (by show j < N; omega)
                  · rw [zup_ne' a, zup_ne' d, zup_ne' b]
                  · rw [zup_o a, zup_ne' (by decide), zup_ne' (by decide)]
                · skip
                  refine ze_bipush kc_156_76 ?_
                  refine ze_ireturn kc_156_78 (Or.inl rfl) ?_
                  have gA : zEvA n w i := by unfold zEvA; omega
                  have gB : zEvB w i := by unfold zEvB; omega
                  rw [show sEvent n (N, a, b) w i = (N, a, b) from (if_neg (by omega)).trans (if_neg (fun q => absurd q.2 (show ¬ N < 8 by omega))), show oEvent n (N, a, b) w i = -4 from (if_neg (by omega)).trans ((if_neg (fun q => q gA)).trans ((if_neg (fun q => q gB)).trans (if_neg (show ¬ N < 8 by omega))))] at q1
                  exact q1 _ hW0 zFRm_refl
              · simp only [Option.toList_some, Option.toList_none, List.drop_succ_cons, List.drop_zero, List.cons_append, List.nil_append]
                refine ze_if_ne kc_156_61 (by decide) (fun q => absurd q (by decide)) (fun _ => ?_)
                refine ze_bipush kc_156_64 ?_
                refine ze_ireturn kc_156_66 (Or.inl rfl) ?_
                have gA : zEvA n w i := by unfold zEvA; omega
                have gB : ¬ zEvB w i := by unfold zEvB; omega
                rw [show sEvent n (N, a, b) w i = (N, a, b) from (if_neg (by omega)).trans (if_neg (fun q => gB q.1.2)), show oEvent n (N, a, b) w i = -2 from (if_neg (by omega)).trans ((if_neg (fun q => q gA)).trans (if_pos gB))] at q1
                exact q1 _ hW0 zFRm_refl
          · skip
            refine ze_iload_n kc_156_41 rfl ?_
            refine zE_calls 1 kc_156_42 rfl rfl (Nat.le_of_ble_eq_true rfl) (Nat.le_of_ble_eq_true rfl) (Nat.le_of_ble_eq_true rfl) rfl ?_
            refine m_isRuleM (by omega) (fun g42 => ?_) (fun g42 => ?_)
            · simp only [Option.toList_some, Option.toList_none, List.drop_succ_cons, List.drop_zero, List.cons_append, List.nil_append]
              refine ze_if_eq kc_156_45 (by decide) (fun q => absurd q (by decide)) (fun _ => ?_)
              refine ze_iload_n kc_156_48 rfl ?_
              refine ze_iconst kc_156_49 ?_
              refine ze_icmp_ne kc_156_50 (by omega) (by omega) (fun h50 => ?_) (fun h50 => ?_)
              · skip
                refine ze_aload_n kc_156_67 rfl ?_
                refine ze_getI kc_156_68 rfl (by decide) ?_
                rw [w1]
                refine ze_bipush kc_156_71 ?_
                refine ze_icmp_ne kc_156_73 (by omega) (by omega) (fun h73 => ?_) (fun h73 => ?_)
                · skip
                  refine ze_aload_n kc_156_79 rfl ?_
                  refine ze_getR kc_156_80 rfl rfl rfl ?_
                  refine ze_aload_n kc_156_83 rfl ?_
                  refine ze_getI kc_156_84 rfl (by decide) ?_
                  rw [w1]
                  refine ze_iload_n kc_156_87 rfl ?_
                  refine ze_iast kc_156_88 rfl (by omega) ?_
                  rw [Int.toNat_natCast]
                  refine ze_aload_n kc_156_89 rfl ?_
                  refine ze_getR kc_156_90 rfl rfl rfl ?_
                  refine ze_aload_n kc_156_93 rfl ?_
                  refine ze_getI kc_156_94 rfl (by decide) ?_
                  rw [zup_ne' (by decide), w1]
                  refine ze_iload_n kc_156_97 rfl ?_
                  refine ze_iast kc_156_98 rfl (by omega) ?_
                  rw [Int.toNat_natCast]
                  refine ze_aload_n kc_156_99 rfl ?_
                  refine ze_dup kc_156_100 rfl ?_
                  refine ze_getI kc_156_101 rfl (by decide) ?_
                  rw [zup_ne' (by decide), zup_ne' (by decide), w1]
                  refine ze_iconst kc_156_104 ?_
                  refine ze_iadd kc_156_105 ?_
                  refine ze_putI kc_156_106 rfl rfl ?_
                  refine ze_aload_n kc_156_109 rfl ?_
                  refine ze_getI kc_156_110 rfl (by decide) ?_
                  rw [zup_s]
                  refine ze_ireturn kc_156_113 (Or.inl rfl) ?_
                  have hN : N < 8 := by omega
                  have gA : zEvA n w i := by unfold zEvA; omega
                  have gB : zEvB w i := by unfold zEvB; omega
                  rw [show sEvent n (N, a, b) w i = (N + 1, zext a N w, zext b N i) from (if_neg (by omega)).trans (if_pos ⟨⟨gA, gB⟩, hN⟩), show oEvent n (N, a, b) w i = ((N + 1 : Nat) : Int) from (if_neg (by omega)).trans ((if_neg (fun q => q gA)).trans ((if_neg (fun q => q gB)).trans (if_pos hN)))] at q1
                  rw [show (N : Int) + 1 = ((N + 1 : Nat) : Int) by omega]
                  refine q1 _ ⟨by rw [zup_s], by omega, fun j hj => ?_, fun j hj => ?_⟩ ⟨fun k a b d => ?_, fun j a => ?_⟩
                  · replace hj : j < N + 1 := hj
                    show zup _ 63 7 _ 67 j = zext a N w j
                    rw [zup_ne' (by decide), zup_ne' (by decide)]
                    by_cases q : j = N
                    · rw [q, zup_s]; exact (if_pos rfl).symm
                    · rw [zup_o q, zext_lt (by omega)]; exact w3 j (by show j < N; omega)
                  · replace hj : j < N + 1 := hj
                    show zup _ 63 7 _ 68 j = zext b N i j
                    rw [zup_ne' (by decide)]
                    by_cases q : j = N
                    · rw [q, zup_s]; exact (if_pos rfl).symm
                    · rw [zup_o q, zup_ne' (by decide), zext_lt (by omega)]; exact w4 j (by show j < N; omega)
                  · rw [zup_ne' a, zup_ne' d, zup_ne' b]
                  · rw [zup_o a, zup_ne' (by decide), zup_ne' (by decide)]
                · skip
                  refine ze_bipush kc_156_76 ?_
                  refine ze_ireturn kc_156_78 (Or.inl rfl) ?_
                  have gA : zEvA n w i := by unfold zEvA; omega
                  have gB : zEvB w i := by unfold zEvB; omega
                  rw [show sEvent n (N, a, b) w i = (N, a, b) from (if_neg (by omega)).trans (if_neg (fun q => absurd q.2 (show ¬ N < 8 by omega))), show oEvent n (N, a, b) w i = -4 from (if_neg (by omega)).trans ((if_neg (fun q => q gA)).trans ((if_neg (fun q => q gB)).trans (if_neg (show ¬ N < 8 by omega))))] at q1
                  exact q1 _ hW0 zFRm_refl
              · skip
                refine ze_iload_n kc_156_53 rfl ?_
                refine ze_iconst kc_156_54 ?_
                refine ze_sipush kc_156_55 ?_
                refine zE_calls 3 kc_156_58 rfl rfl (Nat.le_of_ble_eq_true rfl) (Nat.le_of_ble_eq_true rfl) (Nat.le_of_ble_eq_true rfl) rfl ?_
                refine m_in (by omega) (by omega) (by omega) (fun g58 => ?_) (fun g58 => ?_)
                · simp only [Option.toList_some, Option.toList_none, List.drop_succ_cons, List.drop_zero, List.cons_append, List.nil_append]
                  refine ze_if_ne kc_156_61 (by decide) (fun _ => ?_) (fun q => absurd q (by decide))
                  refine ze_aload_n kc_156_67 rfl ?_
                  refine ze_getI kc_156_68 rfl (by decide) ?_
                  rw [w1]
                  refine ze_bipush kc_156_71 ?_
                  refine ze_icmp_ne kc_156_73 (by omega) (by omega) (fun h73 => ?_) (fun h73 => ?_)
                  · skip
                    refine ze_aload_n kc_156_79 rfl ?_
                    refine ze_getR kc_156_80 rfl rfl rfl ?_
                    refine ze_aload_n kc_156_83 rfl ?_
                    refine ze_getI kc_156_84 rfl (by decide) ?_
                    rw [w1]
                    refine ze_iload_n kc_156_87 rfl ?_
                    refine ze_iast kc_156_88 rfl (by omega) ?_
                    rw [Int.toNat_natCast]
                    refine ze_aload_n kc_156_89 rfl ?_
                    refine ze_getR kc_156_90 rfl rfl rfl ?_
                    refine ze_aload_n kc_156_93 rfl ?_
                    refine ze_getI kc_156_94 rfl (by decide) ?_
                    rw [zup_ne' (by decide), w1]
                    refine ze_iload_n kc_156_97 rfl ?_
                    refine ze_iast kc_156_98 rfl (by omega) ?_
                    rw [Int.toNat_natCast]
                    refine ze_aload_n kc_156_99 rfl ?_
                    refine ze_dup kc_156_100 rfl ?_
                    refine ze_getI kc_156_101 rfl (by decide) ?_
                    rw [zup_ne' (by decide), zup_ne' (by decide), w1]
                    refine ze_iconst kc_156_104 ?_
                    refine ze_iadd kc_156_105 ?_
                    refine ze_putI kc_156_106 rfl rfl ?_
                    refine ze_aload_n kc_156_109 rfl ?_
                    refine ze_getI kc_156_110 rfl (by decide) ?_
                    rw [zup_s]
                    refine ze_ireturn kc_156_113 (Or.inl rfl) ?_
                    have hN : N < 8 := by omega
                    have gA : zEvA n w i := by unfold zEvA; omega
                    have gB : zEvB w i := by unfold zEvB; omega
                    rw [show sEvent n (N, a, b) w i = (N + 1, zext a N w, zext b N i) from (if_neg (by omega)).trans (if_pos ⟨⟨gA, gB⟩, hN⟩), show oEvent n (N, a, b) w i = ((N + 1 : Nat) : Int) from (if_neg (by omega)).trans ((if_neg (fun q => q gA)).trans ((if_neg (fun q => q gB)).trans (if_pos hN)))] at q1
                    rw [show (N : Int) + 1 = ((N + 1 : Nat) : Int) by omega]
                    refine q1 _ ⟨by rw [zup_s], by omega, fun j hj => ?_, fun j hj => ?_⟩ ⟨fun k a b d => ?_, fun j a => ?_⟩
                    · replace hj : j < N + 1 := hj
                      show zup _ 63 7 _ 67 j = zext a N w j
                      rw [zup_ne' (by decide), zup_ne' (by decide)]
                      by_cases q : j = N
                      · rw [q, zup_s]; exact (if_pos rfl).symm
                      · rw [zup_o q, zext_lt (by omega)]; exact w3 j (by show j < N; omega)
                    · replace hj : j < N + 1 := hj
                      show zup _ 63 7 _ 68 j = zext b N i j
                      rw [zup_ne' (by decide)]
                      by_cases q : j = N
                      · rw [q, zup_s]; exact (if_pos rfl).symm
                      · rw [zup_o q, zup_ne' (by decide), zext_lt (by omega)]; exact w4 j (by show j < N; omega)
                    · rw [zup_ne' a, zup_ne' d, zup_ne' b]
                    · rw [zup_o a, zup_ne' (by decide), zup_ne' (by decide)]
                  · skip
                    refine ze_bipush kc_156_76 ?_
                    refine ze_ireturn kc_156_78 (Or.inl rfl) ?_
                    have gA : zEvA n w i := by unfold zEvA; omega
                    have gB : zEvB w i := by unfold zEvB; omega
                    rw [show sEvent n (N, a, b) w i = (N, a, b) from (if_neg (by omega)).trans (if_neg (fun q => absurd q.2 (show ¬ N < 8 by omega))), show oEvent n (N, a, b) w i = -4 from (if_neg (by omega)).trans ((if_neg (fun q => q gA)).trans ((if_neg (fun q => q gB)).trans (if_neg (show ¬ N < 8 by omega))))] at q1
                    exact q1 _ hW0 zFRm_refl
                · simp only [Option.toList_some, Option.toList_none, List.drop_succ_cons, List.drop_zero, List.cons_append, List.nil_append]
                  refine ze_if_ne kc_156_61 (by decide) (fun q => absurd q (by decide)) (fun _ => ?_)
                  refine ze_bipush kc_156_64 ?_
                  refine ze_ireturn kc_156_66 (Or.inl rfl) ?_
                  have gA : zEvA n w i := by unfold zEvA; omega
                  have gB : ¬ zEvB w i := by unfold zEvB; omega
                  rw [show sEvent n (N, a, b) w i = (N, a, b) from (if_neg (by omega)).trans (if_neg (fun q => gB q.1.2)), show oEvent n (N, a, b) w i = -2 from (if_neg (by omega)).trans ((if_neg (fun q => q gA)).trans (if_pos gB))] at q1
                  exact q1 _ hW0 zFRm_refl
            · simp only [Option.toList_some, Option.toList_none, List.drop_succ_cons, List.drop_zero, List.cons_append, List.nil_append]
              refine ze_if_eq kc_156_45 (by decide) (fun _ => ?_) (fun q => absurd q (by decide))
              refine ze_bipush kc_156_64 ?_
              refine ze_ireturn kc_156_66 (Or.inl rfl) ?_
              have gA : zEvA n w i := by unfold zEvA; omega
              have gB : ¬ zEvB w i := by unfold zEvB; omega
              rw [show sEvent n (N, a, b) w i = (N, a, b) from (if_neg (by omega)).trans (if_neg (fun q => gB q.1.2)), show oEvent n (N, a, b) w i = -2 from (if_neg (by omega)).trans ((if_neg (fun q => q gA)).trans (if_pos gB))] at q1
              exact q1 _ hW0 zFRm_refl
        · simp only [Option.toList_some, Option.toList_none, List.drop_succ_cons, List.drop_zero, List.cons_append, List.nil_append]
          refine ze_if_ne kc_156_31 (by decide) (fun q => absurd q (by decide)) (fun _ => ?_)
          refine ze_iconst kc_156_34 ?_
          refine ze_ireturn kc_156_35 (Or.inl rfl) ?_
          have gA : ¬ zEvA n w i := by unfold zEvA; omega
          rw [show sEvent n (N, a, b) w i = (N, a, b) from (if_neg (by omega)).trans (if_neg (fun q => gA q.1.1)), show oEvent n (N, a, b) w i = -1 from (if_neg (by omega)).trans (if_pos gA)] at q1
          exact q1 _ hW0 zFRm_refl
    · simp only [Option.toList_some, Option.toList_none, List.drop_succ_cons, List.drop_zero, List.cons_append, List.nil_append]
      refine ze_if_eq kc_156_18 (by decide) (fun _ => ?_) (fun q => absurd q (by decide))
      refine ze_iconst kc_156_34 ?_
      refine ze_ireturn kc_156_35 (Or.inl rfl) ?_
      have gA : ¬ zEvA n w i := by unfold zEvA; omega
      rw [show sEvent n (N, a, b) w i = (N, a, b) from (if_neg (by omega)).trans (if_neg (fun q => gA q.1.1)), show oEvent n (N, a, b) w i = -1 from (if_neg (by omega)).trans (if_pos gA)] at q1
      exact q1 _ hW0 zFRm_refl
  · skip
    refine ze_aload_n kc_156_5 rfl ?_
    refine ze_iconst kc_156_6 ?_
    refine ze_putI kc_156_7 rfl rfl ?_
    refine ze_iconst kc_156_10 ?_
    refine ze_ireturn kc_156_11 (Or.inl rfl) ?_
    rw [show sEvent n (N, a, b) w i = (0, a, b) from if_pos (by omega), show oEvent n (N, a, b) w i = 0 from if_pos (by omega)] at q1
    refine q1 _ ⟨zup_s, Nat.zero_le _, fun i hi => absurd hi (Nat.not_lt_zero _), fun i hi => absurd hi (Nat.not_lt_zero _)⟩ ⟨fun k a b d => zup_ne' a, fun j a => zup_o a⟩
