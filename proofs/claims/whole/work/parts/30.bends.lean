theorem zf0 : ((0 : Fin 4) : Nat) = 0 := rfl
theorem zf1 : ((1 : Fin 4) : Nat) = 1 := rfl
theorem zf2 : ((2 : Fin 4) : Nat) = 2 := rfl
theorem zf3 : ((3 : Fin 4) : Nat) = 3 := rfl
theorem zlow_abs {a b A : Int} (hb : 0 < b) (h : -A ≤ a ∧ a ≤ A) : -A ≤ zlow a b 0 ∧ zlow a b 0 ≤ A := by
  obtain ⟨g, x, y, g0, y0, g1, hx, hy, h0, h1⟩ := zlow_c (a := a) hb
  rw [h0]
  rcases Int.le_total 0 x with q | q
  · have := Int.mul_le_mul_of_nonneg_right (show 1 ≤ g by omega) q
    omega
  · have := Int.mul_le_mul_of_nonpos_right (show 1 ≤ g by omega) q
    omega
theorem zlow_dif1 {a a' b : Int} (hb : 0 < b) (p : Int) : zlow (zlow a' b 0 * zlow a b 1 - zlow a b 0 * zlow a' b 1) (zlow a' b 1 * zlow a b 1) p = zlow (a' - a) b p := by
  rw [zlow_dif hb hb]
  refine zlow_eq (Int.mul_pos hb hb) hb ?_ p
  rw [← Int.sub_mul, Int.mul_assoc]
theorem zlow_iff1 {a a' b : Int} (hb : 0 < b) : (zlow a b 0 = zlow a' b 0 ∧ zlow a b 1 = zlow a' b 1) ↔ a = a' := by
  rw [zlow_iff hb hb]
  exact ⟨fun h => Int.eq_of_mul_eq_mul_right (by omega) h, fun h => by rw [h]⟩
theorem zBn_0 {n : Nat} {c : Nat → Int} {r : Int} {i m : Nat} (h : zGt r n c i 1 ((m : Int) + 2) - zGt r n c i 1 ((m : Int) + 1) = zGt r n c i 1 ((m : Int) + 1) - zGt r n c i 1 (m : Int)) : zBn n c r i (m + 1) = zBn n c r i m := by
  unfold zBn
  rw [zsum_succ, if_pos h, Int.add_zero]
theorem zBn_1 {n : Nat} {c : Nat → Int} {r : Int} {i m : Nat} (h : ¬ zGt r n c i 1 ((m : Int) + 2) - zGt r n c i 1 ((m : Int) + 1) = zGt r n c i 1 ((m : Int) + 1) - zGt r n c i 1 (m : Int)) : zBn n c r i (m + 1) = zBn n c r i m + 1 := by
  unfold zBn
  rw [zsum_succ, if_neg h]
set_option maxHeartbeats 4000000 in
theorem m_bendsX {Z : zMem} {Q : Option zAV → zMem → Prop} {n : Nat} {c : Nat → Int} {e ρ : Int} (hC : zCl n c e ρ Z) {r i : Int} (hr : -2147483648 ≤ r ∧ r ≤ 2147483647) (hi : -2147483648 ≤ i ∧ i ≤ 2147483647) (q1 : ∀ Z', zFq Z Z' → Q (some (zI (oBends n c r i))) Z') : zE 60 0 (zent 60 [zR 0, zI r, zI i]) [] Z Q := by
  show zE 60 0 [some (zR 0), some (zI r), some (zI i), none, none, none, none, none, none, none, none, none, none] [] Z Q
  obtain ⟨hU0, hG0, n6, n0, cc, cr, ce, cρ, ceR, cρR, c11, c16⟩ := zCl_o hC
  have csr := zsum_range cr
  refine ze_iload_n kc_60_0 rfl ?_
  refine zE_calls 1 kc_60_1 rfl rfl (Nat.le_of_ble_eq_true rfl) (Nat.le_of_ble_eq_true rfl) (Nat.le_of_ble_eq_true rfl) rfl ?_
  refine m_isRule (by omega) (fun g1 => ?_) (fun g1 => ?_)
  · simp only [Option.toList_some, Option.toList_none, List.drop_succ_cons, List.drop_zero, List.cons_append, List.nil_append]
    refine ze_if_ne kc_60_4 (by decide) (fun _ => ?_) (fun q => absurd q (by decide))
    refine ze_aload_n kc_60_10 rfl ?_
    refine ze_getR kc_60_11 rfl rfl rfl ?_
    refine ze_getR kc_60_14 rfl rfl rfl ?_
    refine ze_iload_n kc_60_17 rfl ?_
    refine zE_callv 2 kc_60_18 rfl rfl (Nat.le_of_ble_eq_true rfl) (Nat.le_of_ble_eq_true rfl) (Nat.le_of_ble_eq_true rfl) rfl (by decide +kernel) rfl ?_
    refine m_has zgF_2 (by omega) (by omega) (fun g18 => ?_) (fun g18 => ?_)
    · simp only [Option.toList_some, Option.toList_none, List.drop_succ_cons, List.drop_zero, List.cons_append, List.nil_append]
      refine ze_if_ne kc_60_21 (by decide) (fun _ => ?_) (fun q => absurd q (by decide))
      obtain ⟨κ, rfl⟩ := Int.eq_ofNat_of_zero_le (show 0 ≤ i by omega)
      have hκ : κ < n := by omega
      refine ze_aload_n kc_60_26 rfl ?_
      refine ze_getR kc_60_27 rfl rfl rfl ?_
      refine ze_getR kc_60_30 rfl rfl rfl ?_
      refine ze_astore_n kc_60_33 (Nat.le_of_ble_eq_true rfl) ?_
      simp only [zset1, zset2, zcut, zf0, zf1, zf2, zf3, List.set_cons_zero, List.set_cons_succ, List.getD_cons_zero, List.getD_cons_succ]
      refine ze_aload_n kc_60_34 rfl ?_
      refine zE_callv 1 kc_60_35 rfl rfl (Nat.le_of_ble_eq_true rfl) (Nat.le_of_ble_eq_true rfl) (Nat.le_of_ble_eq_true rfl) rfl (by decide +kernel) rfl ?_
      refine m_all zgF_2 hG0 ?_
      simp only [Option.toList_some, Option.toList_none, List.drop_succ_cons, List.drop_zero, List.cons_append, List.nil_append]
      refine ze_istore kc_60_38 (Nat.le_of_ble_eq_true rfl) ?_
      simp only [zset1, zset2, zcut, zf0, zf1, zf2, zf3, List.set_cons_zero, List.set_cons_succ, List.getD_cons_zero, List.getD_cons_succ]
      refine ze_iconst kc_60_40 ?_
      refine ze_istore kc_60_41 (Nat.le_of_ble_eq_true rfl) ?_
      simp only [zset1, zset2, zcut, zf0, zf1, zf2, zf3, List.set_cons_zero, List.set_cons_succ, List.getD_cons_zero, List.getD_cons_succ]
      refine ze_aload_n kc_60_43 rfl ?_
      refine ze_iload_n kc_60_44 rfl ?_
      refine ze_iload_n kc_60_45 rfl ?_
      refine ze_lconst0 kc_60_46 ?_
      refine ze_lconst1 kc_60_47 ?_
      refine zE_callv 5 kc_60_48 rfl rfl (Nat.le_of_ble_eq_true rfl) (Nat.le_of_ble_eq_true rfl) (Nat.le_of_ble_eq_true rfl) rfl (by decide +kernel) rfl ?_
      refine m_gets zgF_2 hG0 hκ (by omega) (by omega) (by omega) ?_
      simp only [Option.toList_some, Option.toList_none, List.drop_succ_cons, List.drop_zero, List.cons_append, List.nil_append]
      refine ze_lstore kc_60_51 (Nat.le_of_ble_eq_true rfl) ?_
      simp only [zset1, zset2, zcut, zf0, zf1, zf2, zf3, List.set_cons_zero, List.set_cons_succ, List.getD_cons_zero, List.getD_cons_succ]
      refine ze_aload_n kc_60_53 rfl ?_
      refine ze_iload_n kc_60_54 rfl ?_
      refine ze_iload_n kc_60_55 rfl ?_
      refine ze_lconst1 kc_60_56 ?_
      refine ze_lconst1 kc_60_57 ?_
      refine zE_callv 5 kc_60_58 rfl rfl (Nat.le_of_ble_eq_true rfl) (Nat.le_of_ble_eq_true rfl) (Nat.le_of_ble_eq_true rfl) rfl (by decide +kernel) rfl ?_
      refine m_gets zgF_2 hG0 hκ (by omega) (by omega) (by omega) ?_
      simp only [Option.toList_some, Option.toList_none, List.drop_succ_cons, List.drop_zero, List.cons_append, List.nil_append]
      refine ze_lstore kc_60_61 (Nat.le_of_ble_eq_true rfl) ?_
      simp only [zset1, zset2, zcut, zf0, zf1, zf2, zf3, List.set_cons_zero, List.set_cons_succ, List.getD_cons_zero, List.getD_cons_succ]
      refine ze_iconst kc_60_63 ?_
      refine ze_istore kc_60_64 (Nat.le_of_ble_eq_true rfl) ?_
      simp only [zset1, zset2, zcut, zf0, zf1, zf2, zf3, List.set_cons_zero, List.set_cons_succ, List.getD_cons_zero, List.getD_cons_succ]
      have loop66 : ∀ (μ : Nat) (k : Nat) (x v b w : Int) (o1 o2 : Option zAV), (zsum n c).toNat - k = μ → ((k : Int) + 1 ≤ zsum n c) → (x = k + 1) → (v = zBn n c r κ k) → (b = zGt r n c κ 1 ((k : Int))) → (w = zGt r n c κ 1 ((k : Int) + 1)) → zE 60 66 [some (zR 0), some (zI r), some (zI (κ : Nat)), some (zR 2), some (zI (zsum n c)), some (zI v), some (zL b), none, some (zL w), none, some (zI x), o1, o2] [] Z Q := by
        refine zind ?_
        intro μ ih k x v b w o1 o2 hm hk hx hv hb hw
        subst hx
        subst hb
        subst hw
        refine ze_iload kc_60_66 rfl ?_
        refine ze_iload kc_60_68 rfl ?_
        refine ze_icmp_ge kc_60_70 (by omega) (by omega) (fun h70 => ?_) (fun h70 => ?_)
        · skip
          refine ze_iload kc_60_118 rfl ?_
          refine ze_ireturn kc_60_120 (Or.inl rfl) ?_
          rw [show oBends n c r κ = zBn n c r κ ((zsum n c).toNat - 1) from (if_neg (by omega)).trans (if_neg (by omega)), show (zsum n c).toNat - 1 = k by omega, ← hv] at q1
          exact q1 _ zFq_refl
        · skip
          refine ze_aload_n kc_60_73 rfl ?_
          refine ze_iload_n kc_60_74 rfl ?_
          refine ze_iload_n kc_60_75 rfl ?_
          refine ze_iload kc_60_76 rfl ?_
          refine ze_iconst kc_60_78 ?_
          refine ze_iadd kc_60_79 ?_
          rw [show (k : Int) + 1 + 1 = (k : Int) + 2 by omega]
          refine ze_i2l kc_60_80 (by omega) ?_
          refine ze_lconst1 kc_60_81 ?_
          refine zE_callv 5 kc_60_82 rfl rfl (Nat.le_of_ble_eq_true rfl) (Nat.le_of_ble_eq_true rfl) (Nat.le_of_ble_eq_true rfl) rfl (by decide +kernel) rfl ?_
          refine m_gets zgF_2 hG0 hκ (by omega) (by omega) (by omega) ?_
          simp only [Option.toList_some, Option.toList_none, List.drop_succ_cons, List.drop_zero, List.cons_append, List.nil_append]
          refine ze_lstore kc_60_85 (Nat.le_of_ble_eq_true rfl) ?_
          simp only [zset1, zset2, zcut, zf0, zf1, zf2, zf3, List.set_cons_zero, List.set_cons_succ, List.getD_cons_zero, List.getD_cons_succ]
          refine ze_lload kc_60_87 rfl ?_
          refine ze_lload kc_60_89 rfl ?_
          refine ze_lsub kc_60_91 ?_
          refine ze_lload kc_60_92 rfl ?_
          refine ze_lload kc_60_94 rfl ?_
          refine ze_lsub kc_60_96 ?_
          have g0 := zGt_range (r := r) (i := κ) (w := 1) (u := (k : Int)) n6 hκ cr (by omega) (by omega)
          have g1 := zGt_range (r := r) (i := κ) (w := 1) (u := (k : Int) + 1) n6 hκ cr (by omega) (by omega)
          have g2 := zGt_range (r := r) (i := κ) (w := 1) (u := (k : Int) + 2) n6 hκ cr (by omega) (by omega)
          refine ze_lcmp_eq kc_60_97 kc_60_98 (by omega) (by omega) (fun h97 => ?_) (fun h97 => ?_)
          · skip
            refine ze_lload kc_60_104 rfl ?_
            refine ze_lstore kc_60_106 (Nat.le_of_ble_eq_true rfl) ?_
            simp only [zset1, zset2, zcut, zf0, zf1, zf2, zf3, List.set_cons_zero, List.set_cons_succ, List.getD_cons_zero, List.getD_cons_succ]
            refine ze_lload kc_60_108 rfl ?_
            refine ze_lstore kc_60_110 (Nat.le_of_ble_eq_true rfl) ?_
            simp only [zset1, zset2, zcut, zf0, zf1, zf2, zf3, List.set_cons_zero, List.set_cons_succ, List.getD_cons_zero, List.getD_cons_succ]
            refine ze_iinc kc_60_112 rfl ?_
            simp only [zset1, zset2, zcut, zf0, zf1, zf2, zf3, List.set_cons_zero, List.set_cons_succ, List.getD_cons_zero, List.getD_cons_succ]
            refine ze_goto kc_60_115 ?_
            refine ih _ (by omega) (k + 1) _ _ _ _ _ _ rfl (by omega) (by omega) ?_ (by rw [Int.natCast_succ]) (by rw [show ((k + 1 : Nat) : Int) + 1 = (k : Int) + 2 by omega])
            first
              | (rw [zBn_0 h97]; exact hv)
              | (rw [zBn_1 h97, hv])
          · skip
            refine ze_iinc kc_60_101 rfl ?_
            simp only [zset1, zset2, zcut, zf0, zf1, zf2, zf3, List.set_cons_zero, List.set_cons_succ, List.getD_cons_zero, List.getD_cons_succ]
            refine ze_lload kc_60_104 rfl ?_
            refine ze_lstore kc_60_106 (Nat.le_of_ble_eq_true rfl) ?_
            simp only [zset1, zset2, zcut, zf0, zf1, zf2, zf3, List.set_cons_zero, List.set_cons_succ, List.getD_cons_zero, List.getD_cons_succ]
            refine ze_lload kc_60_108 rfl ?_
            refine ze_lstore kc_60_110 (Nat.le_of_ble_eq_true rfl) ?_
            simp only [zset1, zset2, zcut, zf0, zf1, zf2, zf3, List.set_cons_zero, List.set_cons_succ, List.getD_cons_zero, List.getD_cons_succ]
            refine ze_iinc kc_60_112 rfl ?_
            simp only [zset1, zset2, zcut, zf0, zf1, zf2, zf3, List.set_cons_zero, List.set_cons_succ, List.getD_cons_zero, List.getD_cons_succ]
            refine ze_goto kc_60_115 ?_
            refine ih _ (by omega) (k + 1) _ _ _ _ _ _ rfl (by omega) (by omega) ?_ (by rw [Int.natCast_succ]) (by rw [show ((k + 1 : Nat) : Int) + 1 = (k : Int) + 2 by omega])
            first
              | (rw [zBn_0 h97]; exact hv)
              | (rw [zBn_1 h97, hv])
      refine loop66 _ 0 1 0 _ _ none none rfl (by omega) rfl rfl (by rw [show ((0 : Nat) : Int) = 0 from rfl]) (by rw [show ((0 : Nat) : Int) + 1 = 1 from rfl])
    · simp only [Option.toList_some, Option.toList_none, List.drop_succ_cons, List.drop_zero, List.cons_append, List.nil_append]
      refine ze_if_ne kc_60_21 (by decide) (fun q => absurd q (by decide)) (fun _ => ?_)
      refine ze_iconst kc_60_24 ?_
      refine ze_ireturn kc_60_25 (Or.inl rfl) ?_
      first
        | (rw [show oBends n c r i = -2 from if_pos (by omega)] at q1; exact q1 _ zFq_refl)
        | (rw [show oBends n c r i = -1 from (if_neg (by omega)).trans (if_pos (by omega))] at q1; exact q1 _ zFq_refl)
  · simp only [Option.toList_some, Option.toList_none, List.drop_succ_cons, List.drop_zero, List.cons_append, List.nil_append]
    refine ze_if_ne kc_60_4 (by decide) (fun q => absurd q (by decide)) (fun _ => ?_)
    refine ze_bipush kc_60_7 ?_
    refine ze_ireturn kc_60_9 (Or.inl rfl) ?_
    first
      | (rw [show oBends n c r i = -2 from if_pos (by omega)] at q1; exact q1 _ zFq_refl)
      | (rw [show oBends n c r i = -1 from (if_neg (by omega)).trans (if_pos (by omega))] at q1; exact q1 _ zFq_refl)

set_option maxHeartbeats 8000000 in
theorem m_bendsM {Z : zMem} {Q : Option zAV → zMem → Prop} {n : Nat} {c : Nat → Int} {e ρ : Int} (hM : zMo n c e ρ Z) {r i : Int} (hr : -2147483648 ≤ r ∧ r ≤ 2147483647) (hi : -2147483648 ≤ i ∧ i ≤ 2147483647) (q1 : ∀ Z', zFq Z Z' → Q (some (zI (oBends n c r i))) Z') : zE 137 0 (zent 137 [zR 63, zI r, zI i]) [] Z Q := by
  show zE 137 0 [some (zR 63), some (zI r), some (zI i), none, none, none, none, none, none, none, none, none, none, none, none, none, none, none] [] Z Q
  have hM0 := hM
  obtain ⟨n0, n6, mc, mr, me, mρ, meR, mρR⟩ := hM
  have msr := zsum_range mr
  have hp6 := zpow6 n6
  refine ze_iload_n kc_137_0 rfl ?_
  refine zE_calls 1 kc_137_1 rfl rfl (Nat.le_of_ble_eq_true rfl) (Nat.le_of_ble_eq_true rfl) (Nat.le_of_ble_eq_true rfl) rfl ?_
  refine m_isRuleM (by omega) (fun g1 => ?_) (fun g1 => ?_)
  · simp only [Option.toList_some, Option.toList_none, List.drop_succ_cons, List.drop_zero, List.cons_append, List.nil_append]
    refine ze_if_ne kc_137_4 (by decide) (fun _ => ?_) (fun q => absurd q (by decide))
    refine ze_aload_n kc_137_10 rfl ?_
    refine ze_iload_n kc_137_11 rfl ?_
    refine zE_callv 2 kc_137_12 rfl rfl (Nat.le_of_ble_eq_true rfl) (Nat.le_of_ble_eq_true rfl) (Nat.le_of_ble_eq_true rfl) rfl (by decide +kernel) rfl ?_
    refine m_isOne hM0 (by omega) (fun g12 => ?_) (fun g12 => ?_)
    · simp only [Option.toList_some, Option.toList_none, List.drop_succ_cons, List.drop_zero, List.cons_append, List.nil_append]
      refine ze_if_ne kc_137_15 (by decide) (fun _ => ?_) (fun q => absurd q (by decide))
      obtain ⟨κ, rfl⟩ := Int.eq_ofNat_of_zero_le (show 0 ≤ i by omega)
      have hκ : κ < n := by omega
      have hS := zS_pos (r := r) (n := n) (c := c) ⟨by omega, n6⟩ mr
      have hss := zS_range (r := r) (n := n) (c := c) ⟨by omega, n6⟩ mr
      refine ze_iconst kc_137_20 ?_
      refine ze_istore_n kc_137_21 (Nat.le_of_ble_eq_true rfl) ?_
      simp only [zset1, zset2, zcut, zf0, zf1, zf2, zf3, List.set_cons_zero, List.set_cons_succ, List.getD_cons_zero, List.getD_cons_succ]
      refine ze_aload_n kc_137_22 rfl ?_
      refine zE_callv 1 kc_137_23 rfl rfl (Nat.le_of_ble_eq_true rfl) (Nat.le_of_ble_eq_true rfl) (Nat.le_of_ble_eq_true rfl) rfl (by decide +kernel) rfl ?_
      refine m_allM hM0 ?_
      simp only [Option.toList_some, Option.toList_none, List.drop_succ_cons, List.drop_zero, List.cons_append, List.nil_append]
      refine ze_istore kc_137_26 (Nat.le_of_ble_eq_true rfl) ?_
      simp only [zset1, zset2, zcut, zf0, zf1, zf2, zf3, List.set_cons_zero, List.set_cons_succ, List.getD_cons_zero, List.getD_cons_succ]
      refine ze_lconst0 kc_137_28 ?_
      refine ze_lstore kc_137_29 (Nat.le_of_ble_eq_true rfl) ?_
      simp only [zset1, zset2, zcut, zf0, zf1, zf2, zf3, List.set_cons_zero, List.set_cons_succ, List.getD_cons_zero, List.getD_cons_succ]
      refine ze_lconst0 kc_137_31 ?_
      refine ze_lstore kc_137_32 (Nat.le_of_ble_eq_true rfl) ?_
      simp only [zset1, zset2, zcut, zf0, zf1, zf2, zf3, List.set_cons_zero, List.set_cons_succ, List.getD_cons_zero, List.getD_cons_succ]
      refine ze_aload_n kc_137_34 rfl ?_
      refine ze_iload_n kc_137_35 rfl ?_
      refine ze_iconst kc_137_36 ?_
      refine ze_iload_n kc_137_37 rfl ?_
      refine zE_callv 4 kc_137_38 rfl rfl (Nat.le_of_ble_eq_true rfl) (Nat.le_of_ble_eq_true rfl) (Nat.le_of_ble_eq_true rfl) rfl (by decide +kernel) rfl ?_
      refine m_awardAt hM0 (by omega) hκ (by omega) (fun Z2 f1 f2 f3 => ?_)
      simp only [Option.toList_some, Option.toList_none, List.drop_succ_cons, List.drop_zero, List.cons_append, List.nil_append]
      refine ze_aload_n kc_137_41 rfl ?_
      refine ze_getL kc_137_42 rfl rfl ?_
      rw [f2]
      refine ze_lstore kc_137_45 (Nat.le_of_ble_eq_true rfl) ?_
      simp only [zset1, zset2, zcut, zf0, zf1, zf2, zf3, List.set_cons_zero, List.set_cons_succ, List.getD_cons_zero, List.getD_cons_succ]
      refine ze_aload_n kc_137_47 rfl ?_
      refine ze_getL kc_137_48 rfl rfl ?_
      rw [f3]
      refine ze_lstore kc_137_51 (Nat.le_of_ble_eq_true rfl) ?_
      simp only [zset1, zset2, zcut, zf0, zf1, zf2, zf3, List.set_cons_zero, List.set_cons_succ, List.getD_cons_zero, List.getD_cons_succ]
      refine ze_iconst kc_137_53 ?_
      refine ze_istore kc_137_54 (Nat.le_of_ble_eq_true rfl) ?_
      simp only [zset1, zset2, zcut, zf0, zf1, zf2, zf3, List.set_cons_zero, List.set_cons_succ, List.getD_cons_zero, List.getD_cons_succ]
      have loop56 : ∀ (μ : Nat) (k : Nat) (x v mu md u d : Int) (Zc : zMem) (o1 o2 o3 o4 : Option zAV), (zsum n c).toNat + 1 - k = μ → ((k : Int) ≤ zsum n c) → (x = k + 1) → (v = zBn n c r κ (k - 1)) → (zFm Z Zc) → (u = zlow (zGt r n c κ 1 ((k : Int))) (zS r n c) 0) → (d = zlow (zGt r n c κ 1 ((k : Int))) (zS r n c) 1) → (∀ t, k = t + 1 → mu = zlow (zGt r n c κ 1 ((t : Int) + 1) - zGt r n c κ 1 ((t : Int))) (zS r n c) 0 ∧ md = zlow (zGt r n c κ 1 ((t : Int) + 1) - zGt r n c κ 1 ((t : Int))) (zS r n c) 1) → zE 137 56 [some (zR 63), some (zI r), some (zI (κ : Nat)), some (zI v), some (zI (zsum n c)), some (zL mu), none, some (zL md), none, some (zL u), none, some (zL d), none, some (zI x), o1, o2, o3, o4] [] Zc Q := by
        refine zind ?_
        intro μ ih k x v mu md u d Zc o1 o2 o3 o4 hm hk hx hv hq hu hd hm2
        subst hx
        subst hu
        subst hd
        refine ze_iload kc_137_56 rfl ?_
        refine ze_iload kc_137_58 rfl ?_
        refine ze_icmp_gt kc_137_60 (by omega) (by omega) (fun h60 => ?_) (fun h60 => ?_)
        · skip
          refine ze_iload_n kc_137_163 rfl ?_
          refine ze_ireturn kc_137_164 (Or.inl rfl) ?_
          rw [show oBends n c r κ = zBn n c r κ ((zsum n c).toNat - 1) from (if_neg (by omega)).trans (if_neg (by omega)), show (zsum n c).toNat - 1 = k - 1 by omega, ← hv] at q1
          exact q1 _ (zFq_fm hq)
        · skip
          refine ze_aload_n kc_137_63 rfl ?_
          refine ze_iload_n kc_137_64 rfl ?_
          refine ze_iload kc_137_65 rfl ?_
          refine ze_iload_n kc_137_67 rfl ?_
          refine zE_callv 4 kc_137_68 rfl rfl (Nat.le_of_ble_eq_true rfl) (Nat.le_of_ble_eq_true rfl) (Nat.le_of_ble_eq_true rfl) rfl (by decide +kernel) rfl ?_
          refine m_awardAt (zMo_fm hM0 hq) (by omega) hκ (by omega) (fun Z3 k1 k2 k3 => ?_)
          simp only [Option.toList_some, Option.toList_none, List.drop_succ_cons, List.drop_zero, List.cons_append, List.nil_append]
          refine ze_aload_n kc_137_71 rfl ?_
          refine ze_getL kc_137_72 rfl rfl ?_
          rw [k2]
          refine ze_lstore kc_137_75 (Nat.le_of_ble_eq_true rfl) ?_
          simp only [zset1, zset2, zcut, zf0, zf1, zf2, zf3, List.set_cons_zero, List.set_cons_succ, List.getD_cons_zero, List.getD_cons_succ]
          refine ze_aload_n kc_137_77 rfl ?_
          refine ze_getL kc_137_78 rfl rfl ?_
          rw [k3]
          refine ze_lstore kc_137_81 (Nat.le_of_ble_eq_true rfl) ?_
          simp only [zset1, zset2, zcut, zf0, zf1, zf2, zf3, List.set_cons_zero, List.set_cons_succ, List.getD_cons_zero, List.getD_cons_succ]
          refine ze_aload_n kc_137_83 rfl ?_
          refine ze_lload kc_137_84 rfl ?_
          refine ze_lload kc_137_86 rfl ?_
          refine ze_lmul kc_137_88 ?_
          refine ze_lload kc_137_89 rfl ?_
          refine ze_lload kc_137_91 rfl ?_
          refine ze_lmul kc_137_93 ?_
          refine ze_lsub kc_137_94 ?_
          refine ze_lload kc_137_95 rfl ?_
          refine ze_lload kc_137_97 rfl ?_
          refine ze_lmul kc_137_99 ?_
          have g0 := zGt_range (r := r) (i := κ) (w := 1) (u := (k : Int)) n6 hκ mr (by omega) (by omega)
          have g1 := zGt_range (r := r) (i := κ) (w := 1) (u := (k : Int) + 1) n6 hκ mr (by omega) (by omega)
          have l0 := zlow_p (a := zGt r n c κ 1 (k : Int)) (b := zS r n c) hS
          have l1 := zlow_p (a := zGt r n c κ 1 ((k : Int) + 1)) (b := zS r n c) hS
          have l2 := l0.2.2.2 g0.1
          have l3 := l1.2.2.2 g1.1
          have b1 := zmb (a := zlow (zGt r n c κ 1 ((k : Int) + 1)) (zS r n c) 0) (b := zlow (zGt r n c κ 1 (k : Int)) (zS r n c) 1) (A := 2147483648) (B := 720) (by omega) (by omega)
          have b2 := zmb (a := zlow (zGt r n c κ 1 (k : Int)) (zS r n c) 0) (b := zlow (zGt r n c κ 1 ((k : Int) + 1)) (zS r n c) 1) (A := 2147483648) (B := 720) (by omega) (by omega)
          have b3 := zmb (a := zlow (zGt r n c κ 1 ((k : Int) + 1)) (zS r n c) 1) (b := zlow (zGt r n c κ 1 (k : Int)) (zS r n c) 1) (A := 720) (B := 720) (by omega) (by omega)
          have b5 := Int.mul_pos l1.1 l0.1
          refine zE_callv 3 kc_137_100 rfl rfl (Nat.le_of_ble_eq_true rfl) (Nat.le_of_ble_eq_true rfl) (Nat.le_of_ble_eq_true rfl) rfl (by decide +kernel) rfl ?_
          refine m_fraction (by omega) (by omega) ?_
          simp only [Option.toList_some, Option.toList_none, List.drop_succ_cons, List.drop_zero, List.cons_append, List.nil_append]
          rw [zlow_dif1 hS, zlow_dif1 hS]
          refine ze_iload_n kc_137_103 rfl ?_
          refine ze_iload kc_137_104 rfl ?_
          refine ze_iconst kc_137_106 ?_
          refine ze_icmp_le kc_137_107 (by omega) (by omega) (fun h107 => ?_) (fun h107 => ?_)
          · skip
            refine ze_iconst kc_137_134 ?_
            refine ze_iadd kc_137_135 ?_
            refine ze_istore_n kc_137_136 (Nat.le_of_ble_eq_true rfl) ?_
            simp only [zset1, zset2, zcut, zf0, zf1, zf2, zf3, List.set_cons_zero, List.set_cons_succ, List.getD_cons_zero, List.getD_cons_succ]
            refine ze_aload_n kc_137_137 rfl ?_
            refine ze_getL kc_137_138 rfl rfl ?_
            rw [zup_o (by decide), zup_s]
            refine ze_lstore kc_137_141 (Nat.le_of_ble_eq_true rfl) ?_
            simp only [zset1, zset2, zcut, zf0, zf1, zf2, zf3, List.set_cons_zero, List.set_cons_succ, List.getD_cons_zero, List.getD_cons_succ]
            refine ze_aload_n kc_137_143 rfl ?_
            refine ze_getL kc_137_144 rfl rfl ?_
            rw [zup_s]
            refine ze_lstore kc_137_147 (Nat.le_of_ble_eq_true rfl) ?_
            simp only [zset1, zset2, zcut, zf0, zf1, zf2, zf3, List.set_cons_zero, List.set_cons_succ, List.getD_cons_zero, List.getD_cons_succ]
            refine ze_lload kc_137_149 rfl ?_
            refine ze_lstore kc_137_151 (Nat.le_of_ble_eq_true rfl) ?_
            simp only [zset1, zset2, zcut, zf0, zf1, zf2, zf3, List.set_cons_zero, List.set_cons_succ, List.getD_cons_zero, List.getD_cons_succ]
            refine ze_lload kc_137_153 rfl ?_
            refine ze_lstore kc_137_155 (Nat.le_of_ble_eq_true rfl) ?_
            simp only [zset1, zset2, zcut, zf0, zf1, zf2, zf3, List.set_cons_zero, List.set_cons_succ, List.getD_cons_zero, List.getD_cons_succ]
            refine ze_iinc kc_137_157 rfl ?_
            simp only [zset1, zset2, zcut, zf0, zf1, zf2, zf3, List.set_cons_zero, List.set_cons_succ, List.getD_cons_zero, List.getD_cons_succ]
            refine ze_goto kc_137_160 ?_
            refine ih _ (by omega) (k + 1) _ _ _ _ _ _ _ _ _ _ _ rfl (by omega) (by omega) ?_ (zFm_up (zFm_up (zFm_trans hq k1) (by omega)) (by omega)) (by rw [Int.natCast_succ]) (by rw [Int.natCast_succ]) (fun t ht => by
                have e : t = k := by omega
                rw [e]
                exact ⟨rfl, rfl⟩)
            rw [Nat.add_sub_cancel, hv]
            first
              | (have e : k = 0 := by omega
                 rw [e]; exact Int.add_zero _)
              | (rw [hz0 (hiff.mp ⟨h116, h126⟩)]; exact Int.add_zero _)
              | rw [hz1 (fun q => h116 (hiff.mpr q).1)]
              | rw [hz1 (fun q => h126 (hiff.mpr q).2)]
          · skip
            obtain ⟨t, ht⟩ : ∃ t, k = t + 1 := ⟨k - 1, by omega⟩
            have hkt : (k : Int) = (t : Int) + 1 := by omega
            obtain ⟨m1, m2⟩ := hm2 t ht
            have g9 := zGt_range (r := r) (i := κ) (w := 1) (u := (t : Int)) n6 hκ mr (by omega) (by omega)
            have g8 := zGt_range (r := r) (i := κ) (w := 1) (u := (t : Int) + 1) n6 hκ mr (by omega) (by omega)
            have a1 := zlow_abs (a := zGt r n c κ 1 ((k : Int) + 1) - zGt r n c κ 1 (k : Int)) (b := zS r n c) (A := 2147483648) hS (by omega)
            have a2 := zlow_p (a := zGt r n c κ 1 ((k : Int) + 1) - zGt r n c κ 1 (k : Int)) (b := zS r n c) hS
            have a3 := zlow_abs (a := zGt r n c κ 1 ((t : Int) + 1) - zGt r n c κ 1 (t : Int)) (b := zS r n c) (A := 2147483648) hS (by omega)
            have a4 := zlow_p (a := zGt r n c κ 1 ((t : Int) + 1) - zGt r n c κ 1 (t : Int)) (b := zS r n c) hS
            have hiff := zlow_iff1 (a := zGt r n c κ 1 ((k : Int) + 1) - zGt r n c κ 1 (k : Int)) (a' := zGt r n c κ 1 ((t : Int) + 1) - zGt r n c κ 1 (t : Int)) hS
            rw [← m1, ← m2] at hiff
            rw [← m1] at a3
            rw [← m2] at a4
            have hz0 : zGt r n c κ 1 ((k : Int) + 1) - zGt r n c κ 1 (k : Int) = zGt r n c κ 1 ((t : Int) + 1) - zGt r n c κ 1 (t : Int) → zBn n c r κ k = zBn n c r κ (k - 1) := by
              intro h
              rw [hkt, show (t : Int) + 1 + 1 = (t : Int) + 2 by omega] at h
              rw [ht, Nat.add_sub_cancel]
              exact zBn_0 h
            have hz1 : ¬ zGt r n c κ 1 ((k : Int) + 1) - zGt r n c κ 1 (k : Int) = zGt r n c κ 1 ((t : Int) + 1) - zGt r n c κ 1 (t : Int) → zBn n c r κ k = zBn n c r κ (k - 1) + 1 := by
              intro h
              rw [hkt, show (t : Int) + 1 + 1 = (t : Int) + 2 by omega] at h
              rw [ht, Nat.add_sub_cancel]
              exact zBn_1 h
            refine ze_aload_n kc_137_110 rfl ?_
            refine ze_getL kc_137_111 rfl rfl ?_
            rw [zup_o (by decide), zup_s]
            refine ze_lload kc_137_114 rfl ?_
            refine ze_lcmp_ne kc_137_116 kc_137_117 (by omega) (by omega) (fun h116 => ?_) (fun h116 => ?_)
            · skip
              refine ze_iconst kc_137_130 ?_
              refine ze_goto kc_137_131 ?_
              refine ze_iadd kc_137_135 ?_
              refine ze_istore_n kc_137_136 (Nat.le_of_ble_eq_true rfl) ?_
              simp only [zset1, zset2, zcut, zf0, zf1, zf2, zf3, List.set_cons_zero, List.set_cons_succ, List.getD_cons_zero, List.getD_cons_succ]
              refine ze_aload_n kc_137_137 rfl ?_
              refine ze_getL kc_137_138 rfl rfl ?_
              rw [zup_o (by decide), zup_s]
              refine ze_lstore kc_137_141 (Nat.le_of_ble_eq_true rfl) ?_
              simp only [zset1, zset2, zcut, zf0, zf1, zf2, zf3, List.set_cons_zero, List.set_cons_succ, List.getD_cons_zero, List.getD_cons_succ]
              refine ze_aload_n kc_137_143 rfl ?_
              refine ze_getL kc_137_144 rfl rfl ?_
              rw [zup_s]
              refine ze_lstore kc_137_147 (Nat.le_of_ble_eq_true rfl) ?_
              simp only [zset1, zset2, zcut, zf0, zf1, zf2, zf3, List.set_cons_zero, List.set_cons_succ, List.getD_cons_zero, List.getD_cons_succ]
              refine ze_lload kc_137_149 rfl ?_
              refine ze_lstore kc_137_151 (Nat.le_of_ble_eq_true rfl) ?_
              simp only [zset1, zset2, zcut, zf0, zf1, zf2, zf3, List.set_cons_zero, List.set_cons_succ, List.getD_cons_zero, List.getD_cons_succ]
              refine ze_lload kc_137_153 rfl ?_
              refine ze_lstore kc_137_155 (Nat.le_of_ble_eq_true rfl) ?_
              simp only [zset1, zset2, zcut, zf0, zf1, zf2, zf3, List.set_cons_zero, List.set_cons_succ, List.getD_cons_zero, List.getD_cons_succ]
              refine ze_iinc kc_137_157 rfl ?_
              simp only [zset1, zset2, zcut, zf0, zf1, zf2, zf3, List.set_cons_zero, List.set_cons_succ, List.getD_cons_zero, List.getD_cons_succ]
              refine ze_goto kc_137_160 ?_
              refine ih _ (by omega) (k + 1) _ _ _ _ _ _ _ _ _ _ _ rfl (by omega) (by omega) ?_ (zFm_up (zFm_up (zFm_trans hq k1) (by omega)) (by omega)) (by rw [Int.natCast_succ]) (by rw [Int.natCast_succ]) (fun t ht => by
                  have e : t = k := by omega
                  rw [e]
                  exact ⟨rfl, rfl⟩)
              rw [Nat.add_sub_cancel, hv]
              first
                | (have e : k = 0 := by omega
                   rw [e]; exact Int.add_zero _)
                | (rw [hz0 (hiff.mp ⟨h116, h126⟩)]; exact Int.add_zero _)
                | rw [hz1 (fun q => h116 (hiff.mpr q).1)]
                | rw [hz1 (fun q => h126 (hiff.mpr q).2)]
            · skip
              refine ze_aload_n kc_137_120 rfl ?_
              refine ze_getL kc_137_121 rfl rfl ?_
              rw [zup_s]
              refine ze_lload kc_137_124 rfl ?_
              refine ze_lcmp_eq kc_137_126 kc_137_127 (by omega) (by omega) (fun h126 => ?_) (fun h126 => ?_)
              · skip
                refine ze_iconst kc_137_134 ?_
                refine ze_iadd kc_137_135 ?_
                refine ze_istore_n kc_137_136 (Nat.le_of_ble_eq_true rfl) ?_
                simp only [zset1, zset2, zcut, zf0, zf1, zf2, zf3, List.set_cons_zero, List.set_cons_succ, List.getD_cons_zero, List.getD_cons_succ]
                refine ze_aload_n kc_137_137 rfl ?_
                refine ze_getL kc_137_138 rfl rfl ?_
                rw [zup_o (by decide), zup_s]
                refine ze_lstore kc_137_141 (Nat.le_of_ble_eq_true rfl) ?_
                simp only [zset1, zset2, zcut, zf0, zf1, zf2, zf3, List.set_cons_zero, List.set_cons_succ, List.getD_cons_zero, List.getD_cons_succ]
                refine ze_aload_n kc_137_143 rfl ?_
                refine ze_getL kc_137_144 rfl rfl ?_
                rw [zup_s]
                refine ze_lstore kc_137_147 (Nat.le_of_ble_eq_true rfl) ?_
                simp only [zset1, zset2, zcut, zf0, zf1, zf2, zf3, List.set_cons_zero, List.set_cons_succ, List.getD_cons_zero, List.getD_cons_succ]
                refine ze_lload kc_137_149 rfl ?_
                refine ze_lstore kc_137_151 (Nat.le_of_ble_eq_true rfl) ?_
                simp only [zset1, zset2, zcut, zf0, zf1, zf2, zf3, List.set_cons_zero, List.set_cons_succ, List.getD_cons_zero, List.getD_cons_succ]
                refine ze_lload kc_137_153 rfl ?_
                refine ze_lstore kc_137_155 (Nat.le_of_ble_eq_true rfl) ?_
                simp only [zset1, zset2, zcut, zf0, zf1, zf2, zf3, List.set_cons_zero, List.set_cons_succ, List.getD_cons_zero, List.getD_cons_succ]
                refine ze_iinc kc_137_157 rfl ?_
                simp only [zset1, zset2, zcut, zf0, zf1, zf2, zf3, List.set_cons_zero, List.set_cons_succ, List.getD_cons_zero, List.getD_cons_succ]
                refine ze_goto kc_137_160 ?_
                refine ih _ (by omega) (k + 1) _ _ _ _ _ _ _ _ _ _ _ rfl (by omega) (by omega) ?_ (zFm_up (zFm_up (zFm_trans hq k1) (by omega)) (by omega)) (by rw [Int.natCast_succ]) (by rw [Int.natCast_succ]) (fun t ht => by
                    have e : t = k := by omega
                    rw [e]
                    exact ⟨rfl, rfl⟩)
                rw [Nat.add_sub_cancel, hv]
                first
                  | (have e : k = 0 := by omega
                     rw [e]; exact Int.add_zero _)
                  | (rw [hz0 (hiff.mp ⟨h116, h126⟩)]; exact Int.add_zero _)
                  | rw [hz1 (fun q => h116 (hiff.mpr q).1)]
                  | rw [hz1 (fun q => h126 (hiff.mpr q).2)]
              · skip
                refine ze_iconst kc_137_130 ?_
                refine ze_goto kc_137_131 ?_
                refine ze_iadd kc_137_135 ?_
                refine ze_istore_n kc_137_136 (Nat.le_of_ble_eq_true rfl) ?_
                simp only [zset1, zset2, zcut, zf0, zf1, zf2, zf3, List.set_cons_zero, List.set_cons_succ, List.getD_cons_zero, List.getD_cons_succ]
                refine ze_aload_n kc_137_137 rfl ?_
                refine ze_getL kc_137_138 rfl rfl ?_
                rw [zup_o (by decide), zup_s]
                refine ze_lstore kc_137_141 (Nat.le_of_ble_eq_true rfl) ?_
                simp only [zset1, zset2, zcut, zf0, zf1, zf2, zf3, List.set_cons_zero, List.set_cons_succ, List.getD_cons_zero, List.getD_cons_succ]
                refine ze_aload_n kc_137_143 rfl ?_
                refine ze_getL kc_137_144 rfl rfl ?_
                rw [zup_s]
                refine ze_lstore kc_137_147 (Nat.le_of_ble_eq_true rfl) ?_
                simp only [zset1, zset2, zcut, zf0, zf1, zf2, zf3, List.set_cons_zero, List.set_cons_succ, List.getD_cons_zero, List.getD_cons_succ]
                refine ze_lload kc_137_149 rfl ?_
                refine ze_lstore kc_137_151 (Nat.le_of_ble_eq_true rfl) ?_
                simp only [zset1, zset2, zcut, zf0, zf1, zf2, zf3, List.set_cons_zero, List.set_cons_succ, List.getD_cons_zero, List.getD_cons_succ]
                refine ze_lload kc_137_153 rfl ?_
                refine ze_lstore kc_137_155 (Nat.le_of_ble_eq_true rfl) ?_
                simp only [zset1, zset2, zcut, zf0, zf1, zf2, zf3, List.set_cons_zero, List.set_cons_succ, List.getD_cons_zero, List.getD_cons_succ]
                refine ze_iinc kc_137_157 rfl ?_
                simp only [zset1, zset2, zcut, zf0, zf1, zf2, zf3, List.set_cons_zero, List.set_cons_succ, List.getD_cons_zero, List.getD_cons_succ]
                refine ze_goto kc_137_160 ?_
                refine ih _ (by omega) (k + 1) _ _ _ _ _ _ _ _ _ _ _ rfl (by omega) (by omega) ?_ (zFm_up (zFm_up (zFm_trans hq k1) (by omega)) (by omega)) (by rw [Int.natCast_succ]) (by rw [Int.natCast_succ]) (fun t ht => by
                    have e : t = k := by omega
                    rw [e]
                    exact ⟨rfl, rfl⟩)
                rw [Nat.add_sub_cancel, hv]
                first
                  | (have e : k = 0 := by omega
                     rw [e]; exact Int.add_zero _)
                  | (rw [hz0 (hiff.mp ⟨h116, h126⟩)]; exact Int.add_zero _)
                  | rw [hz1 (fun q => h116 (hiff.mpr q).1)]
                  | rw [hz1 (fun q => h126 (hiff.mpr q).2)]
      refine loop56 _ 0 1 0 0 0 _ _ _ none none none none rfl (by omega) rfl rfl f1 (by rw [show ((0 : Nat) : Int) = 0 from rfl]) (by rw [show ((0 : Nat) : Int) = 0 from rfl]) (fun t ht => by omega)
    · simp only [Option.toList_some, Option.toList_none, List.drop_succ_cons, List.drop_zero, List.cons_append, List.nil_append]
      refine ze_if_ne kc_137_15 (by decide) (fun q => absurd q (by decide)) (fun _ => ?_)
      refine ze_iconst kc_137_18 ?_
      refine ze_ireturn kc_137_19 (Or.inl rfl) ?_
      first
        | (rw [show oBends n c r i = -2 from if_pos (by omega)] at q1; exact q1 _ zFq_refl)
        | (rw [show oBends n c r i = -1 from (if_neg (by omega)).trans (if_pos (by omega))] at q1; exact q1 _ zFq_refl)
  · simp only [Option.toList_some, Option.toList_none, List.drop_succ_cons, List.drop_zero, List.cons_append, List.nil_append]
    refine ze_if_ne kc_137_4 (by decide) (fun q => absurd q (by decide)) (fun _ => ?_)
    refine ze_bipush kc_137_7 ?_
    refine ze_ireturn kc_137_9 (Or.inl rfl) ?_
    first
      | (rw [show oBends n c r i = -2 from if_pos (by omega)] at q1; exact q1 _ zFq_refl)
      | (rw [show oBends n c r i = -1 from (if_neg (by omega)).trans (if_pos (by omega))] at q1; exact q1 _ zFq_refl)
