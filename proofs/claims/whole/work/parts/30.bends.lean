theorem zlow_abs {a b A : Int} (hb : 0 < b) (h : -A ≤ a ∧ a ≤ A) : -A ≤ zlow a b 0 ∧ zlow a b 0 ≤ A := by
  obtain ⟨g, x, y, g0, y0, g1, hx, hy, h0, h1⟩ := zlow_c (a := a) hb
  rw [h0]
  rcases Int.le_total 0 x with q | q
  · have := Int.mul_le_mul_of_nonneg_right (show 1 ≤ g by omega) q
    omega
  · have := Int.mul_le_mul_of_nonpos_right (show 1 ≤ g by omega) q
    omega
theorem zlow_dif1 {a a' b : Int} (hb : 0 < b) (p : Int) : zlow (zlow a' b 0 * zlow a b 1 - zlow a b 0 * zlow a' b 1) (zlow a' b 1 * zlow a b 1) p = zlow (a' - a) b p := by
  rw [zlow_dif hb hb]
  refine zlow_eq (Int.mul_pos hb hb) hb ?_ p
  rw [← Int.sub_mul, Int.mul_assoc]
theorem zlow_iff1 {a a' b : Int} (hb : 0 < b) : (zlow a b 0 = zlow a' b 0 ∧ zlow a b 1 = zlow a' b 1) ↔ a = a' := by
  rw [zlow_iff hb hb]
  exact ⟨fun h => Int.eq_of_mul_eq_mul_right (by omega) h, fun h => by rw [h]⟩
theorem zBn_0 {n : Nat} {c : Nat → Int} {r : Int} {i m : Nat} (h : zGt r n c i 1 ((m : Int) + 2) - zGt r n c i 1 ((m : Int) + 1) = zGt r n c i 1 ((m : Int) + 1) - zGt r n c i 1 (m : Int)) : zBn n c r i (m + 1) = zBn n c r i m := by
  unfold zBn
  rw [zsum_succ, if_pos h, Int.add_zero]
theorem zBn_1 {n : Nat} {c : Nat → Int} {r : Int} {i m : Nat} (h : ¬ zGt r n c i 1 ((m : Int) + 2) - zGt r n c i 1 ((m : Int) + 1) = zGt r n c i 1 ((m : Int) + 1) - zGt r n c i 1 (m : Int)) : zBn n c r i (m + 1) = zBn n c r i m + 1 := by
  unfold zBn
  rw [zsum_succ, if_neg h]
set_option maxHeartbeats 4000000 in
theorem m_bendsX {Z : zMem} {Q : Option zAV → zMem → Prop} {n : Nat} {c : Nat → Int} {e ρ : Int} (hC : zCl n c e ρ Z) {r i : Int} (hr : -2147483648 ≤ r ∧ r ≤ 2147483647) (hi : -2147483648 ≤ i ∧ i ≤ 2147483647) (q1 : ∀ Z', zFq Z Z' → Q (some (zI (oBends n c r i))) Z') : zE 60 0 (zent 60 [zR 0, zI r, zI i]) [] Z Q := by
  show zE 60 0 [some (zR 0), some (zI r), some (zI i), none, none, none, none, none, none, none, none, none, none] [] Z Q
  obtain ⟨hU0, hG0, n6, n0, cc, cr, ce, cρ, ceR, cρR, c11, c16⟩ := zCl_o hC
  have csr := zsum_range cr
  refine ze_iload_n kc_60_0 rfl ?_
  refine zE_calls 1 kc_60_1 rfl rfl (Nat.le_of_ble_eq_true rfl) (Nat.le_of_ble_eq_true rfl) (Nat.le_of_ble_eq_true rfl) rfl ?_
  refine m_isRule (by omega) (fun g1 => ?_) (fun g1 => ?_)
  · simp only [Option.toList_some, Option.toList_none, List.drop_succ_cons, List.drop_zero, List.cons_append, List.nil_append]
    refine ze_if_ne kc_60_4 (by decide) (fun _ => ?_) (fun q => absurd q (by decide))
    refine ze_aload_n kc_60_10 rfl ?_
    refine ze_getR kc_60_11 rfl rfl rfl ?_
    refine ze_getR kc_60_14 rfl rfl rfl ?_
    refine ze_iload_n kc_60_17 rfl ?_
    refine zE_callv 2 kc_60_18 rfl rfl (Nat.le_of_ble_eq_true rfl) (Nat.le_of_ble_eq_true rfl) (Nat.le_of_ble_eq_true rfl) rfl (by decide +kernel) rfl ?_
    refine m_has zgF_2 (by omega) (by omega) (fun g18 => ?_) (fun g18 => ?_)
    · simp only [Option.toList_some, Option.toList_none, List.drop_succ_cons, List.drop_zero, List.cons_append, List.nil_append]
      refine ze_if_ne kc_60_21 (by decide) (fun _ => ?_) (fun q => absurd q (by decide))
      obtain ⟨κ, rfl⟩ := Int.eq_ofNat_of_zero_le (show 0 ≤ i by omega)
      have hκ : κ < n := by omega
      refine ze_aload_n kc_60_26 rfl ?_
      refine ze_getR kc_60_27 rfl rfl rfl ?_
      refine ze_getR kc_60_30 rfl rfl rfl ?_
      refine ze_astore_n kc_60_33 (Nat.le_of_ble_eq_true rfl) ?_
      simp only [zset1, zset2, zcut, List.set_cons_zero, List.set_cons_succ, List.getD_cons_zero, List.getD_cons_succ]
      refine ze_aload_n kc_60_34 rfl ?_
      refine zE_callv 1 kc_60_35 rfl rfl (Nat.le_of_ble_eq_true rfl) (Nat.le_of_ble_eq_true rfl) (Nat.le_of_ble_eq_true rfl) rfl (by decide +kernel) rfl ?_
      refine m_all zgF_2 hG0 ?_
      simp only [Option.toList_some, Option.toList_none, List.drop_succ_cons, List.drop_zero, List.cons_append, List.nil_append]
      refine ze_istore kc_60_38 (Nat.le_of_ble_eq_true rfl) ?_
      simp only [zset1, zset2, zcut, List.set_cons_zero, List.set_cons_succ, List.getD_cons_zero, List.getD_cons_succ]
      refine ze_iconst kc_60_40 ?_
      refine ze_istore kc_60_41 (Nat.le_of_ble_eq_true rfl) ?_
      simp only [zset1, zset2, zcut, List.set_cons_zero, List.set_cons_succ, List.getD_cons_zero, List.getD_cons_succ]
      refine ze_aload_n kc_60_43 rfl ?_
      refine ze_iload_n kc_60_44 rfl ?_
      refine ze_iload_n kc_60_45 rfl ?_
      refine ze_lconst0 kc_60_46 ?_
      refine ze_lconst1 kc_60_47 ?_
      refine zE_callv 5 kc_60_48 rfl rfl (Nat.le_of_ble_eq_true rfl) (Nat.le_of_ble_eq_true rfl) (Nat.le_of_ble_eq_true rfl) rfl (by decide +kernel) rfl ?_
      refine m_gets zgF_2 hG0 hκ (by omega) (by omega) (by omega) ?_
      simp only [Option.toList_some, Option.toList_none, List.drop_succ_cons, List.drop_zero, List.cons_append, List.nil_append]
      refine ze_lstore kc_60_51 (Nat.le_of_ble_eq_true rfl) ?_
      simp only [zset1, zset2, zcut, List.set_cons_zero, List.set_cons_succ, List.getD_cons_zero, List.getD_cons_succ]
      refine ze_aload_n kc_60_53 rfl ?_
      refine ze_iload_n kc_60_54 rfl ?_
      refine ze_iload_n kc_60_55 rfl ?_
      refine ze_lconst1 kc_60_56 ?_
      refine ze_lconst1 kc_60_57 ?_
      refine zE_callv 5 kc_60_58 rfl rfl (Nat.le_of_ble_eq_true rfl) (Nat.le_of_ble_eq_true rfl) (Nat.le_of_ble_eq_true rfl) rfl (by decide +kernel) rfl ?_
      refine m_gets zgF_2 hG0 hκ (by omega) (by omega) (by omega) ?_
      simp only [Option.toList_some, Option.toList_none, List.drop_succ_cons, List.drop_zero, List.cons_append, List.nil_append]
      refine ze_lstore kc_60_61 (Nat.le_of_ble_eq_true rfl) ?_
      simp only [zset1, zset2, zcut, List.set_cons_zero, List.set_cons_succ, List.getD_cons_zero, List.getD_cons_succ]
      refine ze_iconst kc_60_63 ?_
      refine ze_istore kc_60_64 (Nat.le_of_ble_eq_true rfl) ?_
      simp only [zset1, zset2, zcut, List.set_cons_zero, List.set_cons_succ, List.getD_cons_zero, List.getD_cons_succ]
      have loop66 : ∀ (μ : Nat) (k : Nat) (x v b w : Int) (o1 o2 : Option zAV), (zsum n c).toNat - k = μ → ((k : Int) + 1 ≤ zsum n c) → (x = k + 1) → (v = zBn n c r κ k) → (b = zGt r n c κ 1 ((k : Int))) → (w = zGt r n c κ 1 ((k : Int) + 1)) → zE 60 66 [some (zR 0), some (zI r), some (zI (κ : Nat)), some (zR 2), some (zI (zsum n c)), some (zI v), some (zL b), none, some (zL w), none, some (zI x), o1, o2] [] Z Q := by
        refine zind ?_
        intro μ ih k x v b w o1 o2 hm hk hx hv hb hw
        subst hx
        subst hb
        subst hw
        refine ze_iload kc_60_66 rfl ?_
        refine ze_iload kc_60_68 rfl ?_
        refine ze_icmp_ge kc_60_70 (by omega) (by omega) (fun h70 => ?_) (fun h70 => ?_)
        · skip
          refine ze_iload kc_60_118 rfl ?_
          refine ze_ireturn kc_60_120 (Or.inl rfl) ?_
          rw [show oBends n c r κ = zBn n c r κ ((zsum n c).toNat - 1) from (if_neg (by omega)).trans (if_neg (by omega)), show (zsum n c).toNat - 1 = k by omega, ← hv] at q1
          exact q1 _ zFq_refl
        · skip
          refine ze_aload_n kc_60_73 rfl ?_
          refine ze_iload_n kc_60_74 rfl ?_
          refine ze_iload_n kc_60_75 rfl ?_
          refine ze_iload kc_60_76 rfl ?_
          refine ze_iconst kc_60_78 ?_
          refine ze_iadd kc_60_79 ?_
          rw [show (k : Int) + 1 + 1 = (k : Int) + 2 by omega]
          refine ze_i2l kc_60_80 (by omega) ?_
          refine ze_lconst1 kc_60_81 ?_
          refine zE_callv 5 kc_60_82 rfl rfl (Nat.le_of_ble_eq_true rfl) (Nat.le_of_ble_eq_true rfl) (Nat.le_of_ble_eq_true rfl) rfl (by decide +kernel) rfl ?_
          refine m_gets zgF_2 hG0 hκ (by omega) (by omega) (by omega) ?_
          simp only [Option.toList_some, Option.toList_none, List.drop_succ_cons, List.drop_zero, List.cons_append, List.nil_append]
          refine ze_lstore kc_60_85 (Nat.le_of_ble_eq_true rfl) ?_
          simp only [zset1, zset2, zcut, List.set_cons_zero, List.set_cons_succ, List.getD_cons_zero, List.getD_cons_succ]
          refine ze_lload kc_60_87 rfl ?_
          refine ze_lload kc_60_89 rfl ?_
          refine ze_lsub kc_60_91 ?_
          refine ze_lload kc_60_92 rfl ?_
          refine ze_lload kc_60_94 rfl ?_
          refine ze_lsub kc_60_96 ?_
          have g0 := zGt_range (r := r) (i := κ) (w := 1) (u := (k : Int)) n6 hκ cr (by omega) (by omega)
          have g1 := zGt_range (r := r) (i := κ) (w := 1) (u := (k : Int) + 1) n6 hκ cr (by omega) (by omega)
          have g2 := zGt_range (r := r) (i := κ) (w := 1) (u := (k : Int) + 2) n6 hκ cr (by omega) (by omega)
          refine ze_lcmp_eq kc_60_97 kc_60_98 (by omega) (by omega) (fun h97 => ?_) (fun h97 => ?_)
          · skip
            refine ze_lload kc_60_104 rfl ?_
            refine ze_lstore kc_60_106 (Nat.le_of_ble_eq_true rfl) ?_
            simp only [zset1, zset2, zcut, List.set_cons_zero, List.set_cons_succ, List.getD_cons_zero, List.getD_cons_succ]
            refine ze_lload kc_60_108 rfl ?_
            refine ze_lstore kc_60_110 (Nat.le_of_ble_eq_true rfl) ?_
            simp only [zset1, zset2, zcut, List.set_cons_zero, List.set_cons_succ, List.getD_cons_zero, List.getD_cons_succ]
            refine ze_iinc kc_60_112 rfl ?_
            simp only [zset1, zset2, zcut, List.set_cons_zero, List.set_cons_succ, List.getD_cons_zero, List.getD_cons_succ]
            refine ze_goto kc_60_115 ?_
            refine ih _ (by omega) (k + 1) _ _ _ _ _ _ rfl (by omega) (by omega) ?_ (by rw [Int.natCast_succ]) (by rw [Int.natCast_succ, Int.add_assoc]; rfl)
            first
              | (rw [zBn_0 h97]; exact hv)
              | (rw [zBn_1 h97, hv])
          · skip
            refine ze_iinc kc_60_101 rfl ?_
            simp only [zset1, zset2, zcut, List.set_cons_zero, List.set_cons_succ, List.getD_cons_zero, List.getD_cons_succ]
            refine ze_lload kc_60_104 rfl ?_
            refine ze_lstore kc_60_106 (Nat.le_of_ble_eq_true rfl) ?_
            simp only [zset1, zset2, zcut, List.set_cons_zero, List.set_cons_succ, List.getD_cons_zero, List.getD_cons_succ]
            refine ze_lload kc_60_108 rfl ?_
            refine ze_lstore kc_60_110 (Nat.le_of_ble_eq_true rfl) ?_
            simp only [zset1, zset2, zcut, List.set_cons_zero, List.set_cons_succ, List.getD_cons_zero, List.getD_cons_succ]
            refine ze_iinc kc_60_112 rfl ?_
            simp only [zset1, zset2, zcut, List.set_cons_zero, List.set_cons_succ, List.getD_cons_zero, List.getD_cons_succ]
            refine ze_goto kc_60_115 ?_
            refine ih _ (by omega) (k + 1) _ _ _ _ _ _ rfl (by omega) (by omega) ?_ (by rw [Int.natCast_succ]) (by rw [Int.natCast_succ, Int.add_assoc]; rfl)
            first
              | (rw [zBn_0 h97]; exact hv)
              | (rw [zBn_1 h97, hv])
      refine loop66 _ 0 1 0 _ _ none none rfl (by omega) rfl rfl rfl rfl
    · simp only [Option.toList_some, Option.toList_none, List.drop_succ_cons, List.drop_zero, List.cons_append, List.nil_append]
      refine ze_if_ne kc_60_21 (by decide) (fun q => absurd q (by decide)) (fun _ => ?_)
      refine ze_iconst kc_60_24 ?_
      refine ze_ireturn kc_60_25 (Or.inl rfl) ?_
      first
        | (rw [show oBends n c r i = -2 from if_pos (by omega)] at q1; exact q1 _ zFq_refl)
        | (rw [show oBends n c r i = -1 from (if_neg (by omega)).trans (if_pos (by omega))] at q1; exact q1 _ zFq_refl)
  · simp only [Option.toList_some, Option.toList_none, List.drop_succ_cons, List.drop_zero, List.cons_append, List.nil_append]
    refine ze_if_ne kc_60_4 (by decide) (fun q => absurd q (by decide)) (fun _ => ?_)
    refine ze_bipush kc_60_7 ?_
    refine ze_ireturn kc_60_9 (Or.inl rfl) ?_
    first
      | (rw [show oBends n c r i = -2 from if_pos (by omega)] at q1; exact q1 _ zFq_refl)
      | (rw [show oBends n c r i = -1 from (if_neg (by omega)).trans (if_pos (by omega))] at q1; exact q1 _ zFq_refl)

