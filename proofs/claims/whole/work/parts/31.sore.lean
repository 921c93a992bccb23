theorem zmabs {a b A B : Int} (ha : -A ≤ a ∧ a ≤ A) (hb : 0 ≤ b ∧ b ≤ B) : -(A * B) ≤ a * b ∧ a * b ≤ A * B := by
  have hA : 0 ≤ A := by omega
  rcases Int.le_total 0 a with q | q
  · have := zmb (a := a) (b := b) (A := A) (B := B) (by omega) hb
    omega
  · have h := zmb (a := -a) (b := b) (A := A) (B := B) (by omega) hb
    rw [Int.neg_mul] at h
    omega
theorem zsor_eq {k G S : Int} (hS : 0 < S) : (k * zlow G S 1 - zlow G S 0) * S = (k * S - G) * zlow G S 1 := by
  rw [Int.sub_mul, Int.sub_mul, (zlow_p (a := G) hS).2.2.1, Int.mul_right_comm]
theorem zsor_lt {a b D D' S x y : Int} (hS : 0 < S) (hD : 0 < D) (hD' : 0 < D') (hx : x * S = a * D) (hy : y * S = b * D') : (x * D' < y * D) ↔ a < b := by
  have e1 : x * D' * S = a * (D * D') := by rw [Int.mul_right_comm, hx, Int.mul_assoc]
  have e2 : y * D * S = b * (D * D') := by rw [Int.mul_right_comm, hy, Int.mul_assoc, Int.mul_comm D' D]
  have hp := Int.mul_pos hD hD'
  constructor
  · intro h
    have q := Int.mul_lt_mul_of_pos_right h hS
    rw [e1, e2] at q
    exact Int.lt_of_mul_lt_mul_right q (Int.le_of_lt hp)
  · intro h
    have q := Int.mul_lt_mul_of_pos_right h hp
    rw [← e1, ← e2] at q
    exact Int.lt_of_mul_lt_mul_right q (Int.le_of_lt hS)
theorem zSorb_self {L c : Nat → Int} {i : Nat} : zSorb L c i i = false := decide_eq_false (by omega)
set_option maxHeartbeats 8000000 in
theorem m_sorerM {Z : zMem} {Q : Option zAV → zMem → Prop} {n : Nat} {c : Nat → Int} {e ρ : Int} (hM : zMo n c e ρ Z) {r : Int} {i j : Nat} (hr : 0 ≤ r ∧ r ≤ 5) (hi : i < n) (hj : j < n) (he : e ≤ zsum n c) (q1 : zSorb (zLos n c e r) c i j = true → ∀ Z', zFm Z Z' → Q (some (zI 1)) Z') (q2 : zSorb (zLos n c e r) c i j = false → ∀ Z', zFm Z Z' → Q (some (zI 0)) Z') : zE 141 0 (zent 141 [zR 63, zI r, zI (i : Nat), zI (j : Nat)]) [] Z Q := by
  show zE 141 0 [some (zR 63), some (zI r), some (zI (i : Nat)), some (zI (j : Nat)), none, none, none, none, none, none, none, none] [] Z Q
  have hM0 := hM
  obtain ⟨n0, n6, mc, mr, me, mρ, meR, mρR⟩ := hM
  have msr := zsum_range mr
  have hp6 := zpow6 n6
  have hss := zS_range (r := r) (n := n) (c := c) ⟨by omega, n6⟩ mr
  have gi := zGt_range (r := r) (i := i) (w := 1) (u := e) n6 hi mr (by omega) (by omega)
  have gj := zGt_range (r := r) (i := j) (w := 1) (u := e) n6 hj mr (by omega) (by omega)
  have li := zlow_p (a := zGt r n c i 1 e) (b := zS r n c) (by omega)
  have lj := zlow_p (a := zGt r n c j 1 e) (b := zS r n c) (by omega)
  have li4 := li.2.2.2 gi.1
  have lj4 := lj.2.2.2 gj.1
  have ci := mr i hi
  have cj := mr j hj
  have bi := zmb (a := c i) (b := zlow (zGt r n c i 1 e) (zS r n c) 1) (A := 60) (B := 720) (by omega) (by omega)
  have bj := zmb (a := c j) (b := zlow (zGt r n c j 1 e) (zS r n c) 1) (A := 60) (B := 720) (by omega) (by omega)
  have mi := zmabs (a := c i * zlow (zGt r n c i 1 e) (zS r n c) 1 - zlow (zGt r n c i 1 e) (zS r n c) 0) (b := zlow (zGt r n c j 1 e) (zS r n c) 1) (A := 2147526848) (B := 720) (by omega) (by omega)
  have mj := zmabs (a := c j * zlow (zGt r n c j 1 e) (zS r n c) 1 - zlow (zGt r n c j 1 e) (zS r n c) 0) (b := zlow (zGt r n c i 1 e) (zS r n c) 1) (A := 2147526848) (B := 720) (by omega) (by omega)
  have hlt := zsor_lt (S := zS r n c) (by omega) li.1 lj.1 (zsor_eq (k := c i) (G := zGt r n c i 1 e) (S := zS r n c) (by omega)) (zsor_eq (k := c j) (G := zGt r n c j 1 e) (S := zS r n c) (by omega))
  have hgt := zsor_lt (S := zS r n c) (by omega) lj.1 li.1 (zsor_eq (k := c j) (G := zGt r n c j 1 e) (S := zS r n c) (by omega)) (zsor_eq (k := c i) (G := zGt r n c i 1 e) (S := zS r n c) (by omega))
  have hLi : zLos n c e r i = c i * zS r n c - zGt r n c i 1 e := rfl
  have hLj : zLos n c e r j = c j * zS r n c - zGt r n c j 1 e := rfl
  rw [← hLi, ← hLj] at hlt hgt
  refine ze_aload_n kc_141_0 rfl ?_
  refine ze_iload_n kc_141_1 rfl ?_
  refine ze_iload_n kc_141_2 rfl ?_
  refine zE_callv 3 kc_141_3 rfl rfl (Nat.le_of_ble_eq_true rfl) (Nat.le_of_ble_eq_true rfl) (Nat.le_of_ble_eq_true rfl) rfl (by decide +kernel) rfl ?_
  refine m_awardOf hM0 hr hi he (fun Z2 f1 f2 f3 => ?_)
  simp only [Option.toList_some, Option.toList_none, List.drop_succ_cons, List.drop_zero, List.cons_append, List.nil_append]
  refine ze_aload_n kc_141_6 rfl ?_
  refine ze_getR kc_141_7 rfl rfl rfl ?_
  refine ze_iload_n kc_141_10 rfl ?_
  refine ze_iald kc_141_11 rfl (by omega) ?_
  rw [Int.toNat_natCast, (zMo_fm hM0 f1).2.2.1 i hi]
  refine ze_i2l kc_141_12 (by omega) ?_
  refine ze_aload_n kc_141_13 rfl ?_
  refine ze_getL kc_141_14 rfl rfl ?_
  rw [f3]
  refine ze_lmul kc_141_17 ?_
  refine ze_aload_n kc_141_18 rfl ?_
  refine ze_getL kc_141_19 rfl rfl ?_
  rw [f2]
  refine ze_lsub kc_141_22 ?_
  refine ze_lstore kc_141_23 (Nat.le_of_ble_eq_true rfl) ?_
  simp only [zset1, zset2, zcut, zf0, zf1, zf2, zf3, List.set_cons_zero, List.set_cons_succ, List.getD_cons_zero, List.getD_cons_succ]
  refine ze_aload_n kc_141_25 rfl ?_
  refine ze_getL kc_141_26 rfl rfl ?_
  rw [f3]
  refine ze_lstore kc_141_29 (Nat.le_of_ble_eq_true rfl) ?_
  simp only [zset1, zset2, zcut, zf0, zf1, zf2, zf3, List.set_cons_zero, List.set_cons_succ, List.getD_cons_zero, List.getD_cons_succ]
  refine ze_aload_n kc_141_31 rfl ?_
  refine ze_iload_n kc_141_32 rfl ?_
  refine ze_iload_n kc_141_33 rfl ?_
  refine zE_callv 3 kc_141_34 rfl rfl (Nat.le_of_ble_eq_true rfl) (Nat.le_of_ble_eq_true rfl) (Nat.le_of_ble_eq_true rfl) rfl (by decide +kernel) rfl ?_
  refine m_awardOf (zMo_fm hM0 f1) hr hj he (fun Z3 k1 k2 k3 => ?_)
  simp only [Option.toList_some, Option.toList_none, List.drop_succ_cons, List.drop_zero, List.cons_append, List.nil_append]
  refine ze_lload kc_141_37 rfl ?_
  refine ze_aload_n kc_141_39 rfl ?_
  refine ze_getL kc_141_40 rfl rfl ?_
  rw [k3]
  refine ze_lmul kc_141_43 ?_
  refine ze_lstore kc_141_44 (Nat.le_of_ble_eq_true rfl) ?_
  simp only [zset1, zset2, zcut, zf0, zf1, zf2, zf3, List.set_cons_zero, List.set_cons_succ, List.getD_cons_zero, List.getD_cons_succ]
  refine ze_aload_n kc_141_46 rfl ?_
  refine ze_getR kc_141_47 rfl rfl rfl ?_
  refine ze_iload_n kc_141_50 rfl ?_
  refine ze_iald kc_141_51 rfl (by omega) ?_
  rw [Int.toNat_natCast, (zMo_fm (zMo_fm hM0 f1) k1).2.2.1 j hj]
  refine ze_i2l kc_141_52 (by omega) ?_
  refine ze_aload_n kc_141_53 rfl ?_
  refine ze_getL kc_141_54 rfl rfl ?_
  rw [k3]
  refine ze_lmul kc_141_57 ?_
  refine ze_aload_n kc_141_58 rfl ?_
  refine ze_getL kc_141_59 rfl rfl ?_
  rw [k2]
  refine ze_lsub kc_141_62 ?_
  refine ze_lload kc_141_63 rfl ?_
  refine ze_lmul kc_141_65 ?_
  refine ze_lstore kc_141_66 (Nat.le_of_ble_eq_true rfl) ?_
  simp only [zset1, zset2, zcut, zf0, zf1, zf2, zf3, List.set_cons_zero, List.set_cons_succ, List.getD_cons_zero, List.getD_cons_succ]
  refine ze_lload kc_141_68 rfl ?_
  refine ze_lload kc_141_70 rfl ?_
  refine ze_lcmp_eq kc_141_72 kc_141_73 (by omega) (by omega) (fun h72 => ?_) (fun h72 => ?_)
  · skip
    refine ze_aload_n kc_141_90 rfl ?_
    refine ze_getR kc_141_91 rfl rfl rfl ?_
    refine ze_iload_n kc_141_94 rfl ?_
    refine ze_iald kc_141_95 rfl (by omega) ?_
    rw [Int.toNat_natCast, (zMo_fm (zMo_fm hM0 f1) k1).2.2.1 i hi]
    refine ze_aload_n kc_141_96 rfl ?_
    refine ze_getR kc_141_97 rfl rfl rfl ?_
    refine ze_iload_n kc_141_100 rfl ?_
    refine ze_iald kc_141_101 rfl (by omega) ?_
    rw [Int.toNat_natCast, (zMo_fm (zMo_fm hM0 f1) k1).2.2.1 j hj]
    refine ze_icmp_eq kc_141_102 (by omega) (by omega) (fun h102 => ?_) (fun h102 => ?_)
    · skip
      refine ze_iload_n kc_141_128 rfl ?_
      refine ze_iload_n kc_141_129 rfl ?_
      refine ze_icmp_ge kc_141_130 (by omega) (by omega) (fun h130 => ?_) (fun h130 => ?_)
      · skip
        refine ze_iconst kc_141_137 ?_
        refine ze_ireturn kc_141_138 (by decide) ?_
        first
          | exact q1 (decide_eq_true (by omega)) _ (zFm_trans f1 k1)
          | exact q2 (decide_eq_false (by omega)) _ (zFm_trans f1 k1)
      · skip
        refine ze_iconst kc_141_133 ?_
        refine ze_goto kc_141_134 ?_
        refine ze_ireturn kc_141_138 (by decide) ?_
        first
          | exact q1 (decide_eq_true (by omega)) _ (zFm_trans f1 k1)
          | exact q2 (decide_eq_false (by omega)) _ (zFm_trans f1 k1)
    · skip
      refine ze_aload_n kc_141_105 rfl ?_
      refine ze_getR kc_141_106 rfl rfl rfl ?_
      refine ze_iload_n kc_141_109 rfl ?_
      refine ze_iald kc_141_110 rfl (by omega) ?_
      rw [Int.toNat_natCast, (zMo_fm (zMo_fm hM0 f1) k1).2.2.1 i hi]
      refine ze_aload_n kc_141_111 rfl ?_
      refine ze_getR kc_141_112 rfl rfl rfl ?_
      refine ze_iload_n kc_141_115 rfl ?_
      refine ze_iald kc_141_116 rfl (by omega) ?_
      rw [Int.toNat_natCast, (zMo_fm (zMo_fm hM0 f1) k1).2.2.1 j hj]
      refine ze_icmp_le kc_141_117 (by omega) (by omega) (fun h117 => ?_) (fun h117 => ?_)
      · skip
        refine ze_iconst kc_141_124 ?_
        refine ze_goto kc_141_125 ?_
        refine ze_ireturn kc_141_138 (by decide) ?_
        first
          | exact q1 (decide_eq_true (by omega)) _ (zFm_trans f1 k1)
          | exact q2 (decide_eq_false (by omega)) _ (zFm_trans f1 k1)
      · skip
        refine ze_iconst kc_141_120 ?_
        refine ze_goto kc_141_121 ?_
        refine ze_ireturn kc_141_138 (by decide) ?_
        first
          | exact q1 (decide_eq_true (by omega)) _ (zFm_trans f1 k1)
          | exact q2 (decide_eq_false (by omega)) _ (zFm_trans f1 k1)
  · skip
    refine ze_lload kc_141_76 rfl ?_
    refine ze_lload kc_141_78 rfl ?_
    refine ze_lcmp_le kc_141_80 kc_141_81 (by omega) (by omega) (fun h80 => ?_) (fun h80 => ?_)
    · skip
      refine ze_iconst kc_141_88 ?_
      refine ze_ireturn kc_141_89 (by decide) ?_
      first
        | exact q1 (decide_eq_true (by omega)) _ (zFm_trans f1 k1)
        | exact q2 (decide_eq_false (by omega)) _ (zFm_trans f1 k1)
    · skip
      refine ze_iconst kc_141_84 ?_
      refine ze_goto kc_141_85 ?_
      refine ze_ireturn kc_141_89 (by decide) ?_
      first
        | exact q1 (decide_eq_true (by omega)) _ (zFm_trans f1 k1)
        | exact q2 (decide_eq_false (by omega)) _ (zFm_trans f1 k1)

set_option maxHeartbeats 4000000 in
theorem m_soreM {Z : zMem} {Q : Option zAV → zMem → Prop} {n : Nat} {c : Nat → Int} {e ρ : Int} (hM : zMo n c e ρ Z) {r k : Int} (hr : -2147483648 ≤ r ∧ r ≤ 2147483647) (hk : -2147483648 ≤ k ∧ k ≤ 2147483647) (q1 : ∀ Z', zFq Z Z' → Q (some (zI (oSore n c e r k))) Z') : zE 142 0 (zent 142 [zR 63, zI r, zI k]) [] Z Q := by
  show zE 142 0 [some (zR 63), some (zI r), some (zI k), none, none, none] [] Z Q
  have hM0 := hM
  obtain ⟨n0, n6, mc, mr, me, mρ, meR, mρR⟩ := hM
  have msr := zsum_range mr
  have hp6 := zpow6 n6
  refine ze_iload_n kc_142_0 rfl ?_
  refine zE_calls 1 kc_142_1 rfl rfl (Nat.le_of_ble_eq_true rfl) (Nat.le_of_ble_eq_true rfl) (Nat.le_of_ble_eq_true rfl) rfl ?_
  refine m_isRuleM (by omega) (fun g1 => ?_) (fun g1 => ?_)
  · simp only [Option.toList_some, Option.toList_none, List.drop_succ_cons, List.drop_zero, List.cons_append, List.nil_append]
    refine ze_if_ne kc_142_4 (by decide) (fun _ => ?_) (fun q => absurd q (by decide))
    refine ze_iload_n kc_142_10 rfl ?_
    refine ze_iconst kc_142_11 ?_
    refine ze_aload_n kc_142_12 rfl ?_
    refine ze_getI kc_142_13 rfl (by decide) ?_
    rw [n0]
    refine ze_iconst kc_142_16 ?_
    refine ze_isub kc_142_17 ?_
    refine zE_calls 3 kc_142_18 rfl rfl (Nat.le_of_ble_eq_true rfl) (Nat.le_of_ble_eq_true rfl) (Nat.le_of_ble_eq_true rfl) rfl ?_
    refine m_in (by omega) (by omega) (by omega) (fun g18 => ?_) (fun g18 => ?_)
    · simp only [Option.toList_some, Option.toList_none, List.drop_succ_cons, List.drop_zero, List.cons_append, List.nil_append]
      refine ze_if_ne kc_142_21 (by decide) (fun _ => ?_) (fun q => absurd q (by decide))
      refine ze_aload_n kc_142_26 rfl ?_
      refine zE_callv 1 kc_142_27 rfl rfl (Nat.le_of_ble_eq_true rfl) (Nat.le_of_ble_eq_true rfl) (Nat.le_of_ble_eq_true rfl) rfl (by decide +kernel) rfl ?_
      refine m_readyM hM0 (fun g27 => ?_) (fun g27 => ?_)
      · simp only [Option.toList_some, Option.toList_none, List.drop_succ_cons, List.drop_zero, List.cons_append, List.nil_append]
        refine ze_if_ne kc_142_30 (by decide) (fun _ => ?_) (fun q => absurd q (by decide))
        refine ze_iconst kc_142_36 ?_
        refine ze_istore_n kc_142_37 (Nat.le_of_ble_eq_true rfl) ?_
        simp only [zset1, zset2, zcut, zf0, zf1, zf2, zf3, List.set_cons_zero, List.set_cons_succ, List.getD_cons_zero, List.getD_cons_succ]
        have loop38 : ∀ (μ : Nat) (i : Nat) (x : Int) (Zc : zMem) (o1 o2 : Option zAV), n - i = μ → (i ≤ n) → (x = i) → (zFm Z Zc) → (zfst (n - i) i (fun i => decide (zAhd (zLos n c e r) c n i = k)) (-1) = zSore n c e r k) → zE 142 38 [some (zR 63), some (zI r), some (zI k), some (zI x), o1, o2] [] Zc Q := by
          refine zind ?_
          intro μ2 ih2 i x Zc o1 o2 hm2 hi2 hx hq hR
          subst hx
          have hn2 : Zc 63 0 = n := (zMo_fm hM0 hq).1
          refine ze_iload_n kc_142_38 rfl ?_
          refine ze_aload_n kc_142_39 rfl ?_
          refine ze_getI kc_142_40 rfl (by decide) ?_
          skip
          refine ze_icmp_ge kc_142_43 (by omega) (by omega) (fun h43 => ?_) (fun h43 => ?_)
          · skip
            refine ze_iconst kc_142_108 ?_
            refine ze_ireturn kc_142_109 (Or.inl rfl) ?_
            rw [zfst_end (by omega)] at hR
            rw [show oSore n c e r k = zSore n c e r k from (if_neg (by omega)).trans ((if_neg (by omega)).trans (if_pos (by omega))), ← hR] at q1
            exact q1 _ (zFq_fm hq)
          · skip
            refine ze_iconst kc_142_46 ?_
            refine ze_istore kc_142_47 (Nat.le_of_ble_eq_true rfl) ?_
            simp only [zset1, zset2, zcut, zf0, zf1, zf2, zf3, List.set_cons_zero, List.set_cons_succ, List.getD_cons_zero, List.getD_cons_succ]
            refine ze_iconst kc_142_49 ?_
            refine ze_istore kc_142_50 (Nat.le_of_ble_eq_true rfl) ?_
            simp only [zset1, zset2, zcut, zf0, zf1, zf2, zf3, List.set_cons_zero, List.set_cons_succ, List.getD_cons_zero, List.getD_cons_succ]
            have loop52 : ∀ (μ : Nat) (j : Nat) (y : Int) (a : Int) (Zd : zMem), n - j = μ → (j ≤ n) → (y = j) → (zFm Z Zd) → (a = zsum j (fun j => if zSorb (zLos n c e r) c j i = true then 1 else 0)) → zE 142 52 [some (zR 63), some (zI r), some (zI k), some (zI (i : Nat)), some (zI a), some (zI y)] [] Zd Q := by
              refine zind ?_
              intro μ3 ih3 j y a Zd hm3 hj2 hy hq3 ha
              subst hy
              have hn3 : Zd 63 0 = n := (zMo_fm hM0 hq3).1
              refine ze_iload kc_142_52 rfl ?_
              refine ze_aload_n kc_142_54 rfl ?_
              refine ze_getI kc_142_55 rfl (by decide) ?_
              refine ze_icmp_ge kc_142_58 (by omega) (by omega) (fun h58 => ?_) (fun h58 => ?_)
              · skip
                have ha2 : zAhd (zLos n c e r) c n i = a := by
                  rw [ha, show j = n by omega]
                  rfl
                have hab := zsum_hi (n := n) (f := fun j => if zSorb (zLos n c e r) c j i = true then (1 : Int) else 0) (c := 1) (fun i _ => by split <;> omega)
                have hab2 := zsum_lo (n := n) (f := fun j => if zSorb (zLos n c e r) c j i = true then (1 : Int) else 0) (c := 0) (fun i _ => by split <;> omega)
                rw [show zsum n (fun j => if zSorb (zLos n c e r) c j i = true then (1 : Int) else 0) = a from ha2] at hab hab2
                refine ze_iload kc_142_94 rfl ?_
                refine ze_iload_n kc_142_96 rfl ?_
                refine ze_icmp_ne kc_142_97 (by omega) (by omega) (fun h97 => ?_) (fun h97 => ?_)
                · skip
                  refine ze_iinc kc_142_102 rfl ?_
                  simp only [zset1, zset2, zcut, zf0, zf1, zf2, zf3, List.set_cons_zero, List.set_cons_succ, List.getD_cons_zero, List.getD_cons_succ]
                  refine ze_goto kc_142_105 ?_
                  refine ih2 _ (by omega) (i + 1) _ _ _ _ rfl (by omega) (by omega) hq3 ((zfst_next (by omega) (decide_eq_false (by rw [ha2]; exact h97))).symm.trans hR)
                · skip
                  refine ze_iload_n kc_142_100 rfl ?_
                  refine ze_ireturn kc_142_101 (Or.inl rfl) ?_
                  rw [zfst_hit (by omega) (decide_eq_true (by rw [ha2]; exact h97))] at hR
                  rw [show oSore n c e r k = zSore n c e r k from (if_neg (by omega)).trans ((if_neg (by omega)).trans (if_pos (by omega))), ← hR] at q1
                  exact q1 _ (zFq_fm hq3)
              · skip
                refine ze_iload kc_142_61 rfl ?_
                refine ze_iload kc_142_63 rfl ?_
                refine ze_iload_n kc_142_65 rfl ?_
                refine ze_icmp_eq kc_142_66 (by omega) (by omega) (fun h66 => ?_) (fun h66 => ?_)
                · skip
                  refine ze_iconst kc_142_84 ?_
                  refine ze_iadd kc_142_85 ?_
                  refine ze_istore kc_142_86 (Nat.le_of_ble_eq_true rfl) ?_
                  simp only [zset1, zset2, zcut, zf0, zf1, zf2, zf3, List.set_cons_zero, List.set_cons_succ, List.getD_cons_zero, List.getD_cons_succ]
                  refine ze_iinc kc_142_88 rfl ?_
                  simp only [zset1, zset2, zcut, zf0, zf1, zf2, zf3, List.set_cons_zero, List.set_cons_succ, List.getD_cons_zero, List.getD_cons_succ]
                  refine ze_goto kc_142_91 ?_
                  refine ih3 _ (by omega) (j + 1) _ _ _ rfl (by omega) (by omega) (by first | exact zFm_trans hq3 f1 | exact hq3) ?_
                  rw [zsum_succ, ha]
                  first
                    | rw [if_pos g74]
                    | rw [if_neg (fun q => absurd (g74.symm.trans q) (by decide))]
                    | rw [show j = i by omega, zSorb_self, if_neg (by decide)]
                · skip
                  refine ze_aload_n kc_142_69 rfl ?_
                  refine ze_iload_n kc_142_70 rfl ?_
                  refine ze_iload kc_142_71 rfl ?_
                  refine ze_iload_n kc_142_73 rfl ?_
                  refine zE_callv 4 kc_142_74 rfl rfl (Nat.le_of_ble_eq_true rfl) (Nat.le_of_ble_eq_true rfl) (Nat.le_of_ble_eq_true rfl) rfl (by decide +kernel) rfl ?_
                  refine m_sorerM (zMo_fm hM0 hq3) (i := j) (j := i) (by omega) (by omega) (by omega) (by omega) (fun g74 Z2 f1 => ?_) (fun g74 Z2 f1 => ?_)
                  · simp only [Option.toList_some, Option.toList_none, List.drop_succ_cons, List.drop_zero, List.cons_append, List.nil_append]
                    refine ze_if_eq kc_142_77 (by decide) (fun q => absurd q (by decide)) (fun _ => ?_)
                    refine ze_iconst kc_142_80 ?_
                    refine ze_goto kc_142_81 ?_
                    refine ze_iadd kc_142_85 ?_
                    refine ze_istore kc_142_86 (Nat.le_of_ble_eq_true rfl) ?_
                    simp only [zset1, zset2, zcut, zf0, zf1, zf2, zf3, List.set_cons_zero, List.set_cons_succ, List.getD_cons_zero, List.getD_cons_succ]
                    refine ze_iinc kc_142_88 rfl ?_
                    simp only [zset1, zset2, zcut, zf0, zf1, zf2, zf3, List.set_cons_zero, List.set_cons_succ, List.getD_cons_zero, List.getD_cons_succ]
                    refine ze_goto kc_142_91 ?_
                    refine ih3 _ (by omega) (j + 1) _ _ _ rfl (by omega) (by omega) (by first | exact zFm_trans hq3 f1 | exact hq3) ?_
                    rw [zsum_succ, ha]
                    first
                      | rw [if_pos g74]
                      | rw [if_neg (fun q => absurd (g74.symm.trans q) (by decide))]
                      | rw [show j = i by omega, zSorb_self, if_neg (by decide)]
                  · simp only [Option.toList_some, Option.toList_none, List.drop_succ_cons, List.drop_zero, List.cons_append, List.nil_append]
                    refine ze_if_eq kc_142_77 (by decide) (fun _ => ?_) (fun q => absurd q (by decide))
                    refine ze_iconst kc_142_84 ?_
                    refine ze_iadd kc_142_85 ?_
                    refine ze_istore kc_142_86 (Nat.le_of_ble_eq_true rfl) ?_
                    simp only [zset1, zset2, zcut, zf0, zf1, zf2, zf3, List.set_cons_zero, List.set_cons_succ, List.getD_cons_zero, List.getD_cons_succ]
                    refine ze_iinc kc_142_88 rfl ?_
                    simp only [zset1, zset2, zcut, zf0, zf1, zf2, zf3, List.set_cons_zero, List.set_cons_succ, List.getD_cons_zero, List.getD_cons_succ]
                    refine ze_goto kc_142_91 ?_
                    refine ih3 _ (by omega) (j + 1) _ _ _ rfl (by omega) (by omega) (by first | exact zFm_trans hq3 f1 | exact hq3) ?_
                    rw [zsum_succ, ha]
                    first
                      | rw [if_pos g74]
                      | rw [if_neg (fun q => absurd (g74.symm.trans q) (by decide))]
                      | rw [show j = i by omega, zSorb_self, if_neg (by decide)]
            refine loop52 _ 0 0 0 Zc rfl (by omega) rfl hq rfl
        refine loop38 _ 0 0 Z none none rfl (by omega) rfl zFm_refl rfl
      · simp only [Option.toList_some, Option.toList_none, List.drop_succ_cons, List.drop_zero, List.cons_append, List.nil_append]
        refine ze_if_ne kc_142_30 (by decide) (fun q => absurd q (by decide)) (fun _ => ?_)
        refine ze_bipush kc_142_33 ?_
        refine ze_ireturn kc_142_35 (Or.inl rfl) ?_
        rw [show oSore n c e r k = -3 from (if_neg (by omega)).trans ((if_neg (by omega)).trans (if_neg (by omega)))] at q1
        exact q1 _ zFq_refl
    · simp only [Option.toList_some, Option.toList_none, List.drop_succ_cons, List.drop_zero, List.cons_append, List.nil_append]
      refine ze_if_ne kc_142_21 (by decide) (fun q => absurd q (by decide)) (fun _ => ?_)
      refine ze_iconst kc_142_24 ?_
      refine ze_ireturn kc_142_25 (Or.inl rfl) ?_
      rw [show oSore n c e r k = -1 from (if_neg (by omega)).trans (if_pos (by omega))] at q1
      exact q1 _ zFq_refl
  · simp only [Option.toList_some, Option.toList_none, List.drop_succ_cons, List.drop_zero, List.cons_append, List.nil_append]
    refine ze_if_ne kc_142_4 (by decide) (fun q => absurd q (by decide)) (fun _ => ?_)
    refine ze_bipush kc_142_7 ?_
    refine ze_ireturn kc_142_9 (Or.inl rfl) ?_
    rw [show oSore n c e r k = -2 from if_pos (by omega)] at q1
    exact q1 _ zFq_refl
