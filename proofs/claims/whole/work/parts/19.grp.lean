theorem zind {P : Nat → Prop} (h : ∀ m, (∀ m', m' < m → P m') → P m) : ∀ m, P m := fun m => Nat.strongRecOn m h
theorem zext_self {c : Nat → Int} {k : Nat} : zext c k (c k) = c := funext fun i => by
  unfold zext
  split
  · subst i; rfl
  · rfl
theorem zG_z {g n : Nat} {c : Nat → Int} {Z : zMem} (h : zG g n c Z) : Z (g + 3) 0 = 0 := by
  rw [h.2.2.2.2.2.2.2 0 (Nat.pow_pos (by decide))]
  unfold zsub
  have e : zsum n (fun i => if (0 : Nat).testBit i = true then c i else 0) = zsum n (fun _ => 0) := zsum_congr (fun i _ => by rw [Nat.zero_testBit, if_neg (by decide)])
  rw [e, zsum_const, Int.mul_zero]
def zpc (S : Nat) : Nat := ((List.range 6).map (fun i => if S.testBit i then 1 else 0)).sum
def zfac (n : Nat) : Int := ([1, 1, 2, 6, 24, 120, 720] : List Int).getD n 0
def zS (r : Int) (n : Nat) (c : Nat → Int) : Int := if r = 2 then zsum n c else if r = 5 then zfac n else 120

set_option maxHeartbeats 4000000 in
theorem m_minI {Z : zMem} {Q : Option zAV → zMem → Prop} {x w : Int} (hx : -2147483648 ≤ x ∧ x ≤ 2147483647) (hw : -2147483648 ≤ w ∧ w ≤ 2147483647) (q1 : Q (some (zI (min x w))) Z) : zE 181 0 (zent 181 [zI x, zI w]) [] Z Q := by
  show zE 181 0 [some (zI x), some (zI w)] [] Z Q
  refine ze_iload_n kc_181_0 rfl ?_
  refine ze_iload_n kc_181_1 rfl ?_
  refine ze_icmp_gt kc_181_2 (by omega) (by omega) (fun h2 => ?_) (fun h2 => ?_)
  · skip
    refine ze_iload_n kc_181_9 rfl ?_
    refine ze_ireturn kc_181_10 (Or.inl rfl) ?_
    first | (rw [show min x w = x by omega] at q1; exact q1) | (rw [show min x w = w by omega] at q1; exact q1)
  · skip
    refine ze_iload_n kc_181_5 rfl ?_
    refine ze_goto kc_181_6 ?_
    refine ze_ireturn kc_181_10 (Or.inl rfl) ?_
    first | (rw [show min x w = x by omega] at q1; exact q1) | (rw [show min x w = w by omega] at q1; exact q1)

set_option maxHeartbeats 4000000 in
theorem m_maxI {Z : zMem} {Q : Option zAV → zMem → Prop} {x w : Int} (hx : -2147483648 ≤ x ∧ x ≤ 2147483647) (hw : -2147483648 ≤ w ∧ w ≤ 2147483647) (q1 : Q (some (zI (max x w))) Z) : zE 179 0 (zent 179 [zI x, zI w]) [] Z Q := by
  show zE 179 0 [some (zI x), some (zI w)] [] Z Q
  refine ze_iload_n kc_179_0 rfl ?_
  refine ze_iload_n kc_179_1 rfl ?_
  refine ze_icmp_lt kc_179_2 (by omega) (by omega) (fun h2 => ?_) (fun h2 => ?_)
  · skip
    refine ze_iload_n kc_179_9 rfl ?_
    refine ze_ireturn kc_179_10 (Or.inl rfl) ?_
    first | (rw [show max x w = x by omega] at q1; exact q1) | (rw [show max x w = w by omega] at q1; exact q1)
  · skip
    refine ze_iload_n kc_179_5 rfl ?_
    refine ze_goto kc_179_6 ?_
    refine ze_ireturn kc_179_10 (Or.inl rfl) ?_
    first | (rw [show max x w = x by omega] at q1; exact q1) | (rw [show max x w = w by omega] at q1; exact q1)

set_option maxHeartbeats 4000000 in
theorem m_minL {Z : zMem} {Q : Option zAV → zMem → Prop} {x w : Int} (hx : -9223372036854775808 ≤ x ∧ x ≤ 9223372036854775807) (hw : -9223372036854775808 ≤ w ∧ w ≤ 9223372036854775807) (q1 : Q (some (zL (min x w))) Z) : zE 182 0 (zent 182 [zL x, zL w]) [] Z Q := by
  show zE 182 0 [some (zL x), none, some (zL w), none] [] Z Q
  refine ze_lload_n kc_182_0 rfl ?_
  refine ze_lload_n kc_182_1 rfl ?_
  refine ze_lcmp_gt kc_182_2 kc_182_3 (by omega) (by omega) (fun h2 => ?_) (fun h2 => ?_)
  · skip
    refine ze_lload_n kc_182_10 rfl ?_
    refine ze_lreturn kc_182_11 ?_
    first | (rw [show min x w = x by omega] at q1; exact q1) | (rw [show min x w = w by omega] at q1; exact q1)
  · skip
    refine ze_lload_n kc_182_6 rfl ?_
    refine ze_goto kc_182_7 ?_
    refine ze_lreturn kc_182_11 ?_
    first | (rw [show min x w = x by omega] at q1; exact q1) | (rw [show min x w = w by omega] at q1; exact q1)

set_option maxHeartbeats 4000000 in
theorem m_maxL {Z : zMem} {Q : Option zAV → zMem → Prop} {x w : Int} (hx : -9223372036854775808 ≤ x ∧ x ≤ 9223372036854775807) (hw : -9223372036854775808 ≤ w ∧ w ≤ 9223372036854775807) (q1 : Q (some (zL (max x w))) Z) : zE 180 0 (zent 180 [zL x, zL w]) [] Z Q := by
  show zE 180 0 [some (zL x), none, some (zL w), none] [] Z Q
  refine ze_lload_n kc_180_0 rfl ?_
  refine ze_lload_n kc_180_1 rfl ?_
  refine ze_lcmp_lt kc_180_2 kc_180_3 (by omega) (by omega) (fun h2 => ?_) (fun h2 => ?_)
  · skip
    refine ze_lload_n kc_180_10 rfl ?_
    refine ze_lreturn kc_180_11 ?_
    first | (rw [show max x w = x by omega] at q1; exact q1) | (rw [show max x w = w by omega] at q1; exact q1)
  · skip
    refine ze_lload_n kc_180_6 rfl ?_
    refine ze_goto kc_180_7 ?_
    refine ze_lreturn kc_180_11 ?_
    first | (rw [show max x w = x by omega] at q1; exact q1) | (rw [show max x w = w by omega] at q1; exact q1)

set_option maxHeartbeats 4000000 in
theorem m_absL {Z : zMem} {Q : Option zAV → zMem → Prop} {x : Int} (hx : -9223372036854775808 ≤ x ∧ x ≤ 9223372036854775807) (q1 : Q (some (zL (x.natAbs : Int))) Z) : zE 178 0 (zent 178 [zL x]) [] Z Q := by
  show zE 178 0 [some (zL x), none] [] Z Q
  refine ze_lload_n kc_178_0 rfl ?_
  refine ze_lconst0 kc_178_1 ?_
  refine ze_lcmp_ge kc_178_2 kc_178_3 (by omega) (by omega) (fun h2 => ?_) (fun h2 => ?_)
  · skip
    refine ze_lload_n kc_178_11 rfl ?_
    refine ze_lreturn kc_178_12 ?_
    first | (rw [show (x.natAbs : Int) = x by omega] at q1; exact q1) | (rw [show (x.natAbs : Int) = -x by omega] at q1; exact q1)
  · skip
    refine ze_lload_n kc_178_6 rfl ?_
    refine ze_lneg kc_178_7 ?_
    refine ze_goto kc_178_8 ?_
    refine ze_lreturn kc_178_12 ?_
    first | (rw [show (x.natAbs : Int) = x by omega] at q1; exact q1) | (rw [show (x.natAbs : Int) = -x by omega] at q1; exact q1)

set_option maxHeartbeats 4000000 in
theorem m_bitc {Z : zMem} {Q : Option zAV → zMem → Prop} {S : Nat} (hS : S < 64) (q1 : Q (some (zI (zpc S : Nat))) Z) : zE 177 0 (zent 177 [zI (S : Int)]) [] Z Q := by
  show zE 177 0 [some (zI (S : Int))] [] Z Q
  refine ze_iload_n kc_177_0 rfl ?_
  refine ze_iload_n kc_177_1 rfl ?_
  refine ze_iconst kc_177_2 ?_
  refine ze_iushr kc_177_3 ?_
  refine ze_ldcW kc_177_4 ?_
  refine ze_iand kc_177_7 ?_
  refine ze_isub kc_177_8 ?_
  refine ze_istore_n kc_177_9 (Nat.le_of_ble_eq_true rfl) ?_
  simp only [zset1, zset2, zcut, List.set_cons_zero, List.set_cons_succ, List.getD_cons_zero, List.getD_cons_succ]
  refine ze_iload_n kc_177_10 rfl ?_
  refine ze_ldcW kc_177_11 ?_
  refine ze_iand kc_177_14 ?_
  refine ze_iload_n kc_177_15 rfl ?_
  refine ze_iconst kc_177_16 ?_
  refine ze_iushr kc_177_17 ?_
  refine ze_ldcW kc_177_18 ?_
  refine ze_iand kc_177_21 ?_
  refine ze_iadd kc_177_22 ?_
  refine ze_istore_n kc_177_23 (Nat.le_of_ble_eq_true rfl) ?_
  simp only [zset1, zset2, zcut, List.set_cons_zero, List.set_cons_succ, List.getD_cons_zero, List.getD_cons_succ]
  refine ze_iload_n kc_177_24 rfl ?_
  refine ze_iload_n kc_177_25 rfl ?_
  refine ze_iconst kc_177_26 ?_
  refine ze_iushr kc_177_27 ?_
  refine ze_iadd kc_177_28 ?_
  refine ze_ldcW kc_177_29 ?_
  refine ze_iand kc_177_32 ?_
  refine ze_istore_n kc_177_33 (Nat.le_of_ble_eq_true rfl) ?_
  simp only [zset1, zset2, zcut, List.set_cons_zero, List.set_cons_succ, List.getD_cons_zero, List.getD_cons_succ]
  refine ze_iload_n kc_177_34 rfl ?_
  refine ze_iload_n kc_177_35 rfl ?_
  refine ze_bipush kc_177_36 ?_
  refine ze_iushr kc_177_38 ?_
  refine ze_iadd kc_177_39 ?_
  refine ze_istore_n kc_177_40 (Nat.le_of_ble_eq_true rfl) ?_
  simp only [zset1, zset2, zcut, List.set_cons_zero, List.set_cons_succ, List.getD_cons_zero, List.getD_cons_succ]
  refine ze_iload_n kc_177_41 rfl ?_
  refine ze_iload_n kc_177_42 rfl ?_
  refine ze_bipush kc_177_43 ?_
  refine ze_iushr kc_177_45 ?_
  refine ze_iadd kc_177_46 ?_
  refine ze_istore_n kc_177_47 (Nat.le_of_ble_eq_true rfl) ?_
  simp only [zset1, zset2, zcut, List.set_cons_zero, List.set_cons_succ, List.getD_cons_zero, List.getD_cons_succ]
  refine ze_iload_n kc_177_48 rfl ?_
  refine ze_bipush kc_177_49 ?_
  refine ze_iand kc_177_51 ?_
  refine ze_ireturn kc_177_52 (Or.inl rfl) ?_
  refine (congrArg (fun w : Int => Q (some (zI w)) Z) ?_).mpr q1
  clear q1
  revert hS
  revert S
  decide +kernel

set_option maxHeartbeats 4000000 in
theorem m_fill {Z : zMem} {Q : Option zAV → zMem → Prop} {k n : Nat} {v : Int} (hT : zTT[k]? = some (11, n)) (hn : n < 2147483648) (q1 : ∀ Z', (∀ j, j ≠ k → Z' j = Z j) → (∀ i, i < n → Z' k i = v) → Q none Z') : zE 183 0 (zent 183 [zR k, zL v]) [] Z Q := by
  show zE 183 0 [some (zR k), some (zL v), none, none, none] [] Z Q
  refine ze_iconst kc_183_0 ?_
  refine ze_istore_n kc_183_1 (Nat.le_of_ble_eq_true rfl) ?_
  simp only [zset1, zset2, zcut, List.set_cons_zero, List.set_cons_succ, List.getD_cons_zero, List.getD_cons_succ]
  refine ze_aload_n kc_183_2 rfl ?_
  refine ze_alen kc_183_3 (by first | assumption | rfl) (by decide) ?_
  refine ze_istore kc_183_4 (Nat.le_of_ble_eq_true rfl) ?_
  simp only [zset1, zset2, zcut, List.set_cons_zero, List.set_cons_succ, List.getD_cons_zero, List.getD_cons_succ]
  have loop6 : ∀ (m : Nat) (t : Nat) (x : Int) (Zc : zMem), n - t = m → (t ≤ n) → (x = t) → (∀ j, j ≠ k → Zc j = Z j) → (∀ i, i < t → Zc k i = v) → zE 183 6 [some (zR k), some (zL v), none, some (zI x), some (zI n)] [] Zc Q := by
    refine zind ?_
    intro m ih t x Zc hm ht hx hf hv
    refine ze_iload_n kc_183_6 rfl ?_
    refine ze_iload kc_183_7 rfl ?_
    refine ze_icmp_ge kc_183_9 (by omega) (by omega) (fun h9 => ?_) (fun h9 => ?_)
    · skip
      refine ze_return kc_183_22 ?_
      exact q1 Zc hf (fun i hi => hv i (by omega))
    · skip
      refine ze_aload_n kc_183_12 rfl ?_
      refine ze_iload_n kc_183_13 rfl ?_
      refine ze_lload_n kc_183_14 rfl ?_
      refine ze_last kc_183_15 (by first | assumption | rfl) (by omega) ?_
      rw [show x.toNat = t by omega]
      refine ze_iinc kc_183_16 rfl ?_
      simp only [zset1, zset2, zcut, List.set_cons_zero, List.set_cons_succ, List.getD_cons_zero, List.getD_cons_succ]
      refine ze_goto kc_183_19 ?_
      refine ih _ (by omega) (t + 1) (x + 1) _ rfl (by omega) (by omega) (fun j hj => by rw [zup_ne' hj]; exact hf j hj) (fun i hi => if e : i = t then (by rw [e, zup_s]) else (by rw [zup_o e]; exact hv i (by omega)))
  refine loop6 _ 0 0 Z rfl (by omega) rfl (fun _ _ => rfl) (fun i hi => by omega)

set_option maxHeartbeats 4000000 in
theorem m_has {Z : zMem} {Q : Option zAV → zMem → Prop} {g : Nat} {i : Int} (hF : zgF g) (hi : -2147483648 ≤ i ∧ i ≤ 2147483647) (hz : -2147483648 ≤ Z g 3 ∧ Z g 3 ≤ 2147483647) (q1 : 0 ≤ i ∧ i < Z g 3 → Q (some (zI 1)) Z) (q2 : ¬ (0 ≤ i ∧ i < Z g 3) → Q (some (zI 0)) Z) : zE 1 0 (zent 1 [zR g, zI i]) [] Z Q := by
  show zE 1 0 [some (zR g), some (zI i)] [] Z Q
  obtain ⟨hT0, hT1, hT2, hT3, hR0, hR1, hR2⟩ := hF
  refine ze_iload_n kc_1_0 rfl ?_
  refine ze_if_lt kc_1_1 (by omega) (fun h1 => ?_) (fun h1 => ?_)
  · skip
    refine ze_iconst kc_1_16 ?_
    refine ze_ireturn kc_1_17 (by decide) ?_
    first | exact q1 (by omega) | exact q2 (by omega) | exact q3 (by omega) | exact q4 (by omega)
  · skip
    refine ze_iload_n kc_1_4 rfl ?_
    refine ze_aload_n kc_1_5 rfl ?_
    refine ze_getI kc_1_6 (by first | assumption | rfl) (by decide) ?_
    refine ze_icmp_ge kc_1_9 (by omega) (by omega) (fun h9 => ?_) (fun h9 => ?_)
    · skip
      refine ze_iconst kc_1_16 ?_
      refine ze_ireturn kc_1_17 (by decide) ?_
      first | exact q1 (by omega) | exact q2 (by omega) | exact q3 (by omega) | exact q4 (by omega)
    · skip
      refine ze_iconst kc_1_12 ?_
      refine ze_goto kc_1_13 ?_
      refine ze_ireturn kc_1_17 (by decide) ?_
      first | exact q1 (by omega) | exact q2 (by omega) | exact q3 (by omega) | exact q4 (by omega)

set_option maxHeartbeats 4000000 in
theorem m_all {Z : zMem} {Q : Option zAV → zMem → Prop} {g n : Nat} {c : Nat → Int} (hF : zgF g) (hG : zG g n c Z) (q1 : Q (some (zI (zsum n c))) Z) : zE 2 0 (zent 2 [zR g]) [] Z Q := by
  show zE 2 0 [some (zR g)] [] Z Q
  obtain ⟨hT0, hT1, hT2, hT3, hR0, hR1, hR2⟩ := hF
  obtain ⟨h1, h2, h3, h4, h5, h6, h7, h8⟩ := hG
  have hp6 := zpow6 h1
  refine ze_aload_n kc_2_0 rfl ?_
  refine ze_getR kc_2_1 (by first | assumption | rfl) rfl (by first | assumption | rfl) ?_
  refine ze_iconst kc_2_4 ?_
  refine ze_aload_n kc_2_5 rfl ?_
  refine ze_getI kc_2_6 (by first | assumption | rfl) (by decide) ?_
  rw [h2]
  refine ze_ishl kc_2_9 ?_
  rw [zshl1 h1]
  refine ze_iconst kc_2_10 ?_
  refine ze_isub kc_2_11 ?_
  refine ze_iald kc_2_12 (by first | assumption | rfl) (by omega) ?_
  refine ze_ireturn kc_2_13 (Or.inl rfl) ?_
  rw [show (((2 ^ n : Nat) : Int) - 1).toNat = 2 ^ n - 1 by omega, h8 _ (by omega), zsub_full]
  exact q1

set_option maxHeartbeats 4000000 in
theorem m_clear {Z : zMem} {Q : Option zAV → zMem → Prop} {g : Nat} (hF : zgF g) (q1 : Q none (zup Z g 3 0)) : zE 3 0 (zent 3 [zR g]) [] Z Q := by
  show zE 3 0 [some (zR g)] [] Z Q
  obtain ⟨hT0, hT1, hT2, hT3, hR0, hR1, hR2⟩ := hF
  refine ze_aload_n kc_3_0 rfl ?_
  refine ze_iconst kc_3_1 ?_
  refine ze_putI kc_3_2 (by first | assumption | rfl) rfl ?_
  refine ze_return kc_3_5 ?_
  exact q1

set_option maxHeartbeats 4000000 in
theorem m_add_b {Z Zc : zMem} {Q : Option zAV → zMem → Prop} {g n p : Nat} {c : Nat → Int} {v x : Int} (hF : zgF g) (hG : zG g n c Z) (hn : n < 6) (hv : 1 ≤ v ∧ v ≤ 60) (hp : p ≤ n) (hx : x = p) (hfr : ∀ k, k ≠ g + 2 → Zc k = Z k) (a1 : ∀ j, j < p → Zc (g + 2) j = Z (g + 2) j) (a3 : ∀ j, p < j → j ≤ n → Zc (g + 2) j = Z (g + 2) (j - 1)) (l1 : ∀ j, j < p → Z (g + 2) j ≤ v) (l2 : ∀ j, p ≤ j → j < n → v ≤ Z (g + 2) j) (q1 : ∀ Z', zG g (n + 1) (zext c n v) Z' → (∀ k, k < g ∨ g + 3 < k → Z' k = Z k) → (∀ j, j ≠ n → Z' (g + 1) j = Z (g + 1) j) → (∀ j, j ≠ 3 → Z' g j = Z g j) → Q none Z') : zE 4 51 [some (zR g), some (zI v), some (zI x), none, none] [] Zc Q := by
  obtain ⟨hT0, hT1, hT2, hT3, hR0, hR1, hR2⟩ := hF
  have hG0 := hG
  obtain ⟨h1, h2, h3, h4, h5, h6, h7, h8⟩ := hG
  have hp6 := zpow6 h1
  refine ze_aload_n kc_4_51 rfl ?_
  refine ze_getR kc_4_52 (by first | assumption | rfl) rfl (by first | assumption | rfl) ?_
  refine ze_iload_n kc_4_55 rfl ?_
  refine ze_iload_n kc_4_56 rfl ?_
  refine ze_iast kc_4_57 (by first | assumption | rfl) (by omega) ?_
  rw [show x.toNat = p by omega]
  refine ze_iconst kc_4_58 ?_
  refine ze_aload_n kc_4_59 rfl ?_
  refine ze_getI kc_4_60 (by first | assumption | rfl) (by decide) ?_
  rw [show zup Zc (g + 2) p v g 3 = (n : Int) by rw [zup_ne' (by omega), hfr g (by omega), h2]]
  refine ze_ishl kc_4_63 ?_
  rw [zshl1 h1]
  refine ze_istore_n kc_4_64 (Nat.le_of_ble_eq_true rfl) ?_
  simp only [zset1, zset2, zcut, List.set_cons_zero, List.set_cons_succ, List.getD_cons_zero, List.getD_cons_succ]
  refine ze_iconst kc_4_65 ?_
  refine ze_istore kc_4_66 (Nat.le_of_ble_eq_true rfl) ?_
  simp only [zset1, zset2, zcut, List.set_cons_zero, List.set_cons_succ, List.getD_cons_zero, List.getD_cons_succ]
  have loop68 : ∀ (m : Nat) (t : Nat) (y : Int) (Zd : zMem), 2 ^ n - t = m → (t ≤ 2 ^ n) → (y = t) → (∀ k, k ≠ g + 3 → Zd k = zup Zc (g + 2) p v k) → (∀ S, S < 2 ^ n → Zd (g + 3) S = Z (g + 3) S) → (∀ S, S < t → Zd (g + 3) (2 ^ n + S) = Z (g + 3) S + v) → zE 4 68 [some (zR g), some (zI v), some (zI x), some (zI ((2 ^ n : Nat) : Int)), some (zI y)] [] Zd Q := by
    refine zind ?_
    intro m ih t y Zd hm ht hy hd1 hd2 hd3
    refine ze_iload kc_4_68 rfl ?_
    refine ze_iload_n kc_4_70 rfl ?_
    refine ze_icmp_ge kc_4_71 (by omega) (by omega) (fun h71 => ?_) (fun h71 => ?_)
    · skip
      refine ze_aload_n kc_4_98 rfl ?_
      refine ze_getR kc_4_99 (by first | assumption | rfl) rfl (by first | assumption | rfl) ?_
      refine ze_aload_n kc_4_102 rfl ?_
      refine ze_getI kc_4_103 (by first | assumption | rfl) (by decide) ?_
      refine ze_iload_n kc_4_106 rfl ?_
      have hzd : Zd g 3 = (n : Int) := by rw [hd1 g (by omega), zup_ne' (by omega), hfr g (by omega), h2]
      refine ze_iast kc_4_107 (by first | assumption | rfl) (by omega) ?_
      rw [show Zd g 3 = (n : Int) by rw [hd1 g (by omega), zup_ne' (by omega), hfr g (by omega), h2], Int.toNat_natCast]
      refine ze_aload_n kc_4_108 rfl ?_
      refine ze_dup kc_4_109 rfl ?_
      refine ze_getI kc_4_110 (by first | assumption | rfl) (by decide) ?_
      refine ze_iconst kc_4_113 ?_
      refine ze_iadd kc_4_114 ?_
      refine ze_putI kc_4_115 (by first | assumption | rfl) rfl ?_
      rw [show zup Zd (g + 1) n v g 3 = (n : Int) by rw [zup_ne' (by omega), hd1 g (by omega), zup_ne' (by omega), hfr g (by omega), h2]]
      refine ze_return kc_4_118 ?_
      have e1 : ∀ k, k ≠ g → k ≠ g + 1 → zup (zup Zd (g + 1) n v) g 3 ((n : Int) + 1) k = Zd k := fun k k1 k2 => by rw [zup_ne' k1, zup_ne' k2]
      refine q1 _ (zG_add hG0 hn hv hp ?_ ?_ ?_ ?_ ?_ ?_ l1 l2 ?_ ?_) ?_ ?_ ?_
      · rw [zup_s]; omega
      · rw [zup_ne' (by omega), zup_s]
      · intro j hj; rw [zup_ne' (by omega), zup_o hj, hd1 _ (by omega), zup_ne' (by omega), hfr _ (by omega)]
      · intro j hj; rw [e1 _ (by omega) (by omega), hd1 _ (by omega), zup_o (by omega)]; exact a1 j hj
      · rw [e1 _ (by omega) (by omega), hd1 _ (by omega), zup_s]
      · intro j hj hj2; rw [e1 _ (by omega) (by omega), hd1 _ (by omega), zup_o (by omega)]; exact a3 j hj hj2
      · intro S hS; rw [e1 _ (by omega) (by omega)]; exact hd2 S hS
      · intro S hS; rw [e1 _ (by omega) (by omega)]; exact hd3 S (by omega)
      · intro k hk; rw [e1 _ (by omega) (by omega), hd1 _ (by omega), zup_ne' (by omega), hfr _ (by omega)]
      · intro j hj; rw [zup_ne' (by omega), zup_o hj, hd1 _ (by omega), zup_ne' (by omega), hfr _ (by omega)]
      · intro j hj; rw [zup_o hj, zup_ne' (by omega), hd1 _ (by omega), zup_ne' (by omega), hfr _ (by omega)]
    · skip
      refine ze_aload_n kc_4_74 rfl ?_
      refine ze_getR kc_4_75 (by first | assumption | rfl) rfl (by first | assumption | rfl) ?_
      refine ze_iload_n kc_4_78 rfl ?_
      refine ze_iload kc_4_79 rfl ?_
      refine ze_iadd kc_4_81 ?_
      refine ze_aload_n kc_4_82 rfl ?_
      refine ze_getR kc_4_83 (by first | assumption | rfl) rfl (by first | assumption | rfl) ?_
      refine ze_iload kc_4_86 rfl ?_
      refine ze_iald kc_4_88 (by first | assumption | rfl) (by omega) ?_
      refine ze_iload_n kc_4_89 rfl ?_
      refine ze_iadd kc_4_90 ?_
      refine ze_iast kc_4_91 (by first | assumption | rfl) (by have := zpow6 (n := n + 1) (by omega); rw [Nat.pow_succ] at this; omega) ?_
      rw [show (((2 ^ n : Nat) : Int) + y).toNat = 2 ^ n + t by omega, show y.toNat = t by omega, hd2 t (by omega)]
      refine ze_iinc kc_4_92 rfl ?_
      simp only [zset1, zset2, zcut, List.set_cons_zero, List.set_cons_succ, List.getD_cons_zero, List.getD_cons_succ]
      refine ze_goto kc_4_95 ?_
      refine ih _ (by omega) (t + 1) (y + 1) _ rfl (by omega) (by omega) (fun k hk => by rw [zup_ne' hk]; exact hd1 k hk) (fun S hS => by rw [zup_o (by omega)]; exact hd2 S hS) (fun S hS => if e : S = t then (by rw [e, zup_s]) else (by rw [zup_o (by omega)]; exact hd3 S (by omega)))
  refine loop68 _ 0 0 _ rfl (by omega) rfl (fun k hk => rfl) (fun S hS => by rw [zup_ne' (by omega), hfr _ (by omega)]) (fun S hS => by omega)

set_option maxHeartbeats 4000000 in
theorem m_add {Z : zMem} {Q : Option zAV → zMem → Prop} {g n : Nat} {c : Nat → Int} {v : Int} (hF : zgF g) (hG : zG g n c Z) (hn : n < 6) (hv : 1 ≤ v ∧ v ≤ 60) (q1 : ∀ Z', zG g (n + 1) (zext c n v) Z' → (∀ k, k < g ∨ g + 3 < k → Z' k = Z k) → (∀ j, j ≠ n → Z' (g + 1) j = Z (g + 1) j) → (∀ j, j ≠ 3 → Z' g j = Z g j) → Q none Z') : zE 4 0 (zent 4 [zR g, zI v]) [] Z Q := by
  show zE 4 0 [some (zR g), some (zI v), none, none, none] [] Z Q
  have hF0 := hF
  obtain ⟨hT0, hT1, hT2, hT3, hR0, hR1, hR2⟩ := hF
  have hG0 := hG
  obtain ⟨h1, h2, h3, h4, h5, hA6, h7, h8⟩ := hG
  refine ze_aload_n kc_4_0 rfl ?_
  refine ze_getI kc_4_1 (by first | assumption | rfl) (by decide) ?_
  refine ze_bipush kc_4_4 ?_
  refine ze_icmp_lt kc_4_6 (by omega) (by omega) (fun h6 => ?_) (fun h6 => ?_)
  · skip
    refine ze_aload_n kc_4_10 rfl ?_
    refine ze_getI kc_4_11 (by first | assumption | rfl) (by decide) ?_
    rw [h2]
    refine ze_istore_n kc_4_14 (Nat.le_of_ble_eq_true rfl) ?_
    simp only [zset1, zset2, zcut, List.set_cons_zero, List.set_cons_succ, List.getD_cons_zero, List.getD_cons_succ]
    have loop15 : ∀ (m : Nat) (p : Nat) (x : Int) (Zc : zMem), p = m → (p ≤ n) → (x = p) → (∀ k, k ≠ g + 2 → Zc k = Z k) → (∀ j, j < p → Zc (g + 2) j = Z (g + 2) j) → (∀ j, p < j → j ≤ n → Zc (g + 2) j = Z (g + 2) (j - 1)) → (∀ j, p ≤ j → j < n → v ≤ Z (g + 2) j) → zE 4 15 [some (zR g), some (zI v), some (zI x), none, none] [] Zc Q := by
      refine zind ?_
      intro m ih p x Zc hm hp hx hfr a1 a3 l2
      refine ze_iload_n kc_4_15 rfl ?_
      refine ze_if_le kc_4_16 (by omega) (fun h16 => ?_) (fun h16 => ?_)
      · skip
        exact m_add_b hF0 hG0 hn hv hp hx hfr a1 a3 (fun j hj => by first | omega | (have := h5 j (p - 1) (by omega) (by omega); omega)) l2 q1
      · skip
        refine ze_aload_n kc_4_19 rfl ?_
        refine ze_getR kc_4_20 (by first | assumption | rfl) rfl (by first | assumption | rfl) ?_
        refine ze_iload_n kc_4_23 rfl ?_
        refine ze_iconst kc_4_24 ?_
        refine ze_isub kc_4_25 ?_
        refine ze_iald kc_4_26 (by first | assumption | rfl) (by omega) ?_
        refine ze_iload_n kc_4_27 rfl ?_
        rw [show (x - 1).toNat = p - 1 by omega, a1 (p - 1) (by omega)]
        have hb := hA6 (p - 1) (by omega)
        refine ze_icmp_le kc_4_28 (by omega) (by omega) (fun h28 => ?_) (fun h28 => ?_)
        · skip
          exact m_add_b hF0 hG0 hn hv hp hx hfr a1 a3 (fun j hj => by first | omega | (have := h5 j (p - 1) (by omega) (by omega); omega)) l2 q1
        · skip
          refine ze_aload_n kc_4_31 rfl ?_
          refine ze_getR kc_4_32 (by first | assumption | rfl) rfl (by first | assumption | rfl) ?_
          refine ze_iload_n kc_4_35 rfl ?_
          refine ze_aload_n kc_4_36 rfl ?_
          refine ze_getR kc_4_37 (by first | assumption | rfl) rfl (by first | assumption | rfl) ?_
          refine ze_iload_n kc_4_40 rfl ?_
          refine ze_iconst kc_4_41 ?_
          refine ze_isub kc_4_42 ?_
          refine ze_iald kc_4_43 (by first | assumption | rfl) (by omega) ?_
          refine ze_iast kc_4_44 (by first | assumption | rfl) (by omega) ?_
          rw [show x.toNat = p by omega, show (x - 1).toNat = p - 1 by omega, a1 (p - 1) (by omega)]
          refine ze_iinc kc_4_45 rfl ?_
          simp only [zset1, zset2, zcut, List.set_cons_zero, List.set_cons_succ, List.getD_cons_zero, List.getD_cons_succ]
          refine ze_goto kc_4_48 ?_
          refine ih _ (by omega) (p - 1) _ _ rfl (by omega) (by omega) (fun k hk => by rw [zup_ne' hk]; exact hfr k hk) (fun j hj => by rw [zup_o (by omega)]; exact a1 j (by omega)) (fun j j1 j2 => if e : j = p then (by rw [e, zup_s]) else (by rw [zup_o e]; exact a3 j (by omega) j2)) (fun j j1 j2 => if e : p ≤ j then l2 j e j2 else (by rw [show j = p - 1 by omega]; omega))
    refine loop15 _ n _ _ rfl (by omega) rfl (fun _ _ => rfl) (fun _ _ => rfl) (fun j a b => by omega) (fun j a b => by omega)
  · exact absurd h6 (by omega)

set_option maxHeartbeats 4000000 in
theorem m_copyG {Z : zMem} {Q : Option zAV → zMem → Prop} {g o n : Nat} {c : Nat → Int} (hF : zgF g) (hO : zgF o) (ho : o = g ∨ o + 3 < g ∨ g + 3 < o) (hn : n ≤ 6) (hs : Z o 3 = n) (hc : ∀ i, i < n → Z (o + 1) i = c i) (hr : ∀ i, i < n → 1 ≤ c i ∧ c i ≤ 60) (h0 : Z (g + 3) 0 = 0) (q1 : ∀ Z', zG g n c Z' → (∀ k, k < g ∨ g + 3 < k → Z' k = Z k) → (∀ j, j ≠ 3 → Z' g j = Z g j) → Q none Z') : zE 6 0 (zent 6 [zR g, zR o]) [] Z Q := by
  show zE 6 0 [some (zR g), some (zR o), none, none] [] Z Q
  have hF0 := hF
  obtain ⟨hT0, hT1, hT2, hT3, hR0, hR1, hR2⟩ := hF
  obtain ⟨oT0, oT1, oT2, oT3, oR0, oR1, oR2⟩ := hO
  refine ze_aload_n kc_6_0 rfl ?_
  refine ze_getI kc_6_1 (by first | assumption | rfl) (by decide) ?_
  rw [hs]
  refine ze_istore_n kc_6_4 (Nat.le_of_ble_eq_true rfl) ?_
  simp only [zset1, zset2, zcut, List.set_cons_zero, List.set_cons_succ, List.getD_cons_zero, List.getD_cons_succ]
  refine ze_aload_n kc_6_5 rfl ?_
  refine zE_callv 1 kc_6_6 rfl rfl (Nat.le_of_ble_eq_true rfl) (Nat.le_of_ble_eq_true rfl) (Nat.le_of_ble_eq_true rfl) (by first | assumption | rfl) (by decide +kernel) rfl ?_
  refine m_clear hF0 ?_
  simp only [Option.toList_some, Option.toList_none, List.drop_succ_cons, List.drop_zero, List.cons_append, List.nil_append]
  refine ze_iconst kc_6_9 ?_
  refine ze_istore_n kc_6_10 (Nat.le_of_ble_eq_true rfl) ?_
  simp only [zset1, zset2, zcut, List.set_cons_zero, List.set_cons_succ, List.getD_cons_zero, List.getD_cons_succ]
  have loop11 : ∀ (m : Nat) (k : Nat) (y : Int) (Zc : zMem), n - k = m → (k ≤ n) → (y = k) → (zG g k c Zc) → (∀ i, i < n → Zc (o + 1) i = c i) → (∀ k, k < g ∨ g + 3 < k → Zc k = Z k) → (∀ j, j ≠ 3 → Zc g j = Z g j) → zE 6 11 [some (zR g), some (zR o), some (zI n), some (zI y)] [] Zc Q := by
    refine zind ?_
    intro m ih k y Zc hm hk hy hg hcc hf hf3
    refine ze_iload_n kc_6_11 rfl ?_
    refine ze_iload_n kc_6_12 rfl ?_
    refine ze_icmp_ge kc_6_13 (by omega) (by omega) (fun h13 => ?_) (fun h13 => ?_)
    · skip
      refine ze_return kc_6_32 ?_
      have e : k = n := by omega
      subst e
      exact q1 _ hg hf hf3
    · skip
      refine ze_aload_n kc_6_16 rfl ?_
      refine ze_aload_n kc_6_17 rfl ?_
      refine ze_getR kc_6_18 (by first | assumption | rfl) rfl (by first | assumption | rfl) ?_
      refine ze_iload_n kc_6_21 rfl ?_
      refine ze_iald kc_6_22 (by first | assumption | rfl) (by omega) ?_
      rw [show y.toNat = k by omega, hcc k (by omega)]
      refine zE_callv 2 kc_6_23 rfl rfl (Nat.le_of_ble_eq_true rfl) (Nat.le_of_ble_eq_true rfl) (Nat.le_of_ble_eq_true rfl) (by first | assumption | rfl) (by decide +kernel) rfl ?_
      refine m_add hF0 hg (by omega) (hr k (by omega)) (fun Z2 r1 r2 r3 r4 => ?_)
      simp only [Option.toList_some, Option.toList_none, List.drop_succ_cons, List.drop_zero, List.cons_append, List.nil_append]
      refine ze_iinc kc_6_26 rfl ?_
      simp only [zset1, zset2, zcut, List.set_cons_zero, List.set_cons_succ, List.getD_cons_zero, List.getD_cons_succ]
      refine ze_goto kc_6_29 ?_
      refine ih _ (by omega) (k + 1) _ _ rfl (by omega) (by omega) (by rw [zext_self] at r1; exact r1) (fun i hi => ?_) (fun j hj => (r2 j hj).trans (hf j hj)) (fun j hj => (r4 j hj).trans (hf3 j hj))
      by_cases e : o = g
      · subst e
        by_cases e2 : i = k
        · rw [e2, r1.2.2.1 k (by omega)]; exact if_pos rfl
        · rw [r3 i e2]; exact hcc i hi
      · rw [r2 _ (by omega)]; exact hcc i hi
  refine loop11 _ 0 0 _ rfl (by omega) rfl (zG_empty zup_s (by rw [zup_ne' (by omega)]; exact h0)) (fun i hi => by rw [zup_ne' (by omega)]; exact hc i hi) (fun k hk => zup_ne' (by omega)) (fun j hj => zup_o hj)

set_option maxHeartbeats 4000000 in
theorem m_put {Z : zMem} {Q : Option zAV → zMem → Prop} {g n i : Nat} {c : Nat → Int} {v : Int} (hF : zgF g) (hG : zG g n c Z) (hi : i < n) (hv : 1 ≤ v ∧ v ≤ 60) (q1 : ∀ Z', zG g n (fun j => if j = i then v else c j) Z' → (∀ k, k < g ∨ g + 3 < k → Z' k = Z k) → (∀ j, j ≠ 3 → Z' g j = Z g j) → Q none Z') : zE 5 0 (zent 5 [zR g, zI (i : Int), zI v]) [] Z Q := by
  show zE 5 0 [some (zR g), some (zI (i : Int)), some (zI v)] [] Z Q
  have hF0 := hF
  obtain ⟨hT0, hT1, hT2, hT3, hR0, hR1, hR2⟩ := hF
  have hG0 := hG
  obtain ⟨h1, h2, h3, h4, h5, h6, h7, h8⟩ := hG
  refine ze_aload_n kc_5_0 rfl ?_
  refine ze_iload_n kc_5_1 rfl ?_
  refine zE_callv 2 kc_5_2 rfl rfl (Nat.le_of_ble_eq_true rfl) (Nat.le_of_ble_eq_true rfl) (Nat.le_of_ble_eq_true rfl) (by first | assumption | rfl) (by decide +kernel) rfl ?_
  refine m_has hF0 (by omega) (by omega) (fun g2 => ?_) (fun g2 => absurd g2 (by omega))
  simp only [Option.toList_some, Option.toList_none, List.drop_succ_cons, List.drop_zero, List.cons_append, List.nil_append]
  refine ze_if_ne kc_5_5 (by decide) (fun _ => ?_) (fun q => absurd q (by decide))
  refine ze_aload_n kc_5_9 rfl ?_
  refine ze_getR kc_5_10 (by first | assumption | rfl) rfl (by first | assumption | rfl) ?_
  refine ze_iload_n kc_5_13 rfl ?_
  refine ze_iload_n kc_5_14 rfl ?_
  refine ze_iast kc_5_15 (by first | assumption | rfl) (by omega) ?_
  rw [Int.toNat_natCast]
  refine ze_aload_n kc_5_16 rfl ?_
  refine ze_aload_n kc_5_17 rfl ?_
  refine zE_callv 2 kc_5_18 rfl rfl (Nat.le_of_ble_eq_true rfl) (Nat.le_of_ble_eq_true rfl) (Nat.le_of_ble_eq_true rfl) (by first | assumption | rfl) (by decide +kernel) rfl ?_
  refine m_copyG (c := fun j => if j = i then v else c j) hF0 hF0 (Or.inl rfl) h1 (by rw [zup_ne' (by omega)]; exact h2) (fun j hj => ?_) (fun j hj => ?_) (by rw [zup_ne' (by omega)]; exact zG_z hG0) (fun Z2 r1 r2 r3 => ?_)
  · skip
    by_cases e : j = i
    · rw [e, zup_s, if_pos rfl]
    · rw [zup_o e, if_neg e]; exact h3 j hj
  · skip
    split
    · exact hv
    · exact h4 j hj
  simp only [Option.toList_some, Option.toList_none, List.drop_succ_cons, List.drop_zero, List.cons_append, List.nil_append]
  refine ze_return kc_5_21 ?_
  exact q1 _ r1 (fun k hk => by rw [r2 k hk, zup_ne' (by omega)]) (fun j hj => by rw [r3 j hj, zup_ne' (by omega)])

theorem zfac_range {n : Nat} (h : n ≤ 6) : 1 ≤ zfac n ∧ zfac n ≤ 720 := by
  rcases (show n = 0 ∨ n = 1 ∨ n = 2 ∨ n = 3 ∨ n = 4 ∨ n = 5 ∨ n = 6 by omega) with rfl | rfl | rfl | rfl | rfl | rfl | rfl <;> decide
set_option maxHeartbeats 4000000 in
theorem m_scale {Z : zMem} {Q : Option zAV → zMem → Prop} {g n : Nat} {c : Nat → Int} {r : Int} (hF : zgF g) (hG : zG g n c Z) (hr : 0 ≤ r ∧ r ≤ 5) (q1 : Q (some (zL (zS r n c))) Z) : zE 7 0 (zent 7 [zR g, zI r]) [] Z Q := by
  show zE 7 0 [some (zR g), some (zI r)] [] Z Q
  have hF0 := hF
  obtain ⟨hT0, hT1, hT2, hT3, hR0, hR1, hR2⟩ := hF
  have hG0 := hG
  obtain ⟨h1, h2, h3, h4, h5, h6, h7, h8⟩ := hG
  have hsr := zsum_range h4
  refine ze_iload_n kc_7_0 rfl ?_
  by_cases hs0 : r = 0
  · refine ze_tableIn 0 kc_7_1 hs0 (by decide) (by decide) rfl rfl ?_
    refine ze_ldc2L kc_7_36 ?_
    refine ze_lreturn kc_7_39 ?_
    first | (rw [show zS r n c = 120 by unfold zS; rw [if_neg (by omega), if_neg (by omega)]] at q1; exact q1) | (rw [show zS r n c = zsum n c by unfold zS; rw [if_pos (by omega)]] at q1; exact q1) | (rw [show zS r n c = zfac n by unfold zS; rw [if_neg (by omega), if_pos (by omega)]] at q1; exact q1)
  by_cases hs1 : r = 1
  · refine ze_tableIn 1 kc_7_1 hs1 (by decide) (by decide) rfl rfl ?_
    refine ze_ldc2L kc_7_36 ?_
    refine ze_lreturn kc_7_39 ?_
    first | (rw [show zS r n c = 120 by unfold zS; rw [if_neg (by omega), if_neg (by omega)]] at q1; exact q1) | (rw [show zS r n c = zsum n c by unfold zS; rw [if_pos (by omega)]] at q1; exact q1) | (rw [show zS r n c = zfac n by unfold zS; rw [if_neg (by omega), if_pos (by omega)]] at q1; exact q1)
  by_cases hs2 : r = 2
  · refine ze_tableIn 2 kc_7_1 hs2 (by decide) (by decide) rfl rfl ?_
    refine ze_aload_n kc_7_40 rfl ?_
    refine zE_callv 1 kc_7_41 rfl rfl (Nat.le_of_ble_eq_true rfl) (Nat.le_of_ble_eq_true rfl) (Nat.le_of_ble_eq_true rfl) (by first | assumption | rfl) (by decide +kernel) rfl ?_
    refine m_all hF0 hG0 ?_
    simp only [Option.toList_some, Option.toList_none, List.drop_succ_cons, List.drop_zero, List.cons_append, List.nil_append]
    refine ze_i2l kc_7_44 (by omega) ?_
    refine ze_lreturn kc_7_45 ?_
    first | (rw [show zS r n c = 120 by unfold zS; rw [if_neg (by omega), if_neg (by omega)]] at q1; exact q1) | (rw [show zS r n c = zsum n c by unfold zS; rw [if_pos (by omega)]] at q1; exact q1) | (rw [show zS r n c = zfac n by unfold zS; rw [if_neg (by omega), if_pos (by omega)]] at q1; exact q1)
  by_cases hs3 : r = 3
  · refine ze_tableIn 3 kc_7_1 hs3 (by decide) (by decide) rfl rfl ?_
    refine ze_ldc2L kc_7_36 ?_
    refine ze_lreturn kc_7_39 ?_
    first | (rw [show zS r n c = 120 by unfold zS; rw [if_neg (by omega), if_neg (by omega)]] at q1; exact q1) | (rw [show zS r n c = zsum n c by unfold zS; rw [if_pos (by omega)]] at q1; exact q1) | (rw [show zS r n c = zfac n by unfold zS; rw [if_neg (by omega), if_pos (by omega)]] at q1; exact q1)
  by_cases hs4 : r = 4
  · refine ze_tableIn 4 kc_7_1 hs4 (by decide) (by decide) rfl rfl ?_
    refine ze_ldc2L kc_7_36 ?_
    refine ze_lreturn kc_7_39 ?_
    first | (rw [show zS r n c = 120 by unfold zS; rw [if_neg (by omega), if_neg (by omega)]] at q1; exact q1) | (rw [show zS r n c = zsum n c by unfold zS; rw [if_pos (by omega)]] at q1; exact q1) | (rw [show zS r n c = zfac n by unfold zS; rw [if_neg (by omega), if_pos (by omega)]] at q1; exact q1)
  refine ze_tableOut kc_7_1 (by omega) (by omega) rfl ?_
  refine ze_orders kc_7_46 ?_
  refine ze_aload_n kc_7_49 rfl ?_
  refine ze_getI kc_7_50 (by first | assumption | rfl) (by decide) ?_
  rw [h2]
  refine ze_iald0 kc_7_53 (by omega) ?_
  rw [Int.toNat_natCast]
  refine ze_i2l kc_7_54 (by have := zfac_range h1; unfold zfac at this; omega) ?_
  refine ze_lreturn kc_7_55 ?_
  first | (rw [show zS r n c = 120 by unfold zS; rw [if_neg (by omega), if_neg (by omega)]] at q1; exact q1) | (rw [show zS r n c = zsum n c by unfold zS; rw [if_pos (by omega)]] at q1; exact q1) | (rw [show zS r n c = zfac n by unfold zS; rw [if_neg (by omega), if_pos (by omega)]] at q1; exact q1)
