theorem zLsp_skip {k S : Nat} {c : Nat → Int} {Z : zMem} {r : Int} (h : zLsp k S c Z r) (hs : S.testBit k = false ∨ ¬ Z 74 k = 0) : zLsp (k + 1) S c Z r := by
  have no : S.testBit k = true → ¬ Z 74 k = 0 := fun a => by
    rcases hs with q | q
    · rw [q] at a; exact absurd a (by decide)
    · exact q
  rcases h with ⟨h1, h2⟩ | ⟨p, p1, p2, p3, p4, p5⟩
  · refine Or.inl ⟨h1, fun j hj a => ?_⟩
    by_cases e : j = k
    · rw [e] at a ⊢; exact no a
    · exact h2 j (by omega) a
  · refine Or.inr ⟨p, by omega, p2, p3, p4, fun j hj a b => ?_⟩
    by_cases e : j = k
    · rw [e] at a b; exact absurd b (no a)
    · exact p5 j (by omega) a b
theorem zLsp_first {k S : Nat} {c : Nat → Int} {Z : zMem} {r : Int} (h : zLsp k S c Z r) (hr : r < 0) (hs : S.testBit k = true) (hz : Z 74 k = 0) : zLsp (k + 1) S c Z k := by
  rcases h with ⟨h1, h2⟩ | ⟨p, p1, p2, p3, p4, p5⟩
  · refine Or.inr ⟨k, by omega, rfl, hs, hz, fun j hj a b => ?_⟩
    by_cases e : j = k
    · rw [e]; exact Int.le_refl _
    · exact absurd b (h2 j (by omega) a)
  · omega
theorem zLsp_take {k S p : Nat} {c : Nat → Int} {Z : zMem} (h : zLsp k S c Z p) (hs : S.testBit k = true) (hz : Z 74 k = 0) (hc : c k < c p) : zLsp (k + 1) S c Z k := by
  rcases h with ⟨h1, h2⟩ | ⟨p', p1, p2, p3, p4, p5⟩
  · omega
  · have e : p = p' := by omega
    subst e
    refine Or.inr ⟨k, by omega, rfl, hs, hz, fun j hj a b => ?_⟩
    by_cases e : j = k
    · rw [e]; exact Int.le_refl _
    · have := p5 j (by omega) a b; omega
theorem zLsp_keep {k S p : Nat} {c : Nat → Int} {Z : zMem} (h : zLsp k S c Z p) (hc : c p ≤ c k) : zLsp (k + 1) S c Z p := by
  rcases h with ⟨h1, h2⟩ | ⟨p', p1, p2, p3, p4, p5⟩
  · omega
  · have e : p = p' := by omega
    subst e
    refine Or.inr ⟨p, by omega, rfl, p3, p4, fun j hj a b => ?_⟩
    by_cases e : j = k
    · rw [e]; exact hc
    · exact p5 j (by omega) a b
/-- the level at which the filling of the vessels stops -/
theorem zev_A {n S m i i' : Nat} {σ : Nat → Nat} {c F : Nat → Int} {w u l : Int} (hE : zEn n S m σ c i i') (hF : ∀ k, k < n → S.testBit k = true → F k = 1) (hl : l = u - zsub n (fun k => if F k = 1 then c k * w else 0) S) (hl0 : 0 ≤ l) : zLv m (fun k => c (σ k)) i' w u = c i * w * 60 := by
  obtain ⟨e1, e2, e3, e4, e5, e6, e7, e8, e9, -⟩ := hE
  have h1 : zsub n (fun k => if F k = 1 then c k * w else 0) S = zsub n (fun k => c k * w) S := zsub_congr (fun k hk hs => if_pos (hF k hk hs))
  rw [h1, zsub_mul, e9] at hl
  rw [zLv_full e4 (by omega)]
  rw [e5]
theorem zev_B {n S m i i' : Nat} {σ : Nat → Nat} {c F : Nat → Int} {w u l o : Int} (hE : zEn n S m σ c i i') (ho6 : 1 ≤ o ∧ o ≤ 6) (hF : ∀ k, k < n → F k = 0 ∨ F k = 1) (hl : l = u - zsub n (fun k => if F k = 1 then c k * w else 0) S) (ho : o = zsub n (fun k => if F k = 1 then 0 else 1) S)
    (hle : ∀ k, k < n → F k = 1 → c k * w * o ≤ l) (hgt : ∀ k, k < n → S.testBit k = true → F k = 0 → l < c k * w * o) : (F i = 1 → zLv m (fun k => c (σ k)) i' w u = c i * w * 60) ∧ (F i = 0 → zLv m (fun k => c (σ k)) i' w u * o = l * 60) := by
  obtain ⟨e1, e2, e3, e4, e5, e6, e7, e8, e9, -⟩ := hE
  obtain ⟨d, d1, d2⟩ := zdiv60 ho6
  have big : ∀ k, c k * w * 60 = c k * w * o * d := fun k => by rw [← d1, Int.mul_assoc (c k * w) o d]
  have h1 : ∀ k, k < n → F k = 1 → min (c k * w * 60) (l * d) = c k * w * 60 := fun k hk a => by
    have := Int.mul_le_mul_of_nonneg_right (hle k hk a) (show 0 ≤ d by omega)
    rw [← big] at this
    omega
  have h0 : ∀ k, k < n → S.testBit k = true → F k = 0 → min (c k * w * 60) (l * d) = l * d := fun k hk hs a => by
    have := Int.mul_lt_mul_of_pos_right (hgt k hk hs a) (show 0 < d by omega)
    rw [← big] at this
    omega
  have hs : zsub n (fun k => min (c k * w * 60) (l * d)) S = u * 60 := by
    have e : zsub n (fun k => min (c k * w * 60) (l * d)) S = zsub n (fun k => (if F k = 1 then c k * w else 0) * 60 + (if F k = 1 then 0 else 1) * (l * d)) S := zsub_congr (fun k hk a => by
      rcases hF k hk with q | q
      · rw [h0 k hk a q, if_neg (by omega), if_neg (by omega)]; omega
      · rw [h1 k hk q, if_pos q, if_pos q]; omega)
    rw [e, zsub_add, zsub_mul, zsub_mul, ← ho, show o * (l * d) = l * (o * d) by rw [Int.mul_left_comm], d1, hl]
    omega
  rw [e9] at hs
  have hz := zLv_eq (i := i') (c := fun k => c (σ k)) e4 hs
  rw [e5] at hz
  constructor
  · intro a
    rw [hz, h1 i e6 a]
  · intro a
    rw [hz, h0 i e6 e7 a, Int.mul_assoc, Int.mul_comm d o, d1]
theorem zsub_01 {n S : Nat} (hn : n ≤ 6) {f : Nat → Int} (h : ∀ k, k < n → 0 ≤ f k ∧ f k ≤ 1) : 0 ≤ zsub n f S ∧ zsub n f S ≤ 6 := by
  unfold zsub
  have h1 := zsum_lo (n := n) (f := fun i => if S.testBit i = true then f i else 0) (c := 0) (fun i hi => by have := h i hi; split <;> omega)
  have h2 := zsum_hi (n := n) (f := fun i => if S.testBit i = true then f i else 0) (c := 1) (fun i hi => by have := h i hi; split <;> omega)
  omega
theorem zEn_range {n S m i i' : Nat} {σ : Nat → Nat} {c : Nat → Int} (hE : zEn n S m σ c i i') (mr : ∀ i, i < n → 1 ≤ c i ∧ c i ≤ 60) : ∀ k, k < m → 1 ≤ c (σ k) ∧ c (σ k) ≤ 60 := fun k hk => mr _ (hE.2.2.2.2.2.2.2.1 k hk)
set_option maxHeartbeats 4000000 in
theorem m_in {Z : zMem} {Q : Option zAV → zMem → Prop} {v lo hi : Int} (hv : -2147483648 ≤ v ∧ v ≤ 2147483647) (hlo : -2147483648 ≤ lo ∧ lo ≤ 2147483647) (hhi : -2147483648 ≤ hi ∧ hi ≤ 2147483647) (q1 : lo ≤ v ∧ v ≤ hi → Q (some (zI 1)) Z) (q2 : ¬ (lo ≤ v ∧ v ≤ hi) → Q (some (zI 0)) Z) : zE 94 0 (zent 94 [zI v, zI lo, zI hi]) [] Z Q := by
  show zE 94 0 [some (zI v), some (zI lo), some (zI hi)] [] Z Q
  refine ze_iload_n kc_94_0 rfl ?_
  refine ze_iload_n kc_94_1 rfl ?_
  refine ze_icmp_lt kc_94_2 (by omega) (by omega) (fun h2 => ?_) (fun h2 => ?_)
  · skip
    refine ze_iconst kc_94_14 ?_
    refine ze_ireturn kc_94_15 (by decide) ?_
    first | exact q1 (by omega) | exact q2 (by omega) | exact q3 (by omega) | exact q4 (by omega)
  · skip
    refine ze_iload_n kc_94_5 rfl ?_
    refine ze_iload_n kc_94_6 rfl ?_
    refine ze_icmp_gt kc_94_7 (by omega) (by omega) (fun h7 => ?_) (fun h7 => ?_)
    · skip
      refine ze_iconst kc_94_14 ?_
      refine ze_ireturn kc_94_15 (by decide) ?_
      first | exact q1 (by omega) | exact q2 (by omega) | exact q3 (by omega) | exact q4 (by omega)
    · skip
      refine ze_iconst kc_94_10 ?_
      refine ze_goto kc_94_11 ?_
      refine ze_ireturn kc_94_15 (by decide) ?_
      first | exact q1 (by omega) | exact q2 (by omega) | exact q3 (by omega) | exact q4 (by omega)

set_option maxHeartbeats 4000000 in
theorem m_hasM {Z : zMem} {Q : Option zAV → zMem → Prop} {S k : Nat} (hS : S < 64) (hk : k < 6) (q1 : S.testBit k = true → Q (some (zI 1)) Z) (q2 : S.testBit k = false → Q (some (zI 0)) Z) : zE 95 0 (zent 95 [zI (S : Nat), zI (k : Nat)]) [] Z Q := by
  show zE 95 0 [some (zI (S : Nat)), some (zI (k : Nat))] [] Z Q
  refine ze_iload_n kc_95_0 rfl ?_
  refine ze_iload_n kc_95_1 rfl ?_
  refine ze_ishr kc_95_2 ?_
  refine ze_iconst kc_95_3 ?_
  refine ze_iand kc_95_4 ?_
  rw [zbit_b S hS k hk]
  refine ze_iconst kc_95_5 ?_
  refine ze_icmp_ne kc_95_6 (by split <;> omega) (by omega) (fun h6 => ?_) (fun h6 => ?_)
  · skip
    refine ze_iconst kc_95_13 ?_
    refine ze_ireturn kc_95_14 (by decide) ?_
    first
      | exact q1 (by by_cases q : S.testBit k = true; exact q; rw [if_neg q] at h6; omega)
      | exact q2 (by by_cases q : S.testBit k = true; rw [if_pos q] at h6; omega; simpa using q)
  · skip
    refine ze_iconst kc_95_9 ?_
    refine ze_goto kc_95_10 ?_
    refine ze_ireturn kc_95_14 (by decide) ?_
    first
      | exact q1 (by by_cases q : S.testBit k = true; exact q; rw [if_neg q] at h6; omega)
      | exact q2 (by by_cases q : S.testBit k = true; rw [if_pos q] at h6; omega; simpa using q)

set_option maxHeartbeats 4000000 in
theorem m_isOne {Z : zMem} {Q : Option zAV → zMem → Prop} {n : Nat} {c : Nat → Int} {e ρ : Int} (hM : zMo n c e ρ Z) {i : Int} (hi : -2147483648 ≤ i ∧ i ≤ 2147483647) (q1 : 0 ≤ i ∧ i < n → Q (some (zI 1)) Z) (q2 : ¬ (0 ≤ i ∧ i < n) → Q (some (zI 0)) Z) : zE 96 0 (zent 96 [zR 63, zI i]) [] Z Q := by
  show zE 96 0 [some (zR 63), some (zI i)] [] Z Q
  have hM0 := hM
  obtain ⟨n0, n6, mc, mr, me, mρ, meR, mρR⟩ := hM
  have msr := zsum_range mr
  have hp6 := zpow6 n6
  refine ze_iload_n kc_96_0 rfl ?_
  refine ze_iconst kc_96_1 ?_
  refine ze_aload_n kc_96_2 rfl ?_
  refine ze_getI kc_96_3 rfl (by decide) ?_
  rw [n0]
  refine ze_iconst kc_96_6 ?_
  refine ze_isub kc_96_7 ?_
  refine zE_calls 3 kc_96_8 rfl rfl (Nat.le_of_ble_eq_true rfl) (Nat.le_of_ble_eq_true rfl) (Nat.le_of_ble_eq_true rfl) rfl ?_
  refine m_in (by omega) (by omega) (by omega) (fun g8 => ?_) (fun g8 => ?_)
  · simp only [Option.toList_some, Option.toList_none, List.drop_succ_cons, List.drop_zero, List.cons_append, List.nil_append]
    refine ze_ireturn kc_96_11 (by decide) ?_
    first | exact q1 (by omega) | exact q2 (by omega) | exact q3 (by omega) | exact q4 (by omega)
  · simp only [Option.toList_some, Option.toList_none, List.drop_succ_cons, List.drop_zero, List.cons_append, List.nil_append]
    refine ze_ireturn kc_96_11 (by decide) ?_
    first | exact q1 (by omega) | exact q2 (by omega) | exact q3 (by omega) | exact q4 (by omega)

set_option maxHeartbeats 4000000 in
theorem m_isRuleM {Z : zMem} {Q : Option zAV → zMem → Prop} {v : Int} (hv : -2147483648 ≤ v ∧ v ≤ 2147483647) (q1 : 0 ≤ v ∧ v ≤ 5 → Q (some (zI 1)) Z) (q2 : ¬ (0 ≤ v ∧ v ≤ 5) → Q (some (zI 0)) Z) : zE 97 0 (zent 97 [zI v]) [] Z Q := by
  show zE 97 0 [some (zI v)] [] Z Q
  refine ze_iload_n kc_97_0 rfl ?_
  refine ze_iconst kc_97_1 ?_
  refine ze_iconst kc_97_2 ?_
  refine zE_calls 3 kc_97_3 rfl rfl (Nat.le_of_ble_eq_true rfl) (Nat.le_of_ble_eq_true rfl) (Nat.le_of_ble_eq_true rfl) rfl ?_
  refine m_in (by omega) (by omega) (by omega) (fun g3 => ?_) (fun g3 => ?_)
  · simp only [Option.toList_some, Option.toList_none, List.drop_succ_cons, List.drop_zero, List.cons_append, List.nil_append]
    refine ze_ireturn kc_97_6 (by decide) ?_
    first | exact q1 (by omega) | exact q2 (by omega) | exact q3 (by omega) | exact q4 (by omega)
  · simp only [Option.toList_some, Option.toList_none, List.drop_succ_cons, List.drop_zero, List.cons_append, List.nil_append]
    refine ze_ireturn kc_97_6 (by decide) ?_
    first | exact q1 (by omega) | exact q2 (by omega) | exact q3 (by omega) | exact q4 (by omega)

set_option maxHeartbeats 4000000 in
theorem m_isPartM {Z : zMem} {Q : Option zAV → zMem → Prop} {v : Int} (hv : -2147483648 ≤ v ∧ v ≤ 2147483647) (q1 : 0 ≤ v ∧ v ≤ 1 → Q (some (zI 1)) Z) (q2 : ¬ (0 ≤ v ∧ v ≤ 1) → Q (some (zI 0)) Z) : zE 98 0 (zent 98 [zI v]) [] Z Q := by
  show zE 98 0 [some (zI v)] [] Z Q
  refine ze_iload_n kc_98_0 rfl ?_
  refine ze_iconst kc_98_1 ?_
  refine ze_iconst kc_98_2 ?_
  refine zE_calls 3 kc_98_3 rfl rfl (Nat.le_of_ble_eq_true rfl) (Nat.le_of_ble_eq_true rfl) (Nat.le_of_ble_eq_true rfl) rfl ?_
  refine m_in (by omega) (by omega) (by omega) (fun g3 => ?_) (fun g3 => ?_)
  · simp only [Option.toList_some, Option.toList_none, List.drop_succ_cons, List.drop_zero, List.cons_append, List.nil_append]
    refine ze_ireturn kc_98_6 (by decide) ?_
    first | exact q1 (by omega) | exact q2 (by omega) | exact q3 (by omega) | exact q4 (by omega)
  · simp only [Option.toList_some, Option.toList_none, List.drop_succ_cons, List.drop_zero, List.cons_append, List.nil_append]
    refine ze_ireturn kc_98_6 (by decide) ?_
    first | exact q1 (by omega) | exact q2 (by omega) | exact q3 (by omega) | exact q4 (by omega)

set_option maxHeartbeats 4000000 in
theorem m_isClaimM {Z : zMem} {Q : Option zAV → zMem → Prop} {v : Int} (hv : -2147483648 ≤ v ∧ v ≤ 2147483647) (q1 : 1 ≤ v ∧ v ≤ 60 → Q (some (zI 1)) Z) (q2 : ¬ (1 ≤ v ∧ v ≤ 60) → Q (some (zI 0)) Z) : zE 99 0 (zent 99 [zI v]) [] Z Q := by
  show zE 99 0 [some (zI v)] [] Z Q
  refine ze_iload_n kc_99_0 rfl ?_
  refine ze_iconst kc_99_1 ?_
  refine ze_bipush kc_99_2 ?_
  refine zE_calls 3 kc_99_4 rfl rfl (Nat.le_of_ble_eq_true rfl) (Nat.le_of_ble_eq_true rfl) (Nat.le_of_ble_eq_true rfl) rfl ?_
  refine m_in (by omega) (by omega) (by omega) (fun g4 => ?_) (fun g4 => ?_)
  · simp only [Option.toList_some, Option.toList_none, List.drop_succ_cons, List.drop_zero, List.cons_append, List.nil_append]
    refine ze_ireturn kc_99_7 (by decide) ?_
    first | exact q1 (by omega) | exact q2 (by omega) | exact q3 (by omega) | exact q4 (by omega)
  · simp only [Option.toList_some, Option.toList_none, List.drop_succ_cons, List.drop_zero, List.cons_append, List.nil_append]
    refine ze_ireturn kc_99_7 (by decide) ?_
    first | exact q1 (by omega) | exact q2 (by omega) | exact q3 (by omega) | exact q4 (by omega)

set_option maxHeartbeats 4000000 in
theorem m_fraction {Z : zMem} {Q : Option zAV → zMem → Prop} {a b : Int} (ha : -1152921504606846976 ≤ a ∧ a ≤ 1152921504606846976) (hb : 0 < b ∧ b ≤ 1152921504606846976) (q1 : Q none (zup (zup Z 63 18 (zlow a b 0)) 63 19 (zlow a b 1))) : zE 100 0 (zent 100 [zR 63, zL a, zL b]) [] Z Q := by
  show zE 100 0 [some (zR 63), some (zL a), none, some (zL b), none, none, none, none, none, none, none] [] Z Q
  have hgp : 0 < Int.gcd a b := Int.gcd_pos_of_ne_zero_right a (by omega)
  have hgl : ((Int.gcd a b : Nat) : Int) ≤ b := Int.le_of_dvd hb.1 (Int.gcd_dvd_right a b)
  refine ze_lload_n kc_100_0 rfl ?_
  refine ze_lconst0 kc_100_1 ?_
  refine ze_lcmp_ge kc_100_2 kc_100_3 (by omega) (by omega) (fun h2 => ?_) (fun h2 => ?_)
  · skip
    refine ze_lload_n kc_100_11 rfl ?_
    refine ze_lstore kc_100_12 (Nat.le_of_ble_eq_true rfl) ?_
    simp only [zset1, zset2, zcut, List.set_cons_zero, List.set_cons_succ, List.getD_cons_zero, List.getD_cons_succ]
    refine ze_lload_n kc_100_14 rfl ?_
    refine ze_lstore kc_100_15 (Nat.le_of_ble_eq_true rfl) ?_
    simp only [zset1, zset2, zcut, List.set_cons_zero, List.set_cons_succ, List.getD_cons_zero, List.getD_cons_succ]
    have loop17 : ∀ (μ : Nat) (g l : Int) (o1 o2 : Option zAV), l.toNat = μ → (0 ≤ g ∧ g ≤ 1152921504606846976) → (0 ≤ l ∧ l ≤ 1152921504606846976) → (Int.gcd g l = Int.gcd a b) → zE 100 17 [some (zR 63), some (zL a), none, some (zL b), none, some (zL g), none, some (zL l), none, o1, o2] [] Z Q := by
      refine zind ?_
      intro μ ih g l o1 o2 hm hg hl hG
      refine ze_lload kc_100_17 rfl ?_
      refine ze_lconst0 kc_100_19 ?_
      refine ze_lcmp_eq kc_100_20 kc_100_21 (by omega) (by omega) (fun h20 => ?_) (fun h20 => ?_)
      · skip
        have eg : g = (Int.gcd a b : Nat) := by
          rw [h20, Int.gcd_zero_right] at hG
          omega
        subst eg
        refine ze_aload_n kc_100_42 rfl ?_
        refine ze_lload_n kc_100_43 rfl ?_
        refine ze_lload kc_100_44 rfl ?_
        refine ze_ldiv kc_100_46 (by omega) ?_
        refine ze_putL kc_100_47 rfl rfl ?_
        refine ze_aload_n kc_100_50 rfl ?_
        refine ze_lload_n kc_100_51 rfl ?_
        refine ze_lload kc_100_52 rfl ?_
        refine ze_ldiv kc_100_54 (by omega) ?_
        refine ze_putL kc_100_55 rfl rfl ?_
        refine ze_return kc_100_58 ?_
        exact q1
      · skip
        refine ze_lload kc_100_24 rfl ?_
        refine ze_lload kc_100_26 rfl ?_
        refine ze_lrem kc_100_28 (by omega) ?_
        refine ze_lstore kc_100_29 (Nat.le_of_ble_eq_true rfl) ?_
        simp only [zset1, zset2, zcut, List.set_cons_zero, List.set_cons_succ, List.getD_cons_zero, List.getD_cons_succ]
        refine ze_lload kc_100_31 rfl ?_
        refine ze_lstore kc_100_33 (Nat.le_of_ble_eq_true rfl) ?_
        simp only [zset1, zset2, zcut, List.set_cons_zero, List.set_cons_succ, List.getD_cons_zero, List.getD_cons_succ]
        refine ze_lload kc_100_35 rfl ?_
        refine ze_lstore kc_100_37 (Nat.le_of_ble_eq_true rfl) ?_
        simp only [zset1, zset2, zcut, List.set_cons_zero, List.set_cons_succ, List.getD_cons_zero, List.getD_cons_succ]
        refine ze_goto kc_100_39 ?_
        have hr0 := Int.tmod_nonneg l hg.1
        have hr1 := Int.tmod_lt_of_pos g (show 0 < l by omega)
        refine ih _ (by omega) _ _ _ _ rfl (by omega) (by omega) ((zgcd_step hg.1 (by omega)).trans hG)
    refine loop17 _ _ _ none none rfl (by omega) (by omega) ?_
    first
      | rfl
      | exact Int.neg_gcd
  · skip
    refine ze_lload_n kc_100_6 rfl ?_
    refine ze_lneg kc_100_7 ?_
    refine ze_goto kc_100_8 ?_
    refine ze_lstore kc_100_12 (Nat.le_of_ble_eq_true rfl) ?_
    simp only [zset1, zset2, zcut, List.set_cons_zero, List.set_cons_succ, List.getD_cons_zero, List.getD_cons_succ]
    refine ze_lload_n kc_100_14 rfl ?_
    refine ze_lstore kc_100_15 (Nat.le_of_ble_eq_true rfl) ?_
    simp only [zset1, zset2, zcut, List.set_cons_zero, List.set_cons_succ, List.getD_cons_zero, List.getD_cons_succ]
    have loop17 : ∀ (μ : Nat) (g l : Int) (o1 o2 : Option zAV), l.toNat = μ → (0 ≤ g ∧ g ≤ 1152921504606846976) → (0 ≤ l ∧ l ≤ 1152921504606846976) → (Int.gcd g l = Int.gcd a b) → zE 100 17 [some (zR 63), some (zL a), none, some (zL b), none, some (zL g), none, some (zL l), none, o1, o2] [] Z Q := by
      refine zind ?_
      intro μ ih g l o1 o2 hm hg hl hG
      refine ze_lload kc_100_17 rfl ?_
      refine ze_lconst0 kc_100_19 ?_
      refine ze_lcmp_eq kc_100_20 kc_100_21 (by omega) (by omega) (fun h20 => ?_) (fun h20 => ?_)
      · skip
        have eg : g = (Int.gcd a b : Nat) := by
          rw [h20, Int.gcd_zero_right] at hG
          omega
        subst eg
        refine ze_aload_n kc_100_42 rfl ?_
        refine ze_lload_n kc_100_43 rfl ?_
        refine ze_lload kc_100_44 rfl ?_
        refine ze_ldiv kc_100_46 (by omega) ?_
        refine ze_putL kc_100_47 rfl rfl ?_
        refine ze_aload_n kc_100_50 rfl ?_
        refine ze_lload_n kc_100_51 rfl ?_
        refine ze_lload kc_100_52 rfl ?_
        refine ze_ldiv kc_100_54 (by omega) ?_
        refine ze_putL kc_100_55 rfl rfl ?_
        refine ze_return kc_100_58 ?_
        exact q1
      · skip
        refine ze_lload kc_100_24 rfl ?_
        refine ze_lload kc_100_26 rfl ?_
        refine ze_lrem kc_100_28 (by omega) ?_
        refine ze_lstore kc_100_29 (Nat.le_of_ble_eq_true rfl) ?_
        simp only [zset1, zset2, zcut, List.set_cons_zero, List.set_cons_succ, List.getD_cons_zero, List.getD_cons_succ]
        refine ze_lload kc_100_31 rfl ?_
        refine ze_lstore kc_100_33 (Nat.le_of_ble_eq_true rfl) ?_
        simp only [zset1, zset2, zcut, List.set_cons_zero, List.set_cons_succ, List.getD_cons_zero, List.getD_cons_succ]
        refine ze_lload kc_100_35 rfl ?_
        refine ze_lstore kc_100_37 (Nat.le_of_ble_eq_true rfl) ?_
        simp only [zset1, zset2, zcut, List.set_cons_zero, List.set_cons_succ, List.getD_cons_zero, List.getD_cons_succ]
        refine ze_goto kc_100_39 ?_
        have hr0 := Int.tmod_nonneg l hg.1
        have hr1 := Int.tmod_lt_of_pos g (show 0 < l by omega)
        refine ih _ (by omega) _ _ _ _ rfl (by omega) (by omega) ((zgcd_step hg.1 (by omega)).trans hG)
    refine loop17 _ _ _ none none rfl (by omega) (by omega) ?_
    first
      | rfl
      | exact Int.neg_gcd

set_option maxHeartbeats 4000000 in
theorem m_partM {Z : zMem} {Q : Option zAV → zMem → Prop} {p : Int} (hp : 0 ≤ p ∧ p ≤ 1) (q1 : Q (some (zL (if p = 0 then Z 63 18 else Z 63 19))) Z) : zE 101 0 (zent 101 [zR 63, zI p]) [] Z Q := by
  show zE 101 0 [some (zR 63), some (zI p)] [] Z Q
  refine ze_iload_n kc_101_0 rfl ?_
  refine ze_if_ne kc_101_1 (by omega) (fun h1 => ?_) (fun h1 => ?_)
  · skip
    refine ze_aload_n kc_101_11 rfl ?_
    refine ze_getL kc_101_12 rfl rfl ?_
    refine ze_lreturn kc_101_15 ?_
    first | (rw [if_pos h1] at q1; exact q1) | (rw [if_neg h1] at q1; exact q1)
  · skip
    refine ze_aload_n kc_101_4 rfl ?_
    refine ze_getL kc_101_5 rfl rfl ?_
    refine ze_goto kc_101_8 ?_
    refine ze_lreturn kc_101_15 ?_
    first | (rw [if_pos h1] at q1; exact q1) | (rw [if_neg h1] at q1; exact q1)

set_option maxHeartbeats 4000000 in
theorem m_everyone {Z : zMem} {Q : Option zAV → zMem → Prop} {n : Nat} {c : Nat → Int} {e ρ : Int} (hM : zMo n c e ρ Z) (q1 : Q (some (zI ((2 ^ n - 1 : Nat) : Int))) Z) : zE 102 0 (zent 102 [zR 63]) [] Z Q := by
  show zE 102 0 [some (zR 63)] [] Z Q
  have hM0 := hM
  obtain ⟨n0, n6, mc, mr, me, mρ, meR, mρR⟩ := hM
  have msr := zsum_range mr
  have hp6 := zpow6 n6
  refine ze_iconst kc_102_0 ?_
  refine ze_aload_n kc_102_1 rfl ?_
  refine ze_getI kc_102_2 rfl (by decide) ?_
  rw [n0]
  refine ze_ishl kc_102_5 ?_
  rw [zshl1 n6]
  refine ze_iconst kc_102_6 ?_
  refine ze_isub kc_102_7 ?_
  refine ze_ireturn kc_102_8 (Or.inl rfl) ?_
  rw [show ((2 ^ n : Nat) : Int) - 1 = ((2 ^ n - 1 : Nat) : Int) by omega]
  exact q1

set_option maxHeartbeats 4000000 in
theorem m_allOf {Z : zMem} {Q : Option zAV → zMem → Prop} {n : Nat} {c : Nat → Int} {e ρ : Int} (hM : zMo n c e ρ Z) {S : Nat} (hS : S < 64) (q1 : Q (some (zI (zsub n c S))) Z) : zE 103 0 (zent 103 [zR 63, zI (S : Nat)]) [] Z Q := by
  show zE 103 0 [some (zR 63), some (zI (S : Nat)), none, none] [] Z Q
  have hM0 := hM
  obtain ⟨n0, n6, mc, mr, me, mρ, meR, mρR⟩ := hM
  have msr := zsum_range mr
  have hp6 := zpow6 n6
  refine ze_iconst kc_103_0 ?_
  refine ze_istore_n kc_103_1 (Nat.le_of_ble_eq_true rfl) ?_
  simp only [zset1, zset2, zcut, List.set_cons_zero, List.set_cons_succ, List.getD_cons_zero, List.getD_cons_succ]
  refine ze_iconst kc_103_2 ?_
  refine ze_istore_n kc_103_3 (Nat.le_of_ble_eq_true rfl) ?_
  simp only [zset1, zset2, zcut, List.set_cons_zero, List.set_cons_succ, List.getD_cons_zero, List.getD_cons_succ]
  have loop4 : ∀ (μ : Nat) (k : Nat) (x v : Int), n - k = μ → (k ≤ n) → (x = k) → (v = zsum k (fun i => if S.testBit i = true then c i else 0)) → zE 103 4 [some (zR 63), some (zI (S : Nat)), some (zI v), some (zI x)] [] Z Q := by
    refine zind ?_
    intro μ ih k x v hm hk hx hv
    subst hx
    refine ze_iload_n kc_103_4 rfl ?_
    refine ze_aload_n kc_103_5 rfl ?_
    refine ze_getI kc_103_6 rfl (by decide) ?_
    rw [n0]
    refine ze_icmp_ge kc_103_9 (by omega) (by omega) (fun h9 => ?_) (fun h9 => ?_)
    · skip
      refine ze_iload_n kc_103_39 rfl ?_
      refine ze_ireturn kc_103_40 (Or.inl rfl) ?_
      rw [show k = n by omega] at hv
      rw [hv]
      exact q1
    · skip
      refine ze_iload_n kc_103_12 rfl ?_
      refine ze_iload_n kc_103_13 rfl ?_
      refine ze_iload_n kc_103_14 rfl ?_
      refine zE_calls 2 kc_103_15 rfl rfl (Nat.le_of_ble_eq_true rfl) (Nat.le_of_ble_eq_true rfl) (Nat.le_of_ble_eq_true rfl) rfl ?_
      refine m_hasM (by omega) (by omega) (fun g15 => ?_) (fun g15 => ?_)
      · simp only [Option.toList_some, Option.toList_none, List.drop_succ_cons, List.drop_zero, List.cons_append, List.nil_append]
        refine ze_if_eq kc_103_18 (by decide) (fun q => absurd q (by decide)) (fun _ => ?_)
        refine ze_aload_n kc_103_21 rfl ?_
        refine ze_getR kc_103_22 rfl rfl rfl ?_
        refine ze_iload_n kc_103_25 rfl ?_
        refine ze_iald kc_103_26 rfl (by omega) ?_
        rw [Int.toNat_natCast, mc k (by omega)]
        refine ze_goto kc_103_27 ?_
        refine ze_iadd kc_103_31 ?_
        refine ze_istore_n kc_103_32 (Nat.le_of_ble_eq_true rfl) ?_
        simp only [zset1, zset2, zcut, List.set_cons_zero, List.set_cons_succ, List.getD_cons_zero, List.getD_cons_succ]
        refine ze_iinc kc_103_33 rfl ?_
        simp only [zset1, zset2, zcut, List.set_cons_zero, List.set_cons_succ, List.getD_cons_zero, List.getD_cons_succ]
        refine ze_goto kc_103_36 ?_
        refine ih _ (by omega) (k + 1) _ _ rfl (by omega) (by omega) ?_
        rw [zsum_succ, hv]
        first
          | rw [if_pos g15]
          | rw [if_neg (fun q => absurd (g15.symm.trans q) (by decide))]
      · simp only [Option.toList_some, Option.toList_none, List.drop_succ_cons, List.drop_zero, List.cons_append, List.nil_append]
        refine ze_if_eq kc_103_18 (by decide) (fun _ => ?_) (fun q => absurd q (by decide))
        refine ze_iconst kc_103_30 ?_
        refine ze_iadd kc_103_31 ?_
        refine ze_istore_n kc_103_32 (Nat.le_of_ble_eq_true rfl) ?_
        simp only [zset1, zset2, zcut, List.set_cons_zero, List.set_cons_succ, List.getD_cons_zero, List.getD_cons_succ]
        refine ze_iinc kc_103_33 rfl ?_
        simp only [zset1, zset2, zcut, List.set_cons_zero, List.set_cons_succ, List.getD_cons_zero, List.getD_cons_succ]
        refine ze_goto kc_103_36 ?_
        refine ih _ (by omega) (k + 1) _ _ rfl (by omega) (by omega) ?_
        rw [zsum_succ, hv]
        first
          | rw [if_pos g15]
          | rw [if_neg (fun q => absurd (g15.symm.trans q) (by decide))]
  refine loop4 _ 0 0 0 rfl (by omega) rfl rfl

set_option maxHeartbeats 4000000 in
theorem m_allM {Z : zMem} {Q : Option zAV → zMem → Prop} {n : Nat} {c : Nat → Int} {e ρ : Int} (hM : zMo n c e ρ Z) (q1 : Q (some (zI (zsum n c))) Z) : zE 104 0 (zent 104 [zR 63]) [] Z Q := by
  show zE 104 0 [some (zR 63)] [] Z Q
  have hM0 := hM
  obtain ⟨n0, n6, mc, mr, me, mρ, meR, mρR⟩ := hM
  have msr := zsum_range mr
  have hp6 := zpow6 n6
  refine ze_aload_n kc_104_0 rfl ?_
  refine ze_aload_n kc_104_1 rfl ?_
  refine zE_callv 1 kc_104_2 rfl rfl (Nat.le_of_ble_eq_true rfl) (Nat.le_of_ble_eq_true rfl) (Nat.le_of_ble_eq_true rfl) rfl (by decide +kernel) rfl ?_
  refine m_everyone hM0 ?_
  simp only [Option.toList_some, Option.toList_none, List.drop_succ_cons, List.drop_zero, List.cons_append, List.nil_append]
  refine zE_callv 2 kc_104_5 rfl rfl (Nat.le_of_ble_eq_true rfl) (Nat.le_of_ble_eq_true rfl) (Nat.le_of_ble_eq_true rfl) rfl (by decide +kernel) rfl ?_
  refine m_allOf hM0 (by omega) ?_
  simp only [Option.toList_some, Option.toList_none, List.drop_succ_cons, List.drop_zero, List.cons_append, List.nil_append]
  refine ze_ireturn kc_104_8 (Or.inl rfl) ?_
  rw [zsub_full]
  exact q1

set_option maxHeartbeats 4000000 in
theorem m_readyM {Z : zMem} {Q : Option zAV → zMem → Prop} {n : Nat} {c : Nat → Int} {e ρ : Int} (hM : zMo n c e ρ Z) (q1 : 1 ≤ n ∧ e ≤ zsum n c → Q (some (zI 1)) Z) (q2 : ¬ (1 ≤ n ∧ e ≤ zsum n c) → Q (some (zI 0)) Z) : zE 105 0 (zent 105 [zR 63]) [] Z Q := by
  show zE 105 0 [some (zR 63)] [] Z Q
  have hM0 := hM
  obtain ⟨n0, n6, mc, mr, me, mρ, meR, mρR⟩ := hM
  have msr := zsum_range mr
  have hp6 := zpow6 n6
  refine ze_aload_n kc_105_0 rfl ?_
  refine ze_getI kc_105_1 rfl (by decide) ?_
  rw [n0]
  refine ze_if_le kc_105_4 (by omega) (fun h4 => ?_) (fun h4 => ?_)
  · skip
    refine ze_iconst kc_105_22 ?_
    refine ze_ireturn kc_105_23 (by decide) ?_
    first | exact q1 (by omega) | exact q2 (by omega) | exact q3 (by omega) | exact q4 (by omega)
  · skip
    refine ze_aload_n kc_105_7 rfl ?_
    refine ze_getI kc_105_8 rfl (by decide) ?_
    rw [me]
    refine ze_aload_n kc_105_11 rfl ?_
    refine zE_callv 1 kc_105_12 rfl rfl (Nat.le_of_ble_eq_true rfl) (Nat.le_of_ble_eq_true rfl) (Nat.le_of_ble_eq_true rfl) rfl (by decide +kernel) rfl ?_
    refine m_allM hM0 ?_
    simp only [Option.toList_some, Option.toList_none, List.drop_succ_cons, List.drop_zero, List.cons_append, List.nil_append]
    refine ze_icmp_gt kc_105_15 (by omega) (by omega) (fun h15 => ?_) (fun h15 => ?_)
    · skip
      refine ze_iconst kc_105_22 ?_
      refine ze_ireturn kc_105_23 (by decide) ?_
      first | exact q1 (by omega) | exact q2 (by omega) | exact q3 (by omega) | exact q4 (by omega)
    · skip
      refine ze_iconst kc_105_18 ?_
      refine ze_goto kc_105_19 ?_
      refine ze_ireturn kc_105_23 (by decide) ?_
      first | exact q1 (by omega) | exact q2 (by omega) | exact q3 (by omega) | exact q4 (by omega)

set_option maxHeartbeats 4000000 in
theorem m_least {Z : zMem} {Q : Option zAV → zMem → Prop} {n : Nat} {c : Nat → Int} {e ρ : Int} (hM : zMo n c e ρ Z) {S : Nat} (hS : S < 64) (hfl : ∀ k, k < 6 → Z 74 k = 0 ∨ Z 74 k = 1) (q1 : ∀ r, zLsp n S c Z r → -1 ≤ r ∧ r < n → Q (some (zI r)) Z) : zE 119 0 (zent 119 [zR 63, zI (S : Nat)]) [] Z Q := by
  show zE 119 0 [some (zR 63), some (zI (S : Nat)), none, none] [] Z Q
  have hM0 := hM
  obtain ⟨n0, n6, mc, mr, me, mρ, meR, mρR⟩ := hM
  have msr := zsum_range mr
  have hp6 := zpow6 n6
  refine ze_iconst kc_119_0 ?_
  refine ze_istore_n kc_119_1 (Nat.le_of_ble_eq_true rfl) ?_
  simp only [zset1, zset2, zcut, List.set_cons_zero, List.set_cons_succ, List.getD_cons_zero, List.getD_cons_succ]
  refine ze_iconst kc_119_2 ?_
  refine ze_istore_n kc_119_3 (Nat.le_of_ble_eq_true rfl) ?_
  simp only [zset1, zset2, zcut, List.set_cons_zero, List.set_cons_succ, List.getD_cons_zero, List.getD_cons_succ]
  have loop4 : ∀ (μ : Nat) (k : Nat) (x r : Int), n - k = μ → (k ≤ n) → (x = k) → (zLsp k S c Z r) → (-1 ≤ r ∧ r < n) → zE 119 4 [some (zR 63), some (zI (S : Nat)), some (zI r), some (zI x)] [] Z Q := by
    refine zind ?_
    intro μ ih k x r hm hk hx hr hrr
    subst hx
    refine ze_iload_n kc_119_4 rfl ?_
    refine ze_aload_n kc_119_5 rfl ?_
    refine ze_getI kc_119_6 rfl (by decide) ?_
    rw [n0]
    refine ze_icmp_ge kc_119_9 (by omega) (by omega) (fun h9 => ?_) (fun h9 => ?_)
    · skip
      refine ze_iload_n kc_119_60 rfl ?_
      refine ze_ireturn kc_119_61 (Or.inl rfl) ?_
      rw [show k = n by omega] at hr
      exact q1 _ hr hrr
    · skip
      refine ze_iload_n kc_119_12 rfl ?_
      refine ze_iload_n kc_119_13 rfl ?_
      refine zE_calls 2 kc_119_14 rfl rfl (Nat.le_of_ble_eq_true rfl) (Nat.le_of_ble_eq_true rfl) (Nat.le_of_ble_eq_true rfl) rfl ?_
      refine m_hasM (by omega) (by omega) (fun g14 => ?_) (fun g14 => ?_)
      · simp only [Option.toList_some, Option.toList_none, List.drop_succ_cons, List.drop_zero, List.cons_append, List.nil_append]
        refine ze_if_eq kc_119_17 (by decide) (fun q => absurd q (by decide)) (fun _ => ?_)
        refine ze_aload_n kc_119_20 rfl ?_
        refine ze_getR kc_119_21 rfl rfl rfl ?_
        refine ze_iload_n kc_119_24 rfl ?_
        refine ze_zald kc_119_25 rfl (by omega) ?_
        rw [Int.toNat_natCast]
        have hfk := hfl k (by omega)
        refine ze_if_ne kc_119_26 (by omega) (fun h26 => ?_) (fun h26 => ?_)
        · skip
          refine ze_iload_n kc_119_52 rfl ?_
          refine ze_istore_n kc_119_53 (Nat.le_of_ble_eq_true rfl) ?_
          simp only [zset1, zset2, zcut, List.set_cons_zero, List.set_cons_succ, List.getD_cons_zero, List.getD_cons_succ]
          refine ze_iinc kc_119_54 rfl ?_
          simp only [zset1, zset2, zcut, List.set_cons_zero, List.set_cons_succ, List.getD_cons_zero, List.getD_cons_succ]
          refine ze_goto kc_119_57 ?_
          refine ih _ (by omega) (k + 1) _ _ rfl (by omega) (by omega) ?_ (by omega)
          first
            | exact zLsp_skip hr (Or.inl g14)
            | exact zLsp_skip hr (Or.inr h26)
            | exact zLsp_first hr h30 g14 h26
            | exact zLsp_take hr g14 h26 h45
            | exact zLsp_keep hr h45
        · skip
          refine ze_iload_n kc_119_29 rfl ?_
          refine ze_if_lt kc_119_30 (by omega) (fun h30 => ?_) (fun h30 => ?_)
          · skip
            refine ze_iload_n kc_119_48 rfl ?_
            refine ze_goto kc_119_49 ?_
            refine ze_istore_n kc_119_53 (Nat.le_of_ble_eq_true rfl) ?_
            simp only [zset1, zset2, zcut, List.set_cons_zero, List.set_cons_succ, List.getD_cons_zero, List.getD_cons_succ]
            refine ze_iinc kc_119_54 rfl ?_
            simp only [zset1, zset2, zcut, List.set_cons_zero, List.set_cons_succ, List.getD_cons_zero, List.getD_cons_succ]
            refine ze_goto kc_119_57 ?_
            refine ih _ (by omega) (k + 1) _ _ rfl (by omega) (by omega) ?_ (by omega)
            first
              | exact zLsp_skip hr (Or.inl g14)
              | exact zLsp_skip hr (Or.inr h26)
              | exact zLsp_first hr h30 g14 h26
              | exact zLsp_take hr g14 h26 h45
              | exact zLsp_keep hr h45
          · skip
            have hr2 := hr
            rcases hr2 with ⟨hr1, -⟩ | ⟨p, p1, p2, -, -, -⟩
            · exact absurd hr1 (by omega)
            subst p2
            refine ze_aload_n kc_119_33 rfl ?_
            refine ze_getR kc_119_34 rfl rfl rfl ?_
            refine ze_iload_n kc_119_37 rfl ?_
            refine ze_iald kc_119_38 rfl (by omega) ?_
            rw [Int.toNat_natCast, mc k (by omega)]
            have hck := mr k (by omega)
            refine ze_aload_n kc_119_39 rfl ?_
            refine ze_getR kc_119_40 rfl rfl rfl ?_
            refine ze_iload_n kc_119_43 rfl ?_
            refine ze_iald kc_119_44 rfl (by omega) ?_
            rw [Int.toNat_natCast, mc p (by omega)]
            have hcp := mr p (by omega)
            refine ze_icmp_ge kc_119_45 (by omega) (by omega) (fun h45 => ?_) (fun h45 => ?_)
            · skip
              refine ze_iload_n kc_119_52 rfl ?_
              refine ze_istore_n kc_119_53 (Nat.le_of_ble_eq_true rfl) ?_
              simp only [zset1, zset2, zcut, List.set_cons_zero, List.set_cons_succ, List.getD_cons_zero, List.getD_cons_succ]
              refine ze_iinc kc_119_54 rfl ?_
              simp only [zset1, zset2, zcut, List.set_cons_zero, List.set_cons_succ, List.getD_cons_zero, List.getD_cons_succ]
              refine ze_goto kc_119_57 ?_
              refine ih _ (by omega) (k + 1) _ _ rfl (by omega) (by omega) ?_ (by omega)
              first
                | exact zLsp_skip hr (Or.inl g14)
                | exact zLsp_skip hr (Or.inr h26)
                | exact zLsp_first hr h30 g14 h26
                | exact zLsp_take hr g14 h26 h45
                | exact zLsp_keep hr h45
            · skip
              refine ze_iload_n kc_119_48 rfl ?_
              refine ze_goto kc_119_49 ?_
              refine ze_istore_n kc_119_53 (Nat.le_of_ble_eq_true rfl) ?_
              simp only [zset1, zset2, zcut, List.set_cons_zero, List.set_cons_succ, List.getD_cons_zero, List.getD_cons_succ]
              refine ze_iinc kc_119_54 rfl ?_
              simp only [zset1, zset2, zcut, List.set_cons_zero, List.set_cons_succ, List.getD_cons_zero, List.getD_cons_succ]
              refine ze_goto kc_119_57 ?_
              refine ih _ (by omega) (k + 1) _ _ rfl (by omega) (by omega) ?_ (by omega)
              first
                | exact zLsp_skip hr (Or.inl g14)
                | exact zLsp_skip hr (Or.inr h26)
                | exact zLsp_first hr h30 g14 h26
                | exact zLsp_take hr g14 h26 h45
                | exact zLsp_keep hr h45
      · simp only [Option.toList_some, Option.toList_none, List.drop_succ_cons, List.drop_zero, List.cons_append, List.nil_append]
        refine ze_if_eq kc_119_17 (by decide) (fun _ => ?_) (fun q => absurd q (by decide))
        refine ze_iload_n kc_119_52 rfl ?_
        refine ze_istore_n kc_119_53 (Nat.le_of_ble_eq_true rfl) ?_
        simp only [zset1, zset2, zcut, List.set_cons_zero, List.set_cons_succ, List.getD_cons_zero, List.getD_cons_succ]
        refine ze_iinc kc_119_54 rfl ?_
        simp only [zset1, zset2, zcut, List.set_cons_zero, List.set_cons_succ, List.getD_cons_zero, List.getD_cons_succ]
        refine ze_goto kc_119_57 ?_
        refine ih _ (by omega) (k + 1) _ _ rfl (by omega) (by omega) ?_ (by omega)
        first
          | exact zLsp_skip hr (Or.inl g14)
          | exact zLsp_skip hr (Or.inr h26)
          | exact zLsp_first hr h30 g14 h26
          | exact zLsp_take hr g14 h26 h45
          | exact zLsp_keep hr h45
  refine loop4 _ 0 0 (-1) rfl (by omega) rfl (Or.inl ⟨rfl, fun k hk => by omega⟩) (by omega)

set_option maxHeartbeats 4000000 in
theorem m_even {Z : zMem} {Q : Option zAV → zMem → Prop} {n : Nat} {c : Nat → Int} {e ρ : Int} (hM : zMo n c e ρ Z) {S m i i' : Nat} {σ : Nat → Nat} {u w : Int} (hE : zEn n S m σ c i i') (hw : 0 ≤ w ∧ w ≤ 1048576) (hu : 0 ≤ u ∧ u ≤ 1099511627776) (q1 : ∀ Z' uU uD, zFm Z Z' → Z' 63 22 = uU → Z' 63 23 = uD → 1 ≤ uD ∧ uD ≤ 6 → uU * 60 = zLv m (fun k => c (σ k)) i' w u * uD → Q none Z') : zE 118 0 (zent 118 [zR 63, zI (i : Nat), zI (S : Nat), zL u, zL w]) [] Z Q := by
  show zE 118 0 [some (zR 63), some (zI (i : Nat)), some (zI (S : Nat)), some (zL u), none, some (zL w), none, none, none, none, none] [] Z Q
  have hM0 := hM
  obtain ⟨n0, n6, mc, mr, me, mρ, meR, mρR⟩ := hM
  have msr := zsum_range mr
  have hp6 := zpow6 n6
  have hE0 := hE
  obtain ⟨e1, e2, e3, e4, e5, e6, e7, e8, e9, e10⟩ := hE0
  have hci := mr i e6
  have hwi := zmb (a := c i) (b := w) (A := 60) (B := 1048576) (by omega) (by omega)
  refine ze_lload_n kc_118_0 rfl ?_
  refine ze_lstore kc_118_1 (Nat.le_of_ble_eq_true rfl) ?_
  simp only [zset1, zset2, zcut, List.set_cons_zero, List.set_cons_succ, List.getD_cons_zero, List.getD_cons_succ]
  refine ze_iload_n kc_118_3 rfl ?_
  refine zE_calls 1 kc_118_4 rfl rfl (Nat.le_of_ble_eq_true rfl) (Nat.le_of_ble_eq_true rfl) (Nat.le_of_ble_eq_true rfl) rfl ?_
  refine m_bitc (by omega) ?_
  simp only [Option.toList_some, Option.toList_none, List.drop_succ_cons, List.drop_zero, List.cons_append, List.nil_append]
  refine ze_istore kc_118_7 (Nat.le_of_ble_eq_true rfl) ?_
  simp only [zset1, zset2, zcut, List.set_cons_zero, List.set_cons_succ, List.getD_cons_zero, List.getD_cons_succ]
  refine ze_iconst kc_118_9 ?_
  refine ze_istore kc_118_10 (Nat.le_of_ble_eq_true rfl) ?_
  simp only [zset1, zset2, zcut, List.set_cons_zero, List.set_cons_succ, List.getD_cons_zero, List.getD_cons_succ]
  have loop12 : ∀ (μ : Nat) (k : Nat) (x : Int) (Zd : zMem), 6 - k = μ → (k ≤ 6) → (x = k) → (zFm Z Zd) → (∀ j, j < k → Zd 74 j = 0) → zE 118 12 [some (zR 63), some (zI (i : Nat)), some (zI (S : Nat)), some (zL u), none, some (zL w), none, some (zL u), none, some (zI (zpc S : Nat)), some (zI x)] [] Zd Q := by
    refine zind ?_
    intro μ0 ih0 k x Zd hm0 hk hx hfm0 hz
    refine ze_iload kc_118_12 rfl ?_
    refine ze_bipush kc_118_14 ?_
    refine ze_icmp_ge kc_118_16 (by omega) (by omega) (fun h16 => ?_) (fun h16 => ?_)
    · skip
      refine ze_aload_n kc_118_33 rfl ?_
      refine ze_iload_n kc_118_34 rfl ?_
      refine zE_callv 2 kc_118_35 rfl rfl (Nat.le_of_ble_eq_true rfl) (Nat.le_of_ble_eq_true rfl) (Nat.le_of_ble_eq_true rfl) rfl (by decide +kernel) rfl ?_
      refine m_least (zMo_fm hM0 hfm0) (by omega) (fun k hk => Or.inl (hz k (by omega))) (fun r hr hrr => ?_)
      simp only [Option.toList_some, Option.toList_none, List.drop_succ_cons, List.drop_zero, List.cons_append, List.nil_append]
      refine ze_istore kc_118_38 (Nat.le_of_ble_eq_true rfl) ?_
      simp only [zset1, zset2, zcut, List.set_cons_zero, List.set_cons_succ, List.getD_cons_zero, List.getD_cons_succ]
      have loop40 : ∀ (μ : Nat) (l o r : Int) (Zd : zMem), o.toNat = μ → (zFm Z Zd) → (∀ k, k < 6 → Zd 74 k = 0 ∨ Zd 74 k = 1) → (l = u - zsub n (fun k => if Zd 74 k = 1 then c k * w else 0) S) → (o = zsub n (fun k => if Zd 74 k = 1 then 0 else 1) S) → (0 ≤ o ∧ o ≤ 6) → (0 ≤ l ∧ l ≤ u) → (∀ k, k < n → Zd 74 k = 1 → c k * w * o ≤ l) → (∀ k, k < n → ∀ j, j < n → Zd 74 k = 1 → S.testBit j = true → Zd 74 j = 0 → c k ≤ c j) → (zLsp n S c Zd r) → (-1 ≤ r ∧ r < n) → zE 118 40 [some (zR 63), some (zI (i : Nat)), some (zI (S : Nat)), some (zL u), none, some (zL w), none, some (zL l), none, some (zI o), some (zI r)] [] Zd Q := by
        refine zind ?_
        intro μ1 ih1 l o r Zd hm1 hfm hfl hl ho hor hlr hle hod hr hrr
        refine ze_iload kc_118_40 rfl ?_
        refine ze_if_lt kc_118_42 (by omega) (fun h42 => ?_) (fun h42 => ?_)
        · skip
          have hall : ∀ k, k < n → S.testBit k = true → Zd 74 k = 1 := by
            rcases hr with ⟨-, hr1⟩ | ⟨p, p1, p2, -⟩
            · exact fun k hk a => (hfl k (by omega)).resolve_left (hr1 k hk a)
            · omega
          have hres : (Zd 74 i = 1 → zLv m (fun k => c (σ k)) i' w u = c i * w * 60) ∧ (Zd 74 i = 0 → zLv m (fun k => c (σ k)) i' w u * o = l * 60 ∧ 1 ≤ o) :=
            ⟨fun _ => zev_A (F := fun k => Zd 74 k) hE hall hl hlr.1, fun a => by have := hall i e6 e7; omega⟩
          refine ze_aload_n kc_118_103 rfl ?_
          refine ze_aload_n kc_118_104 rfl ?_
          refine ze_getR kc_118_105 rfl rfl rfl ?_
          refine ze_iload_n kc_118_108 rfl ?_
          refine ze_zald kc_118_109 rfl (by omega) ?_
          rw [Int.toNat_natCast]
          have hfi := hfl i (by omega)
          refine ze_if_eq kc_118_110 (by omega) (fun h110 => ?_) (fun h110 => ?_)
          · skip
            refine ze_lload kc_118_126 rfl ?_
            refine ze_putL kc_118_128 rfl rfl ?_
            refine ze_aload_n kc_118_131 rfl ?_
            refine ze_aload_n kc_118_132 rfl ?_
            refine ze_getR kc_118_133 rfl rfl rfl ?_
            refine ze_iload_n kc_118_136 rfl ?_
            refine ze_zald kc_118_137 rfl (by omega) ?_
            rw [zup_ne' (by decide), Int.toNat_natCast]
            refine ze_if_eq kc_118_138 (by omega) (fun h138 => ?_) (fun h138 => ?_)
            · skip
              refine ze_iload kc_118_145 rfl ?_
              refine ze_i2l kc_118_147 (by omega) ?_
              refine ze_putL kc_118_148 rfl rfl ?_
              refine ze_return kc_118_151 ?_
              first
                | exact q1 _ _ _ (zFm_up (zFm_up hfm (by omega)) (by omega)) (by rw [zup_o (by decide), zup_s]) zup_s (by omega) (by rw [hres.1 (by omega)]; omega)
                | exact q1 _ _ _ (zFm_up (zFm_up hfm (by omega)) (by omega)) (by rw [zup_o (by decide), zup_s]) zup_s ⟨(hres.2 (by omega)).2, hor.2⟩ (by rw [(hres.2 (by omega)).1])
                | exact absurd h138 (by omega)
            · skip
              refine ze_lconst1 kc_118_141 ?_
              refine ze_goto kc_118_142 ?_
              refine ze_putL kc_118_148 rfl rfl ?_
              refine ze_return kc_118_151 ?_
              first
                | exact q1 _ _ _ (zFm_up (zFm_up hfm (by omega)) (by omega)) (by rw [zup_o (by decide), zup_s]) zup_s (by omega) (by rw [hres.1 (by omega)]; omega)
                | exact q1 _ _ _ (zFm_up (zFm_up hfm (by omega)) (by omega)) (by rw [zup_o (by decide), zup_s]) zup_s ⟨(hres.2 (by omega)).2, hor.2⟩ (by rw [(hres.2 (by omega)).1])
                | exact absurd h138 (by omega)
          · skip
            refine ze_aload_n kc_118_113 rfl ?_
            refine ze_getR kc_118_114 rfl rfl rfl ?_
            refine ze_iload_n kc_118_117 rfl ?_
            refine ze_iald kc_118_118 rfl (by omega) ?_
            rw [Int.toNat_natCast, hfm.1 64 (by decide) (by decide), mc i e6]
            refine ze_i2l kc_118_119 (by omega) ?_
            refine ze_lload kc_118_120 rfl ?_
            refine ze_lmul kc_118_122 ?_
            refine ze_goto kc_118_123 ?_
            refine ze_putL kc_118_128 rfl rfl ?_
            refine ze_aload_n kc_118_131 rfl ?_
            refine ze_aload_n kc_118_132 rfl ?_
            refine ze_getR kc_118_133 rfl rfl rfl ?_
            refine ze_iload_n kc_118_136 rfl ?_
            refine ze_zald kc_118_137 rfl (by omega) ?_
            rw [zup_ne' (by decide), Int.toNat_natCast]
            refine ze_if_eq kc_118_138 (by omega) (fun h138 => ?_) (fun h138 => ?_)
            · skip
              refine ze_iload kc_118_145 rfl ?_
              refine ze_i2l kc_118_147 (by omega) ?_
              refine ze_putL kc_118_148 rfl rfl ?_
              refine ze_return kc_118_151 ?_
              first
                | exact q1 _ _ _ (zFm_up (zFm_up hfm (by omega)) (by omega)) (by rw [zup_o (by decide), zup_s]) zup_s (by omega) (by rw [hres.1 (by omega)]; omega)
                | exact q1 _ _ _ (zFm_up (zFm_up hfm (by omega)) (by omega)) (by rw [zup_o (by decide), zup_s]) zup_s ⟨(hres.2 (by omega)).2, hor.2⟩ (by rw [(hres.2 (by omega)).1])
                | exact absurd h138 (by omega)
            · skip
              refine ze_lconst1 kc_118_141 ?_
              refine ze_goto kc_118_142 ?_
              refine ze_putL kc_118_148 rfl rfl ?_
              refine ze_return kc_118_151 ?_
              first
                | exact q1 _ _ _ (zFm_up (zFm_up hfm (by omega)) (by omega)) (by rw [zup_o (by decide), zup_s]) zup_s (by omega) (by rw [hres.1 (by omega)]; omega)
                | exact q1 _ _ _ (zFm_up (zFm_up hfm (by omega)) (by omega)) (by rw [zup_o (by decide), zup_s]) zup_s ⟨(hres.2 (by omega)).2, hor.2⟩ (by rw [(hres.2 (by omega)).1])
                | exact absurd h138 (by omega)
        · skip
          have hr2 := hr
          rcases hr2 with ⟨hr1, -⟩ | ⟨p, p1, p2, p3, p4, p5⟩
          · exact absurd hr1 (by omega)
          subst p2
          refine ze_aload_n kc_118_45 rfl ?_
          refine ze_getR kc_118_46 rfl rfl rfl ?_
          refine ze_iload kc_118_49 rfl ?_
          refine ze_iald kc_118_51 rfl (by omega) ?_
          rw [Int.toNat_natCast, hfm.1 64 (by decide) (by decide), mc p p1]
          have hcp := mr p p1
          have hpw := zmb (a := c p) (b := w) (A := 60) (B := 1048576) (by omega) (by omega)
          have hpo := zmb (a := c p * w) (b := o) (A := 62914560) (B := 6) (by omega) (by omega)
          refine ze_i2l kc_118_52 (by omega) ?_
          refine ze_lload kc_118_53 rfl ?_
          refine ze_lmul kc_118_55 ?_
          refine ze_iload kc_118_56 rfl ?_
          refine ze_i2l kc_118_58 (by omega) ?_
          refine ze_lmul kc_118_59 ?_
          refine ze_lload kc_118_60 rfl ?_
          refine ze_lcmp_gt kc_118_62 kc_118_63 (by omega) (by omega) (fun h62 => ?_) (fun h62 => ?_)
          · skip
            have o1 : 1 ≤ o := by
              have := zsub_one (n := n) (S := S) (p := p) (f := fun k => if Zd 74 k = 1 then (0 : Int) else 1) p1 p3 (fun k _ _ => by split <;> omega)
              rw [← ho, if_neg (by omega)] at this
              exact this
            have hgt : ∀ k, k < n → S.testBit k = true → Zd 74 k = 0 → l < c k * w * o := fun k hk a b => by
              have b1 := Int.mul_le_mul_of_nonneg_right (p5 k hk a b) hw.1
              have b2 := Int.mul_le_mul_of_nonneg_right b1 (show 0 ≤ o by omega)
              omega
            have hB := zev_B (F := fun k => Zd 74 k) hE (by omega) (fun k hk => hfl k (by omega)) hl ho hle hgt
            have hres : (Zd 74 i = 1 → zLv m (fun k => c (σ k)) i' w u = c i * w * 60) ∧ (Zd 74 i = 0 → zLv m (fun k => c (σ k)) i' w u * o = l * 60 ∧ 1 ≤ o) :=
              ⟨hB.1, fun a => ⟨hB.2 a, o1⟩⟩
            refine ze_aload_n kc_118_103 rfl ?_
            refine ze_aload_n kc_118_104 rfl ?_
            refine ze_getR kc_118_105 rfl rfl rfl ?_
            refine ze_iload_n kc_118_108 rfl ?_
            refine ze_zald kc_118_109 rfl (by omega) ?_
            rw [Int.toNat_natCast]
            have hfi := hfl i (by omega)
            refine ze_if_eq kc_118_110 (by omega) (fun h110 => ?_) (fun h110 => ?_)
            · skip
              refine ze_lload kc_118_126 rfl ?_
              refine ze_putL kc_118_128 rfl rfl ?_
              refine ze_aload_n kc_118_131 rfl ?_
              refine ze_aload_n kc_118_132 rfl ?_
              refine ze_getR kc_118_133 rfl rfl rfl ?_
              refine ze_iload_n kc_118_136 rfl ?_
              refine ze_zald kc_118_137 rfl (by omega) ?_
              rw [zup_ne' (by decide), Int.toNat_natCast]
              refine ze_if_eq kc_118_138 (by omega) (fun h138 => ?_) (fun h138 => ?_)
              · skip
                refine ze_iload kc_118_145 rfl ?_
                refine ze_i2l kc_118_147 (by omega) ?_
                refine ze_putL kc_118_148 rfl rfl ?_
                refine ze_return kc_118_151 ?_
                first
                  | exact q1 _ _ _ (zFm_up (zFm_up hfm (by omega)) (by omega)) (by rw [zup_o (by decide), zup_s]) zup_s (by omega) (by rw [hres.1 (by omega)]; omega)
                  | exact q1 _ _ _ (zFm_up (zFm_up hfm (by omega)) (by omega)) (by rw [zup_o (by decide), zup_s]) zup_s ⟨(hres.2 (by omega)).2, hor.2⟩ (by rw [(hres.2 (by omega)).1])
                  | exact absurd h138 (by omega)
              · skip
                refine ze_lconst1 kc_118_141 ?_
                refine ze_goto kc_118_142 ?_
                refine ze_putL kc_118_148 rfl rfl ?_
                refine ze_return kc_118_151 ?_
                first
                  | exact q1 _ _ _ (zFm_up (zFm_up hfm (by omega)) (by omega)) (by rw [zup_o (by decide), zup_s]) zup_s (by omega) (by rw [hres.1 (by omega)]; omega)
                  | exact q1 _ _ _ (zFm_up (zFm_up hfm (by omega)) (by omega)) (by rw [zup_o (by decide), zup_s]) zup_s ⟨(hres.2 (by omega)).2, hor.2⟩ (by rw [(hres.2 (by omega)).1])
                  | exact absurd h138 (by omega)
            · skip
              refine ze_aload_n kc_118_113 rfl ?_
              refine ze_getR kc_118_114 rfl rfl rfl ?_
              refine ze_iload_n kc_118_117 rfl ?_
              refine ze_iald kc_118_118 rfl (by omega) ?_
              rw [Int.toNat_natCast, hfm.1 64 (by decide) (by decide), mc i e6]
              refine ze_i2l kc_118_119 (by omega) ?_
              refine ze_lload kc_118_120 rfl ?_
              refine ze_lmul kc_118_122 ?_
              refine ze_goto kc_118_123 ?_
              refine ze_putL kc_118_128 rfl rfl ?_
              refine ze_aload_n kc_118_131 rfl ?_
              refine ze_aload_n kc_118_132 rfl ?_
              refine ze_getR kc_118_133 rfl rfl rfl ?_
              refine ze_iload_n kc_118_136 rfl ?_
              refine ze_zald kc_118_137 rfl (by omega) ?_
              rw [zup_ne' (by decide), Int.toNat_natCast]
              refine ze_if_eq kc_118_138 (by omega) (fun h138 => ?_) (fun h138 => ?_)
              · skip
                refine ze_iload kc_118_145 rfl ?_
                refine ze_i2l kc_118_147 (by omega) ?_
                refine ze_putL kc_118_148 rfl rfl ?_
                refine ze_return kc_118_151 ?_
                first
                  | exact q1 _ _ _ (zFm_up (zFm_up hfm (by omega)) (by omega)) (by rw [zup_o (by decide), zup_s]) zup_s (by omega) (by rw [hres.1 (by omega)]; omega)
                  | exact q1 _ _ _ (zFm_up (zFm_up hfm (by omega)) (by omega)) (by rw [zup_o (by decide), zup_s]) zup_s ⟨(hres.2 (by omega)).2, hor.2⟩ (by rw [(hres.2 (by omega)).1])
                  | exact absurd h138 (by omega)
              · skip
                refine ze_lconst1 kc_118_141 ?_
                refine ze_goto kc_118_142 ?_
                refine ze_putL kc_118_148 rfl rfl ?_
                refine ze_return kc_118_151 ?_
                first
                  | exact q1 _ _ _ (zFm_up (zFm_up hfm (by omega)) (by omega)) (by rw [zup_o (by decide), zup_s]) zup_s (by omega) (by rw [hres.1 (by omega)]; omega)
                  | exact q1 _ _ _ (zFm_up (zFm_up hfm (by omega)) (by omega)) (by rw [zup_o (by decide), zup_s]) zup_s ⟨(hres.2 (by omega)).2, hor.2⟩ (by rw [(hres.2 (by omega)).1])
                  | exact absurd h138 (by omega)
          · skip
            refine ze_aload_n kc_118_66 rfl ?_
            refine ze_getR kc_118_67 rfl rfl rfl ?_
            refine ze_iload kc_118_70 rfl ?_
            refine ze_iconst kc_118_72 ?_
            refine ze_zast kc_118_73 rfl (by omega) (by omega) ?_
            rw [Int.toNat_natCast]
            refine ze_lload kc_118_74 rfl ?_
            refine ze_aload_n kc_118_76 rfl ?_
            refine ze_getR kc_118_77 rfl rfl rfl ?_
            refine ze_iload kc_118_80 rfl ?_
            refine ze_iald kc_118_82 rfl (by omega) ?_
            rw [Int.toNat_natCast, zup_ne' (by decide), hfm.1 64 (by decide) (by decide), mc p p1]
            have hfm2 : zFm Z (zup Zd 74 p 1) := zFm_full hfm
            have hfl2 : ∀ k, k < 6 → zup Zd 74 p 1 74 k = 0 ∨ zup Zd 74 p 1 74 k = 1 := fun k hk => by
              by_cases q : k = p
              · rw [q, zup_s]; exact Or.inr rfl
              · rw [zup_o q]; exact hfl k hk
            have o1 : 1 ≤ o := by
              have := zsub_one (n := n) (S := S) (p := p) (f := fun k => if Zd 74 k = 1 then (0 : Int) else 1) p1 p3 (fun k _ _ => by split <;> omega)
              rw [← ho, if_neg (by omega)] at this
              exact this
            refine ze_i2l kc_118_83 (by omega) ?_
            refine ze_lload kc_118_84 rfl ?_
            refine ze_lmul kc_118_86 ?_
            refine ze_lsub kc_118_87 ?_
            refine ze_lstore kc_118_88 (Nat.le_of_ble_eq_true rfl) ?_
            simp only [zset1, zset2, zcut, List.set_cons_zero, List.set_cons_succ, List.getD_cons_zero, List.getD_cons_succ]
            refine ze_iinc kc_118_90 rfl ?_
            simp only [zset1, zset2, zcut, List.set_cons_zero, List.set_cons_succ, List.getD_cons_zero, List.getD_cons_succ]
            refine ze_aload_n kc_118_93 rfl ?_
            refine ze_iload_n kc_118_94 rfl ?_
            refine zE_callv 2 kc_118_95 rfl rfl (Nat.le_of_ble_eq_true rfl) (Nat.le_of_ble_eq_true rfl) (Nat.le_of_ble_eq_true rfl) rfl (by decide +kernel) rfl ?_
            refine m_least (zMo_fm hM0 hfm2) (by omega) hfl2 (fun r2 hr2 hrr2 => ?_)
            simp only [Option.toList_some, Option.toList_none, List.drop_succ_cons, List.drop_zero, List.cons_append, List.nil_append]
            refine ze_istore kc_118_98 (Nat.le_of_ble_eq_true rfl) ?_
            simp only [zset1, zset2, zcut, List.set_cons_zero, List.set_cons_succ, List.getD_cons_zero, List.getD_cons_succ]
            refine ze_goto kc_118_100 ?_
            refine ih1 _ (by omega) _ _ _ _ rfl hfm2 hfl2 ?_ ?_ (by omega) (by
                have := Int.mul_le_mul_of_nonneg_left o1 hpw.1
                omega) (fun k hk a => ?_) (fun k hk j hj a b d => ?_) hr2 hrr2
            · rw [zsub_upd (p := p) (f := fun k => if Zd 74 k = 1 then c k * w else 0) p1 p3 (fun k hk q => by rw [zup_o q]), zup_s, if_pos rfl, if_neg (by omega), hl]
              omega
            · rw [zsub_upd (p := p) (f := fun k => if Zd 74 k = 1 then (0 : Int) else 1) p1 p3 (fun k hk q => by rw [zup_o q]), zup_s, if_pos rfl, if_neg (by omega), ← ho]
              omega
            · have b0 : c p * w * (o + -1) = c p * w * o - c p * w := by rw [Int.mul_add, Int.mul_neg, Int.mul_one]; omega
              by_cases q : k = p
              · rw [q, b0]; omega
              · rw [zup_o q] at a
                have b1 := Int.mul_le_mul_of_nonneg_right (hod k hk p p1 a p3 p4) hw.1
                have b2 := Int.mul_le_mul_of_nonneg_right b1 (show 0 ≤ o + -1 by omega)
                omega
            · by_cases qj : j = p
              · rw [qj, zup_s] at d; omega
              · rw [zup_o qj] at d
                by_cases q : k = p
                · rw [q]; exact p5 j hj b d
                · rw [zup_o q] at a; exact hod k hk j hj a b d
      refine loop40 _ _ _ _ _ rfl hfm0 (fun k hk => Or.inl (hz k (by omega))) ?_ ?_ (by omega) ⟨hu.1, Int.le_refl _⟩ (fun k hk a => by have := hz k (by omega); omega) (fun k hk j hj a => by have := hz k (by omega); omega) hr hrr
      · rw [zsub_zero (fun k hk _ => if_neg (by have := hz k (by omega); omega))]
        omega
      · rw [zpc_sub n (by omega) S e1]
        exact zsub_congr (fun k hk _ => (if_neg (by have := hz k (by omega); omega)).symm)
    · skip
      refine ze_aload_n kc_118_19 rfl ?_
      refine ze_getR kc_118_20 rfl rfl rfl ?_
      refine ze_iload kc_118_23 rfl ?_
      refine ze_iconst kc_118_25 ?_
      refine ze_zast kc_118_26 rfl (by omega) (by omega) ?_
      rw [show x.toNat = k by omega]
      refine ze_iinc kc_118_27 rfl ?_
      simp only [zset1, zset2, zcut, List.set_cons_zero, List.set_cons_succ, List.getD_cons_zero, List.getD_cons_succ]
      refine ze_goto kc_118_30 ?_
      refine ih0 _ (by omega) (k + 1) _ _ rfl (by omega) (by omega) (zFm_full hfm0) (fun j hj => if q : j = k then (by rw [q, zup_s]) else (by rw [zup_o q]; exact hz j (by omega)))
  refine loop12 _ 0 0 Z rfl (by omega) rfl zFm_refl (fun j hj => by omega)
