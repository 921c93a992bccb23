/-! WHAT HAPPENS, AND AFTER IT; the image -/
theorem zHp_ok {n : Nat} {c : Nat → Int} {e ρ : Int} {R : zRs} (hE : zEok n R) (hc : ∀ i, i < n → 1 ≤ c i ∧ c i ≤ 60) (he : 0 ≤ e ∧ e ≤ 360) (hr : 0 ≤ ρ ∧ ρ ≤ 5) (k : Nat) (hk : k ≤ R.1) : (∀ i, i < n → 1 ≤ (zHp R c e ρ k).1 i ∧ (zHp R c e ρ k).1 i ≤ 60) ∧ (0 ≤ (zHp R c e ρ k).2.1 ∧ (zHp R c e ρ k).2.1 ≤ 360) ∧ (0 ≤ (zHp R c e ρ k).2.2 ∧ (zHp R c e ρ k).2.2 ≤ 5) := by
  induction k with
  | zero => exact ⟨hc, he, hr⟩
  | succ k ih =>
    obtain ⟨i1, i2, i3⟩ := ih (by omega)
    obtain ⟨g1, g2, g3, g4⟩ := hE k (by omega)
    refine ⟨fun i hi => ?_, ?_, ?_⟩
    · show 1 ≤ zhC (R.2.1 k) (R.2.2 k).toNat (zHp R c e ρ k).1 i ∧ zhC (R.2.1 k) (R.2.2 k).toNat (zHp R c e ρ k).1 i ≤ 60
      have q := i1 i hi
      unfold zhC
      by_cases a : R.2.1 k = 0
      · have q2 := i1 (R.2.2 k).toNat (by omega)
        rw [if_pos a]
        split <;> omega
      · rw [if_neg a]
        by_cases b : R.2.1 k = 1
        · rw [if_pos b]
          split <;> omega
        · rw [if_neg b]
          exact q
    · show 0 ≤ zhE (R.2.1 k) (R.2.2 k).toNat (zHp R c e ρ k).2.1 ∧ zhE (R.2.1 k) (R.2.2 k).toNat (zHp R c e ρ k).2.1 ≤ 360
      unfold zhE
      split <;> omega
    · show 0 ≤ zhR (R.2.1 k) (R.2.2 k).toNat (zHp R c e ρ k).2.2 ∧ zhR (R.2.1 k) (R.2.2 k).toNat (zHp R c e ρ k).2.2 ≤ 5
      unfold zhR
      split <;> omega

set_option maxHeartbeats 4000000 in
theorem m_happensM {Z : zMem} {Q : Option zAV → zMem → Prop} {n : Nat} {c : Nat → Int} {e ρ : Int} (hM : zMo n c e ρ Z) {w : Int} {k : Nat} (hw : 0 ≤ w ∧ w ≤ 3) (hk : k ≤ 360) (hk1 : w < 2 → k < n) (hk2 : w = 2 → k ≤ 5) (q1 : ∀ (Z' : zMem), zMo n (zhC w k c) (zhE w k e) (zhR w k ρ) Z' → (∀ i, i ≠ 63 → i ≠ 64 → Z' i = Z i) → (∀ j, j ≠ 2 → j ≠ 3 → Z' 63 j = Z 63 j) → (∀ x, n ≤ x → Z' 64 x = Z 64 x) → Q none Z') : zE 157 0 (zent 157 [zR 63, zI w, zI (k : Int)]) [] Z Q := by
  show zE 157 0 [some (zR 63), some (zI w), some (zI (k : Int))] [] Z Q
  have hM0 := hM
  obtain ⟨n0, n6, mc, mr, me, mρ, meR, mρR⟩ := hM
  have msr := zsum_range mr
  have hp6 := zpow6 n6
  refine ze_iload_n kc_157_0 rfl ?_
  by_cases hs0 : w = 0
  · refine ze_tableIn 0 kc_157_1 hs0 (by decide) (by decide) rfl rfl ?_
    refine ze_aload_n kc_157_28 rfl ?_
    refine ze_getR kc_157_29 rfl rfl rfl ?_
    refine ze_iload_n kc_157_32 rfl ?_
    refine ze_bipush kc_157_33 ?_
    refine ze_aload_n kc_157_35 rfl ?_
    refine ze_getR kc_157_36 rfl rfl rfl ?_
    refine ze_iload_n kc_157_39 rfl ?_
    refine ze_iald kc_157_40 rfl (by omega) ?_
    rw [Int.toNat_natCast, mc k (hk1 (by omega))]
    have hck := mr k (hk1 (by omega))
    refine ze_iconst kc_157_41 ?_
    refine ze_iadd kc_157_42 ?_
    refine zE_calls 2 kc_157_43 rfl rfl (Nat.le_of_ble_eq_true rfl) (Nat.le_of_ble_eq_true rfl) (Nat.le_of_ble_eq_true rfl) rfl ?_
    refine m_minI (by omega) (by omega) ?_
    simp only [Option.toList_some, Option.toList_none, List.drop_succ_cons, List.drop_zero, List.cons_append, List.nil_append]
    refine ze_iast kc_157_46 rfl (by omega) ?_
    rw [Int.toNat_natCast]
    refine ze_goto kc_157_47 ?_
    refine ze_return kc_157_84 ?_
    first
      | (have hkn := hk1 (by omega)
         rw [show zhC w k c = zupd c k (min 60 (c k + 5)) from if_pos hs0, show zhE w k e = e from if_neg (by omega), show zhR w k ρ = ρ from if_neg (by omega)] at q1
         exact q1 _ (zMo_upd hM0 (by omega)) (fun i a b => zup_ne' b) (fun j a b => by rw [zup_ne' (by decide)]) (fun x hx => zup_o (by omega)))
      | (have hkn := hk1 (by omega)
         rw [show zhC w k c = zupd c k 1 from (if_neg hs0).trans (if_pos hs1), show zhE w k e = e from if_neg (by omega), show zhR w k ρ = ρ from if_neg (by omega)] at q1
         exact q1 _ (zMo_upd hM0 (by omega)) (fun i a b => zup_ne' b) (fun j a b => by rw [zup_ne' (by decide)]) (fun x hx => zup_o (by omega)))
      | (have hk5 := hk2 hs2
         rw [show zhC w k c = c from (if_neg hs0).trans (if_neg hs1), show zhE w k e = e from if_neg (by omega), show zhR w k ρ = k from if_pos hs2] at q1
         exact q1 _ (zMo_of (by rw [zup_o (by decide)]; exact n0) n6 (fun i hi => by rw [zup_ne' (by decide)]; exact mc i hi) mr (by rw [zup_o (by decide)]; exact me) (by rw [zup_s]) meR (by omega)) (fun i a b => zup_ne' a) (fun j a b => zup_o b) (fun x hx => by rw [zup_ne' (by decide)]))
      | (rw [show zhC w k c = c from (if_neg hs0).trans (if_neg hs1), show zhE w k e = min 360 (e + k) from if_pos (by omega), show zhR w k ρ = ρ from if_neg (by omega)] at q1
         exact q1 _ (zMo_of (by rw [zup_o (by decide)]; exact n0) n6 (fun i hi => by rw [zup_ne' (by decide)]; exact mc i hi) mr (by rw [zup_s]) (by rw [zup_o (by decide)]; exact mρ) (by omega) mρR) (fun i a b => zup_ne' a) (fun j a b => zup_o a) (fun x hx => by rw [zup_ne' (by decide)]))
  by_cases hs1 : w = 1
  · refine ze_tableIn 1 kc_157_1 hs1 (by decide) (by decide) rfl rfl ?_
    refine ze_aload_n kc_157_50 rfl ?_
    refine ze_getR kc_157_51 rfl rfl rfl ?_
    refine ze_iload_n kc_157_54 rfl ?_
    refine ze_iconst kc_157_55 ?_
    refine ze_iast kc_157_56 rfl (by omega) ?_
    rw [Int.toNat_natCast]
    refine ze_goto kc_157_57 ?_
    refine ze_return kc_157_84 ?_
    first
      | (have hkn := hk1 (by omega)
         rw [show zhC w k c = zupd c k (min 60 (c k + 5)) from if_pos hs0, show zhE w k e = e from if_neg (by omega), show zhR w k ρ = ρ from if_neg (by omega)] at q1
         exact q1 _ (zMo_upd hM0 (by omega)) (fun i a b => zup_ne' b) (fun j a b => by rw [zup_ne' (by decide)]) (fun x hx => zup_o (by omega)))
      | (have hkn := hk1 (by omega)
         rw [show zhC w k c = zupd c k 1 from (if_neg hs0).trans (if_pos hs1), show zhE w k e = e from if_neg (by omega), show zhR w k ρ = ρ from if_neg (by omega)] at q1
         exact q1 _ (zMo_upd hM0 (by omega)) (fun i a b => zup_ne' b) (fun j a b => by rw [zup_ne' (by decide)]) (fun x hx => zup_o (by omega)))
      | (have hk5 := hk2 hs2
         rw [show zhC w k c = c from (if_neg hs0).trans (if_neg hs1), show zhE w k e = e from if_neg (by omega), show zhR w k ρ = k from if_pos hs2] at q1
         exact q1 _ (zMo_of (by rw [zup_o (by decide)]; exact n0) n6 (fun i hi => by rw [zup_ne' (by decide)]; exact mc i hi) mr (by rw [zup_o (by decide)]; exact me) (by rw [zup_s]) meR (by omega)) (fun i a b => zup_ne' a) (fun j a b => zup_o b) (fun x hx => by rw [zup_ne' (by decide)]))
      | (rw [show zhC w k c = c from (if_neg hs0).trans (if_neg hs1), show zhE w k e = min 360 (e + k) from if_pos (by omega), show zhR w k ρ = ρ from if_neg (by omega)] at q1
         exact q1 _ (zMo_of (by rw [zup_o (by decide)]; exact n0) n6 (fun i hi => by rw [zup_ne' (by decide)]; exact mc i hi) mr (by rw [zup_s]) (by rw [zup_o (by decide)]; exact mρ) (by omega) mρR) (fun i a b => zup_ne' a) (fun j a b => zup_o a) (fun x hx => by rw [zup_ne' (by decide)]))
  by_cases hs2 : w = 2
  · refine ze_tableIn 2 kc_157_1 hs2 (by decide) (by decide) rfl rfl ?_
    refine ze_aload_n kc_157_60 rfl ?_
    refine ze_iload_n kc_157_61 rfl ?_
    refine ze_putI kc_157_62 rfl rfl ?_
    refine ze_goto kc_157_65 ?_
    refine ze_return kc_157_84 ?_
    first
      | (have hkn := hk1 (by omega)
         rw [show zhC w k c = zupd c k (min 60 (c k + 5)) from if_pos hs0, show zhE w k e = e from if_neg (by omega), show zhR w k ρ = ρ from if_neg (by omega)] at q1
         exact q1 _ (zMo_upd hM0 (by omega)) (fun i a b => zup_ne' b) (fun j a b => by rw [zup_ne' (by decide)]) (fun x hx => zup_o (by omega)))
      | (have hkn := hk1 (by omega)
         rw [show zhC w k c = zupd c k 1 from (if_neg hs0).trans (if_pos hs1), show zhE w k e = e from if_neg (by omega), show zhR w k ρ = ρ from if_neg (by omega)] at q1
         exact q1 _ (zMo_upd hM0 (by omega)) (fun i a b => zup_ne' b) (fun j a b => by rw [zup_ne' (by decide)]) (fun x hx => zup_o (by omega)))
      | (have hk5 := hk2 hs2
         rw [show zhC w k c = c from (if_neg hs0).trans (if_neg hs1), show zhE w k e = e from if_neg (by omega), show zhR w k ρ = k from if_pos hs2] at q1
         exact q1 _ (zMo_of (by rw [zup_o (by decide)]; exact n0) n6 (fun i hi => by rw [zup_ne' (by decide)]; exact mc i hi) mr (by rw [zup_o (by decide)]; exact me) (by rw [zup_s]) meR (by omega)) (fun i a b => zup_ne' a) (fun j a b => zup_o b) (fun x hx => by rw [zup_ne' (by decide)]))
      | (rw [show zhC w k c = c from (if_neg hs0).trans (if_neg hs1), show zhE w k e = min 360 (e + k) from if_pos (by omega), show zhR w k ρ = ρ from if_neg (by omega)] at q1
         exact q1 _ (zMo_of (by rw [zup_o (by decide)]; exact n0) n6 (fun i hi => by rw [zup_ne' (by decide)]; exact mc i hi) mr (by rw [zup_s]) (by rw [zup_o (by decide)]; exact mρ) (by omega) mρR) (fun i a b => zup_ne' a) (fun j a b => zup_o a) (fun x hx => by rw [zup_ne' (by decide)]))
  refine ze_tableOut kc_157_1 (by omega) (by omega) rfl ?_
  refine ze_aload_n kc_157_68 rfl ?_
  refine ze_sipush kc_157_69 ?_
  refine ze_aload_n kc_157_72 rfl ?_
  refine ze_getI kc_157_73 rfl (by decide) ?_
  rw [me]
  refine ze_iload_n kc_157_76 rfl ?_
  refine ze_iadd kc_157_77 ?_
  refine zE_calls 2 kc_157_78 rfl rfl (Nat.le_of_ble_eq_true rfl) (Nat.le_of_ble_eq_true rfl) (Nat.le_of_ble_eq_true rfl) rfl ?_
  refine m_minI (by omega) (by omega) ?_
  simp only [Option.toList_some, Option.toList_none, List.drop_succ_cons, List.drop_zero, List.cons_append, List.nil_append]
  refine ze_putI kc_157_81 rfl rfl ?_
  refine ze_return kc_157_84 ?_
  first
    | (have hkn := hk1 (by omega)
       rw [show zhC w k c = zupd c k (min 60 (c k + 5)) from if_pos hs0, show zhE w k e = e from if_neg (by omega), show zhR w k ρ = ρ from if_neg (by omega)] at q1
       exact q1 _ (zMo_upd hM0 (by omega)) (fun i a b => zup_ne' b) (fun j a b => by rw [zup_ne' (by decide)]) (fun x hx => zup_o (by omega)))
    | (have hkn := hk1 (by omega)
       rw [show zhC w k c = zupd c k 1 from (if_neg hs0).trans (if_pos hs1), show zhE w k e = e from if_neg (by omega), show zhR w k ρ = ρ from if_neg (by omega)] at q1
       exact q1 _ (zMo_upd hM0 (by omega)) (fun i a b => zup_ne' b) (fun j a b => by rw [zup_ne' (by decide)]) (fun x hx => zup_o (by omega)))
    | (have hk5 := hk2 hs2
       rw [show zhC w k c = c from (if_neg hs0).trans (if_neg hs1), show zhE w k e = e from if_neg (by omega), show zhR w k ρ = k from if_pos hs2] at q1
       exact q1 _ (zMo_of (by rw [zup_o (by decide)]; exact n0) n6 (fun i hi => by rw [zup_ne' (by decide)]; exact mc i hi) mr (by rw [zup_o (by decide)]; exact me) (by rw [zup_s]) meR (by omega)) (fun i a b => zup_ne' a) (fun j a b => zup_o b) (fun x hx => by rw [zup_ne' (by decide)]))
    | (rw [show zhC w k c = c from (if_neg hs0).trans (if_neg hs1), show zhE w k e = min 360 (e + k) from if_pos (by omega), show zhR w k ρ = ρ from if_neg (by omega)] at q1
       exact q1 _ (zMo_of (by rw [zup_o (by decide)]; exact n0) n6 (fun i hi => by rw [zup_ne' (by decide)]; exact mc i hi) mr (by rw [zup_s]) (by rw [zup_o (by decide)]; exact mρ) (by omega) mρR) (fun i a b => zup_ne' a) (fun j a b => zup_o a) (fun x hx => by rw [zup_ne' (by decide)]))

set_option maxHeartbeats 8000000 in
theorem m_keeps {Z : zMem} {Q : Option zAV → zMem → Prop} {to : Nat} (hT : zTT[to]? = some (10, 60)) (hto : 71 ≤ to) (q1 : ∀ (Z' : zMem), (∀ k, k ≠ to → Z' k = Z k) → zKp to Z Z' → Q none Z') : zE 161 0 (zent 161 [zR 63, zR to]) [] Z Q := by
  show zE 161 0 [some (zR 63), some (zR to), none] [] Z Q
  refine ze_iconst kc_161_0 ?_
  refine ze_istore_n kc_161_1 (Nat.le_of_ble_eq_true rfl) ?_
  simp only [zset1, zset2, zcut, zf0, zf1, zf2, zf3, List.set_cons_zero, List.set_cons_succ, List.getD_cons_zero, List.getD_cons_succ]
  have loop2 : ∀ (μ : Nat) (k : Nat) (x : Int) (Zc : zMem), 6 - k = μ → (k ≤ 6) → (x = k) → (∀ k, k ≠ to → Zc k = Z k) → (∀ i, i < k → Zc to i = Z 64 i) → zE 161 2 [some (zR 63), some (zR to), some (zI x)] [] Zc Q := by
    refine zind ?_
    intro μ1 ih1 k x Zc hm1 hk hx hf g1
    subst hx
    refine ze_iload_n kc_161_2 rfl ?_
    refine ze_bipush kc_161_3 ?_
    refine ze_icmp_ge kc_161_5 (by omega) (by omega) (fun h5 => ?_) (fun h5 => ?_)
    · skip
      refine ze_iconst kc_161_23 ?_
      refine ze_istore_n kc_161_24 (Nat.le_of_ble_eq_true rfl) ?_
      simp only [zset1, zset2, zcut, zf0, zf1, zf2, zf3, List.set_cons_zero, List.set_cons_succ, List.getD_cons_zero, List.getD_cons_succ]
      have loop25 : ∀ (μ : Nat) (k : Nat) (x : Int) (Zc : zMem), 5 - k = μ → (k ≤ 5) → (x = k) → (∀ k, k ≠ to → Zc k = Z k) → (∀ i, i < 6 → Zc to i = Z 64 i) → (∀ i, i < k → Zc to (6 + i) = Z 65 i ∧ Zc to (11 + i) = Z 66 i) → zE 161 25 [some (zR 63), some (zR to), some (zI x)] [] Zc Q := by
        refine zind ?_
        intro μ2 ih2 k x Zc hm2 hk hx hf g1 g2
        subst hx
        refine ze_iload_n kc_161_25 rfl ?_
        refine ze_iconst kc_161_26 ?_
        refine ze_icmp_ge kc_161_27 (by omega) (by omega) (fun h27 => ?_) (fun h27 => ?_)
        · skip
          refine ze_iconst kc_161_60 ?_
          refine ze_istore_n kc_161_61 (Nat.le_of_ble_eq_true rfl) ?_
          simp only [zset1, zset2, zcut, zf0, zf1, zf2, zf3, List.set_cons_zero, List.set_cons_succ, List.getD_cons_zero, List.getD_cons_succ]
          have loop62 : ∀ (μ : Nat) (k : Nat) (x : Int) (Zc : zMem), 8 - k = μ → (k ≤ 8) → (x = k) → (∀ k, k ≠ to → Zc k = Z k) → (∀ i, i < 6 → Zc to i = Z 64 i) → (∀ i, i < 5 → Zc to (6 + i) = Z 65 i ∧ Zc to (11 + i) = Z 66 i) → (∀ i, i < k → Zc to (16 + i) = Z 67 i ∧ Zc to (24 + i) = Z 68 i ∧ Zc to (32 + i) = Z 69 i ∧ Zc to (40 + i) = Z 70 i) → zE 161 62 [some (zR 63), some (zR to), some (zI x)] [] Zc Q := by
            refine zind ?_
            intro μ3 ih3 k x Zc hm3 hk hx hf g1 g2 g3
            subst hx
            refine ze_iload_n kc_161_62 rfl ?_
            refine ze_bipush kc_161_63 ?_
            refine ze_icmp_ge kc_161_65 (by omega) (by omega) (fun h65 => ?_) (fun h65 => ?_)
            · skip
              refine ze_aload_n kc_161_122 rfl ?_
              refine ze_bipush kc_161_123 ?_
              refine ze_aload_n kc_161_125 rfl ?_
              refine ze_getI kc_161_126 (by first | assumption | rfl) (by decide) ?_
              rw [hf 63 (by omega)]
              refine ze_iast kc_161_129 (by first | assumption | rfl) (by omega) ?_
              refine ze_aload_n kc_161_130 rfl ?_
              refine ze_bipush kc_161_131 ?_
              refine ze_aload_n kc_161_133 rfl ?_
              refine ze_getI kc_161_134 (by first | assumption | rfl) (by decide) ?_
              rw [zup_ne' (by omega), hf 63 (by omega)]
              refine ze_iast kc_161_137 (by first | assumption | rfl) (by omega) ?_
              refine ze_aload_n kc_161_138 rfl ?_
              refine ze_bipush kc_161_139 ?_
              refine ze_aload_n kc_161_141 rfl ?_
              refine ze_getI kc_161_142 (by first | assumption | rfl) (by decide) ?_
              rw [zup_ne' (by omega), zup_ne' (by omega), hf 63 (by omega)]
              refine ze_iast kc_161_145 (by first | assumption | rfl) (by omega) ?_
              refine ze_aload_n kc_161_146 rfl ?_
              refine ze_bipush kc_161_147 ?_
              refine ze_aload_n kc_161_149 rfl ?_
              refine ze_getI kc_161_150 (by first | assumption | rfl) (by decide) ?_
              rw [zup_ne' (by omega), zup_ne' (by omega), zup_ne' (by omega), hf 63 (by omega)]
              refine ze_iast kc_161_153 (by first | assumption | rfl) (by omega) ?_
              refine ze_aload_n kc_161_154 rfl ?_
              refine ze_bipush kc_161_155 ?_
              refine ze_aload_n kc_161_157 rfl ?_
              refine ze_getI kc_161_158 (by first | assumption | rfl) (by decide) ?_
              rw [zup_ne' (by omega), zup_ne' (by omega), zup_ne' (by omega), zup_ne' (by omega), hf 63 (by omega)]
              refine ze_iast kc_161_161 (by first | assumption | rfl) (by omega) ?_
              refine ze_aload_n kc_161_162 rfl ?_
              refine ze_bipush kc_161_163 ?_
              refine ze_aload_n kc_161_165 rfl ?_
              refine ze_getI kc_161_166 (by first | assumption | rfl) (by decide) ?_
              rw [zup_ne' (by omega), zup_ne' (by omega), zup_ne' (by omega), zup_ne' (by omega), zup_ne' (by omega), hf 63 (by omega)]
              refine ze_iast kc_161_169 (by first | assumption | rfl) (by omega) ?_
              refine ze_return kc_161_170 ?_
              have e0 : ∀ j, j < 48 → zup (zup (zup (zup (zup (zup Zc to 48 (Z 63 0)) to 49 (Z 63 2)) to 50 (Z 63 3)) to 51 (Z 63 4)) to 52 (Z 63 7)) to 53 (Z 63 10) to j = Zc to j := fun j hj => by rw [zup_o (by omega), zup_o (by omega), zup_o (by omega), zup_o (by omega), zup_o (by omega), zup_o (by omega)]
              refine q1 _ (fun a b => by rw [zup_ne' b, zup_ne' b, zup_ne' b, zup_ne' b, zup_ne' b, zup_ne' b]; exact hf a b) ⟨fun i hi => ?_, fun i hi => ?_, fun i hi => ?_, ?_, ?_, ?_, ?_, ?_, ?_⟩
              · exact (e0 i (by omega)).trans (g1 i hi)
              · exact ⟨(e0 _ (by omega)).trans (g2 i hi).1, (e0 _ (by omega)).trans (g2 i hi).2⟩
              · obtain ⟨a1, a2, a3, a4⟩ := g3 i (by omega)
                exact ⟨(e0 _ (by omega)).trans a1, (e0 _ (by omega)).trans a2, (e0 _ (by omega)).trans a3, (e0 _ (by omega)).trans a4⟩
              · rw [zup_o (by decide), zup_o (by decide), zup_o (by decide), zup_o (by decide), zup_o (by decide)]; exact zup_s
              · rw [zup_o (by decide), zup_o (by decide), zup_o (by decide), zup_o (by decide)]; exact zup_s
              · rw [zup_o (by decide), zup_o (by decide), zup_o (by decide)]; exact zup_s
              · rw [zup_o (by decide), zup_o (by decide)]; exact zup_s
              · rw [zup_o (by decide)]; exact zup_s
              · exact zup_s
            · skip
              refine ze_aload_n kc_161_68 rfl ?_
              refine ze_bipush kc_161_69 ?_
              refine ze_iload_n kc_161_71 rfl ?_
              refine ze_iadd kc_161_72 ?_
              refine ze_aload_n kc_161_73 rfl ?_
              refine ze_getR kc_161_74 (by first | assumption | rfl) rfl (by first | assumption | rfl) ?_
              refine ze_iload_n kc_161_77 rfl ?_
              refine ze_iald kc_161_78 (by first | assumption | rfl) (by omega) ?_
              rw [Int.toNat_natCast, hf 67 (by omega)]
              refine ze_iast kc_161_79 (by first | assumption | rfl) (by omega) ?_
              rw [show (16 + (k : Int)).toNat = 16 + k by omega]
              refine ze_aload_n kc_161_80 rfl ?_
              refine ze_bipush kc_161_81 ?_
              refine ze_iload_n kc_161_83 rfl ?_
              refine ze_iadd kc_161_84 ?_
              refine ze_aload_n kc_161_85 rfl ?_
              refine ze_getR kc_161_86 (by first | assumption | rfl) rfl (by first | assumption | rfl) ?_
              refine ze_iload_n kc_161_89 rfl ?_
              refine ze_iald kc_161_90 (by first | assumption | rfl) (by omega) ?_
              rw [Int.toNat_natCast, zup_ne' (by omega), hf 68 (by omega)]
              refine ze_iast kc_161_91 (by first | assumption | rfl) (by omega) ?_
              rw [show (24 + (k : Int)).toNat = 24 + k by omega]
              refine ze_aload_n kc_161_92 rfl ?_
              refine ze_bipush kc_161_93 ?_
              refine ze_iload_n kc_161_95 rfl ?_
              refine ze_iadd kc_161_96 ?_
              refine ze_aload_n kc_161_97 rfl ?_
              refine ze_getR kc_161_98 (by first | assumption | rfl) rfl (by first | assumption | rfl) ?_
              refine ze_iload_n kc_161_101 rfl ?_
              refine ze_iald kc_161_102 (by first | assumption | rfl) (by omega) ?_
              rw [Int.toNat_natCast, zup_ne' (by omega), zup_ne' (by omega), hf 69 (by omega)]
              refine ze_iast kc_161_103 (by first | assumption | rfl) (by omega) ?_
              rw [show (32 + (k : Int)).toNat = 32 + k by omega]
              refine ze_aload_n kc_161_104 rfl ?_
              refine ze_bipush kc_161_105 ?_
              refine ze_iload_n kc_161_107 rfl ?_
              refine ze_iadd kc_161_108 ?_
              refine ze_aload_n kc_161_109 rfl ?_
              refine ze_getR kc_161_110 (by first | assumption | rfl) rfl (by first | assumption | rfl) ?_
              refine ze_iload_n kc_161_113 rfl ?_
              refine ze_iald kc_161_114 (by first | assumption | rfl) (by omega) ?_
              rw [Int.toNat_natCast, zup_ne' (by omega), zup_ne' (by omega), zup_ne' (by omega), hf 70 (by omega)]
              refine ze_iast kc_161_115 (by first | assumption | rfl) (by omega) ?_
              rw [show (40 + (k : Int)).toNat = 40 + k by omega]
              refine ze_iinc kc_161_116 rfl ?_
              simp only [zset1, zset2, zcut, zf0, zf1, zf2, zf3, List.set_cons_zero, List.set_cons_succ, List.getD_cons_zero, List.getD_cons_succ]
              refine ze_goto kc_161_119 ?_
              refine ih3 _ (by omega) (k + 1) _ _ rfl (by omega) (by omega) (fun a b => by rw [zup_ne' b, zup_ne' b, zup_ne' b, zup_ne' b]; exact hf a b) (fun i hi => by rw [zup_o (by omega), zup_o (by omega), zup_o (by omega), zup_o (by omega)]; exact g1 i hi) (fun i hi => by rw [zup_o (by omega), zup_o (by omega), zup_o (by omega), zup_o (by omega), zup_o (by omega), zup_o (by omega), zup_o (by omega), zup_o (by omega)]; exact g2 i hi) (fun i hi => ?_)
              by_cases q : i = k
              · rw [q]
                exact ⟨by rw [zup_o (by omega), zup_o (by omega), zup_o (by omega), zup_s], by rw [zup_o (by omega), zup_o (by omega), zup_s], by rw [zup_o (by omega), zup_s], by rw [zup_s]⟩
              · obtain ⟨a1, a2, a3, a4⟩ := g3 i (by omega)
                refine ⟨?_, ?_, ?_, ?_⟩
                · rw [zup_o (by omega), zup_o (by omega), zup_o (by omega), zup_o (by omega)]; exact a1
                · rw [zup_o (by omega), zup_o (by omega), zup_o (by omega), zup_o (by omega)]; exact a2
                · rw [zup_o (by omega), zup_o (by omega), zup_o (by omega), zup_o (by omega)]; exact a3
                · rw [zup_o (by omega), zup_o (by omega), zup_o (by omega), zup_o (by omega)]; exact a4
          refine loop62 _ 0 0 Zc rfl (by omega) rfl hf g1 (fun i hi => g2 i (by omega)) (fun i hi => absurd hi (by omega))
        · skip
          refine ze_aload_n kc_161_30 rfl ?_
          refine ze_bipush kc_161_31 ?_
          refine ze_iload_n kc_161_33 rfl ?_
          skip
          refine ze_iadd kc_161_34 ?_
          refine ze_aload_n kc_161_35 rfl ?_
          refine ze_getR kc_161_36 (by first | assumption | rfl) rfl (by first | assumption | rfl) ?_
          refine ze_iload_n kc_161_39 rfl ?_
          refine ze_iald kc_161_40 (by first | assumption | rfl) (by omega) ?_
          rw [Int.toNat_natCast, hf 65 (by omega)]
          refine ze_iast kc_161_41 (by first | assumption | rfl) (by omega) ?_
          rw [show (6 + (k : Int)).toNat = 6 + k by omega]
          refine ze_aload_n kc_161_42 rfl ?_
          refine ze_bipush kc_161_43 ?_
          refine ze_iload_n kc_161_45 rfl ?_
          refine ze_iadd kc_161_46 ?_
          refine ze_aload_n kc_161_47 rfl ?_
          refine ze_getR kc_161_48 (by first | assumption | rfl) rfl (by first | assumption | rfl) ?_
          refine ze_iload_n kc_161_51 rfl ?_
          refine ze_iald kc_161_52 (by first | assumption | rfl) (by omega) ?_
          rw [Int.toNat_natCast, zup_ne' (by omega), hf 66 (by omega)]
          refine ze_iast kc_161_53 (by first | assumption | rfl) (by omega) ?_
          rw [show (11 + (k : Int)).toNat = 11 + k by omega]
          refine ze_iinc kc_161_54 rfl ?_
          simp only [zset1, zset2, zcut, zf0, zf1, zf2, zf3, List.set_cons_zero, List.set_cons_succ, List.getD_cons_zero, List.getD_cons_succ]
          refine ze_goto kc_161_57 ?_
          refine ih2 _ (by omega) (k + 1) _ _ rfl (by omega) (by omega) (fun a b => by rw [zup_ne' b, zup_ne' b]; exact hf a b) (fun i hi => by rw [zup_o (by omega), zup_o (by omega)]; exact g1 i hi) (fun i hi => ?_)
          by_cases q : i = k
          · rw [q]
            exact ⟨by rw [zup_o (by omega), zup_s], by rw [zup_s]⟩
          · rw [zup_o (by omega), zup_o (by omega), zup_o (by omega), zup_o (by omega)]
            exact g2 i (by omega)
      refine loop25 _ 0 0 Zc rfl (by omega) rfl hf (fun i hi => g1 i (by omega)) (fun i hi => absurd hi (by omega))
    · skip
      refine ze_aload_n kc_161_8 rfl ?_
      refine ze_iload_n kc_161_9 rfl ?_
      refine ze_aload_n kc_161_10 rfl ?_
      refine ze_getR kc_161_11 (by first | assumption | rfl) rfl (by first | assumption | rfl) ?_
      refine ze_iload_n kc_161_14 rfl ?_
      refine ze_iald kc_161_15 (by first | assumption | rfl) (by omega) ?_
      rw [Int.toNat_natCast, hf 64 (by omega)]
      refine ze_iast kc_161_16 (by first | assumption | rfl) (by omega) ?_
      rw [Int.toNat_natCast]
      refine ze_iinc kc_161_17 rfl ?_
      simp only [zset1, zset2, zcut, zf0, zf1, zf2, zf3, List.set_cons_zero, List.set_cons_succ, List.getD_cons_zero, List.getD_cons_succ]
      refine ze_goto kc_161_20 ?_
      refine ih1 _ (by omega) (k + 1) _ _ rfl (by omega) (by omega) (fun a b => by rw [zup_ne' b]; exact hf a b) (fun i hi => if q : i = k then (by rw [q, zup_s]) else (by rw [zup_o q]; exact g1 i (by omega)))
  refine loop2 _ 0 0 Z rfl (by omega) rfl (fun _ _ => rfl) (fun i hi => absurd hi (by omega))

set_option maxHeartbeats 8000000 in
theorem m_again {Z : zMem} {Q : Option zAV → zMem → Prop} {fr : Nat} (hT : zTT[fr]? = some (10, 60)) (hto : 71 ≤ fr) (q1 : ∀ (Z' : zMem), (∀ k, k < 63 ∨ 70 < k → Z' k = Z k) → (∀ j, j ≠ 0 → j ≠ 2 → j ≠ 3 → j ≠ 4 → j ≠ 7 → j ≠ 10 → Z' 63 j = Z 63 j) → zAg fr Z Z' → Q none Z') : zE 162 0 (zent 162 [zR 63, zR fr]) [] Z Q := by
  show zE 162 0 [some (zR 63), some (zR fr), none] [] Z Q
  refine ze_iconst kc_162_0 ?_
  refine ze_istore_n kc_162_1 (Nat.le_of_ble_eq_true rfl) ?_
  simp only [zset1, zset2, zcut, zf0, zf1, zf2, zf3, List.set_cons_zero, List.set_cons_succ, List.getD_cons_zero, List.getD_cons_succ]
  have loop2 : ∀ (μ : Nat) (k : Nat) (x : Int) (Zc : zMem), 6 - k = μ → (k ≤ 6) → (x = k) → (∀ k, k < 63 ∨ 70 < k → Zc k = Z k) → (∀ a, a ≠ 64 → Zc a = Z a) → (∀ i, Zc 64 i = if i < k then Z fr i else Z 64 i) → zE 162 2 [some (zR 63), some (zR fr), some (zI x)] [] Zc Q := by
    refine zind ?_
    intro μ1 ih1 k x Zc hm1 hk hx hf h3 g1
    subst hx
    refine ze_iload_n kc_162_2 rfl ?_
    refine ze_bipush kc_162_3 ?_
    refine ze_icmp_ge kc_162_5 (by omega) (by omega) (fun h5 => ?_) (fun h5 => ?_)
    · skip
      refine ze_iconst kc_162_23 ?_
      refine ze_istore_n kc_162_24 (Nat.le_of_ble_eq_true rfl) ?_
      simp only [zset1, zset2, zcut, zf0, zf1, zf2, zf3, List.set_cons_zero, List.set_cons_succ, List.getD_cons_zero, List.getD_cons_succ]
      have loop25 : ∀ (μ : Nat) (k : Nat) (x : Int) (Zc : zMem), 5 - k = μ → (k ≤ 5) → (x = k) → (∀ k, k < 63 ∨ 70 < k → Zc k = Z k) → (∀ a, a ≠ 64 → a ≠ 65 → a ≠ 66 → Zc a = Z a) → (∀ i, Zc 64 i = if i < 6 then Z fr i else Z 64 i) → (∀ i, Zc 65 i = if i < k then Z fr (6 + i) else Z 65 i) → (∀ i, Zc 66 i = if i < k then Z fr (11 + i) else Z 66 i) → zE 162 25 [some (zR 63), some (zR fr), some (zI x)] [] Zc Q := by
        refine zind ?_
        intro μ2 ih2 k x Zc hm2 hk hx hf h3 g1 g2 g3
        subst hx
        refine ze_iload_n kc_162_25 rfl ?_
        refine ze_iconst kc_162_26 ?_
        refine ze_icmp_ge kc_162_27 (by omega) (by omega) (fun h27 => ?_) (fun h27 => ?_)
        · skip
          refine ze_iconst kc_162_60 ?_
          refine ze_istore_n kc_162_61 (Nat.le_of_ble_eq_true rfl) ?_
          simp only [zset1, zset2, zcut, zf0, zf1, zf2, zf3, List.set_cons_zero, List.set_cons_succ, List.getD_cons_zero, List.getD_cons_succ]
          have loop62 : ∀ (μ : Nat) (k : Nat) (x : Int) (Zc : zMem), 8 - k = μ → (k ≤ 8) → (x = k) → (∀ k, k < 63 ∨ 70 < k → Zc k = Z k) → (∀ a, a < 64 ∨ 70 < a → Zc a = Z a) → (∀ i, Zc 64 i = if i < 6 then Z fr i else Z 64 i) → (∀ i, Zc 65 i = if i < 5 then Z fr (6 + i) else Z 65 i) → (∀ i, Zc 66 i = if i < 5 then Z fr (11 + i) else Z 66 i) → (∀ i, Zc 67 i = if i < k then Z fr (16 + i) else Z 67 i) → (∀ i, Zc 68 i = if i < k then Z fr (24 + i) else Z 68 i) → (∀ i, Zc 69 i = if i < k then Z fr (32 + i) else Z 69 i) → (∀ i, Zc 70 i = if i < k then Z fr (40 + i) else Z 70 i) → zE 162 62 [some (zR 63), some (zR fr), some (zI x)] [] Zc Q := by
            refine zind ?_
            intro μ3 ih3 k x Zc hm3 hk hx hf h3 g1 g2 g3 g4 g5 g6 g7
            subst hx
            refine ze_iload_n kc_162_62 rfl ?_
            refine ze_bipush kc_162_63 ?_
            refine ze_icmp_ge kc_162_65 (by omega) (by omega) (fun h65 => ?_) (fun h65 => ?_)
            · skip
              refine ze_aload_n kc_162_122 rfl ?_
              refine ze_aload_n kc_162_123 rfl ?_
              refine ze_bipush kc_162_124 ?_
              refine ze_iald kc_162_126 (by first | assumption | rfl) (by omega) ?_
              rw [hf fr (by omega)]
              refine ze_putI kc_162_127 (by first | assumption | rfl) rfl ?_
              refine ze_aload_n kc_162_130 rfl ?_
              refine ze_aload_n kc_162_131 rfl ?_
              refine ze_bipush kc_162_132 ?_
              refine ze_iald kc_162_134 (by first | assumption | rfl) (by omega) ?_
              rw [zup_ne' (by omega), hf fr (by omega)]
              refine ze_putI kc_162_135 (by first | assumption | rfl) rfl ?_
              refine ze_aload_n kc_162_138 rfl ?_
              refine ze_aload_n kc_162_139 rfl ?_
              refine ze_bipush kc_162_140 ?_
              refine ze_iald kc_162_142 (by first | assumption | rfl) (by omega) ?_
              rw [zup_ne' (by omega), zup_ne' (by omega), hf fr (by omega)]
              refine ze_putI kc_162_143 (by first | assumption | rfl) rfl ?_
              refine ze_aload_n kc_162_146 rfl ?_
              refine ze_aload_n kc_162_147 rfl ?_
              refine ze_bipush kc_162_148 ?_
              refine ze_iald kc_162_150 (by first | assumption | rfl) (by omega) ?_
              rw [zup_ne' (by omega), zup_ne' (by omega), zup_ne' (by omega), hf fr (by omega)]
              refine ze_putI kc_162_151 (by first | assumption | rfl) rfl ?_
              refine ze_aload_n kc_162_154 rfl ?_
              refine ze_aload_n kc_162_155 rfl ?_
              refine ze_bipush kc_162_156 ?_
              refine ze_iald kc_162_158 (by first | assumption | rfl) (by omega) ?_
              rw [zup_ne' (by omega), zup_ne' (by omega), zup_ne' (by omega), zup_ne' (by omega), hf fr (by omega)]
              refine ze_putI kc_162_159 (by first | assumption | rfl) rfl ?_
              refine ze_aload_n kc_162_162 rfl ?_
              refine ze_aload_n kc_162_163 rfl ?_
              refine ze_bipush kc_162_164 ?_
              refine ze_iald kc_162_166 (by first | assumption | rfl) (by omega) ?_
              rw [zup_ne' (by omega), zup_ne' (by omega), zup_ne' (by omega), zup_ne' (by omega), zup_ne' (by omega), hf fr (by omega)]
              refine ze_putI kc_162_167 (by first | assumption | rfl) rfl ?_
              refine ze_return kc_162_170 ?_
              refine q1 _ (fun a b => by rw [zup_ne' (by omega), zup_ne' (by omega), zup_ne' (by omega), zup_ne' (by omega), zup_ne' (by omega), zup_ne' (by omega)]; exact hf a b) (fun j a b d e g i => by rw [zup_o i, zup_o g, zup_o e, zup_o d, zup_o b, zup_o a]; rw [h3 63 (by decide)]) ⟨fun i => ?_, fun i => ?_, fun i => ?_, fun i => ?_, fun i => ?_, fun i => ?_, fun i => ?_, ?_, ?_, ?_, ?_, ?_, ?_⟩
              · rw [zup_ne' (by decide), zup_ne' (by decide), zup_ne' (by decide), zup_ne' (by decide), zup_ne' (by decide), zup_ne' (by decide)]; exact g1 i
              · rw [zup_ne' (by decide), zup_ne' (by decide), zup_ne' (by decide), zup_ne' (by decide), zup_ne' (by decide), zup_ne' (by decide)]; exact g2 i
              · rw [zup_ne' (by decide), zup_ne' (by decide), zup_ne' (by decide), zup_ne' (by decide), zup_ne' (by decide), zup_ne' (by decide)]; exact g3 i
              · rw [zup_ne' (by decide), zup_ne' (by decide), zup_ne' (by decide), zup_ne' (by decide), zup_ne' (by decide), zup_ne' (by decide), show 8 = k by omega]; exact g4 i
              · rw [zup_ne' (by decide), zup_ne' (by decide), zup_ne' (by decide), zup_ne' (by decide), zup_ne' (by decide), zup_ne' (by decide), show 8 = k by omega]; exact g5 i
              · rw [zup_ne' (by decide), zup_ne' (by decide), zup_ne' (by decide), zup_ne' (by decide), zup_ne' (by decide), zup_ne' (by decide), show 8 = k by omega]; exact g6 i
              · rw [zup_ne' (by decide), zup_ne' (by decide), zup_ne' (by decide), zup_ne' (by decide), zup_ne' (by decide), zup_ne' (by decide), show 8 = k by omega]; exact g7 i
              · rw [zup_o (by decide), zup_o (by decide), zup_o (by decide), zup_o (by decide), zup_o (by decide)]; exact zup_s
              · rw [zup_o (by decide), zup_o (by decide), zup_o (by decide), zup_o (by decide)]; exact zup_s
              · rw [zup_o (by decide), zup_o (by decide), zup_o (by decide)]; exact zup_s
              · rw [zup_o (by decide), zup_o (by decide)]; exact zup_s
              · rw [zup_o (by decide)]; exact zup_s
              · exact zup_s
            · skip
              refine ze_aload_n kc_162_68 rfl ?_
              refine ze_getR kc_162_69 (by first | assumption | rfl) rfl (by first | assumption | rfl) ?_
              refine ze_iload_n kc_162_72 rfl ?_
              refine ze_aload_n kc_162_73 rfl ?_
              refine ze_bipush kc_162_74 ?_
              refine ze_iload_n kc_162_76 rfl ?_
              refine ze_iadd kc_162_77 ?_
              refine ze_iald kc_162_78 (by first | assumption | rfl) (by omega) ?_
              rw [show (16 + (k : Int)).toNat = 16 + k by omega, hf fr (by omega)]
              refine ze_iast kc_162_79 (by first | assumption | rfl) (by omega) ?_
              rw [Int.toNat_natCast]
              refine ze_aload_n kc_162_80 rfl ?_
              refine ze_getR kc_162_81 (by first | assumption | rfl) rfl (by first | assumption | rfl) ?_
              refine ze_iload_n kc_162_84 rfl ?_
              refine ze_aload_n kc_162_85 rfl ?_
              refine ze_bipush kc_162_86 ?_
              refine ze_iload_n kc_162_88 rfl ?_
              refine ze_iadd kc_162_89 ?_
              refine ze_iald kc_162_90 (by first | assumption | rfl) (by omega) ?_
              rw [show (24 + (k : Int)).toNat = 24 + k by omega, zup_ne' (by omega), hf fr (by omega)]
              refine ze_iast kc_162_91 (by first | assumption | rfl) (by omega) ?_
              rw [Int.toNat_natCast]
              refine ze_aload_n kc_162_92 rfl ?_
              refine ze_getR kc_162_93 (by first | assumption | rfl) rfl (by first | assumption | rfl) ?_
              refine ze_iload_n kc_162_96 rfl ?_
              refine ze_aload_n kc_162_97 rfl ?_
              refine ze_bipush kc_162_98 ?_
              refine ze_iload_n kc_162_100 rfl ?_
              refine ze_iadd kc_162_101 ?_
              refine ze_iald kc_162_102 (by first | assumption | rfl) (by omega) ?_
              rw [show (32 + (k : Int)).toNat = 32 + k by omega, zup_ne' (by omega), zup_ne' (by omega), hf fr (by omega)]
              refine ze_iast kc_162_103 (by first | assumption | rfl) (by omega) ?_
              rw [Int.toNat_natCast]
              refine ze_aload_n kc_162_104 rfl ?_
              refine ze_getR kc_162_105 (by first | assumption | rfl) rfl (by first | assumption | rfl) ?_
              refine ze_iload_n kc_162_108 rfl ?_
              refine ze_aload_n kc_162_109 rfl ?_
              refine ze_bipush kc_162_110 ?_
              refine ze_iload_n kc_162_112 rfl ?_
              refine ze_iadd kc_162_113 ?_
              refine ze_iald kc_162_114 (by first | assumption | rfl) (by omega) ?_
              rw [show (40 + (k : Int)).toNat = 40 + k by omega, zup_ne' (by omega), zup_ne' (by omega), zup_ne' (by omega), hf fr (by omega)]
              refine ze_iast kc_162_115 (by first | assumption | rfl) (by omega) ?_
              rw [Int.toNat_natCast]
              refine ze_iinc kc_162_116 rfl ?_
              simp only [zset1, zset2, zcut, zf0, zf1, zf2, zf3, List.set_cons_zero, List.set_cons_succ, List.getD_cons_zero, List.getD_cons_succ]
              refine ze_goto kc_162_119 ?_
              refine ih3 _ (by omega) (k + 1) _ _ rfl (by omega) (by omega) (fun a b => by rw [zup_ne' (by omega), zup_ne' (by omega), zup_ne' (by omega), zup_ne' (by omega)]; exact hf a b) (fun a b => by rw [zup_ne' (by omega), zup_ne' (by omega), zup_ne' (by omega), zup_ne' (by omega)]; exact h3 a b) (fun i => by rw [zup_ne' (by decide), zup_ne' (by decide), zup_ne' (by decide), zup_ne' (by decide)]; exact g1 i) (fun i => by rw [zup_ne' (by decide), zup_ne' (by decide), zup_ne' (by decide), zup_ne' (by decide)]; exact g2 i) (fun i => by rw [zup_ne' (by decide), zup_ne' (by decide), zup_ne' (by decide), zup_ne' (by decide)]; exact g3 i) ?_ ?_ ?_ ?_
              · intro i
                rw [zup_ne' (by decide), zup_ne' (by decide), zup_ne' (by decide)]
                by_cases q : i = k
                · rw [q, zup_s, if_pos (by omega)]
                · rw [zup_o q, g4 i]
                  by_cases z : i < k
                  · rw [if_pos z, if_pos (by omega)]
                  · rw [if_neg z, if_neg (by omega)]
              · intro i
                rw [zup_ne' (by decide), zup_ne' (by decide)]
                by_cases q : i = k
                · rw [q, zup_s, if_pos (by omega)]
                · rw [zup_o q, zup_ne' (by decide), g5 i]
                  by_cases z : i < k
                  · rw [if_pos z, if_pos (by omega)]
                  · rw [if_neg z, if_neg (by omega)]
              · intro i
                rw [zup_ne' (by decide)]
                by_cases q : i = k
                · rw [q, zup_s, if_pos (by omega)]
                · rw [zup_o q, zup_ne' (by decide), zup_ne' (by decide), g6 i]
                  by_cases z : i < k
                  · rw [if_pos z, if_pos (by omega)]
                  · rw [if_neg z, if_neg (by omega)]
              · intro i
                by_cases q : i = k
                · rw [q, zup_s, if_pos (by omega)]
                · rw [zup_o q, zup_ne' (by decide), zup_ne' (by decide), zup_ne' (by decide), g7 i]
                  by_cases z : i < k
                  · rw [if_pos z, if_pos (by omega)]
                  · rw [if_neg z, if_neg (by omega)]
          refine loop62 _ 0 0 Zc rfl (by omega) rfl hf (fun a b => h3 a (by omega) (by omega) (by omega)) g1 (by rw [show 5 = k by omega]; exact g2) (by rw [show 5 = k by omega]; exact g3) (fun i => by rw [h3 67 (by decide) (by decide) (by decide)]; exact (if_neg (by omega)).symm) (fun i => by rw [h3 68 (by decide) (by decide) (by decide)]; exact (if_neg (by omega)).symm) (fun i => by rw [h3 69 (by decide) (by decide) (by decide)]; exact (if_neg (by omega)).symm) (fun i => by rw [h3 70 (by decide) (by decide) (by decide)]; exact (if_neg (by omega)).symm)
        · skip
          refine ze_aload_n kc_162_30 rfl ?_
          refine ze_getR kc_162_31 (by first | assumption | rfl) rfl (by first | assumption | rfl) ?_
          refine ze_iload_n kc_162_34 rfl ?_
          refine ze_aload_n kc_162_35 rfl ?_
          refine ze_bipush kc_162_36 ?_
          refine ze_iload_n kc_162_38 rfl ?_
          refine ze_iadd kc_162_39 ?_
          refine ze_iald kc_162_40 (by first | assumption | rfl) (by omega) ?_
          rw [show (6 + (k : Int)).toNat = 6 + k by omega, hf fr (by omega)]
          refine ze_iast kc_162_41 (by first | assumption | rfl) (by omega) ?_
          rw [Int.toNat_natCast]
          refine ze_aload_n kc_162_42 rfl ?_
          refine ze_getR kc_162_43 (by first | assumption | rfl) rfl (by first | assumption | rfl) ?_
          refine ze_iload_n kc_162_46 rfl ?_
          refine ze_aload_n kc_162_47 rfl ?_
          refine ze_bipush kc_162_48 ?_
          refine ze_iload_n kc_162_50 rfl ?_
          refine ze_iadd kc_162_51 ?_
          refine ze_iald kc_162_52 (by first | assumption | rfl) (by omega) ?_
          rw [show (11 + (k : Int)).toNat = 11 + k by omega, zup_ne' (by omega), hf fr (by omega)]
          refine ze_iast kc_162_53 (by first | assumption | rfl) (by omega) ?_
          rw [Int.toNat_natCast]
          refine ze_iinc kc_162_54 rfl ?_
          simp only [zset1, zset2, zcut, zf0, zf1, zf2, zf3, List.set_cons_zero, List.set_cons_succ, List.getD_cons_zero, List.getD_cons_succ]
          refine ze_goto kc_162_57 ?_
          refine ih2 _ (by omega) (k + 1) _ _ rfl (by omega) (by omega) (fun a b => by rw [zup_ne' (by omega), zup_ne' (by omega)]; exact hf a b) (fun a b d e => by rw [zup_ne' e, zup_ne' d]; exact h3 a b d e) (fun i => by rw [zup_ne' (by decide), zup_ne' (by decide)]; exact g1 i) ?_ ?_
          · intro i
            rw [zup_ne' (by decide)]
            by_cases q : i = k
            · rw [q, zup_s, if_pos (by omega)]
            · rw [zup_o q, g2 i]
              by_cases z : i < k
              · rw [if_pos z, if_pos (by omega)]
              · rw [if_neg z, if_neg (by omega)]
          · intro i
            by_cases q : i = k
            · rw [q, zup_s, if_pos (by omega)]
            · rw [zup_o q, zup_ne' (by decide), g3 i]
              by_cases z : i < k
              · rw [if_pos z, if_pos (by omega)]
              · rw [if_neg z, if_neg (by omega)]
      refine loop25 _ 0 0 Zc rfl (by omega) rfl hf (fun a b _ _ => h3 a b) (by rw [show 6 = k by omega]; exact g1) (fun i => by rw [h3 65 (by decide)]; exact (if_neg (by omega)).symm) (fun i => by rw [h3 66 (by decide)]; exact (if_neg (by omega)).symm)
    · skip
      refine ze_aload_n kc_162_8 rfl ?_
      refine ze_getR kc_162_9 (by first | assumption | rfl) rfl (by first | assumption | rfl) ?_
      refine ze_iload_n kc_162_12 rfl ?_
      refine ze_aload_n kc_162_13 rfl ?_
      refine ze_iload_n kc_162_14 rfl ?_
      refine ze_iald kc_162_15 (by first | assumption | rfl) (by omega) ?_
      rw [Int.toNat_natCast, hf fr (by omega)]
      refine ze_iast kc_162_16 (by first | assumption | rfl) (by omega) ?_
      rw [Int.toNat_natCast]
      refine ze_iinc kc_162_17 rfl ?_
      simp only [zset1, zset2, zcut, zf0, zf1, zf2, zf3, List.set_cons_zero, List.set_cons_succ, List.getD_cons_zero, List.getD_cons_succ]
      refine ze_goto kc_162_20 ?_
      refine ih1 _ (by omega) (k + 1) _ _ rfl (by omega) (by omega) (fun a b => by rw [zup_ne' (by omega)]; exact hf a b) (fun a b => by rw [zup_ne' b]; exact h3 a b) (fun i => by
          by_cases q : i = k
          · rw [q, zup_s, if_pos (by omega)]
          · rw [zup_o q, g1 i]
            by_cases z : i < k
            · rw [if_pos z, if_pos (by omega)]
            · rw [if_neg z, if_neg (by omega)])
  refine loop2 _ 0 0 Z rfl (by omega) rfl (fun _ _ => rfl) (fun _ _ => rfl) (fun i => (if_neg (by omega)).symm)
