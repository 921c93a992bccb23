/-! POURING: the plain form -/
set_option maxHeartbeats 4000000 in
theorem m_asF {Z : zMem} {Q : Option zAV → zMem → Prop} {x : Int} (q1 : Q (some (zF (zfC x))) Z) : zE 143 0 (zent 143 [zI x]) [] Z Q := by
  show zE 143 0 [some (zI x)] [] Z Q
  refine ze_iload_n kc_143_0 rfl ?_
  refine ze_i2f kc_143_1 ?_
  refine ze_freturn kc_143_2 ?_
  exact q1

set_option maxHeartbeats 4000000 in
theorem m_greatest {Z : zMem} {Q : Option zAV → zMem → Prop} {n : Nat} {c : Nat → Int} {e ρ : Int} (hM : zMo n c e ρ Z) (q1 : Q (some (zI (zmx c n))) Z) : zE 145 0 (zent 145 [zR 63]) [] Z Q := by
  show zE 145 0 [some (zR 63), none, none] [] Z Q
  have hM0 := hM
  obtain ⟨n0, n6, mc, mr, me, mρ, meR, mρR⟩ := hM
  have msr := zsum_range mr
  have hp6 := zpow6 n6
  refine ze_iconst kc_145_0 ?_
  refine ze_istore_n kc_145_1 (Nat.le_of_ble_eq_true rfl) ?_
  simp only [zset1, zset2, zcut, zf0, zf1, zf2, zf3, List.set_cons_zero, List.set_cons_succ, List.getD_cons_zero, List.getD_cons_succ]
  refine ze_iconst kc_145_2 ?_
  refine ze_istore_n kc_145_3 (Nat.le_of_ble_eq_true rfl) ?_
  simp only [zset1, zset2, zcut, zf0, zf1, zf2, zf3, List.set_cons_zero, List.set_cons_succ, List.getD_cons_zero, List.getD_cons_succ]
  have loop4 : ∀ (μ : Nat) (k : Nat) (x v : Int), n - k = μ → (k ≤ n) → (x = k) → (v = zmx c k) → zE 145 4 [some (zR 63), some (zI v), some (zI x)] [] Z Q := by
    refine zind ?_
    intro μ ih k x v hm hk hx hv
    subst hx
    have hzi := zmx_in mr k hk
    refine ze_iload_n kc_145_4 rfl ?_
    refine ze_aload_n kc_145_5 rfl ?_
    refine ze_getI kc_145_6 rfl (by decide) ?_
    rw [n0]
    refine ze_icmp_ge kc_145_9 (by omega) (by omega) (fun h9 => ?_) (fun h9 => ?_)
    · skip
      refine ze_iload_n kc_145_29 rfl ?_
      refine ze_ireturn kc_145_30 (Or.inl rfl) ?_
      rw [show n = k by omega] at q1
      rw [hv]
      exact q1
    · skip
      refine ze_iload_n kc_145_12 rfl ?_
      refine ze_aload_n kc_145_13 rfl ?_
      refine ze_getR kc_145_14 rfl rfl rfl ?_
      refine ze_iload_n kc_145_17 rfl ?_
      refine ze_iald kc_145_18 rfl (by omega) ?_
      rw [Int.toNat_natCast, mc k (by omega)]
      have hck := mr k (by omega)
      refine zE_calls 2 kc_145_19 rfl rfl (Nat.le_of_ble_eq_true rfl) (Nat.le_of_ble_eq_true rfl) (Nat.le_of_ble_eq_true rfl) rfl ?_
      refine m_maxI (by omega) (by omega) ?_
      simp only [Option.toList_some, Option.toList_none, List.drop_succ_cons, List.drop_zero, List.cons_append, List.nil_append]
      refine ze_istore_n kc_145_22 (Nat.le_of_ble_eq_true rfl) ?_
      simp only [zset1, zset2, zcut, zf0, zf1, zf2, zf3, List.set_cons_zero, List.set_cons_succ, List.getD_cons_zero, List.getD_cons_succ]
      refine ze_iinc kc_145_23 rfl ?_
      simp only [zset1, zset2, zcut, zf0, zf1, zf2, zf3, List.set_cons_zero, List.set_cons_succ, List.getD_cons_zero, List.getD_cons_succ]
      refine ze_goto kc_145_26 ?_
      refine ih _ (by omega) (k + 1) _ _ rfl (by omega) (by omega) (by rw [hv]; rfl)
  refine loop4 _ 0 0 0 rfl (by omega) rfl rfl

set_option maxHeartbeats 4000000 in
theorem m_surfM {Z : zMem} {Q : Option zAV → zMem → Prop} {n : Nat} {c : Nat → Int} {e ρ : Int} (hM : zMo n c e ρ Z) {S : (Nat → UInt32) × UInt32} (hV : zVM n S Z) {r : Int} {i : Nat} (hr : 0 ≤ r ∧ r ≤ 4) (hi : i < n) (ha : (S.1 i).toNat ≤ (zfC (c i)).toNat) (q1 : Q (some (zF (zSf r (zfC (zmx c n)) (zfC (c i)) (S.1 i)))) Z) : zE 144 0 (zent 144 [zR 63, zI r, zI (i : Nat)]) [] Z Q := by
  show zE 144 0 [some (zR 63), some (zI r), some (zI (i : Nat)), none, none] [] Z Q
  have hM0 := hM
  obtain ⟨n0, n6, mc, mr, me, mρ, meR, mρR⟩ := hM
  have msr := zsum_range mr
  have hp6 := zpow6 n6
  have hV0 := hV
  obtain ⟨v2, v5⟩ := hV
  have hgx := zmxC mr
  have hci := zfC_in (mr i hi)
  refine ze_aload_n kc_144_0 rfl ?_
  refine ze_getR kc_144_1 rfl rfl rfl ?_
  refine ze_iload_n kc_144_4 rfl ?_
  refine ze_iald kc_144_5 rfl (by omega) ?_
  rw [Int.toNat_natCast, mc i hi]
  refine zE_calls 1 kc_144_6 rfl rfl (Nat.le_of_ble_eq_true rfl) (Nat.le_of_ble_eq_true rfl) (Nat.le_of_ble_eq_true rfl) rfl ?_
  refine m_asF ?_
  simp only [Option.toList_some, Option.toList_none, List.drop_succ_cons, List.drop_zero, List.cons_append, List.nil_append]
  refine ze_fstore_n kc_144_9 (Nat.le_of_ble_eq_true rfl) ?_
  simp only [zset1, zset2, zcut, zf0, zf1, zf2, zf3, List.set_cons_zero, List.set_cons_succ, List.getD_cons_zero, List.getD_cons_succ]
  refine ze_aload_n kc_144_10 rfl ?_
  refine ze_getR kc_144_11 rfl rfl rfl ?_
  refine ze_iload_n kc_144_14 rfl ?_
  refine ze_fald kc_144_15 rfl (by omega) ?_
  rw [Int.toNat_natCast, v2 i hi, zfr]
  refine ze_fstore kc_144_16 (Nat.le_of_ble_eq_true rfl) ?_
  simp only [zset1, zset2, zcut, zf0, zf1, zf2, zf3, List.set_cons_zero, List.set_cons_succ, List.getD_cons_zero, List.getD_cons_succ]
  refine ze_iload_n kc_144_18 rfl ?_
  by_cases hs0 : r = 0
  · refine ze_tableIn 0 kc_144_19 hs0 (by decide) (by decide) rfl rfl ?_
    refine ze_fload kc_144_48 rfl ?_
    refine ze_freturn kc_144_50 ?_
    rw [show zSf r (zfC (zmx c n)) (zfC (c i)) (S.1 i) = _ from if_pos (by omega)] at q1
    exact q1
  by_cases hs1 : r = 1
  · refine ze_tableIn 1 kc_144_19 hs1 (by decide) (by decide) rfl rfl ?_
    refine ze_fload kc_144_51 rfl ?_
    refine ze_fload_n kc_144_53 rfl ?_
    refine ze_fsub kc_144_54 (zSf_1 hci.2 ha) ?_
    refine ze_freturn kc_144_55 ?_
    rw [show zSf r (zfC (zmx c n)) (zfC (c i)) (S.1 i) = _ from (if_neg (by omega)).trans (if_pos (by omega))] at q1
    exact q1
  by_cases hs2 : r = 2
  · refine ze_tableIn 2 kc_144_19 hs2 (by decide) (by decide) rfl rfl ?_
    refine ze_fload kc_144_56 rfl ?_
    refine ze_fload_n kc_144_58 rfl ?_
    refine ze_fdiv kc_144_59 (zSf_2 hci ha) ?_
    refine ze_freturn kc_144_60 ?_
    rw [show zSf r (zfC (zmx c n)) (zfC (c i)) (S.1 i) = _ from (if_neg (by omega)).trans ((if_neg (by omega)).trans (if_pos (by omega)))] at q1
    exact q1
  by_cases hs3 : r = 3
  · refine ze_tableIn 3 kc_144_19 hs3 (by decide) (by decide) rfl rfl ?_
    refine ze_fconst2 kc_144_61 ?_
    refine ze_fload kc_144_62 rfl ?_
    refine ze_fmul kc_144_64 (zSf_3 hci.2 ha) ?_
    refine ze_fload_n kc_144_65 rfl ?_
    refine ze_fcmp kc_144_66 kc_144_67 (fun h66 => ?_) (fun h66 => ?_)
    · skip
      have hcm := h66
      refine ze_aload_n kc_144_75 rfl ?_
      refine zE_callv 1 kc_144_76 rfl rfl (Nat.le_of_ble_eq_true rfl) (Nat.le_of_ble_eq_true rfl) (Nat.le_of_ble_eq_true rfl) rfl (by decide +kernel) rfl ?_
      refine m_greatest hM0 ?_
      simp only [Option.toList_some, Option.toList_none, List.drop_succ_cons, List.drop_zero, List.cons_append, List.nil_append]
      refine zE_calls 1 kc_144_79 rfl rfl (Nat.le_of_ble_eq_true rfl) (Nat.le_of_ble_eq_true rfl) (Nat.le_of_ble_eq_true rfl) rfl ?_
      refine m_asF ?_
      simp only [Option.toList_some, Option.toList_none, List.drop_succ_cons, List.drop_zero, List.cons_append, List.nil_append]
      refine ze_fload_n kc_144_82 rfl ?_
      refine ze_fload kc_144_83 rfl ?_
      refine ze_fsub kc_144_85 (zSf_4 hci.2 ha) ?_
      refine ze_fsub kc_144_86 (zSf_5 hgx hci.2 ha) ?_
      refine ze_freturn kc_144_87 ?_
      rw [show zSf r (zfC (zmx c n)) (zfC (c i)) (S.1 i) = _ from (if_neg (by omega)).trans ((if_neg (by omega)).trans ((if_neg (by omega)).trans (if_pos (by omega))))] at q1
      first
        | (rw [if_pos hcm] at q1; exact q1)
        | (rw [if_neg (by rw [hcm]; decide)] at q1; exact q1)
    · skip
      have hcm := h66
      refine ze_fload kc_144_70 rfl ?_
      refine ze_goto kc_144_72 ?_
      refine ze_freturn kc_144_87 ?_
      rw [show zSf r (zfC (zmx c n)) (zfC (c i)) (S.1 i) = _ from (if_neg (by omega)).trans ((if_neg (by omega)).trans ((if_neg (by omega)).trans (if_pos (by omega))))] at q1
      first
        | (rw [if_pos hcm] at q1; exact q1)
        | (rw [if_neg (by rw [hcm]; decide)] at q1; exact q1)
  refine ze_tableOut kc_144_19 (by omega) (by omega) rfl ?_
  refine ze_fload kc_144_88 rfl ?_
  refine ze_fload_n kc_144_90 rfl ?_
  refine ze_ldcF kc_144_91 ?_
  refine ze_fmul kc_144_93 (zSf_6 hci.2) ?_
  refine ze_fsub kc_144_94 (zSf_7 hci.2 ha) ?_
  refine ze_freturn kc_144_95 ?_
  rw [show zSf r (zfC (zmx c n)) (zfC (c i)) (S.1 i) = _ from (if_neg (by omega)).trans ((if_neg (by omega)).trans ((if_neg (by omega)).trans (if_neg (by omega))))] at q1
  exact q1

set_option maxHeartbeats 4000000 in
theorem m_lowM {Z : zMem} {Q : Option zAV → zMem → Prop} {n : Nat} {c : Nat → Int} {e ρ : Int} (hM : zMo n c e ρ Z) {S : (Nat → UInt32) × UInt32} (hV : zVM n S Z) {r : Int} (hr : 0 ≤ r ∧ r ≤ 4) (ha : ∀ i, i < n → (S.1 i).toNat ≤ (zfC (c i)).toNat) (q1 : Q (some (zI (zLw r c (zfC (zmx c n)) S.1 n))) Z) : zE 146 0 (zent 146 [zR 63, zI r]) [] Z Q := by
  show zE 146 0 [some (zR 63), some (zI r), none, none] [] Z Q
  have hM0 := hM
  obtain ⟨n0, n6, mc, mr, me, mρ, meR, mρR⟩ := hM
  have msr := zsum_range mr
  have hp6 := zpow6 n6
  have hV0 := hV
  obtain ⟨v2, v5⟩ := hV
  have hgx := zmxC mr
  refine ze_iconst kc_146_0 ?_
  refine ze_istore_n kc_146_1 (Nat.le_of_ble_eq_true rfl) ?_
  simp only [zset1, zset2, zcut, zf0, zf1, zf2, zf3, List.set_cons_zero, List.set_cons_succ, List.getD_cons_zero, List.getD_cons_succ]
  refine ze_iconst kc_146_2 ?_
  refine ze_istore_n kc_146_3 (Nat.le_of_ble_eq_true rfl) ?_
  simp only [zset1, zset2, zcut, zf0, zf1, zf2, zf3, List.set_cons_zero, List.set_cons_succ, List.getD_cons_zero, List.getD_cons_succ]
  have loop4 : ∀ (μ : Nat) (k : Nat) (x lo : Int), n - k = μ → (k ≤ n) → (x = k) → (lo = zLw r c (zfC (zmx c n)) S.1 k) → zE 146 4 [some (zR 63), some (zI r), some (zI lo), some (zI x)] [] Z Q := by
    refine zind ?_
    intro μ ih k x lo hm hk hx hlo
    subst hx
    have hli := zLw_in r c (zfC (zmx c n)) S.1 k
    rw [← hlo] at hli
    refine ze_iload_n kc_146_4 rfl ?_
    refine ze_aload_n kc_146_5 rfl ?_
    refine ze_getI kc_146_6 rfl (by decide) ?_
    rw [n0]
    refine ze_icmp_ge kc_146_9 (by omega) (by omega) (fun h9 => ?_) (fun h9 => ?_)
    · skip
      refine ze_iload_n kc_146_59 rfl ?_
      refine ze_ireturn kc_146_60 (Or.inl rfl) ?_
      have e : zLw r c (zfC (zmx c n)) S.1 n = lo := by rw [hlo, show n = k by omega]
      rw [e] at q1
      exact q1
    · skip
      refine ze_aload_n kc_146_12 rfl ?_
      refine ze_getR kc_146_13 rfl rfl rfl ?_
      refine ze_iload_n kc_146_16 rfl ?_
      refine ze_fald kc_146_17 rfl (by omega) ?_
      rw [Int.toNat_natCast, v2 k (by omega), zfr]
      refine ze_aload_n kc_146_18 rfl ?_
      refine ze_getR kc_146_19 rfl rfl rfl ?_
      refine ze_iload_n kc_146_22 rfl ?_
      refine ze_iald kc_146_23 rfl (by omega) ?_
      rw [Int.toNat_natCast, mc k (by omega)]
      refine zE_calls 1 kc_146_24 rfl rfl (Nat.le_of_ble_eq_true rfl) (Nat.le_of_ble_eq_true rfl) (Nat.le_of_ble_eq_true rfl) rfl ?_
      refine m_asF ?_
      simp only [Option.toList_some, Option.toList_none, List.drop_succ_cons, List.drop_zero, List.cons_append, List.nil_append]
      refine ze_fcmp kc_146_27 kc_146_28 (fun h27 => ?_) (fun h27 => ?_)
      · skip
        refine ze_iinc kc_146_53 rfl ?_
        simp only [zset1, zset2, zcut, zf0, zf1, zf2, zf3, List.set_cons_zero, List.set_cons_succ, List.getD_cons_zero, List.getD_cons_succ]
        refine ze_goto kc_146_56 ?_
        refine ih _ (by omega) (k + 1) _ _ rfl (by omega) (by omega) ?_
        show _ = (if zfc .ge .g (S.1 k) (zfC (c k)) = true then zLw r c (zfC (zmx c n)) S.1 k else if zLw r c (zfC (zmx c n)) S.1 k < 0 then (k : Int) else if zfc .ge .g (zSf r (zfC (zmx c n)) (zfC (c k)) (S.1 k)) (zSf r (zfC (zmx c n)) (zfC (c (zLw r c (zfC (zmx c n)) S.1 k).toNat)) (S.1 (zLw r c (zfC (zmx c n)) S.1 k).toNat)) = true then zLw r c (zfC (zmx c n)) S.1 k else (k : Int))
        rw [← hlo]
        first
          | (rw [if_pos h27])
          | (rw [if_neg (by rw [h27]; decide), if_pos (by omega)])
          | (rw [if_neg (by rw [h27]; decide), if_neg (by omega), Int.toNat_natCast, if_pos h47])
          | (rw [if_neg (by rw [h27]; decide), if_neg (by omega), Int.toNat_natCast, if_neg (by rw [h47]; decide)])
      · skip
        refine ze_iload_n kc_146_31 rfl ?_
        refine ze_if_lt kc_146_32 (by omega) (fun h32 => ?_) (fun h32 => ?_)
        · skip
          refine ze_iload_n kc_146_51 rfl ?_
          refine ze_istore_n kc_146_52 (Nat.le_of_ble_eq_true rfl) ?_
          simp only [zset1, zset2, zcut, zf0, zf1, zf2, zf3, List.set_cons_zero, List.set_cons_succ, List.getD_cons_zero, List.getD_cons_succ]
          refine ze_iinc kc_146_53 rfl ?_
          simp only [zset1, zset2, zcut, zf0, zf1, zf2, zf3, List.set_cons_zero, List.set_cons_succ, List.getD_cons_zero, List.getD_cons_succ]
          refine ze_goto kc_146_56 ?_
          refine ih _ (by omega) (k + 1) _ _ rfl (by omega) (by omega) ?_
          show _ = (if zfc .ge .g (S.1 k) (zfC (c k)) = true then zLw r c (zfC (zmx c n)) S.1 k else if zLw r c (zfC (zmx c n)) S.1 k < 0 then (k : Int) else if zfc .ge .g (zSf r (zfC (zmx c n)) (zfC (c k)) (S.1 k)) (zSf r (zfC (zmx c n)) (zfC (c (zLw r c (zfC (zmx c n)) S.1 k).toNat)) (S.1 (zLw r c (zfC (zmx c n)) S.1 k).toNat)) = true then zLw r c (zfC (zmx c n)) S.1 k else (k : Int))
          rw [← hlo]
          first
            | (rw [if_pos h27])
            | (rw [if_neg (by rw [h27]; decide), if_pos (by omega)])
            | (rw [if_neg (by rw [h27]; decide), if_neg (by omega), Int.toNat_natCast, if_pos h47])
            | (rw [if_neg (by rw [h27]; decide), if_neg (by omega), Int.toNat_natCast, if_neg (by rw [h47]; decide)])
        · skip
          obtain ⟨ν, rfl⟩ := Int.eq_ofNat_of_zero_le (show 0 ≤ lo by omega)
          refine ze_aload_n kc_146_35 rfl ?_
          refine ze_iload_n kc_146_36 rfl ?_
          refine ze_iload_n kc_146_37 rfl ?_
          refine zE_callv 3 kc_146_38 rfl rfl (Nat.le_of_ble_eq_true rfl) (Nat.le_of_ble_eq_true rfl) (Nat.le_of_ble_eq_true rfl) rfl (by decide +kernel) rfl ?_
          refine m_surfM hM0 hV0 hr (by omega) (ha k (by omega)) ?_
          simp only [Option.toList_some, Option.toList_none, List.drop_succ_cons, List.drop_zero, List.cons_append, List.nil_append]
          refine ze_aload_n kc_146_41 rfl ?_
          refine ze_iload_n kc_146_42 rfl ?_
          refine ze_iload_n kc_146_43 rfl ?_
          refine zE_callv 3 kc_146_44 rfl rfl (Nat.le_of_ble_eq_true rfl) (Nat.le_of_ble_eq_true rfl) (Nat.le_of_ble_eq_true rfl) rfl (by decide +kernel) rfl ?_
          refine m_surfM hM0 hV0 hr (by omega) (ha ν (by omega)) ?_
          simp only [Option.toList_some, Option.toList_none, List.drop_succ_cons, List.drop_zero, List.cons_append, List.nil_append]
          refine ze_fcmp kc_146_47 kc_146_48 (fun h47 => ?_) (fun h47 => ?_)
          · skip
            refine ze_iinc kc_146_53 rfl ?_
            simp only [zset1, zset2, zcut, zf0, zf1, zf2, zf3, List.set_cons_zero, List.set_cons_succ, List.getD_cons_zero, List.getD_cons_succ]
            refine ze_goto kc_146_56 ?_
            refine ih _ (by omega) (k + 1) _ _ rfl (by omega) (by omega) ?_
            show _ = (if zfc .ge .g (S.1 k) (zfC (c k)) = true then zLw r c (zfC (zmx c n)) S.1 k else if zLw r c (zfC (zmx c n)) S.1 k < 0 then (k : Int) else if zfc .ge .g (zSf r (zfC (zmx c n)) (zfC (c k)) (S.1 k)) (zSf r (zfC (zmx c n)) (zfC (c (zLw r c (zfC (zmx c n)) S.1 k).toNat)) (S.1 (zLw r c (zfC (zmx c n)) S.1 k).toNat)) = true then zLw r c (zfC (zmx c n)) S.1 k else (k : Int))
            rw [← hlo]
            first
              | (rw [if_pos h27])
              | (rw [if_neg (by rw [h27]; decide), if_pos (by omega)])
              | (rw [if_neg (by rw [h27]; decide), if_neg (by omega), Int.toNat_natCast, if_pos h47])
              | (rw [if_neg (by rw [h27]; decide), if_neg (by omega), Int.toNat_natCast, if_neg (by rw [h47]; decide)])
          · skip
            refine ze_iload_n kc_146_51 rfl ?_
            refine ze_istore_n kc_146_52 (Nat.le_of_ble_eq_true rfl) ?_
            simp only [zset1, zset2, zcut, zf0, zf1, zf2, zf3, List.set_cons_zero, List.set_cons_succ, List.getD_cons_zero, List.getD_cons_succ]
            refine ze_iinc kc_146_53 rfl ?_
            simp only [zset1, zset2, zcut, zf0, zf1, zf2, zf3, List.set_cons_zero, List.set_cons_succ, List.getD_cons_zero, List.getD_cons_succ]
            refine ze_goto kc_146_56 ?_
            refine ih _ (by omega) (k + 1) _ _ rfl (by omega) (by omega) ?_
            show _ = (if zfc .ge .g (S.1 k) (zfC (c k)) = true then zLw r c (zfC (zmx c n)) S.1 k else if zLw r c (zfC (zmx c n)) S.1 k < 0 then (k : Int) else if zfc .ge .g (zSf r (zfC (zmx c n)) (zfC (c k)) (S.1 k)) (zSf r (zfC (zmx c n)) (zfC (c (zLw r c (zfC (zmx c n)) S.1 k).toNat)) (S.1 (zLw r c (zfC (zmx c n)) S.1 k).toNat)) = true then zLw r c (zfC (zmx c n)) S.1 k else (k : Int))
            rw [← hlo]
            first
              | (rw [if_pos h27])
              | (rw [if_neg (by rw [h27]; decide), if_pos (by omega)])
              | (rw [if_neg (by rw [h27]; decide), if_neg (by omega), Int.toNat_natCast, if_pos h47])
              | (rw [if_neg (by rw [h27]; decide), if_neg (by omega), Int.toNat_natCast, if_neg (by rw [h47]; decide)])
  refine loop4 _ 0 0 (-1) rfl (by omega) rfl rfl

set_option maxHeartbeats 8000000 in
theorem m_pours {Z : zMem} {Q : Option zAV → zMem → Prop} {n : Nat} {c : Nat → Int} {e ρ : Int} (hM : zMo n c e ρ Z) {r m : Int} (hr : 0 ≤ r ∧ r ≤ 4) (hm : 1 ≤ m ∧ m ≤ 60) (q1 : ∀ (Z' : zMem), zVM n (zPs n r c (zfC (zmx c n)) (zfD e m) m.toNat) Z' → zFw Z Z' → Q none Z') : zE 147 0 (zent 147 [zR 63, zI r, zI m]) [] Z Q := by
  show zE 147 0 [some (zR 63), some (zI r), some (zI m), none, none, none, none, none] [] Z Q
  have hM0 := hM
  obtain ⟨n0, n6, mc, mr, me, mρ, meR, mρR⟩ := hM
  have msr := zsum_range mr
  have hp6 := zpow6 n6
  have hD := zfD_in meR hm
  have hgx := zmxC mr
  refine ze_aload_n kc_147_0 rfl ?_
  refine ze_getI kc_147_1 rfl (by decide) ?_
  rw [me]
  refine zE_calls 1 kc_147_4 rfl rfl (Nat.le_of_ble_eq_true rfl) (Nat.le_of_ble_eq_true rfl) (Nat.le_of_ble_eq_true rfl) rfl ?_
  refine m_asF ?_
  simp only [Option.toList_some, Option.toList_none, List.drop_succ_cons, List.drop_zero, List.cons_append, List.nil_append]
  refine ze_iload_n kc_147_7 rfl ?_
  refine zE_calls 1 kc_147_8 rfl rfl (Nat.le_of_ble_eq_true rfl) (Nat.le_of_ble_eq_true rfl) (Nat.le_of_ble_eq_true rfl) rfl ?_
  refine m_asF ?_
  simp only [Option.toList_some, Option.toList_none, List.drop_succ_cons, List.drop_zero, List.cons_append, List.nil_append]
  refine ze_fdiv kc_147_11 (zfp_ok (x := zfD e m) (by omega)) ?_
  refine ze_fstore_n kc_147_12 (Nat.le_of_ble_eq_true rfl) ?_
  simp only [zset1, zset2, zcut, zf0, zf1, zf2, zf3, List.set_cons_zero, List.set_cons_succ, List.getD_cons_zero, List.getD_cons_succ]
  refine ze_iconst kc_147_13 ?_
  refine ze_istore kc_147_14 (Nat.le_of_ble_eq_true rfl) ?_
  simp only [zset1, zset2, zcut, zf0, zf1, zf2, zf3, List.set_cons_zero, List.set_cons_succ, List.getD_cons_zero, List.getD_cons_succ]
  have loop16 : ∀ (μ : Nat) (k : Nat) (x : Int) (Zc : zMem) (o5 o6 o7 : Option zAV), 6 - k = μ → (k ≤ 6) → (x = k) → (zFw Z Zc) → (∀ i, i < k → Zc 75 i = (FP.fconst0.toNat : Nat)) → zE 147 16 [some (zR 63), some (zI r), some (zI m), some (zF (zfD e m)), some (zI x), o5, o6, o7] [] Zc Q := by
    refine zind ?_
    intro μ0 ih0 k x Zc o5 o6 o7 hm0 hk hx hf hz
    subst hx
    refine ze_iload kc_147_16 rfl ?_
    refine ze_bipush kc_147_18 ?_
    refine ze_icmp_ge kc_147_20 (by omega) (by omega) (fun h20 => ?_) (fun h20 => ?_)
    · skip
      refine ze_aload_n kc_147_37 rfl ?_
      refine ze_fconst0 kc_147_38 ?_
      refine ze_putF kc_147_39 rfl rfl ?_
      refine ze_iconst kc_147_42 ?_
      refine ze_istore kc_147_43 (Nat.le_of_ble_eq_true rfl) ?_
      simp only [zset1, zset2, zcut, zf0, zf1, zf2, zf3, List.set_cons_zero, List.set_cons_succ, List.getD_cons_zero, List.getD_cons_succ]
      have loop45 : ∀ (μ : Nat) (t : Nat) (x : Int) (Zd : zMem) (o5 o6 o7 : Option zAV), m.toNat - t = μ → ((t : Int) ≤ m) → (x = t) → (zVM n (zPs n r c (zfC (zmx c n)) (zfD e m) t) Zd) → (zFw Z Zd) → zE 147 45 [some (zR 63), some (zI r), some (zI m), some (zF (zfD e m)), some (zI x), o5, o6, o7] [] Zd Q := by
        refine zind ?_
        intro μ2 ih2 t x Zd o5 o6 o7 hm2 ht hx hVt hf2
        subst hx
        have hMt := zMo_w hM0 hf2
        have hPt := zPs_ok (n := n) (r := r) (g := (zfC (zmx c n))) mr hD t (by omega)
        have hVt0 := hVt
        obtain ⟨v2, v5⟩ := hVt0
        have hW1 : t < 60 → zfW (t + 1) < 2139095040 := fun q => zfW_in (by omega)
        have hsd : t < 60 → (FP.fadd (zPs n r c (zfC (zmx c n)) (zfD e m) t).2 (zfD e m)).toNat ≤ zfW (t + 1) := fun q => zfp_spill q hPt.2 (show (zfD e m).toNat ≤ 1157627904 by omega)
        refine ze_iload kc_147_45 rfl ?_
        refine ze_iload_n kc_147_47 rfl ?_
        refine ze_icmp_ge kc_147_48 (by omega) (by omega) (fun h48 => ?_) (fun h48 => ?_)
        · skip
          refine ze_return kc_147_148 ?_
          have et : m.toNat = t := by omega
          rw [et] at q1
          exact q1 _ hVt hf2
        · skip
          refine ze_aload_n kc_147_51 rfl ?_
          refine ze_iload_n kc_147_52 rfl ?_
          refine zE_callv 2 kc_147_53 rfl rfl (Nat.le_of_ble_eq_true rfl) (Nat.le_of_ble_eq_true rfl) (Nat.le_of_ble_eq_true rfl) rfl (by decide +kernel) rfl ?_
          refine m_lowM hMt hVt hr hPt.1 ?_
          simp only [Option.toList_some, Option.toList_none, List.drop_succ_cons, List.drop_zero, List.cons_append, List.nil_append]
          have hli := zLw_in r c (zfC (zmx c n)) (zPs n r c (zfC (zmx c n)) (zfD e m) t).1 n
          have hFl : zPs n r c (zfC (zmx c n)) (zfD e m) (t + 1) = zFl n r c (zfC (zmx c n)) (zfD e m) (zPs n r c (zfC (zmx c n)) (zfD e m) t) := rfl
          unfold zFl at hFl
          generalize zLw r c (zfC (zmx c n)) (zPs n r c (zfC (zmx c n)) (zfD e m) t).1 n = lo at *
          generalize hS : (zPs n r c (zfC (zmx c n)) (zfD e m) t) = S at *
          refine ze_istore kc_147_56 (Nat.le_of_ble_eq_true rfl) ?_
          simp only [zset1, zset2, zcut, zf0, zf1, zf2, zf3, List.set_cons_zero, List.set_cons_succ, List.getD_cons_zero, List.getD_cons_succ]
          refine ze_iload kc_147_58 rfl ?_
          refine ze_if_ge kc_147_60 (by omega) (fun h60 => ?_) (fun h60 => ?_)
          · skip
            obtain ⟨ν, rfl⟩ := Int.eq_ofNat_of_zero_le (show 0 ≤ lo by omega)
            have hν : ν < n := by omega
            have hci := zfC_in (mr ν hν)
            have hai := hPt.1 ν hν
            have hsm := zfp_sum (a := S.1 ν) (d := zfD e m) (by omega) hD
            rw [Int.toNat_natCast] at hFl
            refine ze_aload_n kc_147_76 rfl ?_
            refine ze_getR kc_147_77 rfl rfl rfl ?_
            refine ze_iload kc_147_80 rfl ?_
            skip
            refine ze_iald kc_147_82 rfl (by omega) ?_
            rw [Int.toNat_natCast, hMt.2.2.1 ν hν]
            refine zE_calls 1 kc_147_83 rfl rfl (Nat.le_of_ble_eq_true rfl) (Nat.le_of_ble_eq_true rfl) (Nat.le_of_ble_eq_true rfl) rfl ?_
            refine m_asF ?_
            simp only [Option.toList_some, Option.toList_none, List.drop_succ_cons, List.drop_zero, List.cons_append, List.nil_append]
            refine ze_fstore kc_147_86 (Nat.le_of_ble_eq_true rfl) ?_
            simp only [zset1, zset2, zcut, zf0, zf1, zf2, zf3, List.set_cons_zero, List.set_cons_succ, List.getD_cons_zero, List.getD_cons_succ]
            refine ze_aload_n kc_147_88 rfl ?_
            refine ze_getR kc_147_89 rfl rfl rfl ?_
            refine ze_iload kc_147_92 rfl ?_
            refine ze_fald kc_147_94 rfl (by omega) ?_
            rw [Int.toNat_natCast, v2 ν hν, zfr]
            refine ze_fload_n kc_147_95 rfl ?_
            refine ze_fadd kc_147_96 (zfp_ok (by omega)) ?_
            refine ze_fstore kc_147_97 (Nat.le_of_ble_eq_true rfl) ?_
            simp only [zset1, zset2, zcut, zf0, zf1, zf2, zf3, List.set_cons_zero, List.set_cons_succ, List.getD_cons_zero, List.getD_cons_succ]
            refine ze_fload kc_147_99 rfl ?_
            refine ze_fload kc_147_101 rfl ?_
            refine ze_fcmp kc_147_103 kc_147_104 (fun h103 => ?_) (fun h103 => ?_)
            · skip
              refine ze_aload_n kc_147_133 rfl ?_
              refine ze_getR kc_147_134 rfl rfl rfl ?_
              refine ze_iload kc_147_137 rfl ?_
              refine ze_fload kc_147_139 rfl ?_
              refine ze_fast kc_147_141 rfl (by omega) ?_
              rw [Int.toNat_natCast]
              refine ze_iinc kc_147_142 rfl ?_
              simp only [zset1, zset2, zcut, zf0, zf1, zf2, zf3, List.set_cons_zero, List.set_cons_succ, List.getD_cons_zero, List.getD_cons_succ]
              refine ze_goto kc_147_145 ?_
              refine ih2 _ (by omega) (t + 1) _ _ _ _ _ rfl (by omega) (by omega) ?_ ?_
              · first
                  | (rw [if_pos (by omega)] at hFl
                     rw [hFl]
                     exact ⟨fun i hi => by rw [zup_ne' (by decide)]; exact v2 i hi, zup_s⟩)
                  | (rw [if_neg (by omega), if_pos h103] at hFl
                     rw [hFl]
                     refine ⟨fun i hi => ?_, by rw [zup_ne' (by decide)]; exact v5⟩
                     show _ = (((if i = ν then FP.fadd (S.1 ν) (zfD e m) else S.1 i) : UInt32).toNat : Int)
                     by_cases q : i = ν
                     · rw [q, zup_s, if_pos rfl]
                     · rw [zup_o q, if_neg q]; exact v2 i hi)
                  | (rw [if_neg (by omega), if_neg (by rw [h103]; decide)] at hFl
                     rw [hFl]
                     refine ⟨fun i hi => ?_, zup_s⟩
                     rw [zup_ne' (by decide)]
                     show _ = (((if i = ν then zfC (c ν) else S.1 i) : UInt32).toNat : Int)
                     by_cases q : i = ν
                     · rw [q, zup_s, if_pos rfl]
                     · rw [zup_o q, if_neg q]; exact v2 i hi)
              · first
                  | exact ⟨fun a b d => by rw [zup_ne' b]; exact hf2.1 a b d, fun j a => by rw [zup_o a]; exact hf2.2 j a⟩
                  | exact ⟨fun a b d => by rw [zup_ne' d]; exact hf2.1 a b d, fun j a => by rw [zup_ne' (by decide)]; exact hf2.2 j a⟩
                  | exact ⟨fun a b d => by rw [zup_ne' b, zup_ne' d]; exact hf2.1 a b d, fun j a => by rw [zup_o a, zup_ne' (by decide)]; exact hf2.2 j a⟩
            · skip
              rw [zfc_le (by omega) (by omega)] at h103
              have h103b := of_decide_eq_false h103
              have hsb := zfp_sub (x := FP.fadd (S.1 ν) (zfD e m)) (y := zfC (c ν)) (by omega) (by omega)
              have hss := zfp_spill (show t < 60 by omega) hPt.2 (Nat.le_trans hsb hsm)
              rw [← zfc_le (x := FP.fadd (S.1 ν) (zfD e m)) (w := zfC (c ν)) (by omega) (by omega)] at h103
              refine ze_aload_n kc_147_107 rfl ?_
              refine ze_getR kc_147_108 rfl rfl rfl ?_
              refine ze_iload kc_147_111 rfl ?_
              refine ze_fload kc_147_113 rfl ?_
              refine ze_fast kc_147_115 rfl (by omega) ?_
              rw [Int.toNat_natCast]
              refine ze_aload_n kc_147_116 rfl ?_
              refine ze_aload_n kc_147_117 rfl ?_
              refine ze_getF kc_147_118 rfl rfl ?_
              rw [zup_ne' (by decide), v5, zfr]
              refine ze_fload kc_147_121 rfl ?_
              refine ze_fload kc_147_123 rfl ?_
              refine ze_fsub kc_147_125 (zfp_ok (by omega)) ?_
              refine ze_fadd kc_147_126 (zfp_ok (by omega)) ?_
              refine ze_putF kc_147_127 rfl rfl ?_
              refine ze_goto kc_147_130 ?_
              refine ze_iinc kc_147_142 rfl ?_
              simp only [zset1, zset2, zcut, zf0, zf1, zf2, zf3, List.set_cons_zero, List.set_cons_succ, List.getD_cons_zero, List.getD_cons_succ]
              refine ze_goto kc_147_145 ?_
              refine ih2 _ (by omega) (t + 1) _ _ _ _ _ rfl (by omega) (by omega) ?_ ?_
              · first
                  | (rw [if_pos (by omega)] at hFl
                     rw [hFl]
                     exact ⟨fun i hi => by rw [zup_ne' (by decide)]; exact v2 i hi, zup_s⟩)
                  | (rw [if_neg (by omega), if_pos h103] at hFl
                     rw [hFl]
                     refine ⟨fun i hi => ?_, by rw [zup_ne' (by decide)]; exact v5⟩
                     show _ = (((if i = ν then FP.fadd (S.1 ν) (zfD e m) else S.1 i) : UInt32).toNat : Int)
                     by_cases q : i = ν
                     · rw [q, zup_s, if_pos rfl]
                     · rw [zup_o q, if_neg q]; exact v2 i hi)
                  | (rw [if_neg (by omega), if_neg (by rw [h103]; decide)] at hFl
                     rw [hFl]
                     refine ⟨fun i hi => ?_, zup_s⟩
                     rw [zup_ne' (by decide)]
                     show _ = (((if i = ν then zfC (c ν) else S.1 i) : UInt32).toNat : Int)
                     by_cases q : i = ν
                     · rw [q, zup_s, if_pos rfl]
                     · rw [zup_o q, if_neg q]; exact v2 i hi)
              · first
                  | exact ⟨fun a b d => by rw [zup_ne' b]; exact hf2.1 a b d, fun j a => by rw [zup_o a]; exact hf2.2 j a⟩
                  | exact ⟨fun a b d => by rw [zup_ne' d]; exact hf2.1 a b d, fun j a => by rw [zup_ne' (by decide)]; exact hf2.2 j a⟩
                  | exact ⟨fun a b d => by rw [zup_ne' b, zup_ne' d]; exact hf2.1 a b d, fun j a => by rw [zup_o a, zup_ne' (by decide)]; exact hf2.2 j a⟩
          · skip
            refine ze_aload_n kc_147_63 rfl ?_
            refine ze_aload_n kc_147_64 rfl ?_
            refine ze_getF kc_147_65 rfl rfl ?_
            rw [v5, zfr]
            refine ze_fload_n kc_147_68 rfl ?_
            refine ze_fadd kc_147_69 (zfp_ok (by omega)) ?_
            refine ze_putF kc_147_70 rfl rfl ?_
            refine ze_goto kc_147_73 ?_
            refine ze_iinc kc_147_142 rfl ?_
            simp only [zset1, zset2, zcut, zf0, zf1, zf2, zf3, List.set_cons_zero, List.set_cons_succ, List.getD_cons_zero, List.getD_cons_succ]
            refine ze_goto kc_147_145 ?_
            refine ih2 _ (by omega) (t + 1) _ _ _ _ _ rfl (by omega) (by omega) ?_ ?_
            · first
                | (rw [if_pos (by omega)] at hFl
                   rw [hFl]
                   exact ⟨fun i hi => by rw [zup_ne' (by decide)]; exact v2 i hi, zup_s⟩)
                | (rw [if_neg (by omega), if_pos h103] at hFl
                   rw [hFl]
                   refine ⟨fun i hi => ?_, by rw [zup_ne' (by decide)]; exact v5⟩
                   show _ = (((if i = ν then FP.fadd (S.1 ν) (zfD e m) else S.1 i) : UInt32).toNat : Int)
                   by_cases q : i = ν
                   · rw [q, zup_s, if_pos rfl]
                   · rw [zup_o q, if_neg q]; exact v2 i hi)
                | (rw [if_neg (by omega), if_neg (by rw [h103]; decide)] at hFl
                   rw [hFl]
                   refine ⟨fun i hi => ?_, zup_s⟩
                   rw [zup_ne' (by decide)]
                   show _ = (((if i = ν then zfC (c ν) else S.1 i) : UInt32).toNat : Int)
                   by_cases q : i = ν
                   · rw [q, zup_s, if_pos rfl]
                   · rw [zup_o q, if_neg q]; exact v2 i hi)
            · first
                | exact ⟨fun a b d => by rw [zup_ne' b]; exact hf2.1 a b d, fun j a => by rw [zup_o a]; exact hf2.2 j a⟩
                | exact ⟨fun a b d => by rw [zup_ne' d]; exact hf2.1 a b d, fun j a => by rw [zup_ne' (by decide)]; exact hf2.2 j a⟩
                | exact ⟨fun a b d => by rw [zup_ne' b, zup_ne' d]; exact hf2.1 a b d, fun j a => by rw [zup_o a, zup_ne' (by decide)]; exact hf2.2 j a⟩
      refine loop45 _ 0 0 _ _ _ _ rfl (by omega) rfl ⟨fun i hi => by rw [zup_ne' (by decide)]; exact hz i (by omega), zup_s⟩ ⟨fun a b d => by rw [zup_ne' b]; exact hf.1 a b d, fun j a => by rw [zup_o a]; exact hf.2 j a⟩
    · skip
      refine ze_aload_n kc_147_23 rfl ?_
      refine ze_getR kc_147_24 rfl rfl rfl ?_
      refine ze_iload kc_147_27 rfl ?_
      refine ze_fconst0 kc_147_29 ?_
      refine ze_fast kc_147_30 rfl (by omega) ?_
      rw [Int.toNat_natCast]
      refine ze_iinc kc_147_31 rfl ?_
      simp only [zset1, zset2, zcut, zf0, zf1, zf2, zf3, List.set_cons_zero, List.set_cons_succ, List.getD_cons_zero, List.getD_cons_succ]
      refine ze_goto kc_147_34 ?_
      refine ih0 _ (by omega) (k + 1) _ _ _ _ _ rfl (by omega) (by omega) ⟨fun a b d => by rw [zup_ne' d]; exact hf.1 a b d, fun j a => by rw [zup_ne' (by decide)]; exact hf.2 j a⟩ (fun i hi => if q : i = k then (by rw [q, zup_s]) else (by rw [zup_o q]; exact hz i (by omega)))
  refine loop16 _ 0 0 _ none none none rfl (by omega) rfl zFw_refl (fun i hi => absurd hi (by omega))
