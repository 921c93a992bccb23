/-! POURING: the class -/
set_option maxHeartbeats 8000000 in
theorem m_empty {Z : zMem} {Q : Option zAV → zMem → Prop} {n : Nat} {c : Nat → Int} (hG : zG 2 n c Z) (q1 : ∀ (Z' : zMem), zVX n c (fun _ => FP.fconst0, FP.fconst0) Z' → zFv Z Z' → Q none Z') : zE 37 0 (zent 37 [zR 17, zR 2]) [] Z Q := by
  show zE 37 0 [some (zR 17), some (zR 2), none] [] Z Q
  obtain ⟨h1, h2, h3, h4, h5, h6, h7, h8⟩ := hG
  refine ze_aload_n kc_37_0 rfl ?_
  refine ze_aload_n kc_37_1 rfl ?_
  refine ze_getI kc_37_2 rfl (by decide) ?_
  rw [h2]
  refine ze_putI kc_37_5 rfl rfl ?_
  refine ze_aload_n kc_37_8 rfl ?_
  refine ze_fconst0 kc_37_9 ?_
  refine ze_putF kc_37_10 rfl rfl ?_
  refine ze_aload_n kc_37_13 rfl ?_
  refine ze_fconst0 kc_37_14 ?_
  refine ze_putF kc_37_15 rfl rfl ?_
  refine ze_iconst kc_37_18 ?_
  refine ze_istore_n kc_37_19 (Nat.le_of_ble_eq_true rfl) ?_
  simp only [zset1, zset2, zcut, zf0, zf1, zf2, zf3, List.set_cons_zero, List.set_cons_succ, List.getD_cons_zero, List.getD_cons_succ]
  have loop20 : ∀ (μ : Nat) (k : Nat) (x : Int) (Zc : zMem), n - k = μ → (k ≤ n) → (x = k) → (zFv Z Zc) → (Zc 17 3 = n) → (Zc 17 2 = ((zfC (zmx c k)).toNat : Nat)) → (Zc 17 4 = (FP.fconst0.toNat : Nat)) → (∀ i, i < k → Zc 18 i = (FP.fconst0.toNat : Nat)) → (∀ i, i < k → Zc 19 i = ((zfC (c i)).toNat : Nat)) → zE 37 20 [some (zR 17), some (zR 2), some (zI x)] [] Zc Q := by
    refine zind ?_
    intro μ ih k x Zc hm hk hx hf i1 i2 i3 i4 i5
    subst hx
    refine ze_iload_n kc_37_20 rfl ?_
    refine ze_aload_n kc_37_21 rfl ?_
    refine ze_getI kc_37_22 rfl (by decide) ?_
    rw [i1]
    refine ze_icmp_ge kc_37_25 (by omega) (by omega) (fun h25 => ?_) (fun h25 => ?_)
    · skip
      refine ze_return kc_37_85 ?_
      have ek : k = n := by omega
      subst ek
      exact q1 _ ⟨i1, i4, i5, i2, i3⟩ hf
    · skip
      refine ze_aload_n kc_37_28 rfl ?_
      refine ze_getR kc_37_29 rfl rfl rfl ?_
      refine ze_iload_n kc_37_32 rfl ?_
      refine ze_fconst0 kc_37_33 ?_
      refine ze_fast kc_37_34 rfl (by omega) ?_
      rw [Int.toNat_natCast]
      refine ze_aload_n kc_37_35 rfl ?_
      refine ze_getR kc_37_36 rfl rfl rfl ?_
      refine ze_iload_n kc_37_39 rfl ?_
      refine ze_aload_n kc_37_40 rfl ?_
      refine ze_getR kc_37_41 rfl rfl rfl ?_
      refine ze_iload_n kc_37_44 rfl ?_
      refine ze_iald kc_37_45 rfl (by omega) ?_
      rw [Int.toNat_natCast, zup_ne' (by decide), hf 3 (by decide) (by decide) (by decide), h3 k (by omega)]
      refine ze_i2f kc_37_46 ?_
      refine ze_fast kc_37_47 rfl (by omega) ?_
      rw [Int.toNat_natCast]
      refine ze_aload_n kc_37_48 rfl ?_
      refine ze_aload_n kc_37_49 rfl ?_
      refine ze_getR kc_37_50 rfl rfl rfl ?_
      refine ze_iload_n kc_37_53 rfl ?_
      refine ze_fald kc_37_54 rfl (by omega) ?_
      rw [Int.toNat_natCast, zup_s, zfr]
      refine ze_aload_n kc_37_55 rfl ?_
      refine ze_getF kc_37_56 rfl rfl ?_
      rw [zup_ne' (by decide), zup_ne' (by decide), i2, zfr]
      refine ze_fcmp kc_37_59 kc_37_60 (fun h59 => ?_) (fun h59 => ?_)
      · skip
        refine ze_aload_n kc_37_72 rfl ?_
        refine ze_getF kc_37_73 rfl rfl ?_
        first
          | rw [zup_ne' (by decide), zup_ne' (by decide), i2, zfr]
          | skip
        refine ze_putF kc_37_76 rfl rfl ?_
        refine ze_iinc kc_37_79 rfl ?_
        simp only [zset1, zset2, zcut, zf0, zf1, zf2, zf3, List.set_cons_zero, List.set_cons_succ, List.getD_cons_zero, List.getD_cons_succ]
        refine ze_goto kc_37_82 ?_
        refine ih _ (by omega) (k + 1) _ _ rfl (by omega) (by omega) (fun j a b d => by rw [zup_ne' a, zup_ne' d, zup_ne' b]; exact hf j a b d) (by rw [zup_o (by decide), zup_ne' (by decide), zup_ne' (by decide)]; exact i1) ?_ (by rw [zup_o (by decide), zup_ne' (by decide), zup_ne' (by decide)]; exact i3) (fun i hi => ?_) (fun i hi => ?_)
        · rw [zup_s]
          first
            | rw [(zmx_s h4 (show k < n by omega)).1 h59]
            | (rw [(zmx_s h4 (show k < n by omega)).2 h59]; rfl)
        · rw [zup_ne' (by decide), zup_ne' (by decide)]
          by_cases q : i = k
          · rw [q, zup_s]
          · rw [zup_o q]; exact i4 i (by omega)
        · rw [zup_ne' (by decide)]
          by_cases q : i = k
          · rw [q, zup_s]; rfl
          · rw [zup_o q, zup_ne' (by decide)]; exact i5 i (by omega)
      · skip
        refine ze_aload_n kc_37_63 rfl ?_
        refine ze_getR kc_37_64 rfl rfl rfl ?_
        refine ze_iload_n kc_37_67 rfl ?_
        refine ze_fald kc_37_68 rfl (by omega) ?_
        rw [Int.toNat_natCast, zup_s, zfr]
        refine ze_goto kc_37_69 ?_
        first
          | rw [zup_ne' (by decide), zup_ne' (by decide), i2, zfr]
          | skip
        refine ze_putF kc_37_76 rfl rfl ?_
        refine ze_iinc kc_37_79 rfl ?_
        simp only [zset1, zset2, zcut, zf0, zf1, zf2, zf3, List.set_cons_zero, List.set_cons_succ, List.getD_cons_zero, List.getD_cons_succ]
        refine ze_goto kc_37_82 ?_
        refine ih _ (by omega) (k + 1) _ _ rfl (by omega) (by omega) (fun j a b d => by rw [zup_ne' a, zup_ne' d, zup_ne' b]; exact hf j a b d) (by rw [zup_o (by decide), zup_ne' (by decide), zup_ne' (by decide)]; exact i1) ?_ (by rw [zup_o (by decide), zup_ne' (by decide), zup_ne' (by decide)]; exact i3) (fun i hi => ?_) (fun i hi => ?_)
        · rw [zup_s]
          first
            | rw [(zmx_s h4 (show k < n by omega)).1 h59]
            | (rw [(zmx_s h4 (show k < n by omega)).2 h59]; rfl)
        · rw [zup_ne' (by decide), zup_ne' (by decide)]
          by_cases q : i = k
          · rw [q, zup_s]
          · rw [zup_o q]; exact i4 i (by omega)
        · rw [zup_ne' (by decide)]
          by_cases q : i = k
          · rw [q, zup_s]; rfl
          · rw [zup_o q, zup_ne' (by decide)]; exact i5 i (by omega)
  refine loop20 _ 0 0 _ rfl (by omega) rfl (fun k a b d => by rw [zup_ne' a, zup_ne' a, zup_ne' a]) (by rw [zup_o (by decide), zup_o (by decide), zup_s]) (by rw [zup_s]; exact (congrArg (fun m : Nat => (m : Int)) zfC_0).symm) (by rw [zup_o (by decide), zup_s]) (fun i hi => absurd hi (by omega)) (fun i hi => absurd hi (by omega))

set_option maxHeartbeats 4000000 in
theorem m_surfX {Z : zMem} {Q : Option zAV → zMem → Prop} {n : Nat} {c : Nat → Int} {S : (Nat → UInt32) × UInt32} (hV : zVX n c S Z) (n6 : n ≤ 6) (hc : ∀ i, i < n → 1 ≤ c i ∧ c i ≤ 60) {r : Int} {i : Nat} (hr : 0 ≤ r ∧ r ≤ 4) (hi : i < n) (ha : (S.1 i).toNat ≤ (zfC (c i)).toNat) (q1 : Q (some (zF (zSf r (zfC (zmx c n)) (zfC (c i)) (S.1 i)))) Z) : zE 40 0 (zent 40 [zR 17, zI r, zI (i : Nat)]) [] Z Q := by
  show zE 40 0 [some (zR 17), some (zI r), some (zI (i : Nat)), none] [] Z Q
  have hV0 := hV
  obtain ⟨v1, v2, v3, v4, v5⟩ := hV
  have hgx := zmxC hc
  have hci := zfC_in (hc i hi)
  refine ze_aload_n kc_40_0 rfl ?_
  refine ze_getR kc_40_1 rfl rfl rfl ?_
  refine ze_iload_n kc_40_4 rfl ?_
  refine ze_fald kc_40_5 rfl (by omega) ?_
  rw [Int.toNat_natCast, v2 i hi, zfr]
  refine ze_fstore_n kc_40_6 (Nat.le_of_ble_eq_true rfl) ?_
  simp only [zset1, zset2, zcut, zf0, zf1, zf2, zf3, List.set_cons_zero, List.set_cons_succ, List.getD_cons_zero, List.getD_cons_succ]
  refine ze_iload_n kc_40_7 rfl ?_
  by_cases hs0 : r = 0
  · refine ze_tableIn 0 kc_40_8 hs0 (by decide) (by decide) rfl rfl ?_
    refine ze_fload_n kc_40_40 rfl ?_
    refine ze_freturn kc_40_41 ?_
    rw [show zSf r (zfC (zmx c n)) (zfC (c i)) (S.1 i) = _ from if_pos (by omega)] at q1
    exact q1
  by_cases hs1 : r = 1
  · refine ze_tableIn 1 kc_40_8 hs1 (by decide) (by decide) rfl rfl ?_
    refine ze_fload_n kc_40_42 rfl ?_
    refine ze_aload_n kc_40_43 rfl ?_
    refine ze_getR kc_40_44 rfl rfl rfl ?_
    refine ze_iload_n kc_40_47 rfl ?_
    refine ze_fald kc_40_48 rfl (by omega) ?_
    rw [Int.toNat_natCast, v3 i hi, zfr]
    refine ze_fsub kc_40_49 (zSf_1 hci.2 ha) ?_
    refine ze_freturn kc_40_50 ?_
    rw [show zSf r (zfC (zmx c n)) (zfC (c i)) (S.1 i) = _ from (if_neg (by omega)).trans (if_pos (by omega))] at q1
    exact q1
  by_cases hs2 : r = 2
  · refine ze_tableIn 2 kc_40_8 hs2 (by decide) (by decide) rfl rfl ?_
    refine ze_fload_n kc_40_51 rfl ?_
    refine ze_aload_n kc_40_52 rfl ?_
    refine ze_getR kc_40_53 rfl rfl rfl ?_
    refine ze_iload_n kc_40_56 rfl ?_
    refine ze_fald kc_40_57 rfl (by omega) ?_
    rw [Int.toNat_natCast, v3 i hi, zfr]
    refine ze_fdiv kc_40_58 (zSf_2 hci ha) ?_
    refine ze_freturn kc_40_59 ?_
    rw [show zSf r (zfC (zmx c n)) (zfC (c i)) (S.1 i) = _ from (if_neg (by omega)).trans ((if_neg (by omega)).trans (if_pos (by omega)))] at q1
    exact q1
  by_cases hs3 : r = 3
  · refine ze_tableIn 3 kc_40_8 hs3 (by decide) (by decide) rfl rfl ?_
    refine ze_fconst2 kc_40_60 ?_
    refine ze_fload_n kc_40_61 rfl ?_
    refine ze_fmul kc_40_62 (zSf_3 hci.2 ha) ?_
    refine ze_aload_n kc_40_63 rfl ?_
    refine ze_getR kc_40_64 rfl rfl rfl ?_
    refine ze_iload_n kc_40_67 rfl ?_
    refine ze_fald kc_40_68 rfl (by omega) ?_
    rw [Int.toNat_natCast, v3 i hi, zfr]
    refine ze_fcmp kc_40_69 kc_40_70 (fun h69 => ?_) (fun h69 => ?_)
    · skip
      have hcm := h69
      refine ze_aload_n kc_40_77 rfl ?_
      refine ze_getF kc_40_78 rfl rfl ?_
      rw [v4, zfr]
      refine ze_aload_n kc_40_81 rfl ?_
      refine ze_getR kc_40_82 rfl rfl rfl ?_
      refine ze_iload_n kc_40_85 rfl ?_
      refine ze_fald kc_40_86 rfl (by omega) ?_
      rw [Int.toNat_natCast, v3 i hi, zfr]
      refine ze_fload_n kc_40_87 rfl ?_
      refine ze_fsub kc_40_88 (zSf_4 hci.2 ha) ?_
      refine ze_fsub kc_40_89 (zSf_5 hgx hci.2 ha) ?_
      refine ze_freturn kc_40_90 ?_
      rw [show zSf r (zfC (zmx c n)) (zfC (c i)) (S.1 i) = _ from (if_neg (by omega)).trans ((if_neg (by omega)).trans ((if_neg (by omega)).trans (if_pos (by omega))))] at q1
      first
        | (rw [if_pos hcm] at q1; exact q1)
        | (rw [if_neg (by rw [hcm]; decide)] at q1; exact q1)
    · skip
      have hcm := h69
      refine ze_fload_n kc_40_73 rfl ?_
      refine ze_goto kc_40_74 ?_
      refine ze_freturn kc_40_90 ?_
      rw [show zSf r (zfC (zmx c n)) (zfC (c i)) (S.1 i) = _ from (if_neg (by omega)).trans ((if_neg (by omega)).trans ((if_neg (by omega)).trans (if_pos (by omega))))] at q1
      first
        | (rw [if_pos hcm] at q1; exact q1)
        | (rw [if_neg (by rw [hcm]; decide)] at q1; exact q1)
  refine ze_tableOut kc_40_8 (by omega) (by omega) rfl ?_
  refine ze_fload_n kc_40_91 rfl ?_
  refine ze_aload_n kc_40_92 rfl ?_
  refine ze_getR kc_40_93 rfl rfl rfl ?_
  refine ze_iload_n kc_40_96 rfl ?_
  refine ze_fald kc_40_97 rfl (by omega) ?_
  rw [Int.toNat_natCast, v3 i hi, zfr]
  refine ze_ldcF kc_40_98 ?_
  refine ze_fmul kc_40_100 (zSf_6 hci.2) ?_
  refine ze_fsub kc_40_101 (zSf_7 hci.2 ha) ?_
  refine ze_freturn kc_40_102 ?_
  rw [show zSf r (zfC (zmx c n)) (zfC (c i)) (S.1 i) = _ from (if_neg (by omega)).trans ((if_neg (by omega)).trans ((if_neg (by omega)).trans (if_neg (by omega))))] at q1
  exact q1

set_option maxHeartbeats 4000000 in
theorem m_lowX {Z : zMem} {Q : Option zAV → zMem → Prop} {n : Nat} {c : Nat → Int} {S : (Nat → UInt32) × UInt32} (hV : zVX n c S Z) (n6 : n ≤ 6) (hc : ∀ i, i < n → 1 ≤ c i ∧ c i ≤ 60) {r : Int} (hr : 0 ≤ r ∧ r ≤ 4) (ha : ∀ i, i < n → (S.1 i).toNat ≤ (zfC (c i)).toNat) (q1 : Q (some (zI (zLw r c (zfC (zmx c n)) S.1 n))) Z) : zE 39 0 (zent 39 [zR 17, zI r]) [] Z Q := by
  show zE 39 0 [some (zR 17), some (zI r), none, none, none, none] [] Z Q
  have hV0 := hV
  obtain ⟨v1, v2, v3, v4, v5⟩ := hV
  have hgx := zmxC hc
  refine ze_iconst kc_39_0 ?_
  refine ze_istore_n kc_39_1 (Nat.le_of_ble_eq_true rfl) ?_
  simp only [zset1, zset2, zcut, zf0, zf1, zf2, zf3, List.set_cons_zero, List.set_cons_succ, List.getD_cons_zero, List.getD_cons_succ]
  refine ze_fconst0 kc_39_2 ?_
  refine ze_fstore_n kc_39_3 (Nat.le_of_ble_eq_true rfl) ?_
  simp only [zset1, zset2, zcut, zf0, zf1, zf2, zf3, List.set_cons_zero, List.set_cons_succ, List.getD_cons_zero, List.getD_cons_succ]
  refine ze_iconst kc_39_4 ?_
  refine ze_istore kc_39_5 (Nat.le_of_ble_eq_true rfl) ?_
  simp only [zset1, zset2, zcut, zf0, zf1, zf2, zf3, List.set_cons_zero, List.set_cons_succ, List.getD_cons_zero, List.getD_cons_succ]
  have loop7 : ∀ (μ : Nat) (k : Nat) (x lo : Int) (le : UInt32) (o5 : Option zAV), n - k = μ → (k ≤ n) → (x = k) → (lo = zLw r c (zfC (zmx c n)) S.1 k) → (0 ≤ lo → le = zSf r (zfC (zmx c n)) (zfC (c lo.toNat)) (S.1 lo.toNat)) → zE 39 7 [some (zR 17), some (zI r), some (zI lo), some (zF le), some (zI x), o5] [] Z Q := by
    refine zind ?_
    intro μ ih k x lo le o5 hm hk hx hlo hle
    subst hx
    have hli := zLw_in r c (zfC (zmx c n)) S.1 k
    rw [← hlo] at hli
    refine ze_iload kc_39_7 rfl ?_
    refine ze_aload_n kc_39_9 rfl ?_
    refine ze_getI kc_39_10 rfl (by decide) ?_
    rw [v1]
    refine ze_icmp_ge kc_39_13 (by omega) (by omega) (fun h13 => ?_) (fun h13 => ?_)
    · skip
      refine ze_iload_n kc_39_66 rfl ?_
      refine ze_ireturn kc_39_67 (Or.inl rfl) ?_
      have e : zLw r c (zfC (zmx c n)) S.1 n = lo := by rw [hlo, show n = k by omega]
      rw [e] at q1
      exact q1
    · skip
      refine ze_aload_n kc_39_16 rfl ?_
      refine ze_getR kc_39_17 rfl rfl rfl ?_
      refine ze_iload kc_39_20 rfl ?_
      refine ze_fald kc_39_22 rfl (by omega) ?_
      rw [Int.toNat_natCast, v2 k (by omega), zfr]
      refine ze_aload_n kc_39_23 rfl ?_
      refine ze_getR kc_39_24 rfl rfl rfl ?_
      refine ze_iload kc_39_27 rfl ?_
      refine ze_fald kc_39_29 rfl (by omega) ?_
      rw [Int.toNat_natCast, v3 k (by omega), zfr]
      refine ze_fcmp kc_39_30 kc_39_31 (fun h30 => ?_) (fun h30 => ?_)
      · skip
        refine ze_iinc kc_39_60 rfl ?_
        simp only [zset1, zset2, zcut, zf0, zf1, zf2, zf3, List.set_cons_zero, List.set_cons_succ, List.getD_cons_zero, List.getD_cons_succ]
        refine ze_goto kc_39_63 ?_
        refine ih _ (by omega) (k + 1) _ _ _ _ rfl (by omega) (by omega) ?_ (fun q => by first | exact hle q | rw [Int.toNat_natCast])
        show _ = (if zfc .ge .g (S.1 k) (zfC (c k)) = true then zLw r c (zfC (zmx c n)) S.1 k else if zLw r c (zfC (zmx c n)) S.1 k < 0 then (k : Int) else if zfc .ge .g (zSf r (zfC (zmx c n)) (zfC (c k)) (S.1 k)) (zSf r (zfC (zmx c n)) (zfC (c (zLw r c (zfC (zmx c n)) S.1 k).toNat)) (S.1 (zLw r c (zfC (zmx c n)) S.1 k).toNat)) = true then zLw r c (zfC (zmx c n)) S.1 k else (k : Int))
        rw [← hlo]
        first
          | (rw [if_pos h30])
          | (rw [if_neg (by rw [h30]; decide), if_pos (by omega)])
          | (rw [if_neg (by rw [h30]; decide), if_neg (by omega), ← hle (by omega), if_pos h50])
          | (rw [if_neg (by rw [h30]; decide), if_neg (by omega), ← hle (by omega), if_neg (by rw [h50]; decide)])
      · skip
        refine ze_aload_n kc_39_34 rfl ?_
        refine ze_iload_n kc_39_35 rfl ?_
        refine ze_iload kc_39_36 rfl ?_
        refine zE_callv 3 kc_39_38 rfl rfl (Nat.le_of_ble_eq_true rfl) (Nat.le_of_ble_eq_true rfl) (Nat.le_of_ble_eq_true rfl) rfl (by decide +kernel) rfl ?_
        refine m_surfX hV0 n6 hc hr (by omega) (ha k (by omega)) ?_
        simp only [Option.toList_some, Option.toList_none, List.drop_succ_cons, List.drop_zero, List.cons_append, List.nil_append]
        refine ze_fstore kc_39_41 (Nat.le_of_ble_eq_true rfl) ?_
        simp only [zset1, zset2, zcut, zf0, zf1, zf2, zf3, List.set_cons_zero, List.set_cons_succ, List.getD_cons_zero, List.getD_cons_succ]
        refine ze_iload_n kc_39_43 rfl ?_
        refine ze_if_lt kc_39_44 (by omega) (fun h44 => ?_) (fun h44 => ?_)
        · skip
          refine ze_iload kc_39_54 rfl ?_
          refine ze_istore_n kc_39_56 (Nat.le_of_ble_eq_true rfl) ?_
          simp only [zset1, zset2, zcut, zf0, zf1, zf2, zf3, List.set_cons_zero, List.set_cons_succ, List.getD_cons_zero, List.getD_cons_succ]
          refine ze_fload kc_39_57 rfl ?_
          refine ze_fstore_n kc_39_59 (Nat.le_of_ble_eq_true rfl) ?_
          simp only [zset1, zset2, zcut, zf0, zf1, zf2, zf3, List.set_cons_zero, List.set_cons_succ, List.getD_cons_zero, List.getD_cons_succ]
          refine ze_iinc kc_39_60 rfl ?_
          simp only [zset1, zset2, zcut, zf0, zf1, zf2, zf3, List.set_cons_zero, List.set_cons_succ, List.getD_cons_zero, List.getD_cons_succ]
          refine ze_goto kc_39_63 ?_
          refine ih _ (by omega) (k + 1) _ _ _ _ rfl (by omega) (by omega) ?_ (fun q => by first | exact hle q | rw [Int.toNat_natCast])
          show _ = (if zfc .ge .g (S.1 k) (zfC (c k)) = true then zLw r c (zfC (zmx c n)) S.1 k else if zLw r c (zfC (zmx c n)) S.1 k < 0 then (k : Int) else if zfc .ge .g (zSf r (zfC (zmx c n)) (zfC (c k)) (S.1 k)) (zSf r (zfC (zmx c n)) (zfC (c (zLw r c (zfC (zmx c n)) S.1 k).toNat)) (S.1 (zLw r c (zfC (zmx c n)) S.1 k).toNat)) = true then zLw r c (zfC (zmx c n)) S.1 k else (k : Int))
          rw [← hlo]
          first
            | (rw [if_pos h30])
            | (rw [if_neg (by rw [h30]; decide), if_pos (by omega)])
            | (rw [if_neg (by rw [h30]; decide), if_neg (by omega), ← hle (by omega), if_pos h50])
            | (rw [if_neg (by rw [h30]; decide), if_neg (by omega), ← hle (by omega), if_neg (by rw [h50]; decide)])
        · skip
          refine ze_fload kc_39_47 rfl ?_
          refine ze_fload_n kc_39_49 rfl ?_
          refine ze_fcmp kc_39_50 kc_39_51 (fun h50 => ?_) (fun h50 => ?_)
          · skip
            refine ze_iinc kc_39_60 rfl ?_
            simp only [zset1, zset2, zcut, zf0, zf1, zf2, zf3, List.set_cons_zero, List.set_cons_succ, List.getD_cons_zero, List.getD_cons_succ]
            refine ze_goto kc_39_63 ?_
            refine ih _ (by omega) (k + 1) _ _ _ _ rfl (by omega) (by omega) ?_ (fun q => by first | exact hle q | rw [Int.toNat_natCast])
            show _ = (if zfc .ge .g (S.1 k) (zfC (c k)) = true then zLw r c (zfC (zmx c n)) S.1 k else if zLw r c (zfC (zmx c n)) S.1 k < 0 then (k : Int) else if zfc .ge .g (zSf r (zfC (zmx c n)) (zfC (c k)) (S.1 k)) (zSf r (zfC (zmx c n)) (zfC (c (zLw r c (zfC (zmx c n)) S.1 k).toNat)) (S.1 (zLw r c (zfC (zmx c n)) S.1 k).toNat)) = true then zLw r c (zfC (zmx c n)) S.1 k else (k : Int))
            rw [← hlo]
            first
              | (rw [if_pos h30])
              | (rw [if_neg (by rw [h30]; decide), if_pos (by omega)])
              | (rw [if_neg (by rw [h30]; decide), if_neg (by omega), ← hle (by omega), if_pos h50])
              | (rw [if_neg (by rw [h30]; decide), if_neg (by omega), ← hle (by omega), if_neg (by rw [h50]; decide)])
          · skip
            refine ze_iload kc_39_54 rfl ?_
            refine ze_istore_n kc_39_56 (Nat.le_of_ble_eq_true rfl) ?_
            simp only [zset1, zset2, zcut, zf0, zf1, zf2, zf3, List.set_cons_zero, List.set_cons_succ, List.getD_cons_zero, List.getD_cons_succ]
            refine ze_fload kc_39_57 rfl ?_
            refine ze_fstore_n kc_39_59 (Nat.le_of_ble_eq_true rfl) ?_
            simp only [zset1, zset2, zcut, zf0, zf1, zf2, zf3, List.set_cons_zero, List.set_cons_succ, List.getD_cons_zero, List.getD_cons_succ]
            refine ze_iinc kc_39_60 rfl ?_
            simp only [zset1, zset2, zcut, zf0, zf1, zf2, zf3, List.set_cons_zero, List.set_cons_succ, List.getD_cons_zero, List.getD_cons_succ]
            refine ze_goto kc_39_63 ?_
            refine ih _ (by omega) (k + 1) _ _ _ _ rfl (by omega) (by omega) ?_ (fun q => by first | exact hle q | rw [Int.toNat_natCast])
            show _ = (if zfc .ge .g (S.1 k) (zfC (c k)) = true then zLw r c (zfC (zmx c n)) S.1 k else if zLw r c (zfC (zmx c n)) S.1 k < 0 then (k : Int) else if zfc .ge .g (zSf r (zfC (zmx c n)) (zfC (c k)) (S.1 k)) (zSf r (zfC (zmx c n)) (zfC (c (zLw r c (zfC (zmx c n)) S.1 k).toNat)) (S.1 (zLw r c (zfC (zmx c n)) S.1 k).toNat)) = true then zLw r c (zfC (zmx c n)) S.1 k else (k : Int))
            rw [← hlo]
            first
              | (rw [if_pos h30])
              | (rw [if_neg (by rw [h30]; decide), if_pos (by omega)])
              | (rw [if_neg (by rw [h30]; decide), if_neg (by omega), ← hle (by omega), if_pos h50])
              | (rw [if_neg (by rw [h30]; decide), if_neg (by omega), ← hle (by omega), if_neg (by rw [h50]; decide)])
  refine loop7 _ 0 0 (-1) FP.fconst0 none rfl (by omega) rfl rfl (fun q => absurd q (by decide))

set_option maxHeartbeats 4000000 in
theorem m_fall {Z : zMem} {Q : Option zAV → zMem → Prop} {n : Nat} {c : Nat → Int} {S : (Nat → UInt32) × UInt32} (hV : zVX n c S Z) (n6 : n ≤ 6) (hc : ∀ i, i < n → 1 ≤ c i ∧ c i ≤ 60) {r i : Int} {d : UInt32} {t : Nat} (hi : i = zLw r c (zfC (zmx c n)) S.1 n) (hd : d.toNat ≤ 1149239296) (ht : t < 60) (hk : zPk n c t S) (q1 : ∀ (Z' : zMem), zVX n c (zFl n r c (zfC (zmx c n)) d S) Z' → zFv Z Z' → Q none Z') : zE 38 0 (zent 38 [zR 17, zI i, zF d]) [] Z Q := by
  show zE 38 0 [some (zR 17), some (zI i), some (zF d), none] [] Z Q
  have hV0 := hV
  obtain ⟨v1, v2, v3, v4, v5⟩ := hV
  have hgx := zmxC hc
  have hli := zLw_in r c (zfC (zmx c n)) S.1 n
  rw [← hi] at hli
  have hFl : (zFl n r c (zfC (zmx c n)) d S) = (if i < 0 then (S.1, FP.fadd S.2 d) else if zfc .le .l (FP.fadd (S.1 i.toNat) d) (zfC (c i.toNat)) = true then (zfu S.1 i.toNat (FP.fadd (S.1 i.toNat) d), S.2) else (zfu S.1 i.toNat (zfC (c i.toNat)), FP.fadd S.2 (FP.fsub (FP.fadd (S.1 i.toNat) d) (zfC (c i.toNat))))) := by
    rw [hi]
    rfl
  have hW1 := zfW_in (show t + 1 ≤ 60 by omega)
  have hsd := zfp_spill ht hk.2 (show d.toNat ≤ 1157627904 by omega)
  refine ze_iload_n kc_38_0 rfl ?_
  refine ze_if_ge kc_38_1 (by omega) (fun h1 => ?_) (fun h1 => ?_)
  · skip
    obtain ⟨ν, rfl⟩ := Int.eq_ofNat_of_zero_le (show 0 ≤ i by omega)
    have hν : ν < n := by omega
    have hci := zfC_in (hc ν hν)
    have hai := hk.1 ν hν
    have hsm := zfp_sum (a := S.1 ν) (d := d) (by omega) hd
    rw [Int.toNat_natCast] at hFl
    clear hi
    refine ze_aload_n kc_38_15 rfl ?_
    refine ze_getR kc_38_16 rfl rfl rfl ?_
    refine ze_iload_n kc_38_19 rfl ?_
    refine ze_fald kc_38_20 rfl (by omega) ?_
    rw [Int.toNat_natCast, v2 ν hν, zfr]
    refine ze_fload_n kc_38_21 rfl ?_
    refine ze_fadd kc_38_22 (zfp_ok (by omega)) ?_
    refine ze_fstore_n kc_38_23 (Nat.le_of_ble_eq_true rfl) ?_
    simp only [zset1, zset2, zcut, zf0, zf1, zf2, zf3, List.set_cons_zero, List.set_cons_succ, List.getD_cons_zero, List.getD_cons_succ]
    refine ze_fload_n kc_38_24 rfl ?_
    refine ze_aload_n kc_38_25 rfl ?_
    refine ze_getR kc_38_26 rfl rfl rfl ?_
    refine ze_iload_n kc_38_29 rfl ?_
    refine ze_fald kc_38_30 rfl (by omega) ?_
    rw [Int.toNat_natCast, v3 ν hν, zfr]
    refine ze_fcmp kc_38_31 kc_38_32 (fun h31 => ?_) (fun h31 => ?_)
    · skip
      refine ze_aload_n kc_38_67 rfl ?_
      refine ze_getR kc_38_68 rfl rfl rfl ?_
      refine ze_iload_n kc_38_71 rfl ?_
      refine ze_fload_n kc_38_72 rfl ?_
      refine ze_fast kc_38_73 rfl (by omega) ?_
      rw [Int.toNat_natCast]
      refine ze_return kc_38_74 ?_
      first
        | (rw [if_neg (by omega), if_pos h31] at hFl
           rw [hFl] at q1
           refine q1 _ ⟨by rw [zup_ne' (by decide)]; exact v1, fun i hi => ?_, fun i hi => by rw [zup_ne' (by decide)]; exact v3 i hi, by rw [zup_ne' (by decide)]; exact v4, by rw [zup_ne' (by decide)]; exact v5⟩ (fun k a b d => zup_ne' b)
           show _ = (((if i = ν then FP.fadd (S.1 ν) d else S.1 i) : UInt32).toNat : Int)
           by_cases q : i = ν
           · rw [q, zup_s, if_pos rfl]
           · rw [zup_o q, if_neg q]; exact v2 i hi)
        | (rw [if_neg (by omega), if_neg (by rw [h31]; decide)] at hFl
           rw [hFl] at q1
           refine q1 _ ⟨by rw [zup_o (by decide), zup_ne' (by decide)]; exact v1, fun i hi => ?_, fun i hi => by rw [zup_ne' (by decide), zup_ne' (by decide)]; exact v3 i hi, by rw [zup_o (by decide), zup_ne' (by decide)]; exact v4, zup_s⟩ (fun k a b d => by rw [zup_ne' a, zup_ne' b])
           rw [zup_ne' (by decide)]
           show _ = (((if i = ν then zfC (c ν) else S.1 i) : UInt32).toNat : Int)
           by_cases q : i = ν
           · rw [q, zup_s, if_pos rfl]
           · rw [zup_o q, if_neg q]; exact v2 i hi)
    · skip
      rw [zfc_le (by omega) (by omega)] at h31
      have h31b := of_decide_eq_false h31
      have hsb := zfp_sub (x := FP.fadd (S.1 ν) d) (y := zfC (c ν)) (by omega) (by omega)
      have hss := zfp_spill ht hk.2 (Nat.le_trans hsb hsm)
      rw [← zfc_le (x := FP.fadd (S.1 ν) d) (w := zfC (c ν)) (by omega) (by omega)] at h31
      refine ze_aload_n kc_38_35 rfl ?_
      refine ze_getR kc_38_36 rfl rfl rfl ?_
      refine ze_iload_n kc_38_39 rfl ?_
      refine ze_aload_n kc_38_40 rfl ?_
      refine ze_getR kc_38_41 rfl rfl rfl ?_
      refine ze_iload_n kc_38_44 rfl ?_
      refine ze_fald kc_38_45 rfl (by omega) ?_
      rw [Int.toNat_natCast, v3 ν hν, zfr]
      refine ze_fast kc_38_46 rfl (by omega) ?_
      rw [Int.toNat_natCast]
      refine ze_aload_n kc_38_47 rfl ?_
      refine ze_aload_n kc_38_48 rfl ?_
      refine ze_getF kc_38_49 rfl rfl ?_
      rw [zup_ne' (by decide), v5, zfr]
      refine ze_fload_n kc_38_52 rfl ?_
      refine ze_aload_n kc_38_53 rfl ?_
      refine ze_getR kc_38_54 rfl rfl rfl ?_
      refine ze_iload_n kc_38_57 rfl ?_
      refine ze_fald kc_38_58 rfl (by omega) ?_
      rw [Int.toNat_natCast, zup_ne' (by decide), v3 ν hν, zfr]
      refine ze_fsub kc_38_59 (zfp_ok (by omega)) ?_
      refine ze_fadd kc_38_60 (zfp_ok (by omega)) ?_
      refine ze_putF kc_38_61 rfl rfl ?_
      refine ze_goto kc_38_64 ?_
      refine ze_return kc_38_74 ?_
      first
        | (rw [if_neg (by omega), if_pos h31] at hFl
           rw [hFl] at q1
           refine q1 _ ⟨by rw [zup_ne' (by decide)]; exact v1, fun i hi => ?_, fun i hi => by rw [zup_ne' (by decide)]; exact v3 i hi, by rw [zup_ne' (by decide)]; exact v4, by rw [zup_ne' (by decide)]; exact v5⟩ (fun k a b d => zup_ne' b)
           show _ = (((if i = ν then FP.fadd (S.1 ν) d else S.1 i) : UInt32).toNat : Int)
           by_cases q : i = ν
           · rw [q, zup_s, if_pos rfl]
           · rw [zup_o q, if_neg q]; exact v2 i hi)
        | (rw [if_neg (by omega), if_neg (by rw [h31]; decide)] at hFl
           rw [hFl] at q1
           refine q1 _ ⟨by rw [zup_o (by decide), zup_ne' (by decide)]; exact v1, fun i hi => ?_, fun i hi => by rw [zup_ne' (by decide), zup_ne' (by decide)]; exact v3 i hi, by rw [zup_o (by decide), zup_ne' (by decide)]; exact v4, zup_s⟩ (fun k a b d => by rw [zup_ne' a, zup_ne' b])
           rw [zup_ne' (by decide)]
           show _ = (((if i = ν then zfC (c ν) else S.1 i) : UInt32).toNat : Int)
           by_cases q : i = ν
           · rw [q, zup_s, if_pos rfl]
           · rw [zup_o q, if_neg q]; exact v2 i hi)
  · skip
    refine ze_aload_n kc_38_4 rfl ?_
    refine ze_aload_n kc_38_5 rfl ?_
    refine ze_getF kc_38_6 rfl rfl ?_
    rw [v5, zfr]
    refine ze_fload_n kc_38_9 rfl ?_
    refine ze_fadd kc_38_10 (zfp_ok (by omega)) ?_
    refine ze_putF kc_38_11 rfl rfl ?_
    refine ze_return kc_38_14 ?_
    rw [if_pos (by omega)] at hFl
    rw [hFl] at q1
    exact q1 _ ⟨by rw [zup_o (by decide)]; exact v1, fun i hi => by rw [zup_ne' (by decide)]; exact v2 i hi, fun i hi => by rw [zup_ne' (by decide)]; exact v3 i hi, by rw [zup_o (by decide)]; exact v4, zup_s⟩ (fun k a b d => zup_ne' a)

set_option maxHeartbeats 4000000 in
theorem m_pour {Z : zMem} {Q : Option zAV → zMem → Prop} {n : Nat} {c : Nat → Int} {e ρ : Int} (hC : zCl n c e ρ Z) {r m : Int} (hr : 0 ≤ r ∧ r ≤ 4) (hm : 1 ≤ m ∧ m ≤ 60) (q1 : ∀ (Z' : zMem), zVX n c (zPs n r c (zfC (zmx c n)) (zfD e m) m.toNat) Z' → zFv Z Z' → Q none Z') : zE 36 0 (zent 36 [zR 17, zR 1, zI r, zI m]) [] Z Q := by
  show zE 36 0 [some (zR 17), some (zR 1), some (zI r), some (zI m), none, none] [] Z Q
  obtain ⟨hU0, hG0, n6, n0, cc, cr, ce, cρ, ceR, cρR, c11, c16⟩ := zCl_o hC
  have csr := zsum_range cr
  have hD := zfD_in ceR hm
  refine ze_iload_n kc_36_0 rfl ?_
  refine ze_iconst kc_36_1 ?_
  refine ze_icmp_ge kc_36_2 (by omega) (by omega) (fun h2 => ?_) (fun h2 => ?_)
  · skip
    refine ze_aload_n kc_36_6 rfl ?_
    refine ze_aload_n kc_36_7 rfl ?_
    refine ze_getR kc_36_8 rfl rfl rfl ?_
    refine zE_callv 2 kc_36_11 rfl rfl (Nat.le_of_ble_eq_true rfl) (Nat.le_of_ble_eq_true rfl) (Nat.le_of_ble_eq_true rfl) rfl (by decide +kernel) rfl ?_
    refine m_empty hG0 (fun Z2 f1 f2 => ?_)
    simp only [Option.toList_some, Option.toList_none, List.drop_succ_cons, List.drop_zero, List.cons_append, List.nil_append]
    refine ze_aload_n kc_36_14 rfl ?_
    refine ze_getI kc_36_15 rfl (by decide) ?_
    rw [f2 1 (by decide) (by decide) (by decide), ce]
    refine ze_i2f kc_36_18 ?_
    refine ze_iload_n kc_36_19 rfl ?_
    refine ze_i2f kc_36_20 ?_
    refine ze_fdiv kc_36_21 (zfp_ok (x := zfD e m) (by omega)) ?_
    refine ze_fstore kc_36_22 (Nat.le_of_ble_eq_true rfl) ?_
    simp only [zset1, zset2, zcut, zf0, zf1, zf2, zf3, List.set_cons_zero, List.set_cons_succ, List.getD_cons_zero, List.getD_cons_succ]
    refine ze_iconst kc_36_24 ?_
    refine ze_istore kc_36_25 (Nat.le_of_ble_eq_true rfl) ?_
    simp only [zset1, zset2, zcut, zf0, zf1, zf2, zf3, List.set_cons_zero, List.set_cons_succ, List.getD_cons_zero, List.getD_cons_succ]
    have loop27 : ∀ (μ : Nat) (t : Nat) (x : Int) (Zc : zMem), m.toNat - t = μ → ((t : Int) ≤ m) → (x = t) → (zVX n c (zPs n r c (zfC (zmx c n)) (zfD e m) t) Zc) → (zFv Z Zc) → zE 36 27 [some (zR 17), some (zR 1), some (zI r), some (zI m), some (zF (zfD e m)), some (zI x)] [] Zc Q := by
      refine zind ?_
      intro μ ih t x Zc hm ht hx hVt hf
      subst hx
      refine ze_iload kc_36_27 rfl ?_
      refine ze_iload_n kc_36_29 rfl ?_
      refine ze_icmp_ge kc_36_30 (by omega) (by omega) (fun h30 => ?_) (fun h30 => ?_)
      · skip
        refine ze_return kc_36_50 ?_
        have et : m.toNat = t := by omega
        rw [et] at q1
        exact q1 _ hVt hf
      · skip
        refine ze_aload_n kc_36_33 rfl ?_
        refine ze_aload_n kc_36_34 rfl ?_
        refine ze_iload_n kc_36_35 rfl ?_
        refine zE_callv 2 kc_36_36 rfl rfl (Nat.le_of_ble_eq_true rfl) (Nat.le_of_ble_eq_true rfl) (Nat.le_of_ble_eq_true rfl) rfl (by decide +kernel) rfl ?_
        refine m_lowX hVt n6 cr hr (zPs_ok cr hD t (by omega)).1 ?_
        simp only [Option.toList_some, Option.toList_none, List.drop_succ_cons, List.drop_zero, List.cons_append, List.nil_append]
        refine ze_fload kc_36_39 rfl ?_
        refine zE_callv 3 kc_36_41 rfl rfl (Nat.le_of_ble_eq_true rfl) (Nat.le_of_ble_eq_true rfl) (Nat.le_of_ble_eq_true rfl) rfl (by decide +kernel) rfl ?_
        refine m_fall (r := r) (t := t) hVt n6 cr rfl hD (by omega) (zPs_ok cr hD t (by omega)) (fun Z3 k1 k2 => ?_)
        simp only [Option.toList_some, Option.toList_none, List.drop_succ_cons, List.drop_zero, List.cons_append, List.nil_append]
        refine ze_iinc kc_36_44 rfl ?_
        simp only [zset1, zset2, zcut, zf0, zf1, zf2, zf3, List.set_cons_zero, List.set_cons_succ, List.getD_cons_zero, List.getD_cons_succ]
        refine ze_goto kc_36_47 ?_
        refine ih _ (by omega) (t + 1) _ _ rfl (by omega) (by omega) k1 (fun k a b d => by rw [k2 k a b d]; exact hf k a b d)
    refine loop27 _ 0 0 _ rfl (by omega) rfl f1 f2
  · skip
    refine ze_return kc_36_5 ?_
    exfalso; omega
