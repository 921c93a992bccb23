/-! BITS, POURED, GAP: the plain form -/
theorem zeq_32 {x : UInt32} (h : x.toNat < 2139095040) : zfc .eq .l x x = true := by
  unfold zfc
  rw [show FP.fcmp x x = some .eq from FP.Core.fcmp_self (zfp_fin h).ne_nan]
  rfl
theorem zeq_64 {x : UInt64} (h : x.toNat < 9218868437227405312) : zdc .eq .l x x = true := by
  unfold zdc
  rw [show FP.dcmp x x = some .eq from FP.Core.dcmp_self (zdp_fin h).ne_nan]
  rfl
theorem zi_32 {x : UInt32} (h : x.toNat < 2139095040) : x.toInt32.toInt = (x.toNat : Int) := by
  show x.toBitVec.toInt = _
  rw [BitVec.toInt_eq_toNat_of_lt]
  · rfl
  · show 2 * x.toNat < 2 ^ 32
    omega
theorem zi_64 {x : UInt64} (h : x.toNat < 9218868437227405312) : x.toInt64.toInt = (x.toNat : Int) := by
  show x.toBitVec.toInt = _
  rw [BitVec.toInt_eq_toNat_of_lt]
  · rfl
  · show 2 * x.toNat < 2 ^ 64
    omega

set_option maxHeartbeats 4000000 in
theorem m_fnan {Z : zMem} {Q : Option zAV → zMem → Prop} {x : UInt32} (hx : x.toNat < 2139095040) (q1 : Q (some (zI 0)) Z) : zE 175 0 (zent 175 [zF x]) [] Z Q := by
  show zE 175 0 [some (zF x)] [] Z Q
  refine ze_fload_n kc_175_0 rfl ?_
  refine ze_fload_n kc_175_1 rfl ?_
  refine ze_fcmp kc_175_2 kc_175_3 (fun h2 => ?_) (fun h2 => ?_)
  · skip
    refine ze_iconst kc_175_10 ?_
    refine ze_ireturn kc_175_11 (by decide) ?_
    exact q1
  · rw [zeq_32 hx] at h2
    cases h2

set_option maxHeartbeats 4000000 in
theorem m_f2bits {Z : zMem} {Q : Option zAV → zMem → Prop} {x : UInt32} (hx : x.toNat < 2139095040) (q1 : Q (some (zI (x.toNat : Nat))) Z) : zE 176 0 (zent 176 [zF x]) [] Z Q := by
  show zE 176 0 [some (zF x)] [] Z Q
  refine ze_fload_n kc_176_0 rfl ?_
  refine zE_calls 1 kc_176_1 rfl rfl (Nat.le_of_ble_eq_true rfl) (Nat.le_of_ble_eq_true rfl) (Nat.le_of_ble_eq_true rfl) rfl ?_
  refine m_fnan hx ?_
  simp only [Option.toList_some, Option.toList_none, List.drop_succ_cons, List.drop_zero, List.cons_append, List.nil_append]
  refine ze_if_ne kc_176_4 (by decide) (fun q => absurd q (by decide)) (fun _ => ?_)
  refine ze_fload_n kc_176_7 rfl ?_
  refine ze_f2i kc_176_8 (Nat.le_of_ble_eq_true rfl) ?_
  rw [zi_32 hx]
  refine ze_ireturn kc_176_11 (Or.inl rfl) ?_
  exact q1

set_option maxHeartbeats 4000000 in
theorem m_dnan {Z : zMem} {Q : Option zAV → zMem → Prop} {x : UInt64} (hx : x.toNat < 9218868437227405312) (q1 : Q (some (zI 0)) Z) : zE 173 0 (zent 173 [zD x]) [] Z Q := by
  show zE 173 0 [some (zD x), none] [] Z Q
  refine ze_dload_n kc_173_0 rfl ?_
  refine ze_dload_n kc_173_1 rfl ?_
  refine ze_dcmp kc_173_2 kc_173_3 (fun h2 => ?_) (fun h2 => ?_)
  · skip
    refine ze_iconst kc_173_10 ?_
    refine ze_ireturn kc_173_11 (by decide) ?_
    exact q1
  · rw [zeq_64 hx] at h2
    cases h2

set_option maxHeartbeats 4000000 in
theorem m_d2bits {Z : zMem} {Q : Option zAV → zMem → Prop} {x : UInt64} (hx : x.toNat < 9218868437227405312) (q1 : Q (some (zL (x.toNat : Nat))) Z) : zE 174 0 (zent 174 [zD x]) [] Z Q := by
  show zE 174 0 [some (zD x), none] [] Z Q
  refine ze_dload_n kc_174_0 rfl ?_
  refine zE_calls 1 kc_174_1 rfl rfl (Nat.le_of_ble_eq_true rfl) (Nat.le_of_ble_eq_true rfl) (Nat.le_of_ble_eq_true rfl) rfl ?_
  refine m_dnan hx ?_
  simp only [Option.toList_some, Option.toList_none, List.drop_succ_cons, List.drop_zero, List.cons_append, List.nil_append]
  refine ze_if_ne kc_174_4 (by decide) (fun q => absurd q (by decide)) (fun _ => ?_)
  refine ze_dload_n kc_174_7 rfl ?_
  refine ze_d2raw kc_174_8 (Nat.le_of_ble_eq_true rfl) ?_
  rw [zi_64 hx]
  refine ze_lreturn kc_174_11 ?_
  exact q1

set_option maxHeartbeats 4000000 in
theorem m_canPour {Z : zMem} {Q : Option zAV → zMem → Prop} {v w : Int} (hv : -2147483648 ≤ v ∧ v ≤ 2147483647) (hw : -2147483648 ≤ w ∧ w ≤ 2147483647) (q1 : (0 ≤ v ∧ v ≤ 4) ∧ (1 ≤ w ∧ w ≤ 60) → Q (some (zI 1)) Z) (q2 : ¬ ((0 ≤ v ∧ v ≤ 4) ∧ (1 ≤ w ∧ w ≤ 60)) → Q (some (zI 0)) Z) : zE 148 0 (zent 148 [zR 63, zI v, zI w]) [] Z Q := by
  show zE 148 0 [some (zR 63), some (zI v), some (zI w)] [] Z Q
  refine ze_iload_n kc_148_0 rfl ?_
  refine ze_iconst kc_148_1 ?_
  refine ze_iconst kc_148_2 ?_
  refine zE_calls 3 kc_148_3 rfl rfl (Nat.le_of_ble_eq_true rfl) (Nat.le_of_ble_eq_true rfl) (Nat.le_of_ble_eq_true rfl) rfl ?_
  refine m_in (by omega) (by omega) (by omega) (fun g3 => ?_) (fun g3 => ?_)
  · simp only [Option.toList_some, Option.toList_none, List.drop_succ_cons, List.drop_zero, List.cons_append, List.nil_append]
    refine ze_if_eq kc_148_6 (by decide) (fun q => absurd q (by decide)) (fun _ => ?_)
    refine ze_iload_n kc_148_9 rfl ?_
    refine ze_iconst kc_148_10 ?_
    refine ze_bipush kc_148_11 ?_
    refine zE_calls 3 kc_148_13 rfl rfl (Nat.le_of_ble_eq_true rfl) (Nat.le_of_ble_eq_true rfl) (Nat.le_of_ble_eq_true rfl) rfl ?_
    refine m_in (by omega) (by omega) (by omega) (fun g13 => ?_) (fun g13 => ?_)
    · simp only [Option.toList_some, Option.toList_none, List.drop_succ_cons, List.drop_zero, List.cons_append, List.nil_append]
      refine ze_if_eq kc_148_16 (by decide) (fun q => absurd q (by decide)) (fun _ => ?_)
      refine ze_iconst kc_148_19 ?_
      refine ze_goto kc_148_20 ?_
      refine ze_ireturn kc_148_24 (by decide) ?_
      first | exact q1 (by omega) | exact q2 (by omega) | exact q3 (by omega) | exact q4 (by omega)
    · simp only [Option.toList_some, Option.toList_none, List.drop_succ_cons, List.drop_zero, List.cons_append, List.nil_append]
      refine ze_if_eq kc_148_16 (by decide) (fun _ => ?_) (fun q => absurd q (by decide))
      refine ze_iconst kc_148_23 ?_
      refine ze_ireturn kc_148_24 (by decide) ?_
      first | exact q1 (by omega) | exact q2 (by omega) | exact q3 (by omega) | exact q4 (by omega)
  · simp only [Option.toList_some, Option.toList_none, List.drop_succ_cons, List.drop_zero, List.cons_append, List.nil_append]
    refine ze_if_eq kc_148_6 (by decide) (fun _ => ?_) (fun q => absurd q (by decide))
    refine ze_iconst kc_148_23 ?_
    refine ze_ireturn kc_148_24 (by decide) ?_
    first | exact q1 (by omega) | exact q2 (by omega) | exact q3 (by omega) | exact q4 (by omega)

set_option maxHeartbeats 8000000 in
theorem m_pouredM {Z : zMem} {Q : Option zAV → zMem → Prop} {n : Nat} {c : Nat → Int} {e ρ : Int} (hM : zMo n c e ρ Z) {r m i : Int} (hr : -2147483648 ≤ r ∧ r ≤ 2147483647) (hm : -2147483648 ≤ m ∧ m ≤ 2147483647) (hi : -2147483648 ≤ i ∧ i ≤ 2147483647) (q1 : ∀ (Z' : zMem), zFq Z Z' → Q (some (zL (oPoured n c e r m i))) Z') : zE 149 0 (zent 149 [zR 63, zI r, zI m, zI i]) [] Z Q := by
  show zE 149 0 [some (zR 63), some (zI r), some (zI m), some (zI i)] [] Z Q
  have hM0 := hM
  obtain ⟨n0, n6, mc, mr, me, mρ, meR, mρR⟩ := hM
  have msr := zsum_range mr
  have hp6 := zpow6 n6
  refine ze_aload_n kc_149_0 rfl ?_
  refine ze_iload_n kc_149_1 rfl ?_
  refine ze_iload_n kc_149_2 rfl ?_
  refine zE_callv 3 kc_149_3 rfl rfl (Nat.le_of_ble_eq_true rfl) (Nat.le_of_ble_eq_true rfl) (Nat.le_of_ble_eq_true rfl) rfl (by decide +kernel) rfl ?_
  refine m_canPour (by omega) (by omega) (fun g3 => ?_) (fun g3 => ?_)
  · simp only [Option.toList_some, Option.toList_none, List.drop_succ_cons, List.drop_zero, List.cons_append, List.nil_append]
    refine ze_if_eq kc_149_6 (by decide) (fun q => absurd q (by decide)) (fun _ => ?_)
    refine ze_iload_n kc_149_9 rfl ?_
    refine ze_iconst kc_149_10 ?_
    refine ze_icmp_eq kc_149_11 (by omega) (by omega) (fun h11 => ?_) (fun h11 => ?_)
    · skip
      refine ze_aload_n kc_149_22 rfl ?_
      refine zE_callv 1 kc_149_23 rfl rfl (Nat.le_of_ble_eq_true rfl) (Nat.le_of_ble_eq_true rfl) (Nat.le_of_ble_eq_true rfl) rfl (by decide +kernel) rfl ?_
      refine m_readyM hM0 (fun g23 => ?_) (fun g23 => ?_)
      · simp only [Option.toList_some, Option.toList_none, List.drop_succ_cons, List.drop_zero, List.cons_append, List.nil_append]
        refine ze_if_ne kc_149_26 (by decide) (fun _ => ?_) (fun q => absurd q (by decide))
        have hPk := zPs_ok (n := n) (r := r) (g := zfC (zmx c n)) mr (zfD_in meR (show 1 ≤ m ∧ m ≤ 60 by omega)) m.toNat (by omega)
        have hWt := zfW_in (show m.toNat ≤ 60 by omega)
        refine ze_aload_n kc_149_33 rfl ?_
        refine ze_iload_n kc_149_34 rfl ?_
        refine ze_iload_n kc_149_35 rfl ?_
        refine zE_callv 3 kc_149_36 rfl rfl (Nat.le_of_ble_eq_true rfl) (Nat.le_of_ble_eq_true rfl) (Nat.le_of_ble_eq_true rfl) rfl (by decide +kernel) rfl ?_
        refine m_pours hM0 (by omega) (by omega) (fun Z2 f1 f2 => ?_)
        simp only [Option.toList_some, Option.toList_none, List.drop_succ_cons, List.drop_zero, List.cons_append, List.nil_append]
        refine ze_iload_n kc_149_39 rfl ?_
        refine ze_if_ge kc_149_40 (by omega) (fun h40 => ?_) (fun h40 => ?_)
        · skip
          obtain ⟨κ, rfl⟩ := Int.eq_ofNat_of_zero_le (show 0 ≤ i by omega)
          have hκ : κ < n := by omega
          refine ze_aload_n kc_149_50 rfl ?_
          refine ze_getR kc_149_51 rfl rfl rfl ?_
          refine ze_iload_n kc_149_54 rfl ?_
          refine ze_fald kc_149_55 rfl (by omega) ?_
          first
            | (rw [Int.toNat_natCast, f1.1 κ hκ, zfr]
               have hxx : ((zPo n c e r m).1 κ).toNat < 2139095040 := by
                 have h1 := hPk.1 κ hκ
                 have h2 := zfC_in (mr κ hκ)
                 show ((zPs n r c (zfC (zmx c n)) (zfD e m) m.toNat).1 κ).toNat < _
                 omega
               change zE 149 56 _ [zF ((zPo n c e r m).1 κ)] Z2 Q
               generalize hAm : (zPo n c e r m).1 κ = amt at *)
            | skip
          refine zE_calls 1 kc_149_56 rfl rfl (Nat.le_of_ble_eq_true rfl) (Nat.le_of_ble_eq_true rfl) (Nat.le_of_ble_eq_true rfl) rfl ?_
          refine m_f2bits hxx ?_
          simp only [Option.toList_some, Option.toList_none, List.drop_succ_cons, List.drop_zero, List.cons_append, List.nil_append]
          refine ze_i2l kc_149_59 (by omega) ?_
          refine ze_lreturn kc_149_60 ?_
          rw [← hAm]
          first
            | (rw [show oPoured n c e r m i = ((zPo n c e r m).2.toNat : Nat) from (if_pos (by omega)).trans (if_pos (by omega))] at q1
               exact q1 _ ⟨fun k a b d e g => f2.1 k b (by omega), fun j a b d e g => f2.2 j g, fun q => by rw [f2.1 11 (by decide) (by decide)]; exact q, fun q => by rw [f2.1 16 (by decide) (by decide)]; exact q⟩)
            | (rw [show oPoured n c e r m κ = (((zPo n c e r m).1 κ).toNat : Nat) from (if_pos (by omega)).trans (if_neg (by omega))] at q1
               exact q1 _ ⟨fun k a b d e g => f2.1 k b (by omega), fun j a b d e g => f2.2 j g, fun q => by rw [f2.1 11 (by decide) (by decide)]; exact q, fun q => by rw [f2.1 16 (by decide) (by decide)]; exact q⟩)
        · skip
          refine ze_aload_n kc_149_43 rfl ?_
          refine ze_getF kc_149_44 rfl rfl ?_
          rw [f1.2, zfr]
          have hxx : (zPo n c e r m).2.toNat < 2139095040 := by
            have := hPk.2
            show (zPs n r c (zfC (zmx c n)) (zfD e m) m.toNat).2.toNat < _
            omega
          change zE 149 47 _ [zF (zPo n c e r m).2] Z2 Q
          generalize hAm : (zPo n c e r m).2 = amt at *
          refine ze_goto kc_149_47 ?_
          first
            | (rw [Int.toNat_natCast, f1.1 κ hκ, zfr]
               have hxx : ((zPo n c e r m).1 κ).toNat < 2139095040 := by
                 have h1 := hPk.1 κ hκ
                 have h2 := zfC_in (mr κ hκ)
                 show ((zPs n r c (zfC (zmx c n)) (zfD e m) m.toNat).1 κ).toNat < _
                 omega
               change zE 149 56 _ [zF ((zPo n c e r m).1 κ)] Z2 Q
               generalize hAm : (zPo n c e r m).1 κ = amt at *)
            | skip
          refine zE_calls 1 kc_149_56 rfl rfl (Nat.le_of_ble_eq_true rfl) (Nat.le_of_ble_eq_true rfl) (Nat.le_of_ble_eq_true rfl) rfl ?_
          refine m_f2bits hxx ?_
          simp only [Option.toList_some, Option.toList_none, List.drop_succ_cons, List.drop_zero, List.cons_append, List.nil_append]
          refine ze_i2l kc_149_59 (by omega) ?_
          refine ze_lreturn kc_149_60 ?_
          rw [← hAm]
          first
            | (rw [show oPoured n c e r m i = ((zPo n c e r m).2.toNat : Nat) from (if_pos (by omega)).trans (if_pos (by omega))] at q1
               exact q1 _ ⟨fun k a b d e g => f2.1 k b (by omega), fun j a b d e g => f2.2 j g, fun q => by rw [f2.1 11 (by decide) (by decide)]; exact q, fun q => by rw [f2.1 16 (by decide) (by decide)]; exact q⟩)
            | (rw [show oPoured n c e r m κ = (((zPo n c e r m).1 κ).toNat : Nat) from (if_pos (by omega)).trans (if_neg (by omega))] at q1
               exact q1 _ ⟨fun k a b d e g => f2.1 k b (by omega), fun j a b d e g => f2.2 j g, fun q => by rw [f2.1 11 (by decide) (by decide)]; exact q, fun q => by rw [f2.1 16 (by decide) (by decide)]; exact q⟩)
      · simp only [Option.toList_some, Option.toList_none, List.drop_succ_cons, List.drop_zero, List.cons_append, List.nil_append]
        refine ze_if_ne kc_149_26 (by decide) (fun q => absurd q (by decide)) (fun _ => ?_)
        refine ze_ldc2L kc_149_29 ?_
        refine ze_lreturn kc_149_32 ?_
        rw [show oPoured n c e r m i = -9223372036854775808 from if_neg (by omega)] at q1
        exact q1 _ zFq_refl
    · skip
      refine ze_aload_n kc_149_14 rfl ?_
      refine ze_iload_n kc_149_15 rfl ?_
      refine zE_callv 2 kc_149_16 rfl rfl (Nat.le_of_ble_eq_true rfl) (Nat.le_of_ble_eq_true rfl) (Nat.le_of_ble_eq_true rfl) rfl (by decide +kernel) rfl ?_
      refine m_isOne hM0 (by omega) (fun g16 => ?_) (fun g16 => ?_)
      · simp only [Option.toList_some, Option.toList_none, List.drop_succ_cons, List.drop_zero, List.cons_append, List.nil_append]
        refine ze_if_eq kc_149_19 (by decide) (fun q => absurd q (by decide)) (fun _ => ?_)
        refine ze_aload_n kc_149_22 rfl ?_
        refine zE_callv 1 kc_149_23 rfl rfl (Nat.le_of_ble_eq_true rfl) (Nat.le_of_ble_eq_true rfl) (Nat.le_of_ble_eq_true rfl) rfl (by decide +kernel) rfl ?_
        refine m_readyM hM0 (fun g23 => ?_) (fun g23 => ?_)
        · simp only [Option.toList_some, Option.toList_none, List.drop_succ_cons, List.drop_zero, List.cons_append, List.nil_append]
          refine ze_if_ne kc_149_26 (by decide) (fun _ => ?_) (fun q => absurd q (by decide))
          have hPk := zPs_ok (n := n) (r := r) (g := zfC (zmx c n)) mr (zfD_in meR (show 1 ≤ m ∧ m ≤ 60 by omega)) m.toNat (by omega)
          have hWt := zfW_in (show m.toNat ≤ 60 by omega)
          refine ze_aload_n kc_149_33 rfl ?_
          refine ze_iload_n kc_149_34 rfl ?_
          refine ze_iload_n kc_149_35 rfl ?_
          refine zE_callv 3 kc_149_36 rfl rfl (Nat.le_of_ble_eq_true rfl) (Nat.le_of_ble_eq_true rfl) (Nat.le_of_ble_eq_true rfl) rfl (by decide +kernel) rfl ?_
          refine m_pours hM0 (by omega) (by omega) (fun Z2 f1 f2 => ?_)
          simp only [Option.toList_some, Option.toList_none, List.drop_succ_cons, List.drop_zero, List.cons_append, List.nil_append]
          refine ze_iload_n kc_149_39 rfl ?_
          refine ze_if_ge kc_149_40 (by omega) (fun h40 => ?_) (fun h40 => ?_)
          · skip
            obtain ⟨κ, rfl⟩ := Int.eq_ofNat_of_zero_le (show 0 ≤ i by omega)
            have hκ : κ < n := by omega
            refine ze_aload_n kc_149_50 rfl ?_
            refine ze_getR kc_149_51 rfl rfl rfl ?_
            refine ze_iload_n kc_149_54 rfl ?_
            refine ze_fald kc_149_55 rfl (by omega) ?_
            first
              | (rw [Int.toNat_natCast, f1.1 κ hκ, zfr]
                 have hxx : ((zPo n c e r m).1 κ).toNat < 2139095040 := by
                   have h1 := hPk.1 κ hκ
                   have h2 := zfC_in (mr κ hκ)
                   show ((zPs n r c (zfC (zmx c n)) (zfD e m) m.toNat).1 κ).toNat < _
                   omega
                 change zE 149 56 _ [zF ((zPo n c e r m).1 κ)] Z2 Q
                 generalize hAm : (zPo n c e r m).1 κ = amt at *)
              | skip
            refine zE_calls 1 kc_149_56 rfl rfl (Nat.le_of_ble_eq_true rfl) (Nat.le_of_ble_eq_true rfl) (Nat.le_of_ble_eq_true rfl) rfl ?_
            refine m_f2bits hxx ?_
            simp only [Option.toList_some, Option.toList_none, List.drop_succ_cons, List.drop_zero, List.cons_append, List.nil_append]
            refine ze_i2l kc_149_59 (by omega) ?_
            refine ze_lreturn kc_149_60 ?_
            rw [← hAm]
            first
              | (rw [show oPoured n c e r m i = ((zPo n c e r m).2.toNat : Nat) from (if_pos (by omega)).trans (if_pos (by omega))] at q1
                 exact q1 _ ⟨fun k a b d e g => f2.1 k b (by omega), fun j a b d e g => f2.2 j g, fun q => by rw [f2.1 11 (by decide) (by decide)]; exact q, fun q => by rw [f2.1 16 (by decide) (by decide)]; exact q⟩)
              | (rw [show oPoured n c e r m κ = (((zPo n c e r m).1 κ).toNat : Nat) from (if_pos (by omega)).trans (if_neg (by omega))] at q1
                 exact q1 _ ⟨fun k a b d e g => f2.1 k b (by omega), fun j a b d e g => f2.2 j g, fun q => by rw [f2.1 11 (by decide) (by decide)]; exact q, fun q => by rw [f2.1 16 (by decide) (by decide)]; exact q⟩)
          · skip
            refine ze_aload_n kc_149_43 rfl ?_
            refine ze_getF kc_149_44 rfl rfl ?_
            rw [f1.2, zfr]
            have hxx : (zPo n c e r m).2.toNat < 2139095040 := by
              have := hPk.2
              show (zPs n r c (zfC (zmx c n)) (zfD e m) m.toNat).2.toNat < _
              omega
            change zE 149 47 _ [zF (zPo n c e r m).2] Z2 Q
            generalize hAm : (zPo n c e r m).2 = amt at *
            refine ze_goto kc_149_47 ?_
            first
              | (rw [Int.toNat_natCast, f1.1 κ hκ, zfr]
                 have hxx : ((zPo n c e r m).1 κ).toNat < 2139095040 := by
                   have h1 := hPk.1 κ hκ
                   have h2 := zfC_in (mr κ hκ)
                   show ((zPs n r c (zfC (zmx c n)) (zfD e m) m.toNat).1 κ).toNat < _
                   omega
                 change zE 149 56 _ [zF ((zPo n c e r m).1 κ)] Z2 Q
                 generalize hAm : (zPo n c e r m).1 κ = amt at *)
              | skip
            refine zE_calls 1 kc_149_56 rfl rfl (Nat.le_of_ble_eq_true rfl) (Nat.le_of_ble_eq_true rfl) (Nat.le_of_ble_eq_true rfl) rfl ?_
            refine m_f2bits hxx ?_
            simp only [Option.toList_some, Option.toList_none, List.drop_succ_cons, List.drop_zero, List.cons_append, List.nil_append]
            refine ze_i2l kc_149_59 (by omega) ?_
            refine ze_lreturn kc_149_60 ?_
            rw [← hAm]
            first
              | (rw [show oPoured n c e r m i = ((zPo n c e r m).2.toNat : Nat) from (if_pos (by omega)).trans (if_pos (by omega))] at q1
                 exact q1 _ ⟨fun k a b d e g => f2.1 k b (by omega), fun j a b d e g => f2.2 j g, fun q => by rw [f2.1 11 (by decide) (by decide)]; exact q, fun q => by rw [f2.1 16 (by decide) (by decide)]; exact q⟩)
              | (rw [show oPoured n c e r m κ = (((zPo n c e r m).1 κ).toNat : Nat) from (if_pos (by omega)).trans (if_neg (by omega))] at q1
                 exact q1 _ ⟨fun k a b d e g => f2.1 k b (by omega), fun j a b d e g => f2.2 j g, fun q => by rw [f2.1 11 (by decide) (by decide)]; exact q, fun q => by rw [f2.1 16 (by decide) (by decide)]; exact q⟩)
        · simp only [Option.toList_some, Option.toList_none, List.drop_succ_cons, List.drop_zero, List.cons_append, List.nil_append]
          refine ze_if_ne kc_149_26 (by decide) (fun q => absurd q (by decide)) (fun _ => ?_)
          refine ze_ldc2L kc_149_29 ?_
          refine ze_lreturn kc_149_32 ?_
          rw [show oPoured n c e r m i = -9223372036854775808 from if_neg (by omega)] at q1
          exact q1 _ zFq_refl
      · simp only [Option.toList_some, Option.toList_none, List.drop_succ_cons, List.drop_zero, List.cons_append, List.nil_append]
        refine ze_if_eq kc_149_19 (by decide) (fun _ => ?_) (fun q => absurd q (by decide))
        refine ze_ldc2L kc_149_29 ?_
        refine ze_lreturn kc_149_32 ?_
        rw [show oPoured n c e r m i = -9223372036854775808 from if_neg (by omega)] at q1
        exact q1 _ zFq_refl
  · simp only [Option.toList_some, Option.toList_none, List.drop_succ_cons, List.drop_zero, List.cons_append, List.nil_append]
    refine ze_if_eq kc_149_6 (by decide) (fun _ => ?_) (fun q => absurd q (by decide))
    refine ze_ldc2L kc_149_29 ?_
    refine ze_lreturn kc_149_32 ?_
    rw [show oPoured n c e r m i = -9223372036854775808 from if_neg (by omega)] at q1
    exact q1 _ zFq_refl

set_option maxHeartbeats 8000000 in
theorem m_gapM {Z : zMem} {Q : Option zAV → zMem → Prop} {n : Nat} {c : Nat → Int} {e ρ : Int} (hM : zMo n c e ρ Z) {r m p : Int} (hr : -2147483648 ≤ r ∧ r ≤ 2147483647) (hm : -2147483648 ≤ m ∧ m ≤ 2147483647) (hp : -2147483648 ≤ p ∧ p ≤ 2147483647) (q1 : ∀ (Z' : zMem), zFq Z Z' → Q (some (zL (oGap n c e r m p))) Z') : zE 150 0 (zent 150 [zR 63, zI r, zI m, zI p]) [] Z Q := by
  show zE 150 0 [some (zR 63), some (zI r), some (zI m), some (zI p), none, none, none, none, none] [] Z Q
  have hM0 := hM
  obtain ⟨n0, n6, mc, mr, me, mρ, meR, mρR⟩ := hM
  have msr := zsum_range mr
  have hp6 := zpow6 n6
  refine ze_aload_n kc_150_0 rfl ?_
  refine ze_iload_n kc_150_1 rfl ?_
  refine ze_iload_n kc_150_2 rfl ?_
  refine zE_callv 3 kc_150_3 rfl rfl (Nat.le_of_ble_eq_true rfl) (Nat.le_of_ble_eq_true rfl) (Nat.le_of_ble_eq_true rfl) rfl (by decide +kernel) rfl ?_
  refine m_canPour (by omega) (by omega) (fun g3 => ?_) (fun g3 => ?_)
  · simp only [Option.toList_some, Option.toList_none, List.drop_succ_cons, List.drop_zero, List.cons_append, List.nil_append]
    refine ze_if_eq kc_150_6 (by decide) (fun q => absurd q (by decide)) (fun _ => ?_)
    refine ze_iload_n kc_150_9 rfl ?_
    refine zE_calls 1 kc_150_10 rfl rfl (Nat.le_of_ble_eq_true rfl) (Nat.le_of_ble_eq_true rfl) (Nat.le_of_ble_eq_true rfl) rfl ?_
    refine m_isPartM (by omega) (fun g10 => ?_) (fun g10 => ?_)
    · simp only [Option.toList_some, Option.toList_none, List.drop_succ_cons, List.drop_zero, List.cons_append, List.nil_append]
      refine ze_if_eq kc_150_13 (by decide) (fun q => absurd q (by decide)) (fun _ => ?_)
      refine ze_aload_n kc_150_16 rfl ?_
      refine zE_callv 1 kc_150_17 rfl rfl (Nat.le_of_ble_eq_true rfl) (Nat.le_of_ble_eq_true rfl) (Nat.le_of_ble_eq_true rfl) rfl (by decide +kernel) rfl ?_
      refine m_readyM hM0 (fun g17 => ?_) (fun g17 => ?_)
      · simp only [Option.toList_some, Option.toList_none, List.drop_succ_cons, List.drop_zero, List.cons_append, List.nil_append]
        refine ze_if_ne kc_150_20 (by decide) (fun _ => ?_) (fun q => absurd q (by decide))
        have hPk := zPs_ok (n := n) (r := r) (g := zfC (zmx c n)) mr (zfD_in meR (show 1 ≤ m ∧ m ≤ 60 by omega)) m.toNat (by omega)
        have hWt := zfW_in (show m.toNat ≤ 60 by omega)
        have hS := zS_range (r := r) (n := n) (c := c) ⟨by omega, n6⟩ mr
        refine ze_aload_n kc_150_27 rfl ?_
        refine ze_iload_n kc_150_28 rfl ?_
        refine ze_iload_n kc_150_29 rfl ?_
        refine zE_callv 3 kc_150_30 rfl rfl (Nat.le_of_ble_eq_true rfl) (Nat.le_of_ble_eq_true rfl) (Nat.le_of_ble_eq_true rfl) rfl (by decide +kernel) rfl ?_
        refine m_pours hM0 (by omega) (by omega) (fun Z2 f1 f2 => ?_)
        simp only [Option.toList_some, Option.toList_none, List.drop_succ_cons, List.drop_zero, List.cons_append, List.nil_append]
        refine ze_dconst0 kc_150_33 ?_
        refine ze_dstore kc_150_34 (Nat.le_of_ble_eq_true rfl) ?_
        simp only [zset1, zset2, zcut, zf0, zf1, zf2, zf3, List.set_cons_zero, List.set_cons_succ, List.getD_cons_zero, List.getD_cons_succ]
        refine ze_iconst kc_150_36 ?_
        refine ze_istore kc_150_37 (Nat.le_of_ble_eq_true rfl) ?_
        simp only [zset1, zset2, zcut, zf0, zf1, zf2, zf3, List.set_cons_zero, List.set_cons_succ, List.getD_cons_zero, List.getD_cons_succ]
        have loop39 : ∀ (μ : Nat) (k : Nat) (x : Int) (w : UInt64) (Zc : zMem) (o7 o8 : Option zAV), n - k = μ → (k ≤ n) → (x = k) → (w = (zGw n c e r (zPo n c e r m).1 k)) → ((zGw n c e r (zPo n c e r m).1 k).toNat < 9218868437227405312) → (zFm Z2 Zc) → zE 150 39 [some (zR 63), some (zI r), some (zI m), some (zI p), some (zD w), none, some (zI x), o7, o8] [] Zc Q := by
          refine zind ?_
          intro μ ih k x w Zc o7 o8 hm hk hx hww hw hq
          subst hx
          subst hww
          have hMc : zMo n c e ρ Zc := zMo_fm (zMo_w hM0 f2) hq
          refine ze_iload kc_150_39 rfl ?_
          refine ze_aload_n kc_150_41 rfl ?_
          refine ze_getI kc_150_42 rfl (by decide) ?_
          rw [hMc.1]
          refine ze_icmp_ge kc_150_45 (by omega) (by omega) (fun h45 => ?_) (fun h45 => ?_)
          · skip
            have ek : k = n := by omega
            have hgw : (zGw n c e r (zPo n c e r m).1 n).toNat < 9218868437227405312 := by rw [show zGw n c e r (zPo n c e r m).1 n = zGw n c e r (zPo n c e r m).1 k by rw [ek]]; exact hw
            rw [ek]
            refine ze_dload kc_150_95 rfl ?_
            refine zE_calls 1 kc_150_97 rfl rfl (Nat.le_of_ble_eq_true rfl) (Nat.le_of_ble_eq_true rfl) (Nat.le_of_ble_eq_true rfl) rfl ?_
            refine m_d2bits hgw ?_
            simp only [Option.toList_some, Option.toList_none, List.drop_succ_cons, List.drop_zero, List.cons_append, List.nil_append]
            refine ze_lstore kc_150_100 (Nat.le_of_ble_eq_true rfl) ?_
            simp only [zset1, zset2, zcut, zf0, zf1, zf2, zf3, List.set_cons_zero, List.set_cons_succ, List.getD_cons_zero, List.getD_cons_succ]
            refine ze_iload_n kc_150_102 rfl ?_
            refine ze_if_ne kc_150_103 (by omega) (fun h103 => ?_) (fun h103 => ?_)
            · skip
              refine ze_lload kc_150_114 rfl ?_
              refine ze_ldc2L kc_150_116 ?_
              refine ze_land kc_150_119 ?_
              refine ze_lreturn kc_150_120 ?_
              have hc0 : ((0 ≤ r ∧ r ≤ 4) ∧ (1 ≤ m ∧ m ≤ 60)) ∧ (0 ≤ p ∧ p ≤ 1) ∧ (1 ≤ n ∧ e ≤ zsum n c) := by omega
              unfold oGap at q1
              rw [if_pos hc0] at q1
              first
                | (rw [if_pos (by omega)] at q1
                   exact q1 _ ⟨fun j a b d e g => (hq.1 j b e).trans (f2.1 j b (by omega)), fun j a b d e g => (hq.2 j a b d e).trans (f2.2 j g), fun q => by rw [hq.1 11 (by decide) (by decide), f2.1 11 (by decide) (by decide)]; exact q, fun q => by rw [hq.1 16 (by decide) (by decide), f2.1 16 (by decide) (by decide)]; exact q⟩)
                | (rw [if_neg (by omega)] at q1
                   exact q1 _ ⟨fun j a b d e g => (hq.1 j b e).trans (f2.1 j b (by omega)), fun j a b d e g => (hq.2 j a b d e).trans (f2.2 j g), fun q => by rw [hq.1 11 (by decide) (by decide), f2.1 11 (by decide) (by decide)]; exact q, fun q => by rw [hq.1 16 (by decide) (by decide), f2.1 16 (by decide) (by decide)]; exact q⟩)
            · skip
              refine ze_lload kc_150_106 rfl ?_
              refine ze_bipush kc_150_108 ?_
              refine ze_lushr kc_150_110 ?_
              refine ze_goto kc_150_111 ?_
              refine ze_lreturn kc_150_120 ?_
              have hc0 : ((0 ≤ r ∧ r ≤ 4) ∧ (1 ≤ m ∧ m ≤ 60)) ∧ (0 ≤ p ∧ p ≤ 1) ∧ (1 ≤ n ∧ e ≤ zsum n c) := by omega
              unfold oGap at q1
              rw [if_pos hc0] at q1
              first
                | (rw [if_pos (by omega)] at q1
                   exact q1 _ ⟨fun j a b d e g => (hq.1 j b e).trans (f2.1 j b (by omega)), fun j a b d e g => (hq.2 j a b d e).trans (f2.2 j g), fun q => by rw [hq.1 11 (by decide) (by decide), f2.1 11 (by decide) (by decide)]; exact q, fun q => by rw [hq.1 16 (by decide) (by decide), f2.1 16 (by decide) (by decide)]; exact q⟩)
                | (rw [if_neg (by omega)] at q1
                   exact q1 _ ⟨fun j a b d e g => (hq.1 j b e).trans (f2.1 j b (by omega)), fun j a b d e g => (hq.2 j a b d e).trans (f2.2 j g), fun q => by rw [hq.1 11 (by decide) (by decide), f2.1 11 (by decide) (by decide)]; exact q, fun q => by rw [hq.1 16 (by decide) (by decide), f2.1 16 (by decide) (by decide)]; exact q⟩)
          · skip
            have gG := zGt_range (r := r) (i := k) (w := 1) (u := e) n6 (show k < n by omega) mr (by omega) (by omega)
            have hak := zfC_in (mr k (by omega))
            have hak2 := hPk.1 k (by omega)
            change ((zPo n c e r m).1 k).toNat ≤ _ at hak2
            have hlp := zlow_p (a := zGt r n c k 1 e) (b := zS r n c) (by omega)
            have hlq := hlp.2.2.2 gG.1
            have hze : zdq (zlow (zGt r n c k 1 e) (zS r n c) 0) (zlow (zGt r n c k 1 e) (zS r n c) 1) = zdq (zGt r n c k 1 e) (zS r n c) := zdq_eq (by omega) (by omega) (by omega) (by omega) hlp.2.2.1
            have ho := zdo_in (a := (zPo n c e r m).1 k) (G := zGt r n c k 1 e) (S := zS r n c) (by omega) (by omega) (by omega)
            refine ze_aload_n kc_150_48 rfl ?_
            refine ze_iload_n kc_150_49 rfl ?_
            refine ze_iload kc_150_50 rfl ?_
            refine zE_callv 3 kc_150_52 rfl rfl (Nat.le_of_ble_eq_true rfl) (Nat.le_of_ble_eq_true rfl) (Nat.le_of_ble_eq_true rfl) rfl (by decide +kernel) rfl ?_
            refine m_awardOf hMc (by omega) (by omega) (by omega) (fun Z3 k1 k2 k3 => ?_)
            simp only [Option.toList_some, Option.toList_none, List.drop_succ_cons, List.drop_zero, List.cons_append, List.nil_append]
            refine ze_aload_n kc_150_55 rfl ?_
            refine ze_getR kc_150_56 rfl rfl rfl ?_
            refine ze_iload kc_150_59 rfl ?_
            refine ze_fald kc_150_61 rfl (by omega) ?_
            rw [Int.toNat_natCast, k1.1 75 (by decide) (by decide), hq.1 75 (by decide) (by decide), f1.1 k (by omega), zfr]
            change zE 150 62 _ [zF ((zPo n c e r m).1 k)] Z3 Q
            refine ze_f2d kc_150_62 (zdp_ok (zfd_v (by omega)).1) ?_
            refine ze_aload_n kc_150_63 rfl ?_
            refine ze_getL kc_150_64 rfl rfl ?_
            rw [k2]
            refine ze_l2d kc_150_67 ?_
            refine ze_aload_n kc_150_68 rfl ?_
            refine ze_getL kc_150_69 rfl rfl ?_
            rw [k3]
            refine ze_l2d kc_150_72 ?_
            refine ze_ddiv kc_150_73 (zdq_ok (by omega) (by omega)) ?_
            change zE 150 74 _ [zD (zdq (zlow (zGt r n c k 1 e) (zS r n c) 0) (zlow (zGt r n c k 1 e) (zS r n c) 1)), zD (FP.f2d ((zPo n c e r m).1 k))] Z3 Q
            rw [hze]
            refine ze_dsub kc_150_74 (zdo_ok (by omega) (by omega) (by omega)) ?_
            change zE 150 75 _ [zD (zdo ((zPo n c e r m).1 k) (zGt r n c k 1 e) (zS r n c))] Z3 Q
            have hz2 := (zpk_v (w := (zGw n c e r (zPo n c e r m).1 k)) (x := (zdo ((zPo n c e r m).1 k) (zGt r n c k 1 e) (zS r n c))) hw (by omega)).2
            generalize hXe : (zdo ((zPo n c e r m).1 k) (zGt r n c k 1 e) (zS r n c)) = X at *
            refine ze_dstore kc_150_75 (Nat.le_of_ble_eq_true rfl) ?_
            simp only [zset1, zset2, zcut, zf0, zf1, zf2, zf3, List.set_cons_zero, List.set_cons_succ, List.getD_cons_zero, List.getD_cons_succ]
            refine ze_dload kc_150_77 rfl ?_
            refine ze_dload kc_150_79 rfl ?_
            refine ze_dabs kc_150_81 (Nat.le_of_ble_eq_true rfl) (zdp_nan (FP.Core.fin_of_lt ho (by decide)).notNaN) ?_
            refine ze_dmax kc_150_84 (Nat.le_of_ble_eq_true rfl) (zdp_ok hw) (zdp_ok (by have := zab_v X; show (zab X).toNat < _; omega)) ?_
            refine ze_dstore kc_150_87 (Nat.le_of_ble_eq_true rfl) ?_
            simp only [zset1, zset2, zcut, zf0, zf1, zf2, zf3, List.set_cons_zero, List.set_cons_succ, List.getD_cons_zero, List.getD_cons_succ]
            refine ze_iinc kc_150_89 rfl ?_
            simp only [zset1, zset2, zcut, zf0, zf1, zf2, zf3, List.set_cons_zero, List.set_cons_succ, List.getD_cons_zero, List.getD_cons_succ]
            refine ze_goto kc_150_92 ?_
            refine ih _ (by omega) (k + 1) _ _ _ _ _ rfl (by omega) (by omega) ?_ ?_ (zFm_trans hq k1)
            · show _ = zpk (zGw n c e r (zPo n c e r m).1 k) (zdo ((zPo n c e r m).1 k) (zGt r n c k 1 e) (zS r n c))
              rw [hXe]
              rfl
            · show (zpk (zGw n c e r (zPo n c e r m).1 k) (zdo ((zPo n c e r m).1 k) (zGt r n c k 1 e) (zS r n c))).toNat < _
              rw [hXe]
              exact hz2
        refine loop39 _ 0 0 _ Z2 none none rfl (by omega) rfl rfl (by show FP.dconst0.toNat < 9218868437227405312; decide) zFm_refl
      · simp only [Option.toList_some, Option.toList_none, List.drop_succ_cons, List.drop_zero, List.cons_append, List.nil_append]
        refine ze_if_ne kc_150_20 (by decide) (fun q => absurd q (by decide)) (fun _ => ?_)
        refine ze_ldc2L kc_150_23 ?_
        refine ze_lreturn kc_150_26 ?_
        rw [show oGap n c e r m p = -9223372036854775808 from if_neg (by omega)] at q1
        exact q1 _ zFq_refl
    · simp only [Option.toList_some, Option.toList_none, List.drop_succ_cons, List.drop_zero, List.cons_append, List.nil_append]
      refine ze_if_eq kc_150_13 (by decide) (fun _ => ?_) (fun q => absurd q (by decide))
      refine ze_ldc2L kc_150_23 ?_
      refine ze_lreturn kc_150_26 ?_
      rw [show oGap n c e r m p = -9223372036854775808 from if_neg (by omega)] at q1
      exact q1 _ zFq_refl
  · simp only [Option.toList_some, Option.toList_none, List.drop_succ_cons, List.drop_zero, List.cons_append, List.nil_append]
    refine ze_if_eq kc_150_6 (by decide) (fun _ => ?_) (fun q => absurd q (by decide))
    refine ze_ldc2L kc_150_23 ?_
    refine ze_lreturn kc_150_26 ?_
    rw [show oGap n c e r m p = -9223372036854775808 from if_neg (by omega)] at q1
    exact q1 _ zFq_refl
