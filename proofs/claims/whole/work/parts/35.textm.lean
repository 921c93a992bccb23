/-! TEXTS of the plain form -/
set_option maxHeartbeats 4000000 in
theorem m_here {Z : zMem} {Q : Option zAV → zMem → Prop} {L : Nat} {t : Nat → Int} (hT : zTxM L t Z) {p : Nat} (hp : p ≤ L) (h6 : Z 63 20 = p) (q1 : p < L → Q (some (zI (t p))) Z) (q2 : ¬ p < L → Q (some (zI (-1))) Z) : zE 113 0 (zent 113 [zR 63]) [] Z Q := by
  show zE 113 0 [some (zR 63)] [] Z Q
  have hT0 := hT
  obtain ⟨t1, t2, t3, t4⟩ := hT
  refine ze_aload_n kc_113_0 rfl ?_
  refine ze_getI kc_113_1 rfl (by decide) ?_
  rw [h6]
  refine ze_aload_n kc_113_4 rfl ?_
  refine ze_getI kc_113_5 rfl (by decide) ?_
  rw [t1]
  refine ze_icmp_ge kc_113_8 (by omega) (by omega) (fun h8 => ?_) (fun h8 => ?_)
  · skip
    refine ze_iconst kc_113_23 ?_
    refine ze_ireturn kc_113_24 (Or.inl rfl) ?_
    first
      | exact q1 (by omega)
      | exact q2 (by omega)
  · skip
    refine ze_aload_n kc_113_11 rfl ?_
    refine ze_getR kc_113_12 rfl rfl rfl ?_
    refine ze_aload_n kc_113_15 rfl ?_
    refine ze_getI kc_113_16 rfl (by decide) ?_
    rw [h6]
    refine ze_iald kc_113_19 rfl (by omega) ?_
    rw [Int.toNat_natCast, t3 p (by omega)]
    refine ze_goto kc_113_20 ?_
    refine ze_ireturn kc_113_24 (Or.inl rfl) ?_
    first
      | exact q1 (by omega)
      | exact q2 (by omega)

set_option maxHeartbeats 4000000 in
theorem m_readNumber {Z : zMem} {Q : Option zAV → zMem → Prop} {L : Nat} {t : Nat → Int} (hT : zTxM L t Z) {m p : Nat} {w : Int} (hw : w = m) (hm : m ≤ 3) (hp : p ≤ L) (h6 : Z 63 20 = p) (q1 : ∀ (Z' : zMem) (r : Nat × Int), r = (zxNum L t m p 0) → zFat Z Z' → Z' 63 20 = (r.1 : Nat) → Z' 63 21 = r.2 → ¬ r.1 = p → Q (some (zI 1)) Z') (q2 : ∀ (Z' : zMem) (r : Nat × Int), r = (zxNum L t m p 0) → zFat Z Z' → Z' 63 20 = (r.1 : Nat) → r.1 = p → Q (some (zI 0)) Z') : zE 114 0 (zent 114 [zR 63, zI w]) [] Z Q := by
  show zE 114 0 [some (zR 63), some (zI w), none] [] Z Q
  subst hw
  have hT0 := hT
  obtain ⟨t1, t2, t3, t4⟩ := hT
  refine ze_aload_n kc_114_0 rfl ?_
  refine ze_iconst kc_114_1 ?_
  refine ze_putI kc_114_2 rfl rfl ?_
  refine ze_aload_n kc_114_5 rfl ?_
  refine ze_getI kc_114_6 rfl (by decide) ?_
  rw [zup_o (by decide), h6]
  refine ze_istore_n kc_114_9 (Nat.le_of_ble_eq_true rfl) ?_
  simp only [zset1, zset2, zcut, zf0, zf1, zf2, zf3, List.set_cons_zero, List.set_cons_succ, List.getD_cons_zero, List.getD_cons_succ]
  have loop10 : ∀ (μ : Nat) (k q : Nat) (v : Int) (Zc : zMem), m - k = μ → (k ≤ m) → (q = p + k ∧ q ≤ L) → (Zc 63 20 = q) → (Zc 63 21 = v) → (zFat Z Zc) → (zxNum L t (m - k) q v = (zxNum L t m p 0)) → zE 114 10 [some (zR 63), some (zI (m : Nat)), some (zI (p : Nat))] [] Zc Q := by
    refine zind ?_
    intro μ ih k q v Zc hm hk hq hpl hla hf hR
    refine ze_aload_n kc_114_10 rfl ?_
    refine ze_getI kc_114_11 rfl (by decide) ?_
    rw [hpl]
    refine ze_iload_n kc_114_14 rfl ?_
    refine ze_iload_n kc_114_15 rfl ?_
    refine ze_iadd kc_114_16 ?_
    refine ze_icmp_ge kc_114_17 (by omega) (by omega) (fun h17 => ?_) (fun h17 => ?_)
    · skip
      refine ze_aload_n kc_114_66 rfl ?_
      refine ze_getI kc_114_67 rfl (by decide) ?_
      rw [hpl]
      refine ze_iload_n kc_114_70 rfl ?_
      refine ze_icmp_le kc_114_71 (by omega) (by omega) (fun h71 => ?_) (fun h71 => ?_)
      · skip
        refine ze_iconst kc_114_78 ?_
        refine ze_ireturn kc_114_79 (by decide) ?_
        have e : zxNum L t (m - k) q v = (q, v) := by
          first
            | (rw [show m - k = 0 by omega]; rfl)
            | exact zxNum_stop (decide_eq_false (by omega)) _
        first
          | exact q1 Zc (q, v) (e.symm.trans hR) hf hpl hla (by show ¬ q = p; omega)
          | exact q2 Zc (q, v) (e.symm.trans hR) hf hpl (by show q = p; omega)
      · skip
        refine ze_iconst kc_114_74 ?_
        refine ze_goto kc_114_75 ?_
        refine ze_ireturn kc_114_79 (by decide) ?_
        have e : zxNum L t (m - k) q v = (q, v) := by
          first
            | (rw [show m - k = 0 by omega]; rfl)
            | exact zxNum_stop (decide_eq_false (by omega)) _
        first
          | exact q1 Zc (q, v) (e.symm.trans hR) hf hpl hla (by show ¬ q = p; omega)
          | exact q2 Zc (q, v) (e.symm.trans hR) hf hpl (by show q = p; omega)
    · skip
      refine ze_aload_n kc_114_20 rfl ?_
      refine zE_callv 1 kc_114_21 rfl rfl (Nat.le_of_ble_eq_true rfl) (Nat.le_of_ble_eq_true rfl) (Nat.le_of_ble_eq_true rfl) rfl (by decide +kernel) rfl ?_
      refine m_here (zTxM_f hT0 hf) hq.2 hpl (fun g21 => ?_) (fun g21 => ?_)
      · simp only [Option.toList_some, Option.toList_none, List.drop_succ_cons, List.drop_zero, List.cons_append, List.nil_append]
        refine ze_bipush kc_114_24 ?_
        refine ze_bipush kc_114_26 ?_
        skip
        refine zE_calls 3 kc_114_28 rfl rfl (Nat.le_of_ble_eq_true rfl) (Nat.le_of_ble_eq_true rfl) (Nat.le_of_ble_eq_true rfl) rfl ?_
        refine m_in (by have h9 := t4 q; omega) (by omega) (by omega) (fun g28 => ?_) (fun g28 => ?_)
        · simp only [Option.toList_some, Option.toList_none, List.drop_succ_cons, List.drop_zero, List.cons_append, List.nil_append]
          refine ze_if_eq kc_114_31 (by decide) (fun q => absurd q (by decide)) (fun _ => ?_)
          refine ze_aload_n kc_114_34 rfl ?_
          refine ze_bipush kc_114_35 ?_
          refine ze_aload_n kc_114_37 rfl ?_
          refine ze_getI kc_114_38 rfl (by decide) ?_
          rw [hla]
          refine ze_imul kc_114_41 ?_
          refine ze_aload_n kc_114_42 rfl ?_
          refine zE_callv 1 kc_114_43 rfl rfl (Nat.le_of_ble_eq_true rfl) (Nat.le_of_ble_eq_true rfl) (Nat.le_of_ble_eq_true rfl) rfl (by decide +kernel) rfl ?_
          refine m_here (zTxM_f hT0 hf) hq.2 hpl (fun g43 => ?_) (fun g43 => by first | exact absurd g21 g43 | (exfalso; omega))
          simp only [Option.toList_some, Option.toList_none, List.drop_succ_cons, List.drop_zero, List.cons_append, List.nil_append]
          refine ze_iadd kc_114_46 ?_
          refine ze_bipush kc_114_47 ?_
          refine ze_isub kc_114_49 ?_
          refine ze_putI kc_114_50 rfl rfl ?_
          refine ze_aload_n kc_114_53 rfl ?_
          refine ze_dup kc_114_54 rfl ?_
          refine ze_getI kc_114_55 rfl (by decide) ?_
          rw [zup_o (by decide), hpl]
          refine ze_iconst kc_114_58 ?_
          refine ze_iadd kc_114_59 ?_
          refine ze_putI kc_114_60 rfl rfl ?_
          refine ze_goto kc_114_63 ?_
          refine ih _ (by omega) (k + 1) (q + 1) (10 * v + t q - 48) _ rfl (by omega) (by omega) (by rw [zup_s]; omega) (by rw [zup_o (by decide), zup_s]) (zFat_up (zFat_up hf (by omega)) (by omega)) ?_
          rw [← hR, zxNum_go (q := q) (m := m - k) (v := v) (decide_eq_true (by omega)) (by omega), show m - (k + 1) = m - k - 1 by omega]
        · simp only [Option.toList_some, Option.toList_none, List.drop_succ_cons, List.drop_zero, List.cons_append, List.nil_append]
          refine ze_if_eq kc_114_31 (by decide) (fun _ => ?_) (fun q => absurd q (by decide))
          refine ze_aload_n kc_114_66 rfl ?_
          refine ze_getI kc_114_67 rfl (by decide) ?_
          rw [hpl]
          refine ze_iload_n kc_114_70 rfl ?_
          refine ze_icmp_le kc_114_71 (by omega) (by omega) (fun h71 => ?_) (fun h71 => ?_)
          · skip
            refine ze_iconst kc_114_78 ?_
            refine ze_ireturn kc_114_79 (by decide) ?_
            have e : zxNum L t (m - k) q v = (q, v) := by
              first
                | (rw [show m - k = 0 by omega]; rfl)
                | exact zxNum_stop (decide_eq_false (by omega)) _
            first
              | exact q1 Zc (q, v) (e.symm.trans hR) hf hpl hla (by show ¬ q = p; omega)
              | exact q2 Zc (q, v) (e.symm.trans hR) hf hpl (by show q = p; omega)
          · skip
            refine ze_iconst kc_114_74 ?_
            refine ze_goto kc_114_75 ?_
            refine ze_ireturn kc_114_79 (by decide) ?_
            have e : zxNum L t (m - k) q v = (q, v) := by
              first
                | (rw [show m - k = 0 by omega]; rfl)
                | exact zxNum_stop (decide_eq_false (by omega)) _
            first
              | exact q1 Zc (q, v) (e.symm.trans hR) hf hpl hla (by show ¬ q = p; omega)
              | exact q2 Zc (q, v) (e.symm.trans hR) hf hpl (by show q = p; omega)
      · simp only [Option.toList_some, Option.toList_none, List.drop_succ_cons, List.drop_zero, List.cons_append, List.nil_append]
        refine ze_bipush kc_114_24 ?_
        refine ze_bipush kc_114_26 ?_
        skip
        refine zE_calls 3 kc_114_28 rfl rfl (Nat.le_of_ble_eq_true rfl) (Nat.le_of_ble_eq_true rfl) (Nat.le_of_ble_eq_true rfl) rfl ?_
        refine m_in (by have h9 := t4 q; omega) (by omega) (by omega) (fun g28 => ?_) (fun g28 => ?_)
        · simp only [Option.toList_some, Option.toList_none, List.drop_succ_cons, List.drop_zero, List.cons_append, List.nil_append]
          refine ze_if_eq kc_114_31 (by decide) (fun q => absurd q (by decide)) (fun _ => ?_)
          refine ze_aload_n kc_114_34 rfl ?_
          refine ze_bipush kc_114_35 ?_
          refine ze_aload_n kc_114_37 rfl ?_
          refine ze_getI kc_114_38 rfl (by decide) ?_
          rw [hla]
          refine ze_imul kc_114_41 ?_
          refine ze_aload_n kc_114_42 rfl ?_
          refine zE_callv 1 kc_114_43 rfl rfl (Nat.le_of_ble_eq_true rfl) (Nat.le_of_ble_eq_true rfl) (Nat.le_of_ble_eq_true rfl) rfl (by decide +kernel) rfl ?_
          refine m_here (zTxM_f hT0 hf) hq.2 hpl (fun g43 => ?_) (fun g43 => by first | exact absurd g21 g43 | (exfalso; omega))
          simp only [Option.toList_some, Option.toList_none, List.drop_succ_cons, List.drop_zero, List.cons_append, List.nil_append]
          refine ze_iadd kc_114_46 ?_
          refine ze_bipush kc_114_47 ?_
          refine ze_isub kc_114_49 ?_
          refine ze_putI kc_114_50 rfl rfl ?_
          refine ze_aload_n kc_114_53 rfl ?_
          refine ze_dup kc_114_54 rfl ?_
          refine ze_getI kc_114_55 rfl (by decide) ?_
          rw [zup_o (by decide), hpl]
          refine ze_iconst kc_114_58 ?_
          refine ze_iadd kc_114_59 ?_
          refine ze_putI kc_114_60 rfl rfl ?_
          refine ze_goto kc_114_63 ?_
          refine ih _ (by omega) (k + 1) (q + 1) (10 * v + t q - 48) _ rfl (by omega) (by omega) (by rw [zup_s]; omega) (by rw [zup_o (by decide), zup_s]) (zFat_up (zFat_up hf (by omega)) (by omega)) ?_
          rw [← hR, zxNum_go (q := q) (m := m - k) (v := v) (decide_eq_true (by omega)) (by omega), show m - (k + 1) = m - k - 1 by omega]
        · simp only [Option.toList_some, Option.toList_none, List.drop_succ_cons, List.drop_zero, List.cons_append, List.nil_append]
          refine ze_if_eq kc_114_31 (by decide) (fun _ => ?_) (fun q => absurd q (by decide))
          refine ze_aload_n kc_114_66 rfl ?_
          refine ze_getI kc_114_67 rfl (by decide) ?_
          rw [hpl]
          refine ze_iload_n kc_114_70 rfl ?_
          refine ze_icmp_le kc_114_71 (by omega) (by omega) (fun h71 => ?_) (fun h71 => ?_)
          · skip
            refine ze_iconst kc_114_78 ?_
            refine ze_ireturn kc_114_79 (by decide) ?_
            have e : zxNum L t (m - k) q v = (q, v) := by
              first
                | (rw [show m - k = 0 by omega]; rfl)
                | exact zxNum_stop (decide_eq_false (by omega)) _
            first
              | exact q1 Zc (q, v) (e.symm.trans hR) hf hpl hla (by show ¬ q = p; omega)
              | exact q2 Zc (q, v) (e.symm.trans hR) hf hpl (by show q = p; omega)
          · skip
            refine ze_iconst kc_114_74 ?_
            refine ze_goto kc_114_75 ?_
            refine ze_ireturn kc_114_79 (by decide) ?_
            have e : zxNum L t (m - k) q v = (q, v) := by
              first
                | (rw [show m - k = 0 by omega]; rfl)
                | exact zxNum_stop (decide_eq_false (by omega)) _
            first
              | exact q1 Zc (q, v) (e.symm.trans hR) hf hpl hla (by show ¬ q = p; omega)
              | exact q2 Zc (q, v) (e.symm.trans hR) hf hpl (by show q = p; omega)
  refine loop10 _ 0 p 0 _ rfl (by omega) (by omega) (by rw [zup_o (by decide)]; exact h6) zup_s (zFat_up zFat_refl (by omega)) rfl

set_option maxHeartbeats 8000000 in
theorem m_clause_b {Z Zc : zMem} {Q : Option zAV → zMem → Prop} {L : Nat} {t : Nat → Int} (hT : zTxM L t Z) {p : Nat} {b : Int} (hA : zxA L t p) (hB : zxB L t p) (hF : zFat Z Zc) (hP : Zc 63 20 = ((zxWho L t p).1 : Nat)) (q1 : zxOk L t p → ∀ (Z' : zMem), zFat Z Z' → Z' 63 20 = (zxEnd L t p : Nat) → Z' 63 21 = (zxVal L t p).2 → zE 115 94 [some (zR 63), some (zI b), some (zI (t p)), some (zI (zxWho L t p).2)] [] Z' Q) (q2 : ¬ zxOk L t p → ∀ (Z' : zMem), zFat Z Z' → Z' 63 20 = (zxEnd L t p : Nat) → Q (some (zI (-1))) Z') : zE 115 64 [some (zR 63), some (zI b), some (zI (t p)), some (zI (zxWho L t p).2)] [] Zc Q := by
  have hwp := zxWho_pl (t := t) hA.1
  have htp := hT.2.2.2 p hA.1
  refine ze_aload_n kc_115_64 rfl ?_
  refine ze_iload_n kc_115_65 rfl ?_
  refine ze_bipush kc_115_66 ?_
  refine ze_icmp_ne kc_115_68 (by omega) (by omega) (fun h68 => ?_) (fun h68 => ?_)
  · skip
    refine ze_iload_n kc_115_75 rfl ?_
    refine ze_bipush kc_115_76 ?_
    refine ze_icmp_ne kc_115_78 (by omega) (by omega) (fun h78 => ?_) (fun h78 => ?_)
    · skip
      refine ze_iconst kc_115_85 ?_
      refine zE_callv 2 kc_115_86 rfl rfl (Nat.le_of_ble_eq_true rfl) (Nat.le_of_ble_eq_true rfl) (Nat.le_of_ble_eq_true rfl) rfl (by decide +kernel) rfl ?_
      refine m_readNumber (zTxM_f hT hF) (m := zxMst (t p)) (p := (zxWho L t p).1) (by unfold zxMst; split <;> (try split) <;> omega) (by unfold zxMst; split <;> (try split) <;> omega) hwp.2 hP (fun Z3 r hr f3 f4 f5 f6 => ?_) (fun Z3 r hr f3 f4 f6 => ?_)
      · simp only [Option.toList_some, Option.toList_none, List.drop_succ_cons, List.drop_zero, List.cons_append, List.nil_append]
        refine ze_if_ne kc_115_89 (by decide) (fun _ => ?_) (fun q => absurd q (by decide))
        have hr2 : r = zxVal L t p := hr
        exact q1 ⟨hA, hB, fun q => f6 (by rw [hr2]; exact q)⟩ _ (zFat_trans hF f3) (by rw [zxEnd_c hA hB, ← hr2]; exact f4) (by rw [← hr2]; exact f5)
      · simp only [Option.toList_some, Option.toList_none, List.drop_succ_cons, List.drop_zero, List.cons_append, List.nil_append]
        refine ze_if_ne kc_115_89 (by decide) (fun q => absurd q (by decide)) (fun _ => ?_)
        refine ze_iconst kc_115_92 ?_
        refine ze_ireturn kc_115_93 (Or.inl rfl) ?_
        have hr2 : r = zxVal L t p := hr
        exact q2 (fun q => q.2.2 (by rw [← hr2]; exact f6)) _ (zFat_trans hF f3) (by rw [zxEnd_c hA hB, ← hr2]; exact f4)
    · skip
      refine ze_iconst kc_115_81 ?_
      refine ze_goto kc_115_82 ?_
      refine zE_callv 2 kc_115_86 rfl rfl (Nat.le_of_ble_eq_true rfl) (Nat.le_of_ble_eq_true rfl) (Nat.le_of_ble_eq_true rfl) rfl (by decide +kernel) rfl ?_
      refine m_readNumber (zTxM_f hT hF) (m := zxMst (t p)) (p := (zxWho L t p).1) (by unfold zxMst; split <;> (try split) <;> omega) (by unfold zxMst; split <;> (try split) <;> omega) hwp.2 hP (fun Z3 r hr f3 f4 f5 f6 => ?_) (fun Z3 r hr f3 f4 f6 => ?_)
      · simp only [Option.toList_some, Option.toList_none, List.drop_succ_cons, List.drop_zero, List.cons_append, List.nil_append]
        refine ze_if_ne kc_115_89 (by decide) (fun _ => ?_) (fun q => absurd q (by decide))
        have hr2 : r = zxVal L t p := hr
        exact q1 ⟨hA, hB, fun q => f6 (by rw [hr2]; exact q)⟩ _ (zFat_trans hF f3) (by rw [zxEnd_c hA hB, ← hr2]; exact f4) (by rw [← hr2]; exact f5)
      · simp only [Option.toList_some, Option.toList_none, List.drop_succ_cons, List.drop_zero, List.cons_append, List.nil_append]
        refine ze_if_ne kc_115_89 (by decide) (fun q => absurd q (by decide)) (fun _ => ?_)
        refine ze_iconst kc_115_92 ?_
        refine ze_ireturn kc_115_93 (Or.inl rfl) ?_
        have hr2 : r = zxVal L t p := hr
        exact q2 (fun q => q.2.2 (by rw [← hr2]; exact f6)) _ (zFat_trans hF f3) (by rw [zxEnd_c hA hB, ← hr2]; exact f4)
  · skip
    refine ze_iconst kc_115_71 ?_
    refine ze_goto kc_115_72 ?_
    refine zE_callv 2 kc_115_86 rfl rfl (Nat.le_of_ble_eq_true rfl) (Nat.le_of_ble_eq_true rfl) (Nat.le_of_ble_eq_true rfl) rfl (by decide +kernel) rfl ?_
    refine m_readNumber (zTxM_f hT hF) (m := zxMst (t p)) (p := (zxWho L t p).1) (by unfold zxMst; split <;> (try split) <;> omega) (by unfold zxMst; split <;> (try split) <;> omega) hwp.2 hP (fun Z3 r hr f3 f4 f5 f6 => ?_) (fun Z3 r hr f3 f4 f6 => ?_)
    · simp only [Option.toList_some, Option.toList_none, List.drop_succ_cons, List.drop_zero, List.cons_append, List.nil_append]
      refine ze_if_ne kc_115_89 (by decide) (fun _ => ?_) (fun q => absurd q (by decide))
      have hr2 : r = zxVal L t p := hr
      exact q1 ⟨hA, hB, fun q => f6 (by rw [hr2]; exact q)⟩ _ (zFat_trans hF f3) (by rw [zxEnd_c hA hB, ← hr2]; exact f4) (by rw [← hr2]; exact f5)
    · simp only [Option.toList_some, Option.toList_none, List.drop_succ_cons, List.drop_zero, List.cons_append, List.nil_append]
      refine ze_if_ne kc_115_89 (by decide) (fun q => absurd q (by decide)) (fun _ => ?_)
      refine ze_iconst kc_115_92 ?_
      refine ze_ireturn kc_115_93 (Or.inl rfl) ?_
      have hr2 : r = zxVal L t p := hr
      exact q2 (fun q => q.2.2 (by rw [← hr2]; exact f6)) _ (zFat_trans hF f3) (by rw [zxEnd_c hA hB, ← hr2]; exact f4)

set_option maxHeartbeats 8000000 in
theorem m_clause_a {Z : zMem} {Q : Option zAV → zMem → Prop} {L : Nat} {t : Nat → Int} (hT : zTxM L t Z) {p : Nat} {b : Int} (hp : p ≤ L) (h6 : Z 63 20 = p) (q1 : zxOk L t p → ∀ (Z' : zMem), zFat Z Z' → Z' 63 20 = (zxEnd L t p : Nat) → Z' 63 21 = (zxVal L t p).2 → zE 115 94 [some (zR 63), some (zI b), some (zI (t p)), some (zI (zxWho L t p).2)] [] Z' Q) (q2 : ¬ zxOk L t p → ∀ (Z' : zMem), zFat Z Z' → Z' 63 20 = (zxEnd L t p : Nat) → Q (some (zI (-1))) Z') : zE 115 0 (zent 115 [zR 63, zI b]) [] Z Q := by
  show zE 115 0 [some (zR 63), some (zI b), none, none] [] Z Q
  have hT0 := hT
  obtain ⟨t1, t2, t3, t4⟩ := hT
  refine ze_aload_n kc_115_0 rfl ?_
  refine zE_callv 1 kc_115_1 rfl rfl (Nat.le_of_ble_eq_true rfl) (Nat.le_of_ble_eq_true rfl) (Nat.le_of_ble_eq_true rfl) rfl (by decide +kernel) rfl ?_
  refine m_here hT0 hp h6 (fun g1 => ?_) (fun g1 => ?_)
  · simp only [Option.toList_some, Option.toList_none, List.drop_succ_cons, List.drop_zero, List.cons_append, List.nil_append]
    have htp := t4 p g1
    refine ze_istore_n kc_115_4 (Nat.le_of_ble_eq_true rfl) ?_
    simp only [zset1, zset2, zcut, zf0, zf1, zf2, zf3, List.set_cons_zero, List.set_cons_succ, List.getD_cons_zero, List.getD_cons_succ]
    refine ze_iconst kc_115_5 ?_
    refine ze_istore_n kc_115_6 (Nat.le_of_ble_eq_true rfl) ?_
    simp only [zset1, zset2, zcut, zf0, zf1, zf2, zf3, List.set_cons_zero, List.set_cons_succ, List.getD_cons_zero, List.getD_cons_succ]
    refine ze_iload_n kc_115_7 rfl ?_
    refine ze_bipush kc_115_8 ?_
    refine ze_icmp_eq kc_115_10 (by omega) (by omega) (fun h10 => ?_) (fun h10 => ?_)
    · skip
      have hA : zxA L t p := ⟨by omega, by unfold zxLt; omega⟩
      refine ze_aload_n kc_115_33 rfl ?_
      refine ze_dup kc_115_34 rfl ?_
      refine ze_getI kc_115_35 rfl (by decide) ?_
      rw [h6]
      refine ze_iconst kc_115_38 ?_
      refine ze_iadd kc_115_39 ?_
      refine ze_putI kc_115_40 rfl rfl ?_
      rw [show (p : Int) + 1 = ((p + 1 : Nat) : Int) by omega]
      refine ze_iload_n kc_115_43 rfl ?_
      refine ze_bipush kc_115_44 ?_
      refine ze_icmp_ne kc_115_46 (by omega) (by omega) (fun h46 => ?_) (fun h46 => ?_)
      · skip
        first
          | (have e : zxWho L t p = zxNum L t 1 (p + 1) 0 := if_pos (by omega)
             rw [← hr] at e
             rw [← e]
             exact m_clause_b hT0 hA (fun _ => by rw [e]; exact f6) (zFat_trans (zFat_up zFat_refl (by omega)) f3) (by rw [e]; exact f4) q1 q2)
          | (have e : zxWho L t p = (p + 1, 0) := if_neg (by omega)
             rw [show (0 : Int) = (zxWho L t p).2 by rw [e]]
             exact m_clause_b hT0 hA (fun z => by omega) (zFat_up zFat_refl (by omega)) (by rw [e]; exact zup_s) q1 q2)
          | (exfalso; omega)
      · skip
        refine ze_aload_n kc_115_49 rfl ?_
        refine ze_iconst kc_115_50 ?_
        refine zE_callv 2 kc_115_51 rfl rfl (Nat.le_of_ble_eq_true rfl) (Nat.le_of_ble_eq_true rfl) (Nat.le_of_ble_eq_true rfl) rfl (by decide +kernel) rfl ?_
        refine m_readNumber (zTxM_f hT0 (zFat_up zFat_refl (by omega))) (m := 1) (p := p + 1) rfl (by decide) hA.1 zup_s (fun Z3 r hr f3 f4 f5 f6 => ?_) (fun Z3 r hr f3 f4 f6 => ?_)
        · simp only [Option.toList_some, Option.toList_none, List.drop_succ_cons, List.drop_zero, List.cons_append, List.nil_append]
          refine ze_if_ne kc_115_54 (by decide) (fun _ => ?_) (fun q => absurd q (by decide))
          refine ze_aload_n kc_115_59 rfl ?_
          refine ze_getI kc_115_60 rfl (by decide) ?_
          rw [f5]
          refine ze_istore_n kc_115_63 (Nat.le_of_ble_eq_true rfl) ?_
          simp only [zset1, zset2, zcut, zf0, zf1, zf2, zf3, List.set_cons_zero, List.set_cons_succ, List.getD_cons_zero, List.getD_cons_succ]
          first
            | (have e : zxWho L t p = zxNum L t 1 (p + 1) 0 := if_pos (by omega)
               rw [← hr] at e
               rw [← e]
               exact m_clause_b hT0 hA (fun _ => by rw [e]; exact f6) (zFat_trans (zFat_up zFat_refl (by omega)) f3) (by rw [e]; exact f4) q1 q2)
            | (have e : zxWho L t p = (p + 1, 0) := if_neg (by omega)
               rw [show (0 : Int) = (zxWho L t p).2 by rw [e]]
               exact m_clause_b hT0 hA (fun z => by omega) (zFat_up zFat_refl (by omega)) (by rw [e]; exact zup_s) q1 q2)
            | (exfalso; omega)
        · simp only [Option.toList_some, Option.toList_none, List.drop_succ_cons, List.drop_zero, List.cons_append, List.nil_append]
          refine ze_if_ne kc_115_54 (by decide) (fun q => absurd q (by decide)) (fun _ => ?_)
          refine ze_iconst kc_115_57 ?_
          refine ze_ireturn kc_115_58 (Or.inl rfl) ?_
          have e : zxWho L t p = zxNum L t 1 (p + 1) 0 := if_pos (by omega)
          have hB : ¬ zxB L t p := fun q => q (by omega) (by rw [e, ← hr]; exact f6)
          exact q2 (fun q => hB q.2.1) _ (zFat_trans (zFat_up zFat_refl (by omega)) f3) (by rw [zxEnd_b hA hB, f4, f6])
    · skip
      refine ze_iload_n kc_115_13 rfl ?_
      refine ze_bipush kc_115_14 ?_
      refine ze_icmp_eq kc_115_16 (by omega) (by omega) (fun h16 => ?_) (fun h16 => ?_)
      · skip
        have hA : zxA L t p := ⟨by omega, by unfold zxLt; omega⟩
        refine ze_aload_n kc_115_33 rfl ?_
        refine ze_dup kc_115_34 rfl ?_
        refine ze_getI kc_115_35 rfl (by decide) ?_
        rw [h6]
        refine ze_iconst kc_115_38 ?_
        refine ze_iadd kc_115_39 ?_
        refine ze_putI kc_115_40 rfl rfl ?_
        rw [show (p : Int) + 1 = ((p + 1 : Nat) : Int) by omega]
        refine ze_iload_n kc_115_43 rfl ?_
        refine ze_bipush kc_115_44 ?_
        refine ze_icmp_ne kc_115_46 (by omega) (by omega) (fun h46 => ?_) (fun h46 => ?_)
        · skip
          first
            | (have e : zxWho L t p = zxNum L t 1 (p + 1) 0 := if_pos (by omega)
               rw [← hr] at e
               rw [← e]
               exact m_clause_b hT0 hA (fun _ => by rw [e]; exact f6) (zFat_trans (zFat_up zFat_refl (by omega)) f3) (by rw [e]; exact f4) q1 q2)
            | (have e : zxWho L t p = (p + 1, 0) := if_neg (by omega)
               rw [show (0 : Int) = (zxWho L t p).2 by rw [e]]
               exact m_clause_b hT0 hA (fun z => by omega) (zFat_up zFat_refl (by omega)) (by rw [e]; exact zup_s) q1 q2)
            | (exfalso; omega)
        · skip
          refine ze_aload_n kc_115_49 rfl ?_
          refine ze_iconst kc_115_50 ?_
          refine zE_callv 2 kc_115_51 rfl rfl (Nat.le_of_ble_eq_true rfl) (Nat.le_of_ble_eq_true rfl) (Nat.le_of_ble_eq_true rfl) rfl (by decide +kernel) rfl ?_
          refine m_readNumber (zTxM_f hT0 (zFat_up zFat_refl (by omega))) (m := 1) (p := p + 1) rfl (by decide) hA.1 zup_s (fun Z3 r hr f3 f4 f5 f6 => ?_) (fun Z3 r hr f3 f4 f6 => ?_)
          · simp only [Option.toList_some, Option.toList_none, List.drop_succ_cons, List.drop_zero, List.cons_append, List.nil_append]
            refine ze_if_ne kc_115_54 (by decide) (fun _ => ?_) (fun q => absurd q (by decide))
            refine ze_aload_n kc_115_59 rfl ?_
            refine ze_getI kc_115_60 rfl (by decide) ?_
            rw [f5]
            refine ze_istore_n kc_115_63 (Nat.le_of_ble_eq_true rfl) ?_
            simp only [zset1, zset2, zcut, zf0, zf1, zf2, zf3, List.set_cons_zero, List.set_cons_succ, List.getD_cons_zero, List.getD_cons_succ]
            first
              | (have e : zxWho L t p = zxNum L t 1 (p + 1) 0 := if_pos (by omega)
                 rw [← hr] at e
                 rw [← e]
                 exact m_clause_b hT0 hA (fun _ => by rw [e]; exact f6) (zFat_trans (zFat_up zFat_refl (by omega)) f3) (by rw [e]; exact f4) q1 q2)
              | (have e : zxWho L t p = (p + 1, 0) := if_neg (by omega)
                 rw [show (0 : Int) = (zxWho L t p).2 by rw [e]]
                 exact m_clause_b hT0 hA (fun z => by omega) (zFat_up zFat_refl (by omega)) (by rw [e]; exact zup_s) q1 q2)
              | (exfalso; omega)
          · simp only [Option.toList_some, Option.toList_none, List.drop_succ_cons, List.drop_zero, List.cons_append, List.nil_append]
            refine ze_if_ne kc_115_54 (by decide) (fun q => absurd q (by decide)) (fun _ => ?_)
            refine ze_iconst kc_115_57 ?_
            refine ze_ireturn kc_115_58 (Or.inl rfl) ?_
            have e : zxWho L t p = zxNum L t 1 (p + 1) 0 := if_pos (by omega)
            have hB : ¬ zxB L t p := fun q => q (by omega) (by rw [e, ← hr]; exact f6)
            exact q2 (fun q => hB q.2.1) _ (zFat_trans (zFat_up zFat_refl (by omega)) f3) (by rw [zxEnd_b hA hB, f4, f6])
      · skip
        refine ze_iload_n kc_115_19 rfl ?_
        refine ze_bipush kc_115_20 ?_
        refine ze_icmp_eq kc_115_22 (by omega) (by omega) (fun h22 => ?_) (fun h22 => ?_)
        · skip
          have hA : zxA L t p := ⟨by omega, by unfold zxLt; omega⟩
          refine ze_aload_n kc_115_33 rfl ?_
          refine ze_dup kc_115_34 rfl ?_
          refine ze_getI kc_115_35 rfl (by decide) ?_
          rw [h6]
          refine ze_iconst kc_115_38 ?_
          refine ze_iadd kc_115_39 ?_
          refine ze_putI kc_115_40 rfl rfl ?_
          rw [show (p : Int) + 1 = ((p + 1 : Nat) : Int) by omega]
          refine ze_iload_n kc_115_43 rfl ?_
          refine ze_bipush kc_115_44 ?_
          refine ze_icmp_ne kc_115_46 (by omega) (by omega) (fun h46 => ?_) (fun h46 => ?_)
          · skip
            first
              | (have e : zxWho L t p = zxNum L t 1 (p + 1) 0 := if_pos (by omega)
                 rw [← hr] at e
                 rw [← e]
                 exact m_clause_b hT0 hA (fun _ => by rw [e]; exact f6) (zFat_trans (zFat_up zFat_refl (by omega)) f3) (by rw [e]; exact f4) q1 q2)
              | (have e : zxWho L t p = (p + 1, 0) := if_neg (by omega)
                 rw [show (0 : Int) = (zxWho L t p).2 by rw [e]]
                 exact m_clause_b hT0 hA (fun z => by omega) (zFat_up zFat_refl (by omega)) (by rw [e]; exact zup_s) q1 q2)
              | (exfalso; omega)
          · skip
            refine ze_aload_n kc_115_49 rfl ?_
            refine ze_iconst kc_115_50 ?_
            refine zE_callv 2 kc_115_51 rfl rfl (Nat.le_of_ble_eq_true rfl) (Nat.le_of_ble_eq_true rfl) (Nat.le_of_ble_eq_true rfl) rfl (by decide +kernel) rfl ?_
            refine m_readNumber (zTxM_f hT0 (zFat_up zFat_refl (by omega))) (m := 1) (p := p + 1) rfl (by decide) hA.1 zup_s (fun Z3 r hr f3 f4 f5 f6 => ?_) (fun Z3 r hr f3 f4 f6 => ?_)
            · simp only [Option.toList_some, Option.toList_none, List.drop_succ_cons, List.drop_zero, List.cons_append, List.nil_append]
              refine ze_if_ne kc_115_54 (by decide) (fun _ => ?_) (fun q => absurd q (by decide))
              refine ze_aload_n kc_115_59 rfl ?_
              refine ze_getI kc_115_60 rfl (by decide) ?_
              rw [f5]
              refine ze_istore_n kc_115_63 (Nat.le_of_ble_eq_true rfl) ?_
              simp only [zset1, zset2, zcut, zf0, zf1, zf2, zf3, List.set_cons_zero, List.set_cons_succ, List.getD_cons_zero, List.getD_cons_succ]
              first
                | (have e : zxWho L t p = zxNum L t 1 (p + 1) 0 := if_pos (by omega)
                   rw [← hr] at e
                   rw [← e]
                   exact m_clause_b hT0 hA (fun _ => by rw [e]; exact f6) (zFat_trans (zFat_up zFat_refl (by omega)) f3) (by rw [e]; exact f4) q1 q2)
                | (have e : zxWho L t p = (p + 1, 0) := if_neg (by omega)
                   rw [show (0 : Int) = (zxWho L t p).2 by rw [e]]
                   exact m_clause_b hT0 hA (fun z => by omega) (zFat_up zFat_refl (by omega)) (by rw [e]; exact zup_s) q1 q2)
                | (exfalso; omega)
            · simp only [Option.toList_some, Option.toList_none, List.drop_succ_cons, List.drop_zero, List.cons_append, List.nil_append]
              refine ze_if_ne kc_115_54 (by decide) (fun q => absurd q (by decide)) (fun _ => ?_)
              refine ze_iconst kc_115_57 ?_
              refine ze_ireturn kc_115_58 (Or.inl rfl) ?_
              have e : zxWho L t p = zxNum L t 1 (p + 1) 0 := if_pos (by omega)
              have hB : ¬ zxB L t p := fun q => q (by omega) (by rw [e, ← hr]; exact f6)
              exact q2 (fun q => hB q.2.1) _ (zFat_trans (zFat_up zFat_refl (by omega)) f3) (by rw [zxEnd_b hA hB, f4, f6])
        · skip
          refine ze_iload_n kc_115_25 rfl ?_
          refine ze_bipush kc_115_26 ?_
          refine ze_icmp_eq kc_115_28 (by omega) (by omega) (fun h28 => ?_) (fun h28 => ?_)
          · skip
            have hA : zxA L t p := ⟨by omega, by unfold zxLt; omega⟩
            refine ze_aload_n kc_115_33 rfl ?_
            refine ze_dup kc_115_34 rfl ?_
            refine ze_getI kc_115_35 rfl (by decide) ?_
            rw [h6]
            refine ze_iconst kc_115_38 ?_
            refine ze_iadd kc_115_39 ?_
            refine ze_putI kc_115_40 rfl rfl ?_
            rw [show (p : Int) + 1 = ((p + 1 : Nat) : Int) by omega]
            refine ze_iload_n kc_115_43 rfl ?_
            refine ze_bipush kc_115_44 ?_
            refine ze_icmp_ne kc_115_46 (by omega) (by omega) (fun h46 => ?_) (fun h46 => ?_)
            · skip
              first
                | (have e : zxWho L t p = zxNum L t 1 (p + 1) 0 := if_pos (by omega)
                   rw [← hr] at e
                   rw [← e]
                   exact m_clause_b hT0 hA (fun _ => by rw [e]; exact f6) (zFat_trans (zFat_up zFat_refl (by omega)) f3) (by rw [e]; exact f4) q1 q2)
                | (have e : zxWho L t p = (p + 1, 0) := if_neg (by omega)
                   rw [show (0 : Int) = (zxWho L t p).2 by rw [e]]
                   exact m_clause_b hT0 hA (fun z => by omega) (zFat_up zFat_refl (by omega)) (by rw [e]; exact zup_s) q1 q2)
                | (exfalso; omega)
            · skip
              refine ze_aload_n kc_115_49 rfl ?_
              refine ze_iconst kc_115_50 ?_
              refine zE_callv 2 kc_115_51 rfl rfl (Nat.le_of_ble_eq_true rfl) (Nat.le_of_ble_eq_true rfl) (Nat.le_of_ble_eq_true rfl) rfl (by decide +kernel) rfl ?_
              refine m_readNumber (zTxM_f hT0 (zFat_up zFat_refl (by omega))) (m := 1) (p := p + 1) rfl (by decide) hA.1 zup_s (fun Z3 r hr f3 f4 f5 f6 => ?_) (fun Z3 r hr f3 f4 f6 => ?_)
              · simp only [Option.toList_some, Option.toList_none, List.drop_succ_cons, List.drop_zero, List.cons_append, List.nil_append]
                refine ze_if_ne kc_115_54 (by decide) (fun _ => ?_) (fun q => absurd q (by decide))
                refine ze_aload_n kc_115_59 rfl ?_
                refine ze_getI kc_115_60 rfl (by decide) ?_
                rw [f5]
                refine ze_istore_n kc_115_63 (Nat.le_of_ble_eq_true rfl) ?_
                simp only [zset1, zset2, zcut, zf0, zf1, zf2, zf3, List.set_cons_zero, List.set_cons_succ, List.getD_cons_zero, List.getD_cons_succ]
                first
                  | (have e : zxWho L t p = zxNum L t 1 (p + 1) 0 := if_pos (by omega)
                     rw [← hr] at e
                     rw [← e]
                     exact m_clause_b hT0 hA (fun _ => by rw [e]; exact f6) (zFat_trans (zFat_up zFat_refl (by omega)) f3) (by rw [e]; exact f4) q1 q2)
                  | (have e : zxWho L t p = (p + 1, 0) := if_neg (by omega)
                     rw [show (0 : Int) = (zxWho L t p).2 by rw [e]]
                     exact m_clause_b hT0 hA (fun z => by omega) (zFat_up zFat_refl (by omega)) (by rw [e]; exact zup_s) q1 q2)
                  | (exfalso; omega)
              · simp only [Option.toList_some, Option.toList_none, List.drop_succ_cons, List.drop_zero, List.cons_append, List.nil_append]
                refine ze_if_ne kc_115_54 (by decide) (fun q => absurd q (by decide)) (fun _ => ?_)
                refine ze_iconst kc_115_57 ?_
                refine ze_ireturn kc_115_58 (Or.inl rfl) ?_
                have e : zxWho L t p = zxNum L t 1 (p + 1) 0 := if_pos (by omega)
                have hB : ¬ zxB L t p := fun q => q (by omega) (by rw [e, ← hr]; exact f6)
                exact q2 (fun q => hB q.2.1) _ (zFat_trans (zFat_up zFat_refl (by omega)) f3) (by rw [zxEnd_b hA hB, f4, f6])
          · skip
            refine ze_iconst kc_115_31 ?_
            refine ze_ireturn kc_115_32 (Or.inl rfl) ?_
            have hA : ¬ zxA L t p := fun q => by
              have q1 := q.1
              have q2 := q.2
              unfold zxLt at q2
              omega
            exact q2 (fun q => hA q.1) _ zFat_refl (by rw [zxEnd_a hA]; exact h6)
  · simp only [Option.toList_some, Option.toList_none, List.drop_succ_cons, List.drop_zero, List.cons_append, List.nil_append]
    refine ze_istore_n kc_115_4 (Nat.le_of_ble_eq_true rfl) ?_
    simp only [zset1, zset2, zcut, zf0, zf1, zf2, zf3, List.set_cons_zero, List.set_cons_succ, List.getD_cons_zero, List.getD_cons_succ]
    refine ze_iconst kc_115_5 ?_
    refine ze_istore_n kc_115_6 (Nat.le_of_ble_eq_true rfl) ?_
    simp only [zset1, zset2, zcut, zf0, zf1, zf2, zf3, List.set_cons_zero, List.set_cons_succ, List.getD_cons_zero, List.getD_cons_succ]
    refine ze_iload_n kc_115_7 rfl ?_
    refine ze_bipush kc_115_8 ?_
    refine ze_icmp_eq kc_115_10 (by decide) (by decide) (fun q => absurd q (by decide)) (fun _ => ?_)
    refine ze_iload_n kc_115_13 rfl ?_
    refine ze_bipush kc_115_14 ?_
    refine ze_icmp_eq kc_115_16 (by decide) (by decide) (fun q => absurd q (by decide)) (fun _ => ?_)
    refine ze_iload_n kc_115_19 rfl ?_
    refine ze_bipush kc_115_20 ?_
    refine ze_icmp_eq kc_115_22 (by decide) (by decide) (fun q => absurd q (by decide)) (fun _ => ?_)
    refine ze_iload_n kc_115_25 rfl ?_
    refine ze_bipush kc_115_26 ?_
    refine ze_icmp_eq kc_115_28 (by decide) (by decide) (fun q => absurd q (by decide)) (fun _ => ?_)
    refine ze_iconst kc_115_31 ?_
    refine ze_ireturn kc_115_32 (Or.inl rfl) ?_
    have hA : ¬ zxA L t p := fun q => by
      have q1 := q.1
      have q2 := q.2
      unfold zxLt at q2
      omega
    exact q2 (fun q => hA q.1) _ zFat_refl (by rw [zxEnd_a hA]; exact h6)

theorem m_clause0 {Z : zMem} {Q : Option zAV → zMem → Prop} {L : Nat} {t : Nat → Int} (hT : zTxM L t Z) {p : Nat} (hp : p ≤ L) (h6 : Z 63 20 = p) (q1 : zxOk L t p → ∀ (Z' : zMem), zFat Z Z' → Z' 63 20 = (zxEnd L t p : Nat) → Q (some (zI 0)) Z') (q2 : ¬ zxOk L t p → ∀ (Z' : zMem), zFat Z Z' → Z' 63 20 = (zxEnd L t p : Nat) → Q (some (zI (-1))) Z') : zE 115 0 (zent 115 [zR 63, zI 0]) [] Z Q := by
  refine m_clause_a hT hp h6 (fun g Z2 f1 f2 f3 => ?_) q2
  refine ze_iload_n kc_115_94 rfl ?_
  refine ze_if_ne kc_115_95 (by decide) (fun q => absurd rfl q) (fun _ => ?_)
  refine ze_iconst kc_115_98 ?_
  refine ze_ireturn kc_115_99 (Or.inl rfl) ?_
  exact q1 g Z2 f1 f2

theorem hoi32 {x : Int} (h : -4 ≤ x ∧ x ≤ 360) : -2147483648 ≤ x ∧ x ≤ 2147483647 := by omega
theorem oPerf_inM {n : Nat} {c : Nat → Int} {e ρ : Int} {Z : zMem} {k w v : Int} (h : zMo n c e ρ Z) : -4 ≤ oPerf (n, c, e, ρ) k w v ∧ oPerf (n, c, e, ρ) k w v ≤ 360 := by
  obtain ⟨n0, n6, mc, mr, me, mρ, meR, mρR⟩ := h
  unfold oPerf oClaim oRenew oEstate oRule
  show _ ∧ _
  dsimp only
  repeat' split
  all_goals first
    | omega
    | (have := mr w.toNat (by omega); omega)
set_option maxHeartbeats 8000000 in
theorem m_clause1_b {Z Zc : zMem} {Q : Option zAV → zMem → Prop} {n : Nat} {c : Nat → Int} {e ρ : Int} (hM : zMo n c e ρ Zc) {L : Nat} {t : Nat → Int} {p : Nat} (hA : zxA L t p) (htp : 0 ≤ t p ∧ t p ≤ 127) (f1 : zFat Z Zc) (f2 : Zc 63 20 = (zxEnd L t p : Nat)) (hv : Zc 63 21 = (zxVal L t p).2) (q1 : ∀ (Z' : zMem), zMoS (sPerf (n, c, e, ρ) (t p) (zxWho L t p).2 (zxVal L t p).2) Z' → (∀ i, i ≠ 63 → i ≠ 64 → Z' i = Z i) ∧ (∀ j, j ≠ 0 → j ≠ 2 → j ≠ 3 → j ≠ 20 → j ≠ 21 → Z' 63 j = Z 63 j) → Z' 63 20 = (zxEnd L t p : Nat) → Q (some (zI (if 0 ≤ (oPerf (n, c, e, ρ) (t p) (zxWho L t p).2 (zxVal L t p).2) then 1 else 0))) Z') : zE 115 94 [some (zR 63), some (zI 1), some (zI (t p)), some (zI (zxWho L t p).2)] [] Zc Q := by
  have hwi := zxWho_in (L := L) (t := t) (p := p)
  have hvi := zxVal_in (L := L) (t := t) (p := p)
  have hlt := hA.2
  unfold zxLt at hlt
  have hoi := oPerf_inM (k := t p) (w := (zxWho L t p).2) (v := (zxVal L t p).2) hM
  refine ze_iload_n kc_115_94 rfl ?_
  refine ze_if_ne kc_115_95 (by omega) (fun h95 => ?_) (fun h95 => ?_)
  · skip
    refine ze_iload_n kc_115_100 rfl ?_
    by_cases hs99 : (t p) = 99
    · refine ze_lookup (o := 35) kc_115_101 (by omega) (by rw [hs99]; rfl) rfl ?_
      refine ze_aload_n kc_115_136 rfl ?_
      refine ze_aload_n kc_115_137 rfl ?_
      refine ze_getI kc_115_138 rfl (by decide) ?_
      rw [hv]
      refine zE_callv 2 kc_115_141 rfl rfl (Nat.le_of_ble_eq_true rfl) (Nat.le_of_ble_eq_true rfl) (Nat.le_of_ble_eq_true rfl) rfl (by decide +kernel) rfl ?_
      refine m_claimM hM (by omega) (fun Z3 f3 f4 => ?_)
      simp only [Option.toList_some, Option.toList_none, List.drop_succ_cons, List.drop_zero, List.cons_append, List.nil_append]
      refine ze_if_lt kc_115_144 (by unfold oPerf at hoi; first | (rw [if_pos (by omega)] at hoi; exact hoi32 hoi) | (rw [if_neg (by omega), if_pos (by omega)] at hoi; exact hoi32 hoi) | (rw [if_neg (by omega), if_neg (by omega), if_pos (by omega)] at hoi; exact hoi32 hoi) | (rw [if_neg (by omega), if_neg (by omega), if_neg (by omega)] at hoi; exact hoi32 hoi)) (fun h144 => ?_) (fun h144 => ?_)
      · skip
        refine ze_iconst kc_115_151 ?_
        refine ze_ireturn kc_115_152 (Or.inl rfl) ?_
        rw [show (sPerf (n, c, e, ρ) (t p) (zxWho L t p).2 (zxVal L t p).2) = _ from if_pos (by omega), show (oPerf (n, c, e, ρ) (t p) (zxWho L t p).2 (zxVal L t p).2) = _ from if_pos (by omega)] at q1
        have hfr : (∀ i, i ≠ 63 → i ≠ 64 → Z3 i = Z i) ∧ (∀ j, j ≠ 0 → j ≠ 2 → j ≠ 3 → j ≠ 20 → j ≠ 21 → Z3 63 j = Z 63 j) := ⟨fun i a b => (f4.1 i a b).trans (f1.1 i a), fun j a b d e g => (f4.2 j a b d).trans (f1.2 j e g)⟩
        first
          | (rw [if_pos (by omega)] at q1; exact q1 _ f3 hfr (by rw [f4.2 20 (by decide) (by decide) (by decide)]; exact f2))
          | (rw [if_neg (by omega)] at q1; exact q1 _ f3 hfr (by rw [f4.2 20 (by decide) (by decide) (by decide)]; exact f2))
      · skip
        refine ze_iconst kc_115_147 ?_
        refine ze_goto kc_115_148 ?_
        refine ze_ireturn kc_115_152 (Or.inl rfl) ?_
        rw [show (sPerf (n, c, e, ρ) (t p) (zxWho L t p).2 (zxVal L t p).2) = _ from if_pos (by omega), show (oPerf (n, c, e, ρ) (t p) (zxWho L t p).2 (zxVal L t p).2) = _ from if_pos (by omega)] at q1
        have hfr : (∀ i, i ≠ 63 → i ≠ 64 → Z3 i = Z i) ∧ (∀ j, j ≠ 0 → j ≠ 2 → j ≠ 3 → j ≠ 20 → j ≠ 21 → Z3 63 j = Z 63 j) := ⟨fun i a b => (f4.1 i a b).trans (f1.1 i a), fun j a b d e g => (f4.2 j a b d).trans (f1.2 j e g)⟩
        first
          | (rw [if_pos (by omega)] at q1; exact q1 _ f3 hfr (by rw [f4.2 20 (by decide) (by decide) (by decide)]; exact f2))
          | (rw [if_neg (by omega)] at q1; exact q1 _ f3 hfr (by rw [f4.2 20 (by decide) (by decide) (by decide)]; exact f2))
    by_cases hs101 : (t p) = 101
    · refine ze_lookup (o := 70) kc_115_101 (by omega) (by rw [hs101]; rfl) rfl ?_
      refine ze_aload_n kc_115_171 rfl ?_
      refine ze_aload_n kc_115_172 rfl ?_
      refine ze_getI kc_115_173 rfl (by decide) ?_
      rw [hv]
      refine zE_callv 2 kc_115_176 rfl rfl (Nat.le_of_ble_eq_true rfl) (Nat.le_of_ble_eq_true rfl) (Nat.le_of_ble_eq_true rfl) rfl (by decide +kernel) rfl ?_
      refine m_estateM hM (by omega) (fun Z3 f3 f4 => ?_)
      simp only [Option.toList_some, Option.toList_none, List.drop_succ_cons, List.drop_zero, List.cons_append, List.nil_append]
      refine ze_if_lt kc_115_179 (by unfold oPerf at hoi; first | (rw [if_pos (by omega)] at hoi; exact hoi32 hoi) | (rw [if_neg (by omega), if_pos (by omega)] at hoi; exact hoi32 hoi) | (rw [if_neg (by omega), if_neg (by omega), if_pos (by omega)] at hoi; exact hoi32 hoi) | (rw [if_neg (by omega), if_neg (by omega), if_neg (by omega)] at hoi; exact hoi32 hoi)) (fun h179 => ?_) (fun h179 => ?_)
      · skip
        refine ze_iconst kc_115_186 ?_
        refine ze_ireturn kc_115_187 (Or.inl rfl) ?_
        rw [show (sPerf (n, c, e, ρ) (t p) (zxWho L t p).2 (zxVal L t p).2) = _ from (if_neg (by omega)).trans ((if_neg (by omega)).trans (if_pos (by omega))), show (oPerf (n, c, e, ρ) (t p) (zxWho L t p).2 (zxVal L t p).2) = _ from (if_neg (by omega)).trans ((if_neg (by omega)).trans (if_pos (by omega)))] at q1
        have hfr : (∀ i, i ≠ 63 → i ≠ 64 → Z3 i = Z i) ∧ (∀ j, j ≠ 0 → j ≠ 2 → j ≠ 3 → j ≠ 20 → j ≠ 21 → Z3 63 j = Z 63 j) := ⟨fun i a b => (f4.1 i a b).trans (f1.1 i a), fun j a b d e g => (f4.2 j a b d).trans (f1.2 j e g)⟩
        first
          | (rw [if_pos (by omega)] at q1; exact q1 _ f3 hfr (by rw [f4.2 20 (by decide) (by decide) (by decide)]; exact f2))
          | (rw [if_neg (by omega)] at q1; exact q1 _ f3 hfr (by rw [f4.2 20 (by decide) (by decide) (by decide)]; exact f2))
      · skip
        refine ze_iconst kc_115_182 ?_
        refine ze_goto kc_115_183 ?_
        refine ze_ireturn kc_115_187 (Or.inl rfl) ?_
        rw [show (sPerf (n, c, e, ρ) (t p) (zxWho L t p).2 (zxVal L t p).2) = _ from (if_neg (by omega)).trans ((if_neg (by omega)).trans (if_pos (by omega))), show (oPerf (n, c, e, ρ) (t p) (zxWho L t p).2 (zxVal L t p).2) = _ from (if_neg (by omega)).trans ((if_neg (by omega)).trans (if_pos (by omega)))] at q1
        have hfr : (∀ i, i ≠ 63 → i ≠ 64 → Z3 i = Z i) ∧ (∀ j, j ≠ 0 → j ≠ 2 → j ≠ 3 → j ≠ 20 → j ≠ 21 → Z3 63 j = Z 63 j) := ⟨fun i a b => (f4.1 i a b).trans (f1.1 i a), fun j a b d e g => (f4.2 j a b d).trans (f1.2 j e g)⟩
        first
          | (rw [if_pos (by omega)] at q1; exact q1 _ f3 hfr (by rw [f4.2 20 (by decide) (by decide) (by decide)]; exact f2))
          | (rw [if_neg (by omega)] at q1; exact q1 _ f3 hfr (by rw [f4.2 20 (by decide) (by decide) (by decide)]; exact f2))
    by_cases hs110 : (t p) = 110
    · refine ze_lookup (o := 52) kc_115_101 (by omega) (by rw [hs110]; rfl) rfl ?_
      refine ze_aload_n kc_115_153 rfl ?_
      refine ze_iload_n kc_115_154 rfl ?_
      refine ze_aload_n kc_115_155 rfl ?_
      refine ze_getI kc_115_156 rfl (by decide) ?_
      rw [hv]
      refine zE_callv 3 kc_115_159 rfl rfl (Nat.le_of_ble_eq_true rfl) (Nat.le_of_ble_eq_true rfl) (Nat.le_of_ble_eq_true rfl) rfl (by decide +kernel) rfl ?_
      refine m_renewM hM (by omega) (by omega) (fun Z3 f3 f4 => ?_)
      simp only [Option.toList_some, Option.toList_none, List.drop_succ_cons, List.drop_zero, List.cons_append, List.nil_append]
      refine ze_if_lt kc_115_162 (by unfold oPerf at hoi; first | (rw [if_pos (by omega)] at hoi; exact hoi32 hoi) | (rw [if_neg (by omega), if_pos (by omega)] at hoi; exact hoi32 hoi) | (rw [if_neg (by omega), if_neg (by omega), if_pos (by omega)] at hoi; exact hoi32 hoi) | (rw [if_neg (by omega), if_neg (by omega), if_neg (by omega)] at hoi; exact hoi32 hoi)) (fun h162 => ?_) (fun h162 => ?_)
      · skip
        refine ze_iconst kc_115_169 ?_
        refine ze_ireturn kc_115_170 (Or.inl rfl) ?_
        rw [show (sPerf (n, c, e, ρ) (t p) (zxWho L t p).2 (zxVal L t p).2) = _ from (if_neg (by omega)).trans (if_pos (by omega)), show (oPerf (n, c, e, ρ) (t p) (zxWho L t p).2 (zxVal L t p).2) = _ from (if_neg (by omega)).trans (if_pos (by omega))] at q1
        have hfr : (∀ i, i ≠ 63 → i ≠ 64 → Z3 i = Z i) ∧ (∀ j, j ≠ 0 → j ≠ 2 → j ≠ 3 → j ≠ 20 → j ≠ 21 → Z3 63 j = Z 63 j) := ⟨fun i a b => (f4.1 i a b).trans (f1.1 i a), fun j a b d e g => (f4.2 j a b d).trans (f1.2 j e g)⟩
        first
          | (rw [if_pos (by omega)] at q1; exact q1 _ f3 hfr (by rw [f4.2 20 (by decide) (by decide) (by decide)]; exact f2))
          | (rw [if_neg (by omega)] at q1; exact q1 _ f3 hfr (by rw [f4.2 20 (by decide) (by decide) (by decide)]; exact f2))
      · skip
        refine ze_iconst kc_115_165 ?_
        refine ze_goto kc_115_166 ?_
        refine ze_ireturn kc_115_170 (Or.inl rfl) ?_
        rw [show (sPerf (n, c, e, ρ) (t p) (zxWho L t p).2 (zxVal L t p).2) = _ from (if_neg (by omega)).trans (if_pos (by omega)), show (oPerf (n, c, e, ρ) (t p) (zxWho L t p).2 (zxVal L t p).2) = _ from (if_neg (by omega)).trans (if_pos (by omega))] at q1
        have hfr : (∀ i, i ≠ 63 → i ≠ 64 → Z3 i = Z i) ∧ (∀ j, j ≠ 0 → j ≠ 2 → j ≠ 3 → j ≠ 20 → j ≠ 21 → Z3 63 j = Z 63 j) := ⟨fun i a b => (f4.1 i a b).trans (f1.1 i a), fun j a b d e g => (f4.2 j a b d).trans (f1.2 j e g)⟩
        first
          | (rw [if_pos (by omega)] at q1; exact q1 _ f3 hfr (by rw [f4.2 20 (by decide) (by decide) (by decide)]; exact f2))
          | (rw [if_neg (by omega)] at q1; exact q1 _ f3 hfr (by rw [f4.2 20 (by decide) (by decide) (by decide)]; exact f2))
    refine ze_lookup (o := 87) kc_115_101 (by omega) (by simp only [Op.lookupswitch.offset, if_neg (Ne.symm hs99), if_neg (Ne.symm hs101), if_neg (Ne.symm hs110)]) rfl ?_
    refine ze_aload_n kc_115_188 rfl ?_
    refine ze_aload_n kc_115_189 rfl ?_
    refine ze_getI kc_115_190 rfl (by decide) ?_
    rw [hv]
    refine zE_callv 2 kc_115_193 rfl rfl (Nat.le_of_ble_eq_true rfl) (Nat.le_of_ble_eq_true rfl) (Nat.le_of_ble_eq_true rfl) rfl (by decide +kernel) rfl ?_
    refine m_ruleM hM (by omega) (fun Z3 f3 f4 => ?_)
    simp only [Option.toList_some, Option.toList_none, List.drop_succ_cons, List.drop_zero, List.cons_append, List.nil_append]
    refine ze_if_lt kc_115_196 (by unfold oPerf at hoi; first | (rw [if_pos (by omega)] at hoi; exact hoi32 hoi) | (rw [if_neg (by omega), if_pos (by omega)] at hoi; exact hoi32 hoi) | (rw [if_neg (by omega), if_neg (by omega), if_pos (by omega)] at hoi; exact hoi32 hoi) | (rw [if_neg (by omega), if_neg (by omega), if_neg (by omega)] at hoi; exact hoi32 hoi)) (fun h196 => ?_) (fun h196 => ?_)
    · skip
      refine ze_iconst kc_115_203 ?_
      refine ze_ireturn kc_115_204 (Or.inl rfl) ?_
      rw [show (sPerf (n, c, e, ρ) (t p) (zxWho L t p).2 (zxVal L t p).2) = _ from (if_neg (by omega)).trans ((if_neg (by omega)).trans (if_neg (by omega))), show (oPerf (n, c, e, ρ) (t p) (zxWho L t p).2 (zxVal L t p).2) = _ from (if_neg (by omega)).trans ((if_neg (by omega)).trans (if_neg (by omega)))] at q1
      have hfr : (∀ i, i ≠ 63 → i ≠ 64 → Z3 i = Z i) ∧ (∀ j, j ≠ 0 → j ≠ 2 → j ≠ 3 → j ≠ 20 → j ≠ 21 → Z3 63 j = Z 63 j) := ⟨fun i a b => (f4.1 i a b).trans (f1.1 i a), fun j a b d e g => (f4.2 j a b d).trans (f1.2 j e g)⟩
      first
        | (rw [if_pos (by omega)] at q1; exact q1 _ f3 hfr (by rw [f4.2 20 (by decide) (by decide) (by decide)]; exact f2))
        | (rw [if_neg (by omega)] at q1; exact q1 _ f3 hfr (by rw [f4.2 20 (by decide) (by decide) (by decide)]; exact f2))
    · skip
      refine ze_iconst kc_115_199 ?_
      refine ze_goto kc_115_200 ?_
      refine ze_ireturn kc_115_204 (Or.inl rfl) ?_
      rw [show (sPerf (n, c, e, ρ) (t p) (zxWho L t p).2 (zxVal L t p).2) = _ from (if_neg (by omega)).trans ((if_neg (by omega)).trans (if_neg (by omega))), show (oPerf (n, c, e, ρ) (t p) (zxWho L t p).2 (zxVal L t p).2) = _ from (if_neg (by omega)).trans ((if_neg (by omega)).trans (if_neg (by omega)))] at q1
      have hfr : (∀ i, i ≠ 63 → i ≠ 64 → Z3 i = Z i) ∧ (∀ j, j ≠ 0 → j ≠ 2 → j ≠ 3 → j ≠ 20 → j ≠ 21 → Z3 63 j = Z 63 j) := ⟨fun i a b => (f4.1 i a b).trans (f1.1 i a), fun j a b d e g => (f4.2 j a b d).trans (f1.2 j e g)⟩
      first
        | (rw [if_pos (by omega)] at q1; exact q1 _ f3 hfr (by rw [f4.2 20 (by decide) (by decide) (by decide)]; exact f2))
        | (rw [if_neg (by omega)] at q1; exact q1 _ f3 hfr (by rw [f4.2 20 (by decide) (by decide) (by decide)]; exact f2))
  · exact absurd h95 (by decide)

set_option maxHeartbeats 4000000 in
theorem m_clauses0 {Z : zMem} {Q : Option zAV → zMem → Prop} {L : Nat} {t : Nat → Int} (hT : zTxM L t Z) (q1 : (zxPr L t 12 0).1 < 0 → ∀ (Z' : zMem), zFat Z Z' → Q (some (zI 0)) Z') (q2 : ¬ (zxPr L t 12 0).1 < 0 → ∀ (Z' : zMem), zFat Z Z' → Z' 63 20 = (zxPr L t 12 0).1 → Q (some (zI (-1))) Z') : zE 116 0 (zent 116 [zR 63, zI 0]) [] Z Q := by
  show zE 116 0 [some (zR 63), some (zI 0), none, none, none] [] Z Q
  have hT0 := hT
  obtain ⟨t1, t2, t3, t4⟩ := hT
  refine ze_aload_n kc_116_0 rfl ?_
  refine ze_iconst kc_116_1 ?_
  refine ze_putI kc_116_2 rfl rfl ?_
  refine ze_iconst kc_116_5 ?_
  refine ze_istore_n kc_116_6 (Nat.le_of_ble_eq_true rfl) ?_
  simp only [zset1, zset2, zcut, zf0, zf1, zf2, zf3, List.set_cons_zero, List.set_cons_succ, List.getD_cons_zero, List.getD_cons_succ]
  refine ze_iconst kc_116_7 ?_
  refine ze_istore_n kc_116_8 (Nat.le_of_ble_eq_true rfl) ?_
  simp only [zset1, zset2, zcut, zf0, zf1, zf2, zf3, List.set_cons_zero, List.set_cons_succ, List.getD_cons_zero, List.getD_cons_succ]
  have loop9 : ∀ (μ : Nat) (k : Nat) (x : Int) (Zc : zMem) (o4 : Option zAV), 12 - k = μ → (k < 12) → (x = k) → (zFat Z Zc) → (Zc 63 20 = (zxPl L t k : Nat)) → (zxPl L t k ≤ L) → (zxPr L t (12 - k) k = (zxPr L t 12 0)) → zE 116 9 [some (zR 63), some (zI 0), some (zI 0), some (zI x), o4] [] Zc Q := by
    refine zind ?_
    intro μ ih k x Zc o4 hm hk hx hf hpl hpL hR
    subst hx
    refine ze_iload_n kc_116_9 rfl ?_
    refine ze_bipush kc_116_10 ?_
    refine ze_icmp_ge kc_116_12 (by omega) (by omega) (fun h12 => ?_) (fun h12 => ?_)
    · skip
      refine ze_iconst kc_116_80 ?_
      refine ze_ireturn kc_116_81 (Or.inl rfl) ?_
      exfalso; omega
    · skip
      refine ze_aload_n kc_116_15 rfl ?_
      refine ze_iload_n kc_116_16 rfl ?_
      refine zE_callv 2 kc_116_17 rfl rfl (Nat.le_of_ble_eq_true rfl) (Nat.le_of_ble_eq_true rfl) (Nat.le_of_ble_eq_true rfl) rfl (by decide +kernel) rfl ?_
      refine m_clause0 (zTxM_f hT0 hf) hpL hpl (fun g17 Z2 f1 f2 => ?_) (fun g17 Z2 f1 f2 => ?_)
      · simp only [Option.toList_some, Option.toList_none, List.drop_succ_cons, List.drop_zero, List.cons_append, List.nil_append]
        have hel := (zxEnd_pl (t := t) hpL).2
        refine ze_istore kc_116_20 (Nat.le_of_ble_eq_true rfl) ?_
        simp only [zset1, zset2, zcut, zf0, zf1, zf2, zf3, List.set_cons_zero, List.set_cons_succ, List.getD_cons_zero, List.getD_cons_succ]
        refine ze_iload kc_116_22 rfl ?_
        refine ze_if_ge kc_116_24 (by decide) (fun _ => ?_) (fun q => absurd q (by decide))
        refine ze_iload_n kc_116_29 rfl ?_
        refine ze_iload kc_116_30 rfl ?_
        refine ze_iadd kc_116_32 ?_
        refine ze_istore_n kc_116_33 (Nat.le_of_ble_eq_true rfl) ?_
        simp only [zset1, zset2, zcut, zf0, zf1, zf2, zf3, List.set_cons_zero, List.set_cons_succ, List.getD_cons_zero, List.getD_cons_succ]
        refine ze_aload_n kc_116_34 rfl ?_
        refine ze_getI kc_116_35 rfl (by decide) ?_
        rw [f2]
        refine ze_aload_n kc_116_38 rfl ?_
        refine ze_getI kc_116_39 rfl (by decide) ?_
        rw [show Z2 63 14 = L from (zTxM_f (zTxM_f hT0 hf) f1).1]
        refine ze_icmp_ne kc_116_42 (by omega) (by omega) (fun h42 => ?_) (fun h42 => ?_)
        · skip
          refine ze_iload_n kc_116_47 rfl ?_
          refine ze_bipush kc_116_48 ?_
          refine ze_icmp_eq kc_116_50 (by omega) (by omega) (fun h50 => ?_) (fun h50 => ?_)
          · skip
            refine ze_iconst kc_116_62 ?_
            refine ze_ireturn kc_116_63 (Or.inl rfl) ?_
            rw [zxPr_semi (by omega) g17 (by omega) (by omega)] at hR
            exact q2 (by rw [← hR]; show ¬ ((zxEnd L t (zxPl L t k) : Nat) : Int) < 0; omega) _ (zFat_trans hf f1) (by rw [← hR]; exact f2)
          · skip
            refine ze_aload_n kc_116_53 rfl ?_
            refine zE_callv 1 kc_116_54 rfl rfl (Nat.le_of_ble_eq_true rfl) (Nat.le_of_ble_eq_true rfl) (Nat.le_of_ble_eq_true rfl) rfl (by decide +kernel) rfl ?_
            refine m_here (zTxM_f (zTxM_f hT0 hf) f1) hel f2 (fun g54 => ?_) (fun g54 => ?_)
            · simp only [Option.toList_some, Option.toList_none, List.drop_succ_cons, List.drop_zero, List.cons_append, List.nil_append]
              have htq := t4 _ g54
              refine ze_bipush kc_116_57 ?_
              refine ze_icmp_eq kc_116_59 (by omega) (by omega) (fun h59 => ?_) (fun h59 => ?_)
              · skip
                refine ze_aload_n kc_116_64 rfl ?_
                refine ze_dup kc_116_65 rfl ?_
                refine ze_getI kc_116_66 rfl (by decide) ?_
                rw [f2]
                refine ze_iconst kc_116_69 ?_
                refine ze_iadd kc_116_70 ?_
                refine ze_putI kc_116_71 rfl rfl ?_
                refine ze_iinc kc_116_74 rfl ?_
                simp only [zset1, zset2, zcut, zf0, zf1, zf2, zf3, List.set_cons_zero, List.set_cons_succ, List.getD_cons_zero, List.getD_cons_succ]
                refine ze_goto kc_116_77 ?_
                refine ih _ (by omega) (k + 1) _ _ _ rfl (by omega) (by omega) (zFat_up (zFat_trans hf f1) (by omega)) (by rw [zup_s]; show ((zxEnd L t (zxPl L t k) : Nat) : Int) + 1 = ((zxEnd L t (zxPl L t k) + 1 : Nat) : Int); omega) (by show zxEnd L t (zxPl L t k) + 1 ≤ L; omega) (by rw [← hR, zxPr_next (by omega) g17 (by omega) (by omega), show 12 - k - 1 = 12 - (k + 1) by omega])
              · skip
                refine ze_iconst kc_116_62 ?_
                refine ze_ireturn kc_116_63 (Or.inl rfl) ?_
                rw [zxPr_semi (by omega) g17 (by omega) (by omega)] at hR
                exact q2 (by rw [← hR]; show ¬ ((zxEnd L t (zxPl L t k) : Nat) : Int) < 0; omega) _ (zFat_trans hf f1) (by rw [← hR]; exact f2)
            · simp only [Option.toList_some, Option.toList_none, List.drop_succ_cons, List.drop_zero, List.cons_append, List.nil_append]
              refine ze_bipush kc_116_57 ?_
              refine ze_icmp_eq kc_116_59 (by decide) (by decide) (fun q => absurd q (by decide)) (fun _ => ?_)
              refine ze_iconst kc_116_62 ?_
              refine ze_ireturn kc_116_63 (Or.inl rfl) ?_
              rw [zxPr_semi (by omega) g17 (by omega) (by omega)] at hR
              exact q2 (by rw [← hR]; show ¬ ((zxEnd L t (zxPl L t k) : Nat) : Int) < 0; omega) _ (zFat_trans hf f1) (by rw [← hR]; exact f2)
        · skip
          refine ze_iload_n kc_116_45 rfl ?_
          refine ze_ireturn kc_116_46 (Or.inl rfl) ?_
          rw [zxPr_end (by omega) g17 (by omega)] at hR
          exact q1 (by rw [← hR]; exact (by decide : (-1 : Int) < 0)) _ (zFat_trans hf f1)
      · simp only [Option.toList_some, Option.toList_none, List.drop_succ_cons, List.drop_zero, List.cons_append, List.nil_append]
        refine ze_istore kc_116_20 (Nat.le_of_ble_eq_true rfl) ?_
        simp only [zset1, zset2, zcut, zf0, zf1, zf2, zf3, List.set_cons_zero, List.set_cons_succ, List.getD_cons_zero, List.getD_cons_succ]
        refine ze_iload kc_116_22 rfl ?_
        refine ze_if_ge kc_116_24 (by decide) (fun q => absurd q (by decide)) (fun _ => ?_)
        refine ze_iconst kc_116_27 ?_
        refine ze_ireturn kc_116_28 (Or.inl rfl) ?_
        rw [zxPr_bad (by omega) g17] at hR
        refine q2 (by rw [← hR]; show ¬ ((zxEnd L t (zxPl L t k) : Nat) : Int) < 0; omega) _ (zFat_trans hf f1) (by rw [← hR]; exact f2)
  refine loop9 _ 0 0 _ none rfl (by decide) rfl (zFat_up zFat_refl (by omega)) zup_s (Nat.zero_le _) rfl

set_option maxHeartbeats 8000000 in
theorem m_clauses1 {Z : zMem} {Q : Option zAV → zMem → Prop} {n : Nat} {c : Nat → Int} {e ρ : Int} (hM : zMo n c e ρ Z) {L : Nat} {t : Nat → Int} (hT : zTxM L t Z) (hs : (zxPr L t 12 0).1 < 0) (q1 : ∀ (Z' : zMem), zMoS (zxS L t (n, c, e, ρ) (zxPr L t 12 0).2) Z' → (∀ i, i ≠ 63 → i ≠ 64 → Z' i = Z i) ∧ (∀ j, j ≠ 0 → j ≠ 2 → j ≠ 3 → j ≠ 20 → j ≠ 21 → Z' 63 j = Z 63 j) → Q (some (zI (zxD L t (n, c, e, ρ) (zxPr L t 12 0).2))) Z') : zE 116 0 (zent 116 [zR 63, zI 1]) [] Z Q := by
  show zE 116 0 [some (zR 63), some (zI 1), none, none, none] [] Z Q
  have hT0 := hT
  obtain ⟨t1, t2, t3, t4⟩ := hT
  have hpi := zxPr_in (L := L) (t := t) 12 0 (by decide) rfl (Nat.zero_le _)
  obtain ⟨-, hK1, hK2, hKj⟩ := hpi.resolve_left (by omega)
  refine ze_aload_n kc_116_0 rfl ?_
  refine ze_iconst kc_116_1 ?_
  refine ze_putI kc_116_2 rfl rfl ?_
  refine ze_iconst kc_116_5 ?_
  refine ze_istore_n kc_116_6 (Nat.le_of_ble_eq_true rfl) ?_
  simp only [zset1, zset2, zcut, zf0, zf1, zf2, zf3, List.set_cons_zero, List.set_cons_succ, List.getD_cons_zero, List.getD_cons_succ]
  refine ze_iconst kc_116_7 ?_
  refine ze_istore_n kc_116_8 (Nat.le_of_ble_eq_true rfl) ?_
  simp only [zset1, zset2, zcut, zf0, zf1, zf2, zf3, List.set_cons_zero, List.set_cons_succ, List.getD_cons_zero, List.getD_cons_succ]
  have loop9 : ∀ (μ : Nat) (k : Nat) (x d : Int) (Zc : zMem) (o4 : Option zAV), 12 - k = μ → (k < (zxPr L t 12 0).2) → (x = k) → (d = zxD L t (n, c, e, ρ) k) → (zMoS (zxS L t (n, c, e, ρ) k) Zc) → ((∀ i, i ≠ 63 → i ≠ 64 → Zc i = Z i) ∧ (∀ j, j ≠ 0 → j ≠ 2 → j ≠ 3 → j ≠ 20 → j ≠ 21 → Zc 63 j = Z 63 j)) → (Zc 63 20 = (zxPl L t k : Nat)) → zE 116 9 [some (zR 63), some (zI 1), some (zI d), some (zI x), o4] [] Zc Q := by
    refine zind ?_
    intro μ ih k x d Zc o4 hm hk hx hd hMk hf hpl
    subst hx
    obtain ⟨hok, hpL, hlast, hnext⟩ := hKj k (Nat.zero_le _) hk
    have hel := (zxEnd_pl (t := t) hpL).2
    have hTc : zTxM L t Zc := by
      unfold zTxM
      rw [hf.2 14 (by decide) (by decide) (by decide) (by decide) (by decide), hf.1 71 (by decide) (by decide)]
      exact ⟨t1, t2, t3, t4⟩
    refine ze_iload_n kc_116_9 rfl ?_
    refine ze_bipush kc_116_10 ?_
    refine ze_icmp_ge kc_116_12 (by omega) (by omega) (fun h12 => ?_) (fun h12 => ?_)
    · skip
      refine ze_iconst kc_116_80 ?_
      refine ze_ireturn kc_116_81 (Or.inl rfl) ?_
      exfalso; omega
    · skip
      refine ze_aload_n kc_116_15 rfl ?_
      refine ze_iload_n kc_116_16 rfl ?_
      refine zE_callv 2 kc_116_17 rfl rfl (Nat.le_of_ble_eq_true rfl) (Nat.le_of_ble_eq_true rfl) (Nat.le_of_ble_eq_true rfl) rfl (by decide +kernel) rfl ?_
      refine m_clause_a hTc hpL hpl (fun g17 Z4 f1 f2 f3 => ?_) (fun g17 => absurd hok g17)
      refine m_clause1_b (n := (zxS L t (n, c, e, ρ) k).1) (c := (zxS L t (n, c, e, ρ) k).2.1) (e := (zxS L t (n, c, e, ρ) k).2.2.1) (ρ := (zxS L t (n, c, e, ρ) k).2.2.2) (zMo_of (by rw [f1.2 0 (by decide) (by decide)]; exact hMk.1) hMk.2.1 (fun i hi => by rw [f1.1 64 (by decide)]; exact hMk.2.2.1 i hi) hMk.2.2.2.1 (by rw [f1.2 2 (by decide) (by decide)]; exact hMk.2.2.2.2.1) (by rw [f1.2 3 (by decide) (by decide)]; exact hMk.2.2.2.2.2.1) hMk.2.2.2.2.2.2.1 hMk.2.2.2.2.2.2.2) hok.1 (t4 _ hok.1.1) f1 f2 f3 (fun Z2 s1 s2 s3 => ?_)
      simp only [Option.toList_some, Option.toList_none, List.drop_succ_cons, List.drop_zero, List.cons_append, List.nil_append]
      have hT2 : zTxM L t Z2 := by
        unfold zTxM
        rw [s2.2 14 (by decide) (by decide) (by decide) (by decide) (by decide), s2.1 71 (by decide) (by decide)]
        exact hTc
      refine ze_istore kc_116_20 (Nat.le_of_ble_eq_true rfl) ?_
      simp only [zset1, zset2, zcut, zf0, zf1, zf2, zf3, List.set_cons_zero, List.set_cons_succ, List.getD_cons_zero, List.getD_cons_succ]
      refine ze_iload kc_116_22 rfl ?_
      refine ze_if_ge kc_116_24 (by split <;> omega) (fun h24 => ?_) (fun h24 => ?_)
      · skip
        refine ze_iload_n kc_116_29 rfl ?_
        refine ze_iload kc_116_30 rfl ?_
        refine ze_iadd kc_116_32 ?_
        refine ze_istore_n kc_116_33 (Nat.le_of_ble_eq_true rfl) ?_
        simp only [zset1, zset2, zcut, zf0, zf1, zf2, zf3, List.set_cons_zero, List.set_cons_succ, List.getD_cons_zero, List.getD_cons_succ]
        refine ze_aload_n kc_116_34 rfl ?_
        refine ze_getI kc_116_35 rfl (by decide) ?_
        rw [s3]
        refine ze_aload_n kc_116_38 rfl ?_
        refine ze_getI kc_116_39 rfl (by decide) ?_
        rw [show Z2 63 14 = L from hT2.1]
        refine ze_icmp_ne kc_116_42 (by omega) (by omega) (fun h42 => ?_) (fun h42 => ?_)
        · skip
          refine ze_iload_n kc_116_47 rfl ?_
          refine ze_bipush kc_116_48 ?_
          refine ze_icmp_eq kc_116_50 (by omega) (by omega) (fun h50 => ?_) (fun h50 => ?_)
          · skip
            refine ze_iconst kc_116_62 ?_
            refine ze_ireturn kc_116_63 (Or.inl rfl) ?_
            exfalso
            have z : k + 1 < (zxPr L t 12 0).2 := by
              by_cases z : k + 1 = (zxPr L t 12 0).2
              · have := hlast z
                omega
              · omega
            have := hnext z
            omega
          · skip
            refine ze_aload_n kc_116_53 rfl ?_
            refine zE_callv 1 kc_116_54 rfl rfl (Nat.le_of_ble_eq_true rfl) (Nat.le_of_ble_eq_true rfl) (Nat.le_of_ble_eq_true rfl) rfl (by decide +kernel) rfl ?_
            refine m_here hT2 hel s3 (fun g54 => ?_) (fun g54 => ?_)
            · simp only [Option.toList_some, Option.toList_none, List.drop_succ_cons, List.drop_zero, List.cons_append, List.nil_append]
              have htq := t4 _ g54
              refine ze_bipush kc_116_57 ?_
              refine ze_icmp_eq kc_116_59 (by omega) (by omega) (fun h59 => ?_) (fun h59 => ?_)
              · skip
                refine ze_aload_n kc_116_64 rfl ?_
                refine ze_dup kc_116_65 rfl ?_
                refine ze_getI kc_116_66 rfl (by decide) ?_
                rw [s3]
                refine ze_iconst kc_116_69 ?_
                refine ze_iadd kc_116_70 ?_
                refine ze_putI kc_116_71 rfl rfl ?_
                refine ze_iinc kc_116_74 rfl ?_
                simp only [zset1, zset2, zcut, zf0, zf1, zf2, zf3, List.set_cons_zero, List.set_cons_succ, List.getD_cons_zero, List.getD_cons_succ]
                refine ze_goto kc_116_77 ?_
                refine ih _ (by omega) (k + 1) _ _ _ _ rfl (by omega) (by omega) ?_ (zMo_of (by rw [zup_o (by decide)]; exact s1.1) s1.2.1 (fun i hi => by rw [zup_ne' (by decide)]; exact s1.2.2.1 i hi) s1.2.2.2.1 (by rw [zup_o (by decide)]; exact s1.2.2.2.2.1) (by rw [zup_o (by decide)]; exact s1.2.2.2.2.2.1) s1.2.2.2.2.2.2.1 s1.2.2.2.2.2.2.2) ⟨fun i a b => by rw [zup_ne' a, s2.1 i a b]; exact hf.1 i a b, fun j a b d e g => by rw [zup_o e, s2.2 j a b d e g]; exact hf.2 j a b d e g⟩ (by rw [zup_s]; show ((zxEnd L t (zxPl L t k) : Nat) : Int) + 1 = ((zxEnd L t (zxPl L t k) + 1 : Nat) : Int); omega)
                show _ = zxD L t (n, c, e, ρ) k + _
                rw [hd]
              · skip
                refine ze_iconst kc_116_62 ?_
                refine ze_ireturn kc_116_63 (Or.inl rfl) ?_
                exfalso
                have z : k + 1 < (zxPr L t 12 0).2 := by
                  by_cases z : k + 1 = (zxPr L t 12 0).2
                  · have := hlast z
                    omega
                  · omega
                have := hnext z
                omega
            · simp only [Option.toList_some, Option.toList_none, List.drop_succ_cons, List.drop_zero, List.cons_append, List.nil_append]
              refine ze_bipush kc_116_57 ?_
              refine ze_icmp_eq kc_116_59 (by decide) (by decide) (fun q => absurd q (by decide)) (fun _ => ?_)
              refine ze_iconst kc_116_62 ?_
              refine ze_ireturn kc_116_63 (Or.inl rfl) ?_
              exfalso
              have z : k + 1 < (zxPr L t 12 0).2 := by
                by_cases z : k + 1 = (zxPr L t 12 0).2
                · have := hlast z
                  omega
                · omega
              have := hnext z
              omega
        · skip
          refine ze_iload_n kc_116_45 rfl ?_
          refine ze_ireturn kc_116_46 (Or.inl rfl) ?_
          have ek : k + 1 = (zxPr L t 12 0).2 := by
            by_cases z : k + 1 < (zxPr L t 12 0).2
            · have := (hnext z).1
              omega
            · omega
          rw [← ek] at q1
          rw [show d + _ = zxD L t (n, c, e, ρ) (k + 1) from by rw [hd]; rfl]
          exact q1 _ s1 ⟨fun i a b => (s2.1 i a b).trans (hf.1 i a b), fun j a b d e g => (s2.2 j a b d e g).trans (hf.2 j a b d e g)⟩
      · skip
        refine ze_iconst kc_116_27 ?_
        refine ze_ireturn kc_116_28 (Or.inl rfl) ?_
        exfalso
        revert h24
        split <;> omega
  refine loop9 _ 0 0 0 _ none rfl (by omega) rfl rfl (zMo_of (by rw [zup_o (by decide)]; exact hM.1) hM.2.1 (fun i hi => by rw [zup_ne' (by decide)]; exact hM.2.2.1 i hi) hM.2.2.2.1 (by rw [zup_o (by decide)]; exact hM.2.2.2.2.1) (by rw [zup_o (by decide)]; exact hM.2.2.2.2.2.1) hM.2.2.2.2.2.2.1 hM.2.2.2.2.2.2.2) ⟨fun i a b => zup_ne' a, fun j a b d e g => zup_o e⟩ zup_s

set_option maxHeartbeats 4000000 in
theorem m_readM {Z : zMem} {Q : Option zAV → zMem → Prop} {n : Nat} {c : Nat → Int} {e ρ : Int} (hM : zMo n c e ρ Z) {L : Nat} {t : Nat → Int} (hT : zTxM L t Z) (q1 : ∀ (Z' : zMem), zMoS (sRead L t (n, c, e, ρ)) Z' → zTxM 0 t Z' → (∀ i, i ≠ 63 → i ≠ 64 → Z' i = Z i) ∧ (∀ j, j ≠ 0 → j ≠ 2 → j ≠ 3 → j ≠ 14 → j ≠ 20 → j ≠ 21 → Z' 63 j = Z 63 j) → Q (some (zI (oRead L t (n, c, e, ρ)))) Z') : zE 117 0 (zent 117 [zR 63]) [] Z Q := by
  show zE 117 0 [some (zR 63), none] [] Z Q
  have hM0 := hM
  refine ze_aload_n kc_117_0 rfl ?_
  refine ze_iconst kc_117_1 ?_
  refine zE_callv 2 kc_117_2 rfl rfl (Nat.le_of_ble_eq_true rfl) (Nat.le_of_ble_eq_true rfl) (Nat.le_of_ble_eq_true rfl) rfl (by decide +kernel) rfl ?_
  refine m_clauses0 hT (fun g2 Z2 f1 => ?_) (fun g2 Z2 f1 f2 => ?_)
  · simp only [Option.toList_some, Option.toList_none, List.drop_succ_cons, List.drop_zero, List.cons_append, List.nil_append]
    refine ze_if_ge kc_117_5 (by decide) (fun _ => ?_) (fun q => absurd q (by decide))
    refine ze_aload_n kc_117_18 rfl ?_
    refine ze_iconst kc_117_19 ?_
    refine zE_callv 2 kc_117_20 rfl rfl (Nat.le_of_ble_eq_true rfl) (Nat.le_of_ble_eq_true rfl) (Nat.le_of_ble_eq_true rfl) rfl (by decide +kernel) rfl ?_
    refine m_clauses1 (zMo_of (by rw [f1.2 0 (by decide) (by decide)]; exact hM.1) hM.2.1 (fun i hi => by rw [f1.1 64 (by decide)]; exact hM.2.2.1 i hi) hM.2.2.2.1 (by rw [f1.2 2 (by decide) (by decide)]; exact hM.2.2.2.2.1) (by rw [f1.2 3 (by decide) (by decide)]; exact hM.2.2.2.2.2.1) hM.2.2.2.2.2.2.1 hM.2.2.2.2.2.2.2) (zTxM_f hT f1) g2 (fun Z3 s1 s2 => ?_)
    simp only [Option.toList_some, Option.toList_none, List.drop_succ_cons, List.drop_zero, List.cons_append, List.nil_append]
    refine ze_istore_n kc_117_23 (Nat.le_of_ble_eq_true rfl) ?_
    simp only [zset1, zset2, zcut, zf0, zf1, zf2, zf3, List.set_cons_zero, List.set_cons_succ, List.getD_cons_zero, List.getD_cons_succ]
    refine ze_aload_n kc_117_24 rfl ?_
    refine ze_iconst kc_117_25 ?_
    refine ze_putI kc_117_26 rfl rfl ?_
    refine ze_iload_n kc_117_29 rfl ?_
    refine ze_ireturn kc_117_30 (Or.inl rfl) ?_
    first
      | (rw [show oRead L t (n, c, e, ρ) = zxD L t (n, c, e, ρ) (zxPr L t 12 0).2 from if_pos g2, show sRead L t (n, c, e, ρ) = zxS L t (n, c, e, ρ) (zxPr L t 12 0).2 from if_pos g2] at q1
         exact q1 _ (zMo_of (by rw [zup_o (by decide)]; exact s1.1) s1.2.1 (fun i hi => by rw [zup_ne' (by decide)]; exact s1.2.2.1 i hi) s1.2.2.2.1 (by rw [zup_o (by decide)]; exact s1.2.2.2.2.1) (by rw [zup_o (by decide)]; exact s1.2.2.2.2.2.1) s1.2.2.2.2.2.2.1 s1.2.2.2.2.2.2.2) ⟨zup_s, Nat.zero_le _, fun i hi => absurd hi (Nat.not_lt_zero _), fun i hi => absurd hi (Nat.not_lt_zero _)⟩ ⟨fun i a b => by rw [zup_ne' a, s2.1 i a b]; exact f1.1 i a, fun j a b d g0 g1 g3 => by rw [zup_o g0, s2.2 j a b d g1 g3]; exact f1.2 j g1 g3⟩)
      | (rw [show oRead L t (n, c, e, ρ) = -10 - (zxPr L t 12 0).1 from if_neg g2, show sRead L t (n, c, e, ρ) = (n, c, e, ρ) from if_neg g2] at q1
         exact q1 _ (zMo_of (by rw [zup_o (by decide), f1.2 0 (by decide) (by decide)]; exact hM.1) hM.2.1 (fun i hi => by rw [zup_ne' (by decide), f1.1 64 (by decide)]; exact hM.2.2.1 i hi) hM.2.2.2.1 (by rw [zup_o (by decide), f1.2 2 (by decide) (by decide)]; exact hM.2.2.2.2.1) (by rw [zup_o (by decide), f1.2 3 (by decide) (by decide)]; exact hM.2.2.2.2.2.1) hM.2.2.2.2.2.2.1 hM.2.2.2.2.2.2.2) ⟨zup_s, Nat.zero_le _, fun i hi => absurd hi (Nat.not_lt_zero _), fun i hi => absurd hi (Nat.not_lt_zero _)⟩ ⟨fun i a b => by rw [zup_ne' a]; exact f1.1 i a, fun j a b d g0 g1 g3 => by rw [zup_o g0]; exact f1.2 j g1 g3⟩)
  · simp only [Option.toList_some, Option.toList_none, List.drop_succ_cons, List.drop_zero, List.cons_append, List.nil_append]
    refine ze_if_ge kc_117_5 (by decide) (fun q => absurd q (by decide)) (fun _ => ?_)
    refine ze_bipush kc_117_8 ?_
    refine ze_aload_n kc_117_10 rfl ?_
    refine ze_getI kc_117_11 rfl (by decide) ?_
    rw [f2]
    refine ze_isub kc_117_14 ?_
    refine ze_goto kc_117_15 ?_
    refine ze_istore_n kc_117_23 (Nat.le_of_ble_eq_true rfl) ?_
    simp only [zset1, zset2, zcut, zf0, zf1, zf2, zf3, List.set_cons_zero, List.set_cons_succ, List.getD_cons_zero, List.getD_cons_succ]
    refine ze_aload_n kc_117_24 rfl ?_
    refine ze_iconst kc_117_25 ?_
    refine ze_putI kc_117_26 rfl rfl ?_
    refine ze_iload_n kc_117_29 rfl ?_
    refine ze_ireturn kc_117_30 (Or.inl rfl) ?_
    first
      | (rw [show oRead L t (n, c, e, ρ) = zxD L t (n, c, e, ρ) (zxPr L t 12 0).2 from if_pos g2, show sRead L t (n, c, e, ρ) = zxS L t (n, c, e, ρ) (zxPr L t 12 0).2 from if_pos g2] at q1
         exact q1 _ (zMo_of (by rw [zup_o (by decide)]; exact s1.1) s1.2.1 (fun i hi => by rw [zup_ne' (by decide)]; exact s1.2.2.1 i hi) s1.2.2.2.1 (by rw [zup_o (by decide)]; exact s1.2.2.2.2.1) (by rw [zup_o (by decide)]; exact s1.2.2.2.2.2.1) s1.2.2.2.2.2.2.1 s1.2.2.2.2.2.2.2) ⟨zup_s, Nat.zero_le _, fun i hi => absurd hi (Nat.not_lt_zero _), fun i hi => absurd hi (Nat.not_lt_zero _)⟩ ⟨fun i a b => by rw [zup_ne' a, s2.1 i a b]; exact f1.1 i a, fun j a b d g0 g1 g3 => by rw [zup_o g0, s2.2 j a b d g1 g3]; exact f1.2 j g1 g3⟩)
      | (rw [show oRead L t (n, c, e, ρ) = -10 - (zxPr L t 12 0).1 from if_neg g2, show sRead L t (n, c, e, ρ) = (n, c, e, ρ) from if_neg g2] at q1
         exact q1 _ (zMo_of (by rw [zup_o (by decide), f1.2 0 (by decide) (by decide)]; exact hM.1) hM.2.1 (fun i hi => by rw [zup_ne' (by decide), f1.1 64 (by decide)]; exact hM.2.2.1 i hi) hM.2.2.2.1 (by rw [zup_o (by decide), f1.2 2 (by decide) (by decide)]; exact hM.2.2.2.2.1) (by rw [zup_o (by decide), f1.2 3 (by decide) (by decide)]; exact hM.2.2.2.2.2.1) hM.2.2.2.2.2.2.1 hM.2.2.2.2.2.2.2) ⟨zup_s, Nat.zero_le _, fun i hi => absurd hi (Nat.not_lt_zero _), fun i hi => absurd hi (Nat.not_lt_zero _)⟩ ⟨fun i a b => by rw [zup_ne' a]; exact f1.1 i a, fun j a b d g0 g1 g3 => by rw [zup_o g0]; exact f1.2 j g1 g3⟩)
