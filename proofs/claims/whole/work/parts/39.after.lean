/-! AFTER; THE IMAGE -/
abbrev zKr : Type := zS4 × zRs × zRs × zRs
def zRng (S : zS4) : Prop := S.1 ≤ 6 ∧ (∀ i, i < S.1 → 1 ≤ S.2.1 i ∧ S.2.1 i ≤ 60) ∧ (0 ≤ S.2.2.1 ∧ S.2.2.1 ≤ 360) ∧ (0 ≤ S.2.2.2 ∧ S.2.2.2 ≤ 5)
def zKd (K : zKr) (Z : zMem) : Prop := (Z 72 48 = (K.1.1 : Nat) ∧ Z 72 49 = K.1.2.2.1 ∧ Z 72 50 = K.1.2.2.2 ∧ (∀ i, i < K.1.1 → Z 72 i = K.1.2.1 i)) ∧ (Z 72 51 = (K.2.1.1 : Nat) ∧ K.2.1.1 ≤ 5 ∧ ∀ i, i < K.2.1.1 → Z 72 (6 + i) = K.2.1.2.1 i ∧ Z 72 (11 + i) = K.2.1.2.2 i) ∧ (Z 72 52 = (K.2.2.1.1 : Nat) ∧ K.2.2.1.1 ≤ 8 ∧ ∀ i, i < K.2.2.1.1 → Z 72 (16 + i) = K.2.2.1.2.1 i ∧ Z 72 (24 + i) = K.2.2.1.2.2 i) ∧ (Z 72 53 = (K.2.2.2.1 : Nat) ∧ K.2.2.2.1 ≤ 8 ∧ ∀ i, i < K.2.2.2.1 → Z 72 (32 + i) = K.2.2.2.2.1 i ∧ Z 72 (40 + i) = K.2.2.2.2.2 i) ∧ zRng K.1
def zImM (I : Option zKr) (Z : zMem) : Prop := (I = none → Z 63 17 = 0) ∧ ∀ K, I = some K → Z 63 17 = 1 ∧ zKd K Z
def zImX (I : Option zKr) (Z : zMem) : Prop := (Z 40 0 = 0 ∧ Z 42 2 = 5 ∧ Z 45 2 = 8 ∧ Z 48 2 = 8) ∧ (I = none → Z 35 4 = 0) ∧ ∀ K, I = some K → Z 35 4 = 1 ∧ zSU 36 K.1.1 K.1.2.1 K.1.2.2.1 K.1.2.2.2 Z ∧ zRwX 42 5 K.2.1 Z ∧ zRwX 45 8 K.2.2.1 Z ∧ zRwX 48 8 K.2.2.2 Z
def zRwsX (K : zKr) (Z : zMem) : Prop := zClS K.1 Z ∧ zRwX 20 5 K.2.1 Z ∧ zRwX 23 8 K.2.2.1 Z ∧ zRwX 26 8 K.2.2.2 Z
def zRwsM (K : zKr) (Z : zMem) : Prop := zMoS K.1 Z ∧ zRwM 4 65 66 5 K.2.1 Z ∧ zRwM 7 67 68 8 K.2.2.1 Z ∧ zRwM 10 69 70 8 K.2.2.2 Z

set_option maxHeartbeats 8000000 in
theorem m_afterX {Z : zMem} {Q : Option zAV → zMem → Prop} {n : Nat} {c : Nat → Int} {e ρ : Int} (hC : zCl n c e ρ Z) {N : Nat} {a b : Nat → Int} (hW : zRw 23 8 N a b Z) (hE : zEok n (N, a, b)) {w : Int} (hw : -2147483648 ≤ w ∧ w ≤ 2147483647) (q1 : ∀ (Z' : zMem), zFq Z Z' → Q (some (zL (oAfter n c e ρ (N, a, b) w))) Z') : zE 73 0 (zent 73 [zR 0, zI w]) [] Z Q := by
  show zE 73 0 [some (zR 0), some (zI w), none] [] Z Q
  obtain ⟨hU0, hG0, n6, n0, cc, cr, ce, cρ, ceR, cρR, c11, c16⟩ := zCl_o hC
  have csr := zsum_range cr
  have hHp := fun (k : Nat) (hk : k ≤ N) => zHp_ok (R := (N, a, b)) hE cr ceR cρR k hk
  have hW0 := hW
  obtain ⟨w1, w2, w3, w4, w5⟩ := hW
  refine ze_iload_n kc_73_0 rfl ?_
  refine ze_if_lt kc_73_1 (by omega) (fun h1 => ?_) (fun h1 => ?_)
  · skip
    refine ze_ldc2L kc_73_9 ?_
    refine ze_lreturn kc_73_12 ?_
    rw [show oAfter n c e ρ (N, a, b) w = -9223372036854775808 from if_pos (by omega)] at q1
    exact q1 _ zFq_refl
  · skip
    refine ze_iload_n kc_73_4 rfl ?_
    refine ze_iconst kc_73_5 ?_
    refine ze_icmp_le kc_73_6 (by omega) (by omega) (fun h6 => ?_) (fun h6 => ?_)
    · skip
      refine ze_aload_n kc_73_13 rfl ?_
      refine ze_getR kc_73_14 rfl rfl rfl ?_
      refine ze_aload_n kc_73_17 rfl ?_
      refine ze_getR kc_73_18 rfl rfl rfl ?_
      refine zE_callv 2 kc_73_21 rfl rfl (Nat.le_of_ble_eq_true rfl) (Nat.le_of_ble_eq_true rfl) (Nat.le_of_ble_eq_true rfl) rfl (by decide +kernel) rfl ?_
      refine m_copyS zsF_7 zsF_1 (by decide) hU0 c11 (fun Z2 f1 f2 => ?_)
      simp only [Option.toList_some, Option.toList_none, List.drop_succ_cons, List.drop_zero, List.cons_append, List.nil_append]
      refine ze_iconst kc_73_24 ?_
      refine ze_istore_n kc_73_25 (Nat.le_of_ble_eq_true rfl) ?_
      simp only [zset1, zset2, zcut, zf0, zf1, zf2, zf3, List.set_cons_zero, List.set_cons_succ, List.getD_cons_zero, List.getD_cons_succ]
      have loop26 : ∀ (μ : Nat) (k : Nat) (x : Int) (Zc : zMem), N - k = μ → (k ≤ N) → (x = k) → (zSU 7 n (zHp (N, a, b) c e ρ k).1 (zHp (N, a, b) c e ρ k).2.1 (zHp (N, a, b) c e ρ k).2.2 Zc) → (∀ i, i < 7 ∨ 11 < i → Zc i = Z i) → (Zc 11 0 = 0) → zE 73 26 [some (zR 0), some (zI w), some (zI x)] [] Zc Q := by
        refine zind ?_
        intro μ ih k x Zc hm hk hx hUt hf hz
        subst hx
        have hEk : k < N → (0 ≤ a k ∧ a k ≤ 3) ∧ (0 ≤ b k ∧ b k ≤ 360) ∧ (a k < 2 → b k < n) ∧ (a k = 2 → b k ≤ 5) := fun q => hE k q
        refine ze_iload_n kc_73_26 rfl ?_
        refine ze_aload_n kc_73_27 rfl ?_
        refine ze_getR kc_73_28 rfl rfl rfl ?_
        refine ze_getI kc_73_31 rfl (by decide) ?_
        rw [hf 23 (by decide), w2]
        refine ze_icmp_ge kc_73_34 (by omega) (by omega) (fun h34 => ?_) (fun h34 => ?_)
        · skip
          have ek : k = N := by omega
          subst ek
          obtain ⟨i1, i2, i3⟩ := hHp k (by omega)
          refine ze_aload_n kc_73_68 rfl ?_
          refine ze_getR kc_73_69 rfl rfl rfl ?_
          refine zE_callv 1 kc_73_72 rfl rfl (Nat.le_of_ble_eq_true rfl) (Nat.le_of_ble_eq_true rfl) (Nat.le_of_ble_eq_true rfl) rfl (by decide +kernel) rfl ?_
          refine m_ready zsF_7 hUt (fun g72 => ?_) (fun g72 => ?_)
          · simp only [Option.toList_some, Option.toList_none, List.drop_succ_cons, List.drop_zero, List.cons_append, List.nil_append]
            refine ze_if_ne kc_73_75 (by decide) (fun _ => ?_) (fun q => absurd q (by decide))
            refine ze_iload_n kc_73_82 rfl ?_
            refine ze_iconst kc_73_83 ?_
            refine ze_icmp_ne kc_73_84 (by omega) (by omega) (fun h84 => ?_) (fun h84 => ?_)
            · skip
              refine ze_aload_n kc_73_105 rfl ?_
              refine ze_getR kc_73_106 rfl rfl rfl ?_
              refine ze_aload_n kc_73_109 rfl ?_
              refine ze_getR kc_73_110 rfl rfl rfl ?_
              refine ze_getI kc_73_113 rfl (by decide) ?_
              rw [hUt.2.2.1]
              refine ze_iconst kc_73_116 ?_
              refine ze_iload_n kc_73_117 rfl ?_
              refine zE_callv 4 kc_73_118 rfl rfl (Nat.le_of_ble_eq_true rfl) (Nat.le_of_ble_eq_true rfl) (Nat.le_of_ble_eq_true rfl) rfl (by decide +kernel) rfl ?_
              refine m_fract (i := 0) zsF_7 hUt (by omega) (by omega) (by omega) (by omega) ?_
              simp only [Option.toList_some, Option.toList_none, List.drop_succ_cons, List.drop_zero, List.cons_append, List.nil_append]
              refine ze_lreturn kc_73_121 ?_
              first
                | (rw [show oAfter n c e ρ (k, a, b) w = zAlk n (zHp (k, a, b) c e ρ k).1 (zHp (k, a, b) c e ρ k).2.1 (zHp (k, a, b) c e ρ k).2.2 from (if_neg (by omega)).trans ((if_neg (show ¬ ¬ (1 ≤ n ∧ (zHp (k, a, b) c e ρ k).2.1 ≤ zsum n (zHp (k, a, b) c e ρ k).1) by omega)).trans (if_pos (by omega)))] at q1
                   exact q1 _ ⟨fun i a b d e g => hf i (by omega), fun j a b d e g => by rw [hf 63 (by decide)], fun _ => hz, fun q => by rw [hf 16 (by decide)]; exact q⟩)
                | (rw [show oAfter n c e ρ (k, a, b) w = zlow (zGt (zHp (k, a, b) c e ρ k).2.2 n (zHp (k, a, b) c e ρ k).1 0 1 (zHp (k, a, b) c e ρ k).2.1) (zS (zHp (k, a, b) c e ρ k).2.2 n (zHp (k, a, b) c e ρ k).1) w from (if_neg (by omega)).trans ((if_neg (show ¬ ¬ (1 ≤ n ∧ (zHp (k, a, b) c e ρ k).2.1 ≤ zsum n (zHp (k, a, b) c e ρ k).1) by omega)).trans (if_neg (by omega)))] at q1
                   exact q1 _ ⟨fun i a b d e g => hf i (by omega), fun j a b d e g => by rw [hf 63 (by decide)], fun _ => hz, fun q => by rw [hf 16 (by decide)]; exact q⟩)
            · skip
              refine ze_aload_n kc_73_87 rfl ?_
              refine ze_getR kc_73_88 rfl rfl rfl ?_
              refine ze_aload_n kc_73_91 rfl ?_
              refine ze_getR kc_73_92 rfl rfl rfl ?_
              refine ze_getI kc_73_95 rfl (by decide) ?_
              rw [hUt.2.2.1]
              refine zE_callv 2 kc_73_98 rfl rfl (Nat.le_of_ble_eq_true rfl) (Nat.le_of_ble_eq_true rfl) (Nat.le_of_ble_eq_true rfl) rfl (by decide +kernel) rfl ?_
              refine m_alike zsF_7 hUt (by omega) (by omega) (by omega) ?_
              simp only [Option.toList_some, Option.toList_none, List.drop_succ_cons, List.drop_zero, List.cons_append, List.nil_append]
              have hzb := zbor_in 6 (fun o => zLike n (zHp (k, a, b) c e ρ k).1 (zHp (k, a, b) c e ρ k).2.1 (zHp (k, a, b) c e ρ k).2.2 o)
              change -2147483648 ≤ zAlk n (zHp (k, a, b) c e ρ k).1 (zHp (k, a, b) c e ρ k).2.1 (zHp (k, a, b) c e ρ k).2.2 ∧ zAlk n (zHp (k, a, b) c e ρ k).1 (zHp (k, a, b) c e ρ k).2.1 (zHp (k, a, b) c e ρ k).2.2 ≤ 2147483647 at hzb
              refine ze_i2l kc_73_101 (by omega) ?_
              refine ze_goto kc_73_102 ?_
              refine ze_lreturn kc_73_121 ?_
              first
                | (rw [show oAfter n c e ρ (k, a, b) w = zAlk n (zHp (k, a, b) c e ρ k).1 (zHp (k, a, b) c e ρ k).2.1 (zHp (k, a, b) c e ρ k).2.2 from (if_neg (by omega)).trans ((if_neg (show ¬ ¬ (1 ≤ n ∧ (zHp (k, a, b) c e ρ k).2.1 ≤ zsum n (zHp (k, a, b) c e ρ k).1) by omega)).trans (if_pos (by omega)))] at q1
                   exact q1 _ ⟨fun i a b d e g => hf i (by omega), fun j a b d e g => by rw [hf 63 (by decide)], fun _ => hz, fun q => by rw [hf 16 (by decide)]; exact q⟩)
                | (rw [show oAfter n c e ρ (k, a, b) w = zlow (zGt (zHp (k, a, b) c e ρ k).2.2 n (zHp (k, a, b) c e ρ k).1 0 1 (zHp (k, a, b) c e ρ k).2.1) (zS (zHp (k, a, b) c e ρ k).2.2 n (zHp (k, a, b) c e ρ k).1) w from (if_neg (by omega)).trans ((if_neg (show ¬ ¬ (1 ≤ n ∧ (zHp (k, a, b) c e ρ k).2.1 ≤ zsum n (zHp (k, a, b) c e ρ k).1) by omega)).trans (if_neg (by omega)))] at q1
                   exact q1 _ ⟨fun i a b d e g => hf i (by omega), fun j a b d e g => by rw [hf 63 (by decide)], fun _ => hz, fun q => by rw [hf 16 (by decide)]; exact q⟩)
          · simp only [Option.toList_some, Option.toList_none, List.drop_succ_cons, List.drop_zero, List.cons_append, List.nil_append]
            refine ze_if_ne kc_73_75 (by decide) (fun q => absurd q (by decide)) (fun _ => ?_)
            refine ze_ldc2L kc_73_78 ?_
            refine ze_lreturn kc_73_81 ?_
            rw [show oAfter n c e ρ (k, a, b) w = -9223372036854775808 from (if_neg (by omega)).trans (if_pos (show ¬ (1 ≤ n ∧ (zHp (k, a, b) c e ρ k).2.1 ≤ zsum n (zHp (k, a, b) c e ρ k).1) by omega))] at q1
            exact q1 _ ⟨fun i a b d e g => hf i (by omega), fun j a b d e g => by rw [hf 63 (by decide)], fun _ => hz, fun q => by rw [hf 16 (by decide)]; exact q⟩
        · skip
          refine ze_aload_n kc_73_37 rfl ?_
          refine ze_getR kc_73_38 rfl rfl rfl ?_
          refine ze_aload_n kc_73_41 rfl ?_
          refine ze_getR kc_73_42 rfl rfl rfl ?_
          refine ze_getR kc_73_45 rfl rfl rfl ?_
          refine ze_iload_n kc_73_48 rfl ?_
          refine ze_iald kc_73_49 rfl (by omega) ?_
          rw [Int.toNat_natCast, hf 24 (by decide), w4 k (by omega)]
          refine ze_aload_n kc_73_50 rfl ?_
          refine ze_getR kc_73_51 rfl rfl rfl ?_
          refine ze_getR kc_73_54 rfl rfl rfl ?_
          refine ze_iload_n kc_73_57 rfl ?_
          refine ze_iald kc_73_58 rfl (by omega) ?_
          rw [Int.toNat_natCast, hf 25 (by decide), w5 k (by omega), show b k = (((b k).toNat : Nat) : Int) by omega]
          refine zE_callv 3 kc_73_59 rfl rfl (Nat.le_of_ble_eq_true rfl) (Nat.le_of_ble_eq_true rfl) (Nat.le_of_ble_eq_true rfl) rfl (by decide +kernel) rfl ?_
          refine m_happen zsF_7 hUt (by omega) (by omega) (by omega) (by omega) (fun Z3 k1 k2 => ?_)
          simp only [Option.toList_some, Option.toList_none, List.drop_succ_cons, List.drop_zero, List.cons_append, List.nil_append]
          refine ze_iinc kc_73_62 rfl ?_
          simp only [zset1, zset2, zcut, zf0, zf1, zf2, zf3, List.set_cons_zero, List.set_cons_succ, List.getD_cons_zero, List.getD_cons_succ]
          refine ze_goto kc_73_65 ?_
          refine ih _ (by omega) (k + 1) _ _ rfl (by omega) (by omega) k1 (fun i hi => by rw [k2 i (by omega)]; exact hf i hi) (zG_z k1.1)
      refine loop26 _ 0 0 _ rfl (by omega) rfl f1 f2 (zG_z f1.1)
    · skip
      refine ze_ldc2L kc_73_9 ?_
      refine ze_lreturn kc_73_12 ?_
      rw [show oAfter n c e ρ (N, a, b) w = -9223372036854775808 from if_pos (by omega)] at q1
      exact q1 _ zFq_refl

theorem zFq_after {Z Z2 Zc Zm Z9 : zMem} (hB : ∀ k, k ≠ 73 → Z2 k = Z k) (hKp : zKp 73 Z Z2) (hf : (∀ i, i ≠ 63 → i ≠ 64 → Zc i = Z2 i) ∧ (∀ j, j ≠ 2 → j ≠ 3 → Zc 63 j = Z2 63 j) ∧ (∀ x, 6 ≤ x → Zc 64 x = Z 64 x)) (hm : zFm Zc Zm) (u1 : ∀ k, k < 63 ∨ 70 < k → Z9 k = Zm k) (u2 : ∀ j, j ≠ 0 → j ≠ 2 → j ≠ 3 → j ≠ 4 → j ≠ 7 → j ≠ 10 → Z9 63 j = Zm 63 j) (u3 : zAg 73 Zm Z9) : zFq Z Z9 := by
  refine ⟨fun i a b d e g => ?_, fun j a b d e g => ?_, fun q => ?_, fun q => ?_⟩
  · by_cases z : 64 ≤ i ∧ i ≤ 70
    · obtain ⟨p1, p2, p3, p4, p5, p6, p7, -⟩ := u3
      obtain ⟨s1, s2, s3, -⟩ := hKp
      funext x
      rcases (show i = 64 ∨ i = 65 ∨ i = 66 ∨ i = 67 ∨ i = 68 ∨ i = 69 ∨ i = 70 by omega) with rfl | rfl | rfl | rfl | rfl | rfl | rfl
      · rw [p1 x, hm.1 73 (by decide) (by decide), hf.1 73 (by decide) (by decide), hm.1 64 (by decide) (by decide)]
        by_cases y : x < 6
        · rw [if_pos y]; exact s1 x y
        · rw [if_neg y]; exact hf.2.2 x (by omega)
      · rw [p2 x, hm.1 73 (by decide) (by decide), hf.1 73 (by decide) (by decide), hm.1 65 (by decide) (by decide), hf.1 65 (by decide) (by decide), hB 65 (by decide)]
        split
        · exact (s2 x (by assumption)).1
        · rfl
      · rw [p3 x, hm.1 73 (by decide) (by decide), hf.1 73 (by decide) (by decide), hm.1 66 (by decide) (by decide), hf.1 66 (by decide) (by decide), hB 66 (by decide)]
        split
        · exact (s2 x (by assumption)).2
        · rfl
      · rw [p4 x, hm.1 73 (by decide) (by decide), hf.1 73 (by decide) (by decide), hm.1 67 (by decide) (by decide), hf.1 67 (by decide) (by decide), hB 67 (by decide)]
        split
        · exact (s3 x (by assumption)).1
        · rfl
      · rw [p5 x, hm.1 73 (by decide) (by decide), hf.1 73 (by decide) (by decide), hm.1 68 (by decide) (by decide), hf.1 68 (by decide) (by decide), hB 68 (by decide)]
        split
        · exact (s3 x (by assumption)).2.1
        · rfl
      · rw [p6 x, hm.1 73 (by decide) (by decide), hf.1 73 (by decide) (by decide), hm.1 69 (by decide) (by decide), hf.1 69 (by decide) (by decide), hB 69 (by decide)]
        split
        · exact (s3 x (by assumption)).2.2.1
        · rfl
      · rw [p7 x, hm.1 73 (by decide) (by decide), hf.1 73 (by decide) (by decide), hm.1 70 (by decide) (by decide), hf.1 70 (by decide) (by decide), hB 70 (by decide)]
        split
        · exact (s3 x (by assumption)).2.2.2
        · rfl
    · rw [u1 i (by omega), hm.1 i b e, hf.1 i b (by omega), hB i d]
  · obtain ⟨-, -, -, -, -, -, -, p8⟩ := u3
    obtain ⟨-, -, -, s4⟩ := hKp
    rw [hm.1 73 (by decide) (by decide), hf.1 73 (by decide) (by decide)] at p8
    by_cases z : j = 0 ∨ j = 2 ∨ j = 3 ∨ j = 4 ∨ j = 7 ∨ j = 10
    · rcases z with rfl | rfl | rfl | rfl | rfl | rfl
      · rw [p8.1]; exact s4.1
      · rw [p8.2.1]; exact s4.2.1
      · rw [p8.2.2.1]; exact s4.2.2.1
      · rw [p8.2.2.2.1]; exact s4.2.2.2.1
      · rw [p8.2.2.2.2.1]; exact s4.2.2.2.2.1
      · rw [p8.2.2.2.2.2]; exact s4.2.2.2.2.2
    · rw [u2 j (by omega) (by omega) (by omega) (by omega) (by omega) (by omega), hm.2 j a b d e, hf.2.1 j (by omega) (by omega), hB 63 (by decide)]
  · rw [u1 11 (by decide), hm.1 11 (by decide) (by decide), hf.1 11 (by decide) (by decide), hB 11 (by decide)]; exact q
  · rw [u1 16 (by decide), hm.1 16 (by decide) (by decide), hf.1 16 (by decide) (by decide), hB 16 (by decide)]; exact q

set_option maxHeartbeats 8000000 in
theorem m_afterM {Z : zMem} {Q : Option zAV → zMem → Prop} {n : Nat} {c : Nat → Int} {e ρ : Int} (hM : zMo n c e ρ Z) {N : Nat} {a b : Nat → Int} (hW : zRwM 7 67 68 8 (N, a, b) Z) (hE : zEok n (N, a, b)) {w : Int} (hw : -2147483648 ≤ w ∧ w ≤ 2147483647) (q1 : ∀ (Z' : zMem), zFq Z Z' → Q (some (zL (oAfter n c e ρ (N, a, b) w))) Z') : zE 158 0 (zent 158 [zR 63, zI w]) [] Z Q := by
  show zE 158 0 [some (zR 63), some (zI w), none, none] [] Z Q
  have hM0 := hM
  obtain ⟨n0, n6, mc, mr, me, mρ, meR, mρR⟩ := hM
  have msr := zsum_range mr
  have hp6 := zpow6 n6
  have hHp := fun (k : Nat) (hk : k ≤ N) => zHp_ok (R := (N, a, b)) hE mr meR mρR k hk
  obtain ⟨w1, w2, w3, w4⟩ := hW
  replace w1 : Z 63 7 = (N : Int) := w1
  replace w2 : N ≤ 8 := w2
  replace w3 : ∀ i, i < N → Z 67 i = a i := w3
  replace w4 : ∀ i, i < N → Z 68 i = b i := w4
  refine ze_iload_n kc_158_0 rfl ?_
  refine ze_iconst kc_158_1 ?_
  refine ze_iconst kc_158_2 ?_
  refine zE_calls 3 kc_158_3 rfl rfl (Nat.le_of_ble_eq_true rfl) (Nat.le_of_ble_eq_true rfl) (Nat.le_of_ble_eq_true rfl) rfl ?_
  refine m_in (by omega) (by omega) (by omega) (fun g3 => ?_) (fun g3 => ?_)
  · simp only [Option.toList_some, Option.toList_none, List.drop_succ_cons, List.drop_zero, List.cons_append, List.nil_append]
    refine ze_if_ne kc_158_6 (by decide) (fun _ => ?_) (fun q => absurd q (by decide))
    refine ze_aload_n kc_158_13 rfl ?_
    refine ze_aload_n kc_158_14 rfl ?_
    refine ze_getR kc_158_15 rfl rfl rfl ?_
    refine zE_callv 2 kc_158_18 rfl rfl (Nat.le_of_ble_eq_true rfl) (Nat.le_of_ble_eq_true rfl) (Nat.le_of_ble_eq_true rfl) rfl (by decide +kernel) rfl ?_
    refine m_keeps (to := 73) rfl (by decide) (fun Z2 hB hKp => ?_)
    simp only [Option.toList_some, Option.toList_none, List.drop_succ_cons, List.drop_zero, List.cons_append, List.nil_append]
    refine ze_iconst kc_158_21 ?_
    refine ze_istore_n kc_158_22 (Nat.le_of_ble_eq_true rfl) ?_
    simp only [zset1, zset2, zcut, zf0, zf1, zf2, zf3, List.set_cons_zero, List.set_cons_succ, List.getD_cons_zero, List.getD_cons_succ]
    have loop23 : ∀ (μ : Nat) (k : Nat) (x : Int) (Zc : zMem) (o3 : Option zAV), N - k = μ → (k ≤ N) → (x = k) → (zMo n (zHp (N, a, b) c e ρ k).1 (zHp (N, a, b) c e ρ k).2.1 (zHp (N, a, b) c e ρ k).2.2 Zc) → ((∀ i, i ≠ 63 → i ≠ 64 → Zc i = Z2 i) ∧ (∀ j, j ≠ 2 → j ≠ 3 → Zc 63 j = Z2 63 j) ∧ (∀ x, 6 ≤ x → Zc 64 x = Z 64 x)) → zE 158 23 [some (zR 63), some (zI w), some (zI x), o3] [] Zc Q := by
      refine zind ?_
      intro μ ih k x Zc o3 hm hk hx hMt hf
      subst hx
      have hEk : k < N → (0 ≤ a k ∧ a k ≤ 3) ∧ (0 ≤ b k ∧ b k ≤ 360) ∧ (a k < 2 → b k < n) ∧ (a k = 2 → b k ≤ 5) := fun q => hE k q
      refine ze_iload_n kc_158_23 rfl ?_
      refine ze_aload_n kc_158_24 rfl ?_
      refine ze_getI kc_158_25 rfl (by decide) ?_
      rw [hf.2.1 7 (by decide) (by decide), hB 63 (by decide), w1]
      refine ze_icmp_ge kc_158_28 (by omega) (by omega) (fun h28 => ?_) (fun h28 => ?_)
      · skip
        have ek : k = N := by omega
        subst ek
        obtain ⟨i1, i2, i3⟩ := hHp k (by omega)
        refine ze_ldc2L kc_158_53 ?_
        refine ze_lstore_n kc_158_56 (Nat.le_of_ble_eq_true rfl) ?_
        simp only [zset1, zset2, zcut, zf0, zf1, zf2, zf3, List.set_cons_zero, List.set_cons_succ, List.getD_cons_zero, List.getD_cons_succ]
        refine ze_aload_n kc_158_57 rfl ?_
        refine zE_callv 1 kc_158_58 rfl rfl (Nat.le_of_ble_eq_true rfl) (Nat.le_of_ble_eq_true rfl) (Nat.le_of_ble_eq_true rfl) rfl (by decide +kernel) rfl ?_
        refine m_readyM hMt (fun g58 => ?_) (fun g58 => ?_)
        · simp only [Option.toList_some, Option.toList_none, List.drop_succ_cons, List.drop_zero, List.cons_append, List.nil_append]
          refine ze_if_eq kc_158_61 (by decide) (fun q => absurd q (by decide)) (fun _ => ?_)
          refine ze_aload_n kc_158_64 rfl ?_
          refine ze_aload_n kc_158_65 rfl ?_
          refine ze_getI kc_158_66 rfl (by decide) ?_
          rw [hMt.2.2.2.2.2.1]
          refine ze_iconst kc_158_69 ?_
          refine zE_callv 3 kc_158_70 rfl rfl (Nat.le_of_ble_eq_true rfl) (Nat.le_of_ble_eq_true rfl) (Nat.le_of_ble_eq_true rfl) rfl (by decide +kernel) rfl ?_
          refine m_awardOf (i := 0) hMt (by omega) (by omega) (by omega) (fun Z4 f1 f2 f3 => ?_)
          simp only [Option.toList_some, Option.toList_none, List.drop_succ_cons, List.drop_zero, List.cons_append, List.nil_append]
          refine ze_iload_n kc_158_73 rfl ?_
          refine ze_iconst kc_158_74 ?_
          refine ze_icmp_ne kc_158_75 (by omega) (by omega) (fun h75 => ?_) (fun h75 => ?_)
          · skip
            refine ze_aload_n kc_158_90 rfl ?_
            refine ze_iload_n kc_158_91 rfl ?_
            refine zE_callv 2 kc_158_92 rfl rfl (Nat.le_of_ble_eq_true rfl) (Nat.le_of_ble_eq_true rfl) (Nat.le_of_ble_eq_true rfl) rfl (by decide +kernel) rfl ?_
            refine m_partM (by omega) ?_
            simp only [Option.toList_some, Option.toList_none, List.drop_succ_cons, List.drop_zero, List.cons_append, List.nil_append]
            refine ze_lstore_n kc_158_95 (Nat.le_of_ble_eq_true rfl) ?_
            simp only [zset1, zset2, zcut, zf0, zf1, zf2, zf3, List.set_cons_zero, List.set_cons_succ, List.getD_cons_zero, List.getD_cons_succ]
            refine ze_aload_n kc_158_96 rfl ?_
            refine ze_aload_n kc_158_97 rfl ?_
            refine ze_getR kc_158_98 rfl rfl rfl ?_
            refine zE_callv 2 kc_158_101 rfl rfl (Nat.le_of_ble_eq_true rfl) (Nat.le_of_ble_eq_true rfl) (Nat.le_of_ble_eq_true rfl) rfl (by decide +kernel) rfl ?_
            refine m_again (fr := 73) rfl (by decide) (fun Z9 u1 u2 u3 => ?_)
            simp only [Option.toList_some, Option.toList_none, List.drop_succ_cons, List.drop_zero, List.cons_append, List.nil_append]
            refine ze_lload_n kc_158_104 rfl ?_
            refine ze_lreturn kc_158_105 ?_
            first
              | (have hm : zFm Zc Z5 := zFm_trans f1 f4
                 have hfq := zFq_after hB hKp hf hm u1 u2 u3
                 rw [show oAfter n c e ρ (k, a, b) w = zAlk n (zHp (k, a, b) c e ρ k).1 (zHp (k, a, b) c e ρ k).2.1 (zHp (k, a, b) c e ρ k).2.2 from (if_neg (by omega)).trans ((if_neg (show ¬ ¬ (1 ≤ n ∧ (zHp (k, a, b) c e ρ k).2.1 ≤ zsum n (zHp (k, a, b) c e ρ k).1) by omega)).trans (if_pos (by omega)))] at q1
                 exact q1 _ hfq)
              | (have hm : zFm Zc Z4 := f1
                 have hfq := zFq_after hB hKp hf hm u1 u2 u3
                 rw [show oAfter n c e ρ (k, a, b) w = zlow (zGt (zHp (k, a, b) c e ρ k).2.2 n (zHp (k, a, b) c e ρ k).1 0 1 (zHp (k, a, b) c e ρ k).2.1) (zS (zHp (k, a, b) c e ρ k).2.2 n (zHp (k, a, b) c e ρ k).1) w from (if_neg (by omega)).trans ((if_neg (show ¬ ¬ (1 ≤ n ∧ (zHp (k, a, b) c e ρ k).2.1 ≤ zsum n (zHp (k, a, b) c e ρ k).1) by omega)).trans (if_neg (by omega)))] at q1
                 rw [f2, f3]
                 rcases (show w = 0 ∨ w = 1 by omega) with rfl | rfl
                 · exact q1 _ hfq
                 · exact q1 _ hfq)
              | (have hm : zFm Zc Zc := zFm_refl
                 have hfq := zFq_after hB hKp hf hm u1 u2 u3
                 rw [show oAfter n c e ρ (k, a, b) w = -9223372036854775808 from (if_neg (by omega)).trans (if_pos (show ¬ (1 ≤ n ∧ (zHp (k, a, b) c e ρ k).2.1 ≤ zsum n (zHp (k, a, b) c e ρ k).1) by omega))] at q1
                 exact q1 _ hfq)
          · skip
            refine ze_aload_n kc_158_78 rfl ?_
            refine ze_aload_n kc_158_79 rfl ?_
            refine ze_getI kc_158_80 rfl (by decide) ?_
            rw [(zMo_fm hMt f1).2.2.2.2.2.1]
            refine zE_callv 2 kc_158_83 rfl rfl (Nat.le_of_ble_eq_true rfl) (Nat.le_of_ble_eq_true rfl) (Nat.le_of_ble_eq_true rfl) rfl (by decide +kernel) rfl ?_
            refine m_likeOf (zMo_fm hMt f1) (by omega) (by omega) (by omega) (fun Z5 f4 => ?_)
            simp only [Option.toList_some, Option.toList_none, List.drop_succ_cons, List.drop_zero, List.cons_append, List.nil_append]
            have hzb := zbor_in 6 (fun o => zLike n (zHp (k, a, b) c e ρ k).1 (zHp (k, a, b) c e ρ k).2.1 (zHp (k, a, b) c e ρ k).2.2 o)
            change -2147483648 ≤ zAlk n (zHp (k, a, b) c e ρ k).1 (zHp (k, a, b) c e ρ k).2.1 (zHp (k, a, b) c e ρ k).2.2 ∧ zAlk n (zHp (k, a, b) c e ρ k).1 (zHp (k, a, b) c e ρ k).2.1 (zHp (k, a, b) c e ρ k).2.2 ≤ 2147483647 at hzb
            refine ze_i2l kc_158_86 (by omega) ?_
            refine ze_goto kc_158_87 ?_
            refine ze_lstore_n kc_158_95 (Nat.le_of_ble_eq_true rfl) ?_
            simp only [zset1, zset2, zcut, zf0, zf1, zf2, zf3, List.set_cons_zero, List.set_cons_succ, List.getD_cons_zero, List.getD_cons_succ]
            refine ze_aload_n kc_158_96 rfl ?_
            refine ze_aload_n kc_158_97 rfl ?_
            refine ze_getR kc_158_98 rfl rfl rfl ?_
            refine zE_callv 2 kc_158_101 rfl rfl (Nat.le_of_ble_eq_true rfl) (Nat.le_of_ble_eq_true rfl) (Nat.le_of_ble_eq_true rfl) rfl (by decide +kernel) rfl ?_
            refine m_again (fr := 73) rfl (by decide) (fun Z9 u1 u2 u3 => ?_)
            simp only [Option.toList_some, Option.toList_none, List.drop_succ_cons, List.drop_zero, List.cons_append, List.nil_append]
            refine ze_lload_n kc_158_104 rfl ?_
            refine ze_lreturn kc_158_105 ?_
            first
              | (have hm : zFm Zc Z5 := zFm_trans f1 f4
                 have hfq := zFq_after hB hKp hf hm u1 u2 u3
                 rw [show oAfter n c e ρ (k, a, b) w = zAlk n (zHp (k, a, b) c e ρ k).1 (zHp (k, a, b) c e ρ k).2.1 (zHp (k, a, b) c e ρ k).2.2 from (if_neg (by omega)).trans ((if_neg (show ¬ ¬ (1 ≤ n ∧ (zHp (k, a, b) c e ρ k).2.1 ≤ zsum n (zHp (k, a, b) c e ρ k).1) by omega)).trans (if_pos (by omega)))] at q1
                 exact q1 _ hfq)
              | (have hm : zFm Zc Z4 := f1
                 have hfq := zFq_after hB hKp hf hm u1 u2 u3
                 rw [show oAfter n c e ρ (k, a, b) w = zlow (zGt (zHp (k, a, b) c e ρ k).2.2 n (zHp (k, a, b) c e ρ k).1 0 1 (zHp (k, a, b) c e ρ k).2.1) (zS (zHp (k, a, b) c e ρ k).2.2 n (zHp (k, a, b) c e ρ k).1) w from (if_neg (by omega)).trans ((if_neg (show ¬ ¬ (1 ≤ n ∧ (zHp (k, a, b) c e ρ k).2.1 ≤ zsum n (zHp (k, a, b) c e ρ k).1) by omega)).trans (if_neg (by omega)))] at q1
                 rw [f2, f3]
                 rcases (show w = 0 ∨ w = 1 by omega) with rfl | rfl
                 · exact q1 _ hfq
                 · exact q1 _ hfq)
              | (have hm : zFm Zc Zc := zFm_refl
                 have hfq := zFq_after hB hKp hf hm u1 u2 u3
                 rw [show oAfter n c e ρ (k, a, b) w = -9223372036854775808 from (if_neg (by omega)).trans (if_pos (show ¬ (1 ≤ n ∧ (zHp (k, a, b) c e ρ k).2.1 ≤ zsum n (zHp (k, a, b) c e ρ k).1) by omega))] at q1
                 exact q1 _ hfq)
        · simp only [Option.toList_some, Option.toList_none, List.drop_succ_cons, List.drop_zero, List.cons_append, List.nil_append]
          refine ze_if_eq kc_158_61 (by decide) (fun _ => ?_) (fun q => absurd q (by decide))
          refine ze_aload_n kc_158_96 rfl ?_
          refine ze_aload_n kc_158_97 rfl ?_
          refine ze_getR kc_158_98 rfl rfl rfl ?_
          refine zE_callv 2 kc_158_101 rfl rfl (Nat.le_of_ble_eq_true rfl) (Nat.le_of_ble_eq_true rfl) (Nat.le_of_ble_eq_true rfl) rfl (by decide +kernel) rfl ?_
          refine m_again (fr := 73) rfl (by decide) (fun Z9 u1 u2 u3 => ?_)
          simp only [Option.toList_some, Option.toList_none, List.drop_succ_cons, List.drop_zero, List.cons_append, List.nil_append]
          refine ze_lload_n kc_158_104 rfl ?_
          refine ze_lreturn kc_158_105 ?_
          first
            | (have hm : zFm Zc Z5 := zFm_trans f1 f4
               have hfq := zFq_after hB hKp hf hm u1 u2 u3
               rw [show oAfter n c e ρ (k, a, b) w = zAlk n (zHp (k, a, b) c e ρ k).1 (zHp (k, a, b) c e ρ k).2.1 (zHp (k, a, b) c e ρ k).2.2 from (if_neg (by omega)).trans ((if_neg (show ¬ ¬ (1 ≤ n ∧ (zHp (k, a, b) c e ρ k).2.1 ≤ zsum n (zHp (k, a, b) c e ρ k).1) by omega)).trans (if_pos (by omega)))] at q1
               exact q1 _ hfq)
            | (have hm : zFm Zc Z4 := f1
               have hfq := zFq_after hB hKp hf hm u1 u2 u3
               rw [show oAfter n c e ρ (k, a, b) w = zlow (zGt (zHp (k, a, b) c e ρ k).2.2 n (zHp (k, a, b) c e ρ k).1 0 1 (zHp (k, a, b) c e ρ k).2.1) (zS (zHp (k, a, b) c e ρ k).2.2 n (zHp (k, a, b) c e ρ k).1) w from (if_neg (by omega)).trans ((if_neg (show ¬ ¬ (1 ≤ n ∧ (zHp (k, a, b) c e ρ k).2.1 ≤ zsum n (zHp (k, a, b) c e ρ k).1) by omega)).trans (if_neg (by omega)))] at q1
               rw [f2, f3]
               rcases (show w = 0 ∨ w = 1 by omega) with rfl | rfl
               · exact q1 _ hfq
               · exact q1 _ hfq)
            | (have hm : zFm Zc Zc := zFm_refl
               have hfq := zFq_after hB hKp hf hm u1 u2 u3
               rw [show oAfter n c e ρ (k, a, b) w = -9223372036854775808 from (if_neg (by omega)).trans (if_pos (show ¬ (1 ≤ n ∧ (zHp (k, a, b) c e ρ k).2.1 ≤ zsum n (zHp (k, a, b) c e ρ k).1) by omega))] at q1
               exact q1 _ hfq)
      · skip
        refine ze_aload_n kc_158_31 rfl ?_
        refine ze_aload_n kc_158_32 rfl ?_
        refine ze_getR kc_158_33 rfl rfl rfl ?_
        refine ze_iload_n kc_158_36 rfl ?_
        refine ze_iald kc_158_37 rfl (by omega) ?_
        rw [Int.toNat_natCast, hf.1 67 (by decide) (by decide), hB 67 (by decide), w3 k (by omega)]
        refine ze_aload_n kc_158_38 rfl ?_
        refine ze_getR kc_158_39 rfl rfl rfl ?_
        refine ze_iload_n kc_158_42 rfl ?_
        refine ze_iald kc_158_43 rfl (by omega) ?_
        rw [Int.toNat_natCast, hf.1 68 (by decide) (by decide), hB 68 (by decide), w4 k (by omega), show b k = (((b k).toNat : Nat) : Int) by omega]
        refine zE_callv 3 kc_158_44 rfl rfl (Nat.le_of_ble_eq_true rfl) (Nat.le_of_ble_eq_true rfl) (Nat.le_of_ble_eq_true rfl) rfl (by decide +kernel) rfl ?_
        refine m_happensM hMt (by omega) (by omega) (by omega) (by omega) (fun Z3 k1 k2 k3 k4 => ?_)
        simp only [Option.toList_some, Option.toList_none, List.drop_succ_cons, List.drop_zero, List.cons_append, List.nil_append]
        refine ze_iinc kc_158_47 rfl ?_
        simp only [zset1, zset2, zcut, zf0, zf1, zf2, zf3, List.set_cons_zero, List.set_cons_succ, List.getD_cons_zero, List.getD_cons_succ]
        refine ze_goto kc_158_50 ?_
        refine ih _ (by omega) (k + 1) _ _ _ rfl (by omega) (by omega) k1 ⟨fun i p q => by rw [k2 i p q]; exact hf.1 i p q, fun j p q => by rw [k3 j p q]; exact hf.2.1 j p q, fun x hx => by rw [k4 x (by omega)]; exact hf.2.2 x hx⟩
    refine loop23 _ 0 0 _ none rfl (by omega) rfl (zMo_of (by rw [hB 63 (by decide)]; exact n0) n6 (fun i hi => by rw [hB 64 (by decide)]; exact mc i hi) mr (by rw [hB 63 (by decide)]; exact me) (by rw [hB 63 (by decide)]; exact mρ) meR mρR) ⟨fun _ _ _ => rfl, fun _ _ _ => rfl, fun x _ => by rw [hB 64 (by decide)]⟩
  · simp only [Option.toList_some, Option.toList_none, List.drop_succ_cons, List.drop_zero, List.cons_append, List.nil_append]
    refine ze_if_ne kc_158_6 (by decide) (fun q => absurd q (by decide)) (fun _ => ?_)
    refine ze_ldc2L kc_158_9 ?_
    refine ze_lreturn kc_158_12 ?_
    rw [show oAfter n c e ρ (N, a, b) w = -9223372036854775808 from if_pos (by omega)] at q1
    exact q1 _ zFq_refl

set_option maxHeartbeats 4000000 in
theorem m_imageX {Z : zMem} {Q : Option zAV → zMem → Prop} {n : Nat} {c : Nat → Int} {e ρ : Int} (hC : zCl n c e ρ Z) {R1 R2 R3 : zRs} (hW1 : zRwX 20 5 R1 Z) (hW2 : zRwX 23 8 R2 Z) (hW3 : zRwX 26 8 R3 Z) {I : Option zKr} (hI : zImX I Z) (q1 : ∀ (Z' : zMem), zImX (some ((n, c, e, ρ), R1, R2, R3)) Z' → (∀ k, k < 35 ∨ 50 < k → Z' k = Z k) → Q (some (zI (n : Nat))) Z') : zE 77 0 (zent 77 [zR 0]) [] Z Q := by
  show zE 77 0 [some (zR 0)] [] Z Q
  obtain ⟨hU0, hG0, n6, n0, cc, cr, ce, cρ, ceR, cρR, c11, c16⟩ := zCl_o hC
  have csr := zsum_range cr
  obtain ⟨⟨i1, i2, i3, i4⟩, -, -⟩ := hI
  refine ze_aload_n kc_77_0 rfl ?_
  refine ze_getR kc_77_1 rfl rfl rfl ?_
  refine ze_iconst kc_77_4 ?_
  refine ze_putZ kc_77_5 rfl rfl (Or.inr rfl) ?_
  refine ze_aload_n kc_77_8 rfl ?_
  refine ze_getR kc_77_9 rfl rfl rfl ?_
  refine ze_getR kc_77_12 rfl rfl rfl ?_
  refine ze_aload_n kc_77_15 rfl ?_
  refine ze_getR kc_77_16 rfl rfl rfl ?_
  refine zE_callv 2 kc_77_19 rfl rfl (Nat.le_of_ble_eq_true rfl) (Nat.le_of_ble_eq_true rfl) (Nat.le_of_ble_eq_true rfl) rfl (by decide +kernel) rfl ?_
  refine m_copyS zsF_36 zsF_1 (by decide) (zSU_same hU0 (fun k a b => zup_ne' (by omega))) (by rw [zup_ne' (by decide)]; exact i1) (fun Z3 f1 f2 => ?_)
  simp only [Option.toList_some, Option.toList_none, List.drop_succ_cons, List.drop_zero, List.cons_append, List.nil_append]
  refine ze_aload_n kc_77_22 rfl ?_
  refine ze_getR kc_77_23 rfl rfl rfl ?_
  refine ze_getR kc_77_26 rfl rfl rfl ?_
  refine ze_aload_n kc_77_29 rfl ?_
  refine ze_getR kc_77_30 rfl rfl rfl ?_
  refine zE_callv 2 kc_77_33 rfl rfl (Nat.le_of_ble_eq_true rfl) (Nat.le_of_ble_eq_true rfl) (Nat.le_of_ble_eq_true rfl) rfl (by decide +kernel) rfl ?_
  refine m_copyR (m := 5) zrF_42 zrF_20 (by decide) (by decide) (zRw_same hW1 (fun k a b => by rw [f2 k (by omega), zup_ne' (by omega)])) (by rw [f2 42 (by decide), zup_ne' (by decide)]; exact i2) (fun Z4 k1 k2 => ?_)
  simp only [Option.toList_some, Option.toList_none, List.drop_succ_cons, List.drop_zero, List.cons_append, List.nil_append]
  refine ze_aload_n kc_77_36 rfl ?_
  refine ze_getR kc_77_37 rfl rfl rfl ?_
  refine ze_getR kc_77_40 rfl rfl rfl ?_
  refine ze_aload_n kc_77_43 rfl ?_
  refine ze_getR kc_77_44 rfl rfl rfl ?_
  refine zE_callv 2 kc_77_47 rfl rfl (Nat.le_of_ble_eq_true rfl) (Nat.le_of_ble_eq_true rfl) (Nat.le_of_ble_eq_true rfl) rfl (by decide +kernel) rfl ?_
  refine m_copyR (m := 8) zrF_45 zrF_23 (by decide) (by decide) (zRw_same hW2 (fun k a b => by rw [k2 k (by omega), f2 k (by omega), zup_ne' (by omega)])) (by rw [k2 45 (by decide), f2 45 (by decide), zup_ne' (by decide)]; exact i3) (fun Z5 k1' k3 => ?_)
  simp only [Option.toList_some, Option.toList_none, List.drop_succ_cons, List.drop_zero, List.cons_append, List.nil_append]
  refine ze_aload_n kc_77_50 rfl ?_
  refine ze_getR kc_77_51 rfl rfl rfl ?_
  refine ze_getR kc_77_54 rfl rfl rfl ?_
  refine ze_aload_n kc_77_57 rfl ?_
  refine ze_getR kc_77_58 rfl rfl rfl ?_
  refine zE_callv 2 kc_77_61 rfl rfl (Nat.le_of_ble_eq_true rfl) (Nat.le_of_ble_eq_true rfl) (Nat.le_of_ble_eq_true rfl) rfl (by decide +kernel) rfl ?_
  refine m_copyR (m := 8) zrF_48 zrF_26 (by decide) (by decide) (zRw_same hW3 (fun k a b => by rw [k3 k (by omega), k2 k (by omega), f2 k (by omega), zup_ne' (by omega)])) (by rw [k3 48 (by decide), k2 48 (by decide), f2 48 (by decide), zup_ne' (by decide)]; exact i4) (fun Z6 k1'' k4 => ?_)
  simp only [Option.toList_some, Option.toList_none, List.drop_succ_cons, List.drop_zero, List.cons_append, List.nil_append]
  refine ze_aload_n kc_77_64 rfl ?_
  refine ze_getR kc_77_65 rfl rfl rfl ?_
  refine ze_getR kc_77_68 rfl rfl rfl ?_
  refine ze_getI kc_77_71 rfl (by decide) ?_
  rw [show Z6 2 3 = (n : Int) by rw [k4 2 (by decide), k3 2 (by decide), k2 2 (by decide), f2 2 (by decide), zup_ne' (by decide)]; exact n0]
  refine ze_ireturn kc_77_74 (Or.inl rfl) ?_
  refine q1 _ ⟨⟨?_, ?_, ?_, ?_⟩, fun q => (by cases q), fun K hK => ?_⟩ (fun k hk => by rw [k4 k (by omega), k3 k (by omega), k2 k (by omega), f2 k (by omega), zup_ne' (by omega)])
  · rw [k4 40 (by decide), k3 40 (by decide), k2 40 (by decide)]; exact zG_z f1.1
  · rw [k4 42 (by decide), k3 42 (by decide)]; exact k1.1
  · rw [k4 45 (by decide)]; exact k1'.1
  · exact k1''.1
  · cases hK
    refine ⟨?_, zSU_same f1 (fun k a b => by rw [k4 k (by omega), k3 k (by omega), k2 k (by omega)]), zRw_same k1 (fun k a b => by rw [k4 k (by omega), k3 k (by omega)]), zRw_same k1' (fun k a b => k4 k (by omega)), k1''⟩
    rw [k4 35 (by decide), k3 35 (by decide), k2 35 (by decide), f2 35 (by decide), zup_s]

def sUndo (K : zKr) : Option zKr → zKr
  | none => K
  | some K' => K'
def oUndo : Option zKr → Int
  | none => -3
  | some K => (K.1.1 : Nat)
set_option maxHeartbeats 4000000 in
theorem m_undoX {Z : zMem} {Q : Option zAV → zMem → Prop} {n : Nat} {c : Nat → Int} {e ρ : Int} (hC : zCl n c e ρ Z) {R1 R2 R3 : zRs} (hW1 : zRwX 20 5 R1 Z) (hW2 : zRwX 23 8 R2 Z) (hW3 : zRwX 26 8 R3 Z) {I : Option zKr} (hI : zImX I Z) (q1 : ∀ (Z' : zMem), zRwsX (sUndo ((n, c, e, ρ), R1, R2, R3) I) Z' → (∀ k, k < 1 ∨ 28 < k → Z' k = Z k) → (∀ k, 6 ≤ k → k ≤ 19 → Z' k = Z k) → Q (some (zI (oUndo I))) Z') : zE 78 0 (zent 78 [zR 0]) [] Z Q := by
  show zE 78 0 [some (zR 0)] [] Z Q
  obtain ⟨hU0, hG0, n6, n0, cc, cr, ce, cρ, ceR, cρR, c11, c16⟩ := zCl_o hC
  have csr := zsum_range cr
  obtain ⟨⟨i1, i2, i3, i4⟩, hn, hs⟩ := hI
  refine ze_aload_n kc_78_0 rfl ?_
  refine ze_getR kc_78_1 rfl rfl rfl ?_
  refine ze_getI kc_78_4 rfl (by decide) ?_
  refine ze_if_ne kc_78_7 (by cases hI : I with
      | none => (have := hn hI; omega)
      | some K => (have := (hs K hI).1; omega)) (fun h7 => ?_) (fun h7 => ?_)
  · skip
    obtain ⟨K, hK⟩ : ∃ K, I = some K := by
      cases hI : I with
      | none => exact absurd (hn hI) h7
      | some K => exact ⟨K, rfl⟩
    obtain ⟨j0, j1, j2, j3, j4⟩ := hs K hK
    refine ze_aload_n kc_78_13 rfl ?_
    refine ze_getR kc_78_14 rfl rfl rfl ?_
    refine ze_aload_n kc_78_17 rfl ?_
    refine ze_getR kc_78_18 rfl rfl rfl ?_
    refine ze_getR kc_78_21 rfl rfl rfl ?_
    refine zE_callv 2 kc_78_24 rfl rfl (Nat.le_of_ble_eq_true rfl) (Nat.le_of_ble_eq_true rfl) (Nat.le_of_ble_eq_true rfl) rfl (by decide +kernel) rfl ?_
    refine m_copyS zsF_1 zsF_36 (by decide) j1 (zG_z hG0) (fun Z3 f1 f2 => ?_)
    simp only [Option.toList_some, Option.toList_none, List.drop_succ_cons, List.drop_zero, List.cons_append, List.nil_append]
    refine ze_aload_n kc_78_27 rfl ?_
    refine ze_getR kc_78_28 rfl rfl rfl ?_
    refine ze_aload_n kc_78_31 rfl ?_
    refine ze_getR kc_78_32 rfl rfl rfl ?_
    refine ze_getR kc_78_35 rfl rfl rfl ?_
    refine zE_callv 2 kc_78_38 rfl rfl (Nat.le_of_ble_eq_true rfl) (Nat.le_of_ble_eq_true rfl) (Nat.le_of_ble_eq_true rfl) rfl (by decide +kernel) rfl ?_
    refine m_copyR (m := 5) zrF_20 zrF_42 (by decide) (by decide) (zRw_same j2 (fun k a b => f2 k (by omega))) (by rw [f2 20 (by decide)]; exact hW1.1) (fun Z4 k1 k2 => ?_)
    simp only [Option.toList_some, Option.toList_none, List.drop_succ_cons, List.drop_zero, List.cons_append, List.nil_append]
    refine ze_aload_n kc_78_41 rfl ?_
    refine ze_getR kc_78_42 rfl rfl rfl ?_
    refine ze_aload_n kc_78_45 rfl ?_
    refine ze_getR kc_78_46 rfl rfl rfl ?_
    refine ze_getR kc_78_49 rfl rfl rfl ?_
    refine zE_callv 2 kc_78_52 rfl rfl (Nat.le_of_ble_eq_true rfl) (Nat.le_of_ble_eq_true rfl) (Nat.le_of_ble_eq_true rfl) rfl (by decide +kernel) rfl ?_
    refine m_copyR (m := 8) zrF_23 zrF_45 (by decide) (by decide) (zRw_same j3 (fun k a b => by rw [k2 k (by omega), f2 k (by omega)])) (by rw [k2 23 (by decide), f2 23 (by decide)]; exact hW2.1) (fun Z5 k1' k3 => ?_)
    simp only [Option.toList_some, Option.toList_none, List.drop_succ_cons, List.drop_zero, List.cons_append, List.nil_append]
    refine ze_aload_n kc_78_55 rfl ?_
    refine ze_getR kc_78_56 rfl rfl rfl ?_
    refine ze_aload_n kc_78_59 rfl ?_
    refine ze_getR kc_78_60 rfl rfl rfl ?_
    refine ze_getR kc_78_63 rfl rfl rfl ?_
    refine zE_callv 2 kc_78_66 rfl rfl (Nat.le_of_ble_eq_true rfl) (Nat.le_of_ble_eq_true rfl) (Nat.le_of_ble_eq_true rfl) rfl (by decide +kernel) rfl ?_
    refine m_copyR (m := 8) zrF_26 zrF_48 (by decide) (by decide) (zRw_same j4 (fun k a b => by rw [k3 k (by omega), k2 k (by omega), f2 k (by omega)])) (by rw [k3 26 (by decide), k2 26 (by decide), f2 26 (by decide)]; exact hW3.1) (fun Z6 k1'' k4 => ?_)
    simp only [Option.toList_some, Option.toList_none, List.drop_succ_cons, List.drop_zero, List.cons_append, List.nil_append]
    refine ze_aload_n kc_78_69 rfl ?_
    refine ze_getR kc_78_70 rfl rfl rfl ?_
    refine ze_getR kc_78_73 rfl rfl rfl ?_
    refine ze_getI kc_78_76 rfl (by decide) ?_
    refine ze_ireturn kc_78_79 (Or.inl rfl) ?_
    subst hK
    rw [show Z6 2 3 = ((K.1.1 : Nat) : Int) by rw [k4 2 (by decide), k3 2 (by decide), k2 2 (by decide)]; exact f1.1.2.1]
    refine q1 _ ⟨⟨zSU_same f1 (fun k a b => by rw [k4 k (by omega), k3 k (by omega), k2 k (by omega)]), ?_, ?_⟩, zRw_same k1 (fun k a b => by rw [k4 k (by omega), k3 k (by omega)]), zRw_same k1' (fun k a b => k4 k (by omega)), k1''⟩ (fun k hk => by rw [k4 k (by omega), k3 k (by omega), k2 k (by omega), f2 k (by omega)]) (fun k a b => by rw [k4 k (by omega), k3 k (by omega), k2 k (by omega), f2 k (by omega)])
    · rw [k4 11 (by decide), k3 11 (by decide), k2 11 (by decide), f2 11 (by decide)]; exact c11
    · rw [k4 16 (by decide), k3 16 (by decide), k2 16 (by decide), f2 16 (by decide)]; exact c16
  · skip
    have hI0 : I = none := by
      cases hI : I with
      | none => rfl
      | some K => have := (hs K hI).1; omega
    refine ze_bipush kc_78_10 ?_
    refine ze_ireturn kc_78_12 (Or.inl rfl) ?_
    subst hI0
    exact q1 _ ⟨hC, hW1, hW2, hW3⟩ (fun _ _ => rfl) (fun _ _ _ => rfl)

set_option maxHeartbeats 4000000 in
theorem m_imageM {Z : zMem} {Q : Option zAV → zMem → Prop} {n : Nat} {c : Nat → Int} {e ρ : Int} (hM : zMo n c e ρ Z) {R1 R2 R3 : zRs} (hW1 : zRwM 4 65 66 5 R1 Z) (hW2 : zRwM 7 67 68 8 R2 Z) (hW3 : zRwM 10 69 70 8 R3 Z) {I : Option zKr} (hI : zImM I Z) (q1 : ∀ (Z' : zMem), zImM (some ((n, c, e, ρ), R1, R2, R3)) Z' → (∀ k, k ≠ 63 → k ≠ 72 → Z' k = Z k) → (∀ j, j ≠ 17 → Z' 63 j = Z 63 j) → Q (some (zI (n : Nat))) Z') : zE 163 0 (zent 163 [zR 63]) [] Z Q := by
  show zE 163 0 [some (zR 63)] [] Z Q
  have hM0 := hM
  obtain ⟨n0, n6, mc, mr, me, mρ, meR, mρR⟩ := hM
  have msr := zsum_range mr
  have hp6 := zpow6 n6
  refine ze_aload_n kc_163_0 rfl ?_
  refine ze_iconst kc_163_1 ?_
  refine ze_putZ kc_163_2 rfl rfl (Or.inr rfl) ?_
  refine ze_aload_n kc_163_5 rfl ?_
  refine ze_aload_n kc_163_6 rfl ?_
  refine ze_getR kc_163_7 rfl rfl rfl ?_
  refine zE_callv 2 kc_163_10 rfl rfl (Nat.le_of_ble_eq_true rfl) (Nat.le_of_ble_eq_true rfl) (Nat.le_of_ble_eq_true rfl) rfl (by decide +kernel) rfl ?_
  refine m_keeps (to := 72) rfl (by decide) (fun Z2 f1 f2 => ?_)
  simp only [Option.toList_some, Option.toList_none, List.drop_succ_cons, List.drop_zero, List.cons_append, List.nil_append]
  refine ze_aload_n kc_163_13 rfl ?_
  refine ze_getI kc_163_14 rfl (by decide) ?_
  rw [f1 63 (by decide), zup_o (by decide), n0]
  refine ze_ireturn kc_163_17 (Or.inl rfl) ?_
  obtain ⟨p1, p2, p3, p4, p5, p6, p7, p8, p9⟩ := f2
  rw [zup_o (by decide)] at p4 p5 p6 p7 p8 p9
  simp only [zup_ne' (show (64 : Nat) ≠ 63 by decide), zup_ne' (show (65 : Nat) ≠ 63 by decide), zup_ne' (show (66 : Nat) ≠ 63 by decide), zup_ne' (show (67 : Nat) ≠ 63 by decide), zup_ne' (show (68 : Nat) ≠ 63 by decide), zup_ne' (show (69 : Nat) ≠ 63 by decide), zup_ne' (show (70 : Nat) ≠ 63 by decide)] at p1 p2 p3
  obtain ⟨a1, a2, a3, a4⟩ := hW1
  obtain ⟨b1, b2, b3, b4⟩ := hW2
  obtain ⟨d1, d2, d3, d4⟩ := hW3
  refine q1 _ ⟨fun q => (by cases q), fun K hK => ?_⟩ (fun k a b => by rw [f1 k b, zup_ne' a]) (fun j a => by rw [f1 63 (by decide), zup_o a])
  cases hK
  refine ⟨by rw [f1 63 (by decide), zup_s], ⟨p4.trans n0, p5.trans me, p6.trans mρ, fun i hi => (p1 i (show i < 6 from Nat.lt_of_lt_of_le hi n6)).trans (mc i hi)⟩, ⟨p7.trans a1, a2, fun i hi => ?_⟩, ⟨p8.trans b1, b2, fun i hi => ?_⟩, ⟨p9.trans d1, d2, fun i hi => ?_⟩, ⟨n6, mr, meR, mρR⟩⟩
  · replace hi : i < R1.1 := hi
    exact ⟨((p2 i (by omega)).1).trans (a3 i hi), ((p2 i (by omega)).2).trans (a4 i hi)⟩
  · replace hi : i < R2.1 := hi
    exact ⟨((p3 i (by omega)).1).trans (b3 i hi), ((p3 i (by omega)).2.1).trans (b4 i hi)⟩
  · replace hi : i < R3.1 := hi
    exact ⟨((p3 i (by omega)).2.2.1).trans (d3 i hi), ((p3 i (by omega)).2.2.2).trans (d4 i hi)⟩

set_option maxHeartbeats 4000000 in
theorem m_undoM {Z : zMem} {Q : Option zAV → zMem → Prop} {n : Nat} {c : Nat → Int} {e ρ : Int} (hM : zMo n c e ρ Z) {R1 R2 R3 : zRs} (hW1 : zRwM 4 65 66 5 R1 Z) (hW2 : zRwM 7 67 68 8 R2 Z) (hW3 : zRwM 10 69 70 8 R3 Z) {I : Option zKr} (hI : zImM I Z) (q1 : ∀ (Z' : zMem), zRwsM (sUndo ((n, c, e, ρ), R1, R2, R3) I) Z' → (∀ k, k < 63 ∨ 70 < k → Z' k = Z k) → (∀ j, j ≠ 0 → j ≠ 2 → j ≠ 3 → j ≠ 4 → j ≠ 7 → j ≠ 10 → Z' 63 j = Z 63 j) → Q (some (zI (oUndo I))) Z') : zE 164 0 (zent 164 [zR 63]) [] Z Q := by
  show zE 164 0 [some (zR 63)] [] Z Q
  have hM0 := hM
  obtain ⟨n0, n6, mc, mr, me, mρ, meR, mρR⟩ := hM
  have msr := zsum_range mr
  have hp6 := zpow6 n6
  obtain ⟨hn, hs⟩ := hI
  refine ze_aload_n kc_164_0 rfl ?_
  refine ze_getI kc_164_1 rfl (by decide) ?_
  refine ze_if_ne kc_164_4 (by cases hI : I with
      | none => (have := hn hI; omega)
      | some K => (have := (hs K hI).1; omega)) (fun h4 => ?_) (fun h4 => ?_)
  · skip
    obtain ⟨K, hK⟩ : ∃ K, I = some K := by
      cases hI : I with
      | none => exact absurd (hn hI) h4
      | some K => exact ⟨K, rfl⟩
    obtain ⟨j0, ⟨y1, y2, y3, y4⟩, ⟨y5, y6, y7⟩, ⟨y8, y9, y10⟩, ⟨y11, y12, y13⟩, y14, y15, y16, y17⟩ := hs K hK
    refine ze_aload_n kc_164_10 rfl ?_
    refine ze_aload_n kc_164_11 rfl ?_
    refine ze_getR kc_164_12 rfl rfl rfl ?_
    refine zE_callv 2 kc_164_15 rfl rfl (Nat.le_of_ble_eq_true rfl) (Nat.le_of_ble_eq_true rfl) (Nat.le_of_ble_eq_true rfl) rfl (by decide +kernel) rfl ?_
    refine m_again (fr := 72) rfl (by decide) (fun Z2 f1 f2 f3 => ?_)
    simp only [Option.toList_some, Option.toList_none, List.drop_succ_cons, List.drop_zero, List.cons_append, List.nil_append]
    refine ze_aload_n kc_164_18 rfl ?_
    refine ze_getI kc_164_19 rfl (by decide) ?_
    refine ze_ireturn kc_164_22 (Or.inl rfl) ?_
    subst hK
    obtain ⟨p1, p2, p3, p4, p5, p6, p7, p8, p9, p10, p11, p12, p13⟩ := f3
    rw [show Z2 63 0 = ((K.1.1 : Nat) : Int) by rw [p8]; exact y1]
    refine q1 _ ⟨zMo_of (by rw [p8]; exact y1) y14 (fun i hi => ?_) y15 (by rw [p9]; exact y2) (by rw [p10]; exact y3) y16 y17, ⟨by rw [p11]; exact y5, y6, fun i hi => ?_, fun i hi => ?_⟩, ⟨by rw [p12]; exact y8, y9, fun i hi => ?_, fun i hi => ?_⟩, ⟨by rw [p13]; exact y11, y12, fun i hi => ?_, fun i hi => ?_⟩⟩ f1 f2
    · rw [p1 i, if_pos (show i < 6 from Nat.lt_of_lt_of_le hi y14)]; exact y4 i hi
    · rw [p2 i, if_pos (show i < 5 from Nat.lt_of_lt_of_le hi y6)]; exact (y7 i hi).1
    · rw [p3 i, if_pos (show i < 5 from Nat.lt_of_lt_of_le hi y6)]; exact (y7 i hi).2
    · rw [p4 i, if_pos (show i < 8 from Nat.lt_of_lt_of_le hi y9)]; exact (y10 i hi).1
    · rw [p5 i, if_pos (show i < 8 from Nat.lt_of_lt_of_le hi y9)]; exact (y10 i hi).2
    · rw [p6 i, if_pos (show i < 8 from Nat.lt_of_lt_of_le hi y12)]; exact (y13 i hi).1
    · rw [p7 i, if_pos (show i < 8 from Nat.lt_of_lt_of_le hi y12)]; exact (y13 i hi).2
  · skip
    have hI0 : I = none := by
      cases hI : I with
      | none => rfl
      | some K => have := (hs K hI).1; omega
    refine ze_bipush kc_164_7 ?_
    refine ze_ireturn kc_164_9 (Or.inl rfl) ?_
    subst hI0
    exact q1 _ ⟨hM0, hW1, hW2, hW3⟩ (fun _ _ => rfl) (fun _ _ _ _ _ _ _ => rfl)
