/-! QUERIES: what they leave as it was -/
def zFq (Z Z' : zMem) : Prop := (∀ k, k < 6 ∨ 19 < k → k ≠ 63 → k ≠ 73 → k ≠ 74 → k ≠ 75 → Z' k = Z k) ∧ (∀ j, j ≠ 18 → j ≠ 19 → j ≠ 22 → j ≠ 23 → j ≠ 26 → Z' 63 j = Z 63 j) ∧ (Z 11 0 = 0 → Z' 11 0 = 0) ∧ (Z 16 0 = 0 → Z' 16 0 = 0)
theorem zFq_refl {Z : zMem} : zFq Z Z := ⟨fun _ _ _ _ _ _ => rfl, fun _ _ _ _ _ _ => rfl, id, id⟩
theorem zFq_trans {Z Z' Z'' : zMem} (h : zFq Z Z') (h' : zFq Z' Z'') : zFq Z Z'' := ⟨fun k a b c d e => (h'.1 k a b c d e).trans (h.1 k a b c d e), fun j a b c d e => (h'.2.1 j a b c d e).trans (h.2.1 j a b c d e), fun a => h'.2.2.1 (h.2.2.1 a), fun a => h'.2.2.2 (h.2.2.2 a)⟩
theorem zFq_fm {Z Z' : zMem} (h : zFm Z Z') : zFq Z Z' := ⟨fun k _ b _ d _ => h.1 k b d, fun j a b c d _ => h.2 j a b c d, fun a => by rw [h.1 11 (by decide) (by decide)]; exact a, fun a => by rw [h.1 16 (by decide) (by decide)]; exact a⟩
def zCl (n : Nat) (c : Nat → Int) (e ρ : Int) (Z : zMem) : Prop := zSU 1 n c e ρ Z ∧ Z 11 0 = 0 ∧ Z 16 0 = 0
theorem zCl_q {n : Nat} {c : Nat → Int} {e ρ : Int} {Z Z' : zMem} (h : zCl n c e ρ Z) (q : zFq Z Z') : zCl n c e ρ Z' := ⟨zSU_same h.1 (fun k a b => q.1 k (by omega) (by omega) (by omega) (by omega) (by omega)), q.2.2.1 h.2.1, q.2.2.2 h.2.2⟩
theorem zMo_q {n : Nat} {c : Nat → Int} {e ρ : Int} {Z Z' : zMem} (h : zMo n c e ρ Z) (q : zFq Z Z') : zMo n c e ρ Z' := by
  unfold zMo at h ⊢
  rw [q.1 64 (by decide) (by decide) (by decide) (by decide) (by decide), q.2.1 0 (by decide) (by decide) (by decide) (by decide) (by decide), q.2.1 2 (by decide) (by decide) (by decide) (by decide) (by decide), q.2.1 3 (by decide) (by decide) (by decide) (by decide) (by decide)]
  exact h
theorem zCl_o {n : Nat} {c : Nat → Int} {e ρ : Int} {Z : zMem} (h : zCl n c e ρ Z) : zSU 1 n c e ρ Z ∧ zG 2 n c Z ∧ n ≤ 6 ∧ Z 2 3 = n ∧ (∀ i, i < n → Z 3 i = c i) ∧ (∀ i, i < n → 1 ≤ c i ∧ c i ≤ 60) ∧ Z 1 2 = e ∧ Z 1 3 = ρ ∧ (0 ≤ e ∧ e ≤ 360) ∧ (0 ≤ ρ ∧ ρ ≤ 5) ∧ Z 11 0 = 0 ∧ Z 16 0 = 0 :=
  ⟨h.1, h.1.1, h.1.1.1, h.1.1.2.1, h.1.1.2.2.1, h.1.1.2.2.2.1, h.1.2.1, h.1.2.2.1, h.1.2.2.2.1, h.1.2.2.2.2, h.2.1, h.2.2⟩
def zNO : Int := -9223372036854775808
noncomputable def oAward (n : Nat) (c : Nat → Int) (e r i p : Int) : Int := if (0 ≤ r ∧ r < 6) ∧ (0 ≤ i ∧ i < n) ∧ (0 ≤ p ∧ p ≤ 1) ∧ (1 ≤ n ∧ e ≤ zsum n c) then zlow (zGt r n c i.toNat 1 e) (zS r n c) p else -9223372036854775808
noncomputable def oCut (n : Nat) (c : Nat → Int) (e r i : Int) : Int := if ¬ (0 ≤ r ∧ r < 6) then -2 else if ¬ (0 ≤ i ∧ i < n) then -1 else if (1 ≤ n ∧ e ≤ zsum n c) then zWh r n c e i.toNat else -3
noncomputable def oDual (n : Nat) (c : Nat → Int) (e r i p : Int) : Int := if (0 ≤ r ∧ r < 6) ∧ (0 ≤ i ∧ i < n) ∧ (0 ≤ p ∧ p ≤ 1) ∧ (1 ≤ n ∧ e ≤ zsum n c) then zlow (c i.toNat * zS r n c - zGt r n c i.toNat 1 (zsum n c - e)) (zS r n c) p else -9223372036854775808
noncomputable def oLike (n : Nat) (c : Nat → Int) (e r : Int) : Int := if ¬ (0 ≤ r ∧ r < 6) then -2 else if (1 ≤ n ∧ e ≤ zsum n c) then zAlk n c e r else -3
noncomputable def oSore (n : Nat) (c : Nat → Int) (e r k : Int) : Int := if ¬ (0 ≤ r ∧ r < 6) then -2 else if ¬ (0 ≤ k ∧ k < n) then -1 else if (1 ≤ n ∧ e ≤ zsum n c) then zSore n c e r k else -3
theorem zlow_iff {a b a' b' : Int} (hb : 0 < b) (hb' : 0 < b') : (zlow a b 0 = zlow a' b' 0 ∧ zlow a b 1 = zlow a' b' 1) ↔ a * b' = a' * b := by
  constructor
  · intro h
    obtain ⟨g, x, y, g0, y0, g1, hx, hy, h0, h1⟩ := zlow_c (a := a) hb
    obtain ⟨g', x', y', g0', y0', g1', hx', hy', h0', h1'⟩ := zlow_c (a := a') hb'
    rw [h0, h0', h1 1 (by decide), h1' 1 (by decide)] at h
    rw [hx, hy, hx', hy', h.1, h.2]
    simp only [Int.mul_assoc, Int.mul_comm, Int.mul_left_comm]
  · intro h
    exact ⟨zlow_eq hb hb' h 0, zlow_eq hb hb' h 1⟩
/-- a number in lowest terms: what it is in each of its parts -/
theorem zlow_p {a b : Int} (hb : 0 < b) : 0 < zlow a b 1 ∧ zlow a b 1 ≤ b ∧ zlow a b 0 * b = a * zlow a b 1 ∧ (0 ≤ a → 0 ≤ zlow a b 0 ∧ zlow a b 0 ≤ a) := by
  obtain ⟨g, x, y, g0, y0, g1, hx, hy, h0, h1⟩ := zlow_c (a := a) hb
  rw [h0, h1 1 (by decide)]
  refine ⟨y0, ?_, ?_, fun ha => ?_⟩
  · have := Int.mul_le_mul_of_nonneg_right (show 1 ≤ g by omega) (Int.le_of_lt y0)
    omega
  · rw [hx, hy]
    simp only [Int.mul_assoc, Int.mul_comm, Int.mul_left_comm]
  · have hx0 : 0 ≤ x := by
      rcases Int.lt_or_le x 0 with q | q
      · have := Int.mul_neg_of_pos_of_neg g0 q
        omega
      · exact q
    refine ⟨hx0, ?_⟩
    have := Int.mul_le_mul_of_nonneg_right (show 1 ≤ g by omega) hx0
    omega
set_option maxHeartbeats 4000000 in
theorem m_awardOf {Z : zMem} {Q : Option zAV → zMem → Prop} {n : Nat} {c : Nat → Int} {e ρ : Int} (hM : zMo n c e ρ Z) {r : Int} {i : Nat} (hr : 0 ≤ r ∧ r ≤ 5) (hi : i < n) (he : e ≤ zsum n c) (q1 : ∀ Z', zFm Z Z' → Z' 63 18 = zlow (zGt r n c i 1 e) (zS r n c) 0 → Z' 63 19 = zlow (zGt r n c i 1 e) (zS r n c) 1 → Q none Z') : zE 125 0 (zent 125 [zR 63, zI r, zI (i : Nat)]) [] Z Q := by
  show zE 125 0 [some (zR 63), some (zI r), some (zI (i : Nat))] [] Z Q
  have hM0 := hM
  obtain ⟨n0, n6, mc, mr, me, mρ, meR, mρR⟩ := hM
  have msr := zsum_range mr
  have hp6 := zpow6 n6
  refine ze_aload_n kc_125_0 rfl ?_
  refine ze_iload_n kc_125_1 rfl ?_
  refine ze_aload_n kc_125_2 rfl ?_
  refine zE_callv 1 kc_125_3 rfl rfl (Nat.le_of_ble_eq_true rfl) (Nat.le_of_ble_eq_true rfl) (Nat.le_of_ble_eq_true rfl) rfl (by decide +kernel) rfl ?_
  refine m_everyone hM0 ?_
  simp only [Option.toList_some, Option.toList_none, List.drop_succ_cons, List.drop_zero, List.cons_append, List.nil_append]
  refine ze_aload_n kc_125_6 rfl ?_
  refine ze_getI kc_125_7 rfl (by decide) ?_
  rw [me]
  refine ze_i2l kc_125_10 (by omega) ?_
  refine ze_lconst1 kc_125_11 ?_
  refine ze_iload_n kc_125_12 rfl ?_
  refine zE_callv 6 kc_125_13 rfl rfl (Nat.le_of_ble_eq_true rfl) (Nat.le_of_ble_eq_true rfl) (Nat.le_of_ble_eq_true rfl) rfl (by decide +kernel) rfl ?_
  refine m_awards hM0 (zEn_all n6 hi) hr (by omega) (by show 0 ≤ e ∧ e ≤ zsum n c * 1; omega) (fun Z2 f1 f2 f3 => ?_)
  simp only [Option.toList_some, Option.toList_none, List.drop_succ_cons, List.drop_zero, List.cons_append, List.nil_append]
  refine ze_return kc_125_16 ?_
  exact q1 _ f1 (by rw [Int.mul_one] at f2; exact f2) (by rw [Int.mul_one] at f3; exact f3)

set_option maxHeartbeats 4000000 in
theorem m_awardAt {Z : zMem} {Q : Option zAV → zMem → Prop} {n : Nat} {c : Nat → Int} {e ρ : Int} (hM : zMo n c e ρ Z) {r x : Int} {i : Nat} (hr : 0 ≤ r ∧ r ≤ 5) (hi : i < n) (hx : 0 ≤ x ∧ x ≤ zsum n c) (q1 : ∀ Z', zFm Z Z' → Z' 63 18 = zlow (zGt r n c i 1 x) (zS r n c) 0 → Z' 63 19 = zlow (zGt r n c i 1 x) (zS r n c) 1 → Q none Z') : zE 135 0 (zent 135 [zR 63, zI r, zI x, zI (i : Nat)]) [] Z Q := by
  show zE 135 0 [some (zR 63), some (zI r), some (zI x), some (zI (i : Nat))] [] Z Q
  have hM0 := hM
  obtain ⟨n0, n6, mc, mr, me, mρ, meR, mρR⟩ := hM
  have msr := zsum_range mr
  have hp6 := zpow6 n6
  refine ze_aload_n kc_135_0 rfl ?_
  refine ze_iload_n kc_135_1 rfl ?_
  refine ze_aload_n kc_135_2 rfl ?_
  refine zE_callv 1 kc_135_3 rfl rfl (Nat.le_of_ble_eq_true rfl) (Nat.le_of_ble_eq_true rfl) (Nat.le_of_ble_eq_true rfl) rfl (by decide +kernel) rfl ?_
  refine m_everyone hM0 ?_
  simp only [Option.toList_some, Option.toList_none, List.drop_succ_cons, List.drop_zero, List.cons_append, List.nil_append]
  refine ze_iload_n kc_135_6 rfl ?_
  refine ze_i2l kc_135_7 (by omega) ?_
  refine ze_lconst1 kc_135_8 ?_
  refine ze_iload_n kc_135_9 rfl ?_
  refine zE_callv 6 kc_135_10 rfl rfl (Nat.le_of_ble_eq_true rfl) (Nat.le_of_ble_eq_true rfl) (Nat.le_of_ble_eq_true rfl) rfl (by decide +kernel) rfl ?_
  refine m_awards hM0 (zEn_all n6 hi) hr (by omega) (by show 0 ≤ x ∧ x ≤ zsum n c * 1; omega) (fun Z2 f1 f2 f3 => ?_)
  simp only [Option.toList_some, Option.toList_none, List.drop_succ_cons, List.drop_zero, List.cons_append, List.nil_append]
  refine ze_return kc_135_13 ?_
  exact q1 _ f1 (by rw [Int.mul_one] at f2; exact f2) (by rw [Int.mul_one] at f3; exact f3)

set_option maxHeartbeats 4000000 in
theorem m_cutOf {Z : zMem} {Q : Option zAV → zMem → Prop} {n : Nat} {c : Nat → Int} {e ρ : Int} (hM : zMo n c e ρ Z) {r : Int} {i : Nat} (hr : 0 ≤ r ∧ r ≤ 5) (hi : i < n) (he : e ≤ zsum n c) (q1 : ∀ Z', zFm Z Z' → Q (some (zI (zWh r n c e i))) Z') : zE 126 0 (zent 126 [zR 63, zI r, zI (i : Nat)]) [] Z Q := by
  show zE 126 0 [some (zR 63), some (zI r), some (zI (i : Nat))] [] Z Q
  have hM0 := hM
  obtain ⟨n0, n6, mc, mr, me, mρ, meR, mρR⟩ := hM
  have msr := zsum_range mr
  have hp6 := zpow6 n6
  have hss := zS_range (r := r) (n := n) (c := c) ⟨by omega, n6⟩ mr
  have hgr := zGt_range (r := r) (i := i) (w := 1) (u := e) n6 hi mr (by omega) (by omega)
  have hlp := zlow_p (a := zGt r n c i 1 (e)) (b := zS r n c) (by omega)
  have hlq := hlp.2.2.2 hgr.1
  refine ze_aload_n kc_126_0 rfl ?_
  refine ze_iload_n kc_126_1 rfl ?_
  refine ze_iload_n kc_126_2 rfl ?_
  refine zE_callv 3 kc_126_3 rfl rfl (Nat.le_of_ble_eq_true rfl) (Nat.le_of_ble_eq_true rfl) (Nat.le_of_ble_eq_true rfl) rfl (by decide +kernel) rfl ?_
  refine m_awardOf hM0 hr hi he (fun Z2 f1 f2 f3 => ?_)
  simp only [Option.toList_some, Option.toList_none, List.drop_succ_cons, List.drop_zero, List.cons_append, List.nil_append]
  refine ze_aload_n kc_126_6 rfl ?_
  refine ze_getL kc_126_7 rfl rfl ?_
  rw [f2]
  refine ze_aload_n kc_126_10 rfl ?_
  refine ze_getL kc_126_11 rfl rfl ?_
  rw [f3]
  refine ze_ldiv kc_126_14 (by omega) ?_
  refine ze_l2i kc_126_15 ?_
  refine ze_ireturn kc_126_16 (Or.inl rfl) ?_
  rw [zlow_quot (by omega)]
  exact q1 _ f1

set_option maxHeartbeats 4000000 in
theorem m_awardX {Z : zMem} {Q : Option zAV → zMem → Prop} {n : Nat} {c : Nat → Int} {e ρ : Int} (hC : zCl n c e ρ Z) {r i p : Int} (hr : -2147483648 ≤ r ∧ r ≤ 2147483647) (hi : -2147483648 ≤ i ∧ i ≤ 2147483647) (hp : -2147483648 ≤ p ∧ p ≤ 2147483647) (q1 : ∀ Z', zFq Z Z' → Q (some (zL (oAward n c e r i p))) Z') : zE 51 0 (zent 51 [zR 0, zI r, zI i, zI p]) [] Z Q := by
  show zE 51 0 [some (zR 0), some (zI r), some (zI i), some (zI p)] [] Z Q
  obtain ⟨hU0, hG0, n6, n0, cc, cr, ce, cρ, ceR, cρR, c11, c16⟩ := zCl_o hC
  have csr := zsum_range cr
  refine ze_iload_n kc_51_0 rfl ?_
  refine zE_calls 1 kc_51_1 rfl rfl (Nat.le_of_ble_eq_true rfl) (Nat.le_of_ble_eq_true rfl) (Nat.le_of_ble_eq_true rfl) rfl ?_
  refine m_isRule (by omega) (fun g1 => ?_) (fun g1 => ?_)
  · simp only [Option.toList_some, Option.toList_none, List.drop_succ_cons, List.drop_zero, List.cons_append, List.nil_append]
    refine ze_if_eq kc_51_4 (by decide) (fun q => absurd q (by decide)) (fun _ => ?_)
    refine ze_aload_n kc_51_7 rfl ?_
    refine ze_getR kc_51_8 rfl rfl rfl ?_
    refine ze_getR kc_51_11 rfl rfl rfl ?_
    refine ze_iload_n kc_51_14 rfl ?_
    refine zE_callv 2 kc_51_15 rfl rfl (Nat.le_of_ble_eq_true rfl) (Nat.le_of_ble_eq_true rfl) (Nat.le_of_ble_eq_true rfl) rfl (by decide +kernel) rfl ?_
    refine m_has zgF_2 (by omega) (by omega) (fun g15 => ?_) (fun g15 => ?_)
    · simp only [Option.toList_some, Option.toList_none, List.drop_succ_cons, List.drop_zero, List.cons_append, List.nil_append]
      refine ze_if_eq kc_51_18 (by decide) (fun q => absurd q (by decide)) (fun _ => ?_)
      refine ze_iload_n kc_51_21 rfl ?_
      refine zE_calls 1 kc_51_22 rfl rfl (Nat.le_of_ble_eq_true rfl) (Nat.le_of_ble_eq_true rfl) (Nat.le_of_ble_eq_true rfl) rfl ?_
      refine m_isPart (by omega) (fun g22 => ?_) (fun g22 => ?_)
      · simp only [Option.toList_some, Option.toList_none, List.drop_succ_cons, List.drop_zero, List.cons_append, List.nil_append]
        refine ze_if_eq kc_51_25 (by decide) (fun q => absurd q (by decide)) (fun _ => ?_)
        refine ze_aload_n kc_51_28 rfl ?_
        refine ze_getR kc_51_29 rfl rfl rfl ?_
        refine zE_callv 1 kc_51_32 rfl rfl (Nat.le_of_ble_eq_true rfl) (Nat.le_of_ble_eq_true rfl) (Nat.le_of_ble_eq_true rfl) rfl (by decide +kernel) rfl ?_
        refine m_ready zsF_1 hU0 (fun g32 => ?_) (fun g32 => ?_)
        · simp only [Option.toList_some, Option.toList_none, List.drop_succ_cons, List.drop_zero, List.cons_append, List.nil_append]
          refine ze_if_ne kc_51_35 (by decide) (fun _ => ?_) (fun q => absurd q (by decide))
          obtain ⟨κ, rfl⟩ := Int.eq_ofNat_of_zero_le (show 0 ≤ i by omega)
          refine ze_aload_n kc_51_42 rfl ?_
          refine ze_getR kc_51_43 rfl rfl rfl ?_
          refine ze_iload_n kc_51_46 rfl ?_
          refine ze_iload_n kc_51_47 rfl ?_
          refine ze_iload_n kc_51_48 rfl ?_
          refine zE_callv 4 kc_51_49 rfl rfl (Nat.le_of_ble_eq_true rfl) (Nat.le_of_ble_eq_true rfl) (Nat.le_of_ble_eq_true rfl) rfl (by decide +kernel) rfl ?_
          refine m_fract zsF_1 hU0 (by omega) (by omega) (by omega) (by omega) ?_
          simp only [Option.toList_some, Option.toList_none, List.drop_succ_cons, List.drop_zero, List.cons_append, List.nil_append]
          refine ze_lreturn kc_51_52 ?_
          rw [show oAward n c e r κ p = _ from if_pos (by omega)] at q1
          exact q1 _ zFq_refl
        · simp only [Option.toList_some, Option.toList_none, List.drop_succ_cons, List.drop_zero, List.cons_append, List.nil_append]
          refine ze_if_ne kc_51_35 (by decide) (fun q => absurd q (by decide)) (fun _ => ?_)
          refine ze_ldc2L kc_51_38 ?_
          refine ze_lreturn kc_51_41 ?_
          rw [show oAward n c e r i p = -9223372036854775808 from if_neg (by omega)] at q1
          exact q1 _ zFq_refl
      · simp only [Option.toList_some, Option.toList_none, List.drop_succ_cons, List.drop_zero, List.cons_append, List.nil_append]
        refine ze_if_eq kc_51_25 (by decide) (fun _ => ?_) (fun q => absurd q (by decide))
        refine ze_ldc2L kc_51_38 ?_
        refine ze_lreturn kc_51_41 ?_
        rw [show oAward n c e r i p = -9223372036854775808 from if_neg (by omega)] at q1
        exact q1 _ zFq_refl
    · simp only [Option.toList_some, Option.toList_none, List.drop_succ_cons, List.drop_zero, List.cons_append, List.nil_append]
      refine ze_if_eq kc_51_18 (by decide) (fun _ => ?_) (fun q => absurd q (by decide))
      refine ze_ldc2L kc_51_38 ?_
      refine ze_lreturn kc_51_41 ?_
      rw [show oAward n c e r i p = -9223372036854775808 from if_neg (by omega)] at q1
      exact q1 _ zFq_refl
  · simp only [Option.toList_some, Option.toList_none, List.drop_succ_cons, List.drop_zero, List.cons_append, List.nil_append]
    refine ze_if_eq kc_51_4 (by decide) (fun _ => ?_) (fun q => absurd q (by decide))
    refine ze_ldc2L kc_51_38 ?_
    refine ze_lreturn kc_51_41 ?_
    rw [show oAward n c e r i p = -9223372036854775808 from if_neg (by omega)] at q1
    exact q1 _ zFq_refl

set_option maxHeartbeats 4000000 in
theorem m_awardM {Z : zMem} {Q : Option zAV → zMem → Prop} {n : Nat} {c : Nat → Int} {e ρ : Int} (hM : zMo n c e ρ Z) {r i p : Int} (hr : -2147483648 ≤ r ∧ r ≤ 2147483647) (hi : -2147483648 ≤ i ∧ i ≤ 2147483647) (hp : -2147483648 ≤ p ∧ p ≤ 2147483647) (q1 : ∀ Z', zFq Z Z' → Q (some (zL (oAward n c e r i p))) Z') : zE 127 0 (zent 127 [zR 63, zI r, zI i, zI p]) [] Z Q := by
  show zE 127 0 [some (zR 63), some (zI r), some (zI i), some (zI p)] [] Z Q
  have hM0 := hM
  obtain ⟨n0, n6, mc, mr, me, mρ, meR, mρR⟩ := hM
  have msr := zsum_range mr
  have hp6 := zpow6 n6
  refine ze_iload_n kc_127_0 rfl ?_
  refine zE_calls 1 kc_127_1 rfl rfl (Nat.le_of_ble_eq_true rfl) (Nat.le_of_ble_eq_true rfl) (Nat.le_of_ble_eq_true rfl) rfl ?_
  refine m_isRuleM (by omega) (fun g1 => ?_) (fun g1 => ?_)
  · simp only [Option.toList_some, Option.toList_none, List.drop_succ_cons, List.drop_zero, List.cons_append, List.nil_append]
    refine ze_if_eq kc_127_4 (by decide) (fun q => absurd q (by decide)) (fun _ => ?_)
    refine ze_aload_n kc_127_7 rfl ?_
    refine ze_iload_n kc_127_8 rfl ?_
    refine zE_callv 2 kc_127_9 rfl rfl (Nat.le_of_ble_eq_true rfl) (Nat.le_of_ble_eq_true rfl) (Nat.le_of_ble_eq_true rfl) rfl (by decide +kernel) rfl ?_
    refine m_isOne hM0 (by omega) (fun g9 => ?_) (fun g9 => ?_)
    · simp only [Option.toList_some, Option.toList_none, List.drop_succ_cons, List.drop_zero, List.cons_append, List.nil_append]
      refine ze_if_eq kc_127_12 (by decide) (fun q => absurd q (by decide)) (fun _ => ?_)
      refine ze_iload_n kc_127_15 rfl ?_
      refine zE_calls 1 kc_127_16 rfl rfl (Nat.le_of_ble_eq_true rfl) (Nat.le_of_ble_eq_true rfl) (Nat.le_of_ble_eq_true rfl) rfl ?_
      refine m_isPartM (by omega) (fun g16 => ?_) (fun g16 => ?_)
      · simp only [Option.toList_some, Option.toList_none, List.drop_succ_cons, List.drop_zero, List.cons_append, List.nil_append]
        refine ze_if_eq kc_127_19 (by decide) (fun q => absurd q (by decide)) (fun _ => ?_)
        refine ze_aload_n kc_127_22 rfl ?_
        refine zE_callv 1 kc_127_23 rfl rfl (Nat.le_of_ble_eq_true rfl) (Nat.le_of_ble_eq_true rfl) (Nat.le_of_ble_eq_true rfl) rfl (by decide +kernel) rfl ?_
        refine m_readyM hM0 (fun g23 => ?_) (fun g23 => ?_)
        · simp only [Option.toList_some, Option.toList_none, List.drop_succ_cons, List.drop_zero, List.cons_append, List.nil_append]
          refine ze_if_ne kc_127_26 (by decide) (fun _ => ?_) (fun q => absurd q (by decide))
          obtain ⟨κ, rfl⟩ := Int.eq_ofNat_of_zero_le (show 0 ≤ i by omega)
          refine ze_aload_n kc_127_33 rfl ?_
          refine ze_iload_n kc_127_34 rfl ?_
          refine ze_iload_n kc_127_35 rfl ?_
          refine zE_callv 3 kc_127_36 rfl rfl (Nat.le_of_ble_eq_true rfl) (Nat.le_of_ble_eq_true rfl) (Nat.le_of_ble_eq_true rfl) rfl (by decide +kernel) rfl ?_
          refine m_awardOf hM0 (by omega) (by omega) (by omega) (fun Z2 f1 f2 f3 => ?_)
          simp only [Option.toList_some, Option.toList_none, List.drop_succ_cons, List.drop_zero, List.cons_append, List.nil_append]
          refine ze_aload_n kc_127_39 rfl ?_
          refine ze_iload_n kc_127_40 rfl ?_
          refine zE_callv 2 kc_127_41 rfl rfl (Nat.le_of_ble_eq_true rfl) (Nat.le_of_ble_eq_true rfl) (Nat.le_of_ble_eq_true rfl) rfl (by decide +kernel) rfl ?_
          refine m_partM (by omega) ?_
          simp only [Option.toList_some, Option.toList_none, List.drop_succ_cons, List.drop_zero, List.cons_append, List.nil_append]
          refine ze_lreturn kc_127_44 ?_
          rw [show oAward n c e r κ p = _ from if_pos (by omega)] at q1
          rw [f2, f3]
          rcases (show p = 0 ∨ p = 1 by omega) with rfl | rfl
          · exact q1 _ (zFq_fm f1)
          · exact q1 _ (zFq_fm f1)
        · simp only [Option.toList_some, Option.toList_none, List.drop_succ_cons, List.drop_zero, List.cons_append, List.nil_append]
          refine ze_if_ne kc_127_26 (by decide) (fun q => absurd q (by decide)) (fun _ => ?_)
          refine ze_ldc2L kc_127_29 ?_
          refine ze_lreturn kc_127_32 ?_
          rw [show oAward n c e r i p = -9223372036854775808 from if_neg (by omega)] at q1
          exact q1 _ zFq_refl
      · simp only [Option.toList_some, Option.toList_none, List.drop_succ_cons, List.drop_zero, List.cons_append, List.nil_append]
        refine ze_if_eq kc_127_19 (by decide) (fun _ => ?_) (fun q => absurd q (by decide))
        refine ze_ldc2L kc_127_29 ?_
        refine ze_lreturn kc_127_32 ?_
        rw [show oAward n c e r i p = -9223372036854775808 from if_neg (by omega)] at q1
        exact q1 _ zFq_refl
    · simp only [Option.toList_some, Option.toList_none, List.drop_succ_cons, List.drop_zero, List.cons_append, List.nil_append]
      refine ze_if_eq kc_127_12 (by decide) (fun _ => ?_) (fun q => absurd q (by decide))
      refine ze_ldc2L kc_127_29 ?_
      refine ze_lreturn kc_127_32 ?_
      rw [show oAward n c e r i p = -9223372036854775808 from if_neg (by omega)] at q1
      exact q1 _ zFq_refl
  · simp only [Option.toList_some, Option.toList_none, List.drop_succ_cons, List.drop_zero, List.cons_append, List.nil_append]
    refine ze_if_eq kc_127_4 (by decide) (fun _ => ?_) (fun q => absurd q (by decide))
    refine ze_ldc2L kc_127_29 ?_
    refine ze_lreturn kc_127_32 ?_
    rw [show oAward n c e r i p = -9223372036854775808 from if_neg (by omega)] at q1
    exact q1 _ zFq_refl

set_option maxHeartbeats 4000000 in
theorem m_cutX {Z : zMem} {Q : Option zAV → zMem → Prop} {n : Nat} {c : Nat → Int} {e ρ : Int} (hC : zCl n c e ρ Z) {r i : Int} (hr : -2147483648 ≤ r ∧ r ≤ 2147483647) (hi : -2147483648 ≤ i ∧ i ≤ 2147483647) (q1 : ∀ Z', zFq Z Z' → Q (some (zI (oCut n c e r i))) Z') : zE 52 0 (zent 52 [zR 0, zI r, zI i]) [] Z Q := by
  show zE 52 0 [some (zR 0), some (zI r), some (zI i)] [] Z Q
  obtain ⟨hU0, hG0, n6, n0, cc, cr, ce, cρ, ceR, cρR, c11, c16⟩ := zCl_o hC
  have csr := zsum_range cr
  refine ze_iload_n kc_52_0 rfl ?_
  refine zE_calls 1 kc_52_1 rfl rfl (Nat.le_of_ble_eq_true rfl) (Nat.le_of_ble_eq_true rfl) (Nat.le_of_ble_eq_true rfl) rfl ?_
  refine m_isRule (by omega) (fun g1 => ?_) (fun g1 => ?_)
  · simp only [Option.toList_some, Option.toList_none, List.drop_succ_cons, List.drop_zero, List.cons_append, List.nil_append]
    refine ze_if_ne kc_52_4 (by decide) (fun _ => ?_) (fun q => absurd q (by decide))
    refine ze_aload_n kc_52_10 rfl ?_
    refine ze_getR kc_52_11 rfl rfl rfl ?_
    refine ze_getR kc_52_14 rfl rfl rfl ?_
    refine ze_iload_n kc_52_17 rfl ?_
    refine zE_callv 2 kc_52_18 rfl rfl (Nat.le_of_ble_eq_true rfl) (Nat.le_of_ble_eq_true rfl) (Nat.le_of_ble_eq_true rfl) rfl (by decide +kernel) rfl ?_
    refine m_has zgF_2 (by omega) (by omega) (fun g18 => ?_) (fun g18 => ?_)
    · simp only [Option.toList_some, Option.toList_none, List.drop_succ_cons, List.drop_zero, List.cons_append, List.nil_append]
      refine ze_if_ne kc_52_21 (by decide) (fun _ => ?_) (fun q => absurd q (by decide))
      refine ze_aload_n kc_52_26 rfl ?_
      refine ze_getR kc_52_27 rfl rfl rfl ?_
      refine zE_callv 1 kc_52_30 rfl rfl (Nat.le_of_ble_eq_true rfl) (Nat.le_of_ble_eq_true rfl) (Nat.le_of_ble_eq_true rfl) rfl (by decide +kernel) rfl ?_
      refine m_ready zsF_1 hU0 (fun g30 => ?_) (fun g30 => ?_)
      · simp only [Option.toList_some, Option.toList_none, List.drop_succ_cons, List.drop_zero, List.cons_append, List.nil_append]
        refine ze_if_eq kc_52_33 (by decide) (fun q => absurd q (by decide)) (fun _ => ?_)
        obtain ⟨κ, rfl⟩ := Int.eq_ofNat_of_zero_le (show 0 ≤ i by omega)
        refine ze_aload_n kc_52_36 rfl ?_
        refine ze_getR kc_52_37 rfl rfl rfl ?_
        refine ze_iload_n kc_52_40 rfl ?_
        refine ze_iload_n kc_52_41 rfl ?_
        refine zE_callv 3 kc_52_42 rfl rfl (Nat.le_of_ble_eq_true rfl) (Nat.le_of_ble_eq_true rfl) (Nat.le_of_ble_eq_true rfl) rfl (by decide +kernel) rfl ?_
        refine m_whole zsF_1 hU0 (by omega) (by omega) (by omega) ?_
        simp only [Option.toList_some, Option.toList_none, List.drop_succ_cons, List.drop_zero, List.cons_append, List.nil_append]
        refine ze_goto kc_52_45 ?_
        refine ze_ireturn kc_52_50 (Or.inl rfl) ?_
        unfold oCut at q1
        first
          | (rw [if_pos (by omega)] at q1; exact q1 _ zFq_refl)
          | (rw [if_neg (by omega), if_pos (by omega)] at q1; exact q1 _ zFq_refl)
          | (rw [if_neg (by omega), if_neg (by omega), if_neg (by omega)] at q1; exact q1 _ zFq_refl)
          | (rw [if_neg (by omega), if_neg (by omega), if_pos (by omega)] at q1; exact q1 _ (by first | exact zFq_refl | exact zFq_fm f1))
      · simp only [Option.toList_some, Option.toList_none, List.drop_succ_cons, List.drop_zero, List.cons_append, List.nil_append]
        refine ze_if_eq kc_52_33 (by decide) (fun _ => ?_) (fun q => absurd q (by decide))
        refine ze_bipush kc_52_48 ?_
        refine ze_ireturn kc_52_50 (Or.inl rfl) ?_
        unfold oCut at q1
        first
          | (rw [if_pos (by omega)] at q1; exact q1 _ zFq_refl)
          | (rw [if_neg (by omega), if_pos (by omega)] at q1; exact q1 _ zFq_refl)
          | (rw [if_neg (by omega), if_neg (by omega), if_neg (by omega)] at q1; exact q1 _ zFq_refl)
          | (rw [if_neg (by omega), if_neg (by omega), if_pos (by omega)] at q1; exact q1 _ (by first | exact zFq_refl | exact zFq_fm f1))
    · simp only [Option.toList_some, Option.toList_none, List.drop_succ_cons, List.drop_zero, List.cons_append, List.nil_append]
      refine ze_if_ne kc_52_21 (by decide) (fun q => absurd q (by decide)) (fun _ => ?_)
      refine ze_iconst kc_52_24 ?_
      refine ze_ireturn kc_52_25 (Or.inl rfl) ?_
      unfold oCut at q1
      first
        | (rw [if_pos (by omega)] at q1; exact q1 _ zFq_refl)
        | (rw [if_neg (by omega), if_pos (by omega)] at q1; exact q1 _ zFq_refl)
        | (rw [if_neg (by omega), if_neg (by omega), if_neg (by omega)] at q1; exact q1 _ zFq_refl)
        | (rw [if_neg (by omega), if_neg (by omega), if_pos (by omega)] at q1; exact q1 _ (by first | exact zFq_refl | exact zFq_fm f1))
  · simp only [Option.toList_some, Option.toList_none, List.drop_succ_cons, List.drop_zero, List.cons_append, List.nil_append]
    refine ze_if_ne kc_52_4 (by decide) (fun q => absurd q (by decide)) (fun _ => ?_)
    refine ze_bipush kc_52_7 ?_
    refine ze_ireturn kc_52_9 (Or.inl rfl) ?_
    unfold oCut at q1
    first
      | (rw [if_pos (by omega)] at q1; exact q1 _ zFq_refl)
      | (rw [if_neg (by omega), if_pos (by omega)] at q1; exact q1 _ zFq_refl)
      | (rw [if_neg (by omega), if_neg (by omega), if_neg (by omega)] at q1; exact q1 _ zFq_refl)
      | (rw [if_neg (by omega), if_neg (by omega), if_pos (by omega)] at q1; exact q1 _ (by first | exact zFq_refl | exact zFq_fm f1))

set_option maxHeartbeats 4000000 in
theorem m_cutM {Z : zMem} {Q : Option zAV → zMem → Prop} {n : Nat} {c : Nat → Int} {e ρ : Int} (hM : zMo n c e ρ Z) {r i : Int} (hr : -2147483648 ≤ r ∧ r ≤ 2147483647) (hi : -2147483648 ≤ i ∧ i ≤ 2147483647) (q1 : ∀ Z', zFq Z Z' → Q (some (zI (oCut n c e r i))) Z') : zE 128 0 (zent 128 [zR 63, zI r, zI i]) [] Z Q := by
  show zE 128 0 [some (zR 63), some (zI r), some (zI i)] [] Z Q
  have hM0 := hM
  obtain ⟨n0, n6, mc, mr, me, mρ, meR, mρR⟩ := hM
  have msr := zsum_range mr
  have hp6 := zpow6 n6
  refine ze_iload_n kc_128_0 rfl ?_
  refine zE_calls 1 kc_128_1 rfl rfl (Nat.le_of_ble_eq_true rfl) (Nat.le_of_ble_eq_true rfl) (Nat.le_of_ble_eq_true rfl) rfl ?_
  refine m_isRuleM (by omega) (fun g1 => ?_) (fun g1 => ?_)
  · simp only [Option.toList_some, Option.toList_none, List.drop_succ_cons, List.drop_zero, List.cons_append, List.nil_append]
    refine ze_if_ne kc_128_4 (by decide) (fun _ => ?_) (fun q => absurd q (by decide))
    refine ze_aload_n kc_128_10 rfl ?_
    refine ze_iload_n kc_128_11 rfl ?_
    refine zE_callv 2 kc_128_12 rfl rfl (Nat.le_of_ble_eq_true rfl) (Nat.le_of_ble_eq_true rfl) (Nat.le_of_ble_eq_true rfl) rfl (by decide +kernel) rfl ?_
    refine m_isOne hM0 (by omega) (fun g12 => ?_) (fun g12 => ?_)
    · simp only [Option.toList_some, Option.toList_none, List.drop_succ_cons, List.drop_zero, List.cons_append, List.nil_append]
      refine ze_if_ne kc_128_15 (by decide) (fun _ => ?_) (fun q => absurd q (by decide))
      refine ze_aload_n kc_128_20 rfl ?_
      refine zE_callv 1 kc_128_21 rfl rfl (Nat.le_of_ble_eq_true rfl) (Nat.le_of_ble_eq_true rfl) (Nat.le_of_ble_eq_true rfl) rfl (by decide +kernel) rfl ?_
      refine m_readyM hM0 (fun g21 => ?_) (fun g21 => ?_)
      · simp only [Option.toList_some, Option.toList_none, List.drop_succ_cons, List.drop_zero, List.cons_append, List.nil_append]
        refine ze_if_eq kc_128_24 (by decide) (fun q => absurd q (by decide)) (fun _ => ?_)
        obtain ⟨κ, rfl⟩ := Int.eq_ofNat_of_zero_le (show 0 ≤ i by omega)
        refine ze_aload_n kc_128_27 rfl ?_
        refine ze_iload_n kc_128_28 rfl ?_
        refine ze_iload_n kc_128_29 rfl ?_
        refine zE_callv 3 kc_128_30 rfl rfl (Nat.le_of_ble_eq_true rfl) (Nat.le_of_ble_eq_true rfl) (Nat.le_of_ble_eq_true rfl) rfl (by decide +kernel) rfl ?_
        refine m_cutOf hM0 (by omega) (by omega) (by omega) (fun Z2 f1 => ?_)
        simp only [Option.toList_some, Option.toList_none, List.drop_succ_cons, List.drop_zero, List.cons_append, List.nil_append]
        refine ze_goto kc_128_33 ?_
        refine ze_ireturn kc_128_38 (Or.inl rfl) ?_
        unfold oCut at q1
        first
          | (rw [if_pos (by omega)] at q1; exact q1 _ zFq_refl)
          | (rw [if_neg (by omega), if_pos (by omega)] at q1; exact q1 _ zFq_refl)
          | (rw [if_neg (by omega), if_neg (by omega), if_neg (by omega)] at q1; exact q1 _ zFq_refl)
          | (rw [if_neg (by omega), if_neg (by omega), if_pos (by omega)] at q1; exact q1 _ (by first | exact zFq_refl | exact zFq_fm f1))
      · simp only [Option.toList_some, Option.toList_none, List.drop_succ_cons, List.drop_zero, List.cons_append, List.nil_append]
        refine ze_if_eq kc_128_24 (by decide) (fun _ => ?_) (fun q => absurd q (by decide))
        refine ze_bipush kc_128_36 ?_
        refine ze_ireturn kc_128_38 (Or.inl rfl) ?_
        unfold oCut at q1
        first
          | (rw [if_pos (by omega)] at q1; exact q1 _ zFq_refl)
          | (rw [if_neg (by omega), if_pos (by omega)] at q1; exact q1 _ zFq_refl)
          | (rw [if_neg (by omega), if_neg (by omega), if_neg (by omega)] at q1; exact q1 _ zFq_refl)
          | (rw [if_neg (by omega), if_neg (by omega), if_pos (by omega)] at q1; exact q1 _ (by first | exact zFq_refl | exact zFq_fm f1))
    · simp only [Option.toList_some, Option.toList_none, List.drop_succ_cons, List.drop_zero, List.cons_append, List.nil_append]
      refine ze_if_ne kc_128_15 (by decide) (fun q => absurd q (by decide)) (fun _ => ?_)
      refine ze_iconst kc_128_18 ?_
      refine ze_ireturn kc_128_19 (Or.inl rfl) ?_
      unfold oCut at q1
      first
        | (rw [if_pos (by omega)] at q1; exact q1 _ zFq_refl)
        | (rw [if_neg (by omega), if_pos (by omega)] at q1; exact q1 _ zFq_refl)
        | (rw [if_neg (by omega), if_neg (by omega), if_neg (by omega)] at q1; exact q1 _ zFq_refl)
        | (rw [if_neg (by omega), if_neg (by omega), if_pos (by omega)] at q1; exact q1 _ (by first | exact zFq_refl | exact zFq_fm f1))
  · simp only [Option.toList_some, Option.toList_none, List.drop_succ_cons, List.drop_zero, List.cons_append, List.nil_append]
    refine ze_if_ne kc_128_4 (by decide) (fun q => absurd q (by decide)) (fun _ => ?_)
    refine ze_bipush kc_128_7 ?_
    refine ze_ireturn kc_128_9 (Or.inl rfl) ?_
    unfold oCut at q1
    first
      | (rw [if_pos (by omega)] at q1; exact q1 _ zFq_refl)
      | (rw [if_neg (by omega), if_pos (by omega)] at q1; exact q1 _ zFq_refl)
      | (rw [if_neg (by omega), if_neg (by omega), if_neg (by omega)] at q1; exact q1 _ zFq_refl)
      | (rw [if_neg (by omega), if_neg (by omega), if_pos (by omega)] at q1; exact q1 _ (by first | exact zFq_refl | exact zFq_fm f1))

set_option maxHeartbeats 4000000 in
theorem m_likeX {Z : zMem} {Q : Option zAV → zMem → Prop} {n : Nat} {c : Nat → Int} {e ρ : Int} (hC : zCl n c e ρ Z) {r : Int} (hr : -2147483648 ≤ r ∧ r ≤ 2147483647) (q1 : ∀ Z', zFq Z Z' → Q (some (zI (oLike n c e r))) Z') : zE 61 0 (zent 61 [zR 0, zI r]) [] Z Q := by
  show zE 61 0 [some (zR 0), some (zI r)] [] Z Q
  obtain ⟨hU0, hG0, n6, n0, cc, cr, ce, cρ, ceR, cρR, c11, c16⟩ := zCl_o hC
  have csr := zsum_range cr
  refine ze_iload_n kc_61_0 rfl ?_
  refine zE_calls 1 kc_61_1 rfl rfl (Nat.le_of_ble_eq_true rfl) (Nat.le_of_ble_eq_true rfl) (Nat.le_of_ble_eq_true rfl) rfl ?_
  refine m_isRule (by omega) (fun g1 => ?_) (fun g1 => ?_)
  · simp only [Option.toList_some, Option.toList_none, List.drop_succ_cons, List.drop_zero, List.cons_append, List.nil_append]
    refine ze_if_ne kc_61_4 (by decide) (fun _ => ?_) (fun q => absurd q (by decide))
    refine ze_aload_n kc_61_10 rfl ?_
    refine ze_getR kc_61_11 rfl rfl rfl ?_
    refine zE_callv 1 kc_61_14 rfl rfl (Nat.le_of_ble_eq_true rfl) (Nat.le_of_ble_eq_true rfl) (Nat.le_of_ble_eq_true rfl) rfl (by decide +kernel) rfl ?_
    refine m_ready zsF_1 hU0 (fun g14 => ?_) (fun g14 => ?_)
    · simp only [Option.toList_some, Option.toList_none, List.drop_succ_cons, List.drop_zero, List.cons_append, List.nil_append]
      refine ze_if_eq kc_61_17 (by decide) (fun q => absurd q (by decide)) (fun _ => ?_)
      refine ze_aload_n kc_61_20 rfl ?_
      refine ze_getR kc_61_21 rfl rfl rfl ?_
      refine ze_iload_n kc_61_24 rfl ?_
      refine zE_callv 2 kc_61_25 rfl rfl (Nat.le_of_ble_eq_true rfl) (Nat.le_of_ble_eq_true rfl) (Nat.le_of_ble_eq_true rfl) rfl (by decide +kernel) rfl ?_
      refine m_alike zsF_1 hU0 (by omega) (by omega) (by omega) ?_
      simp only [Option.toList_some, Option.toList_none, List.drop_succ_cons, List.drop_zero, List.cons_append, List.nil_append]
      refine ze_goto kc_61_28 ?_
      refine ze_ireturn kc_61_33 (Or.inl rfl) ?_
      unfold oLike at q1
      first
        | (rw [if_pos (by omega)] at q1; exact q1 _ zFq_refl)
        | (rw [if_neg (by omega), if_neg (by omega)] at q1; exact q1 _ zFq_refl)
        | (rw [if_neg (by omega), if_pos (by omega)] at q1; exact q1 _ (by first | exact zFq_refl | exact zFq_fm f1))
    · simp only [Option.toList_some, Option.toList_none, List.drop_succ_cons, List.drop_zero, List.cons_append, List.nil_append]
      refine ze_if_eq kc_61_17 (by decide) (fun _ => ?_) (fun q => absurd q (by decide))
      refine ze_bipush kc_61_31 ?_
      refine ze_ireturn kc_61_33 (Or.inl rfl) ?_
      unfold oLike at q1
      first
        | (rw [if_pos (by omega)] at q1; exact q1 _ zFq_refl)
        | (rw [if_neg (by omega), if_neg (by omega)] at q1; exact q1 _ zFq_refl)
        | (rw [if_neg (by omega), if_pos (by omega)] at q1; exact q1 _ (by first | exact zFq_refl | exact zFq_fm f1))
  · simp only [Option.toList_some, Option.toList_none, List.drop_succ_cons, List.drop_zero, List.cons_append, List.nil_append]
    refine ze_if_ne kc_61_4 (by decide) (fun q => absurd q (by decide)) (fun _ => ?_)
    refine ze_bipush kc_61_7 ?_
    refine ze_ireturn kc_61_9 (Or.inl rfl) ?_
    unfold oLike at q1
    first
      | (rw [if_pos (by omega)] at q1; exact q1 _ zFq_refl)
      | (rw [if_neg (by omega), if_neg (by omega)] at q1; exact q1 _ zFq_refl)
      | (rw [if_neg (by omega), if_pos (by omega)] at q1; exact q1 _ (by first | exact zFq_refl | exact zFq_fm f1))

set_option maxHeartbeats 4000000 in
theorem m_soreX {Z : zMem} {Q : Option zAV → zMem → Prop} {n : Nat} {c : Nat → Int} {e ρ : Int} (hC : zCl n c e ρ Z) {r k : Int} (hr : -2147483648 ≤ r ∧ r ≤ 2147483647) (hk : -2147483648 ≤ k ∧ k ≤ 2147483647) (q1 : ∀ Z', zFq Z Z' → Q (some (zI (oSore n c e r k))) Z') : zE 62 0 (zent 62 [zR 0, zI r, zI k]) [] Z Q := by
  show zE 62 0 [some (zR 0), some (zI r), some (zI k)] [] Z Q
  obtain ⟨hU0, hG0, n6, n0, cc, cr, ce, cρ, ceR, cρR, c11, c16⟩ := zCl_o hC
  have csr := zsum_range cr
  refine ze_iload_n kc_62_0 rfl ?_
  refine zE_calls 1 kc_62_1 rfl rfl (Nat.le_of_ble_eq_true rfl) (Nat.le_of_ble_eq_true rfl) (Nat.le_of_ble_eq_true rfl) rfl ?_
  refine m_isRule (by omega) (fun g1 => ?_) (fun g1 => ?_)
  · simp only [Option.toList_some, Option.toList_none, List.drop_succ_cons, List.drop_zero, List.cons_append, List.nil_append]
    refine ze_if_ne kc_62_4 (by decide) (fun _ => ?_) (fun q => absurd q (by decide))
    refine ze_aload_n kc_62_10 rfl ?_
    refine ze_getR kc_62_11 rfl rfl rfl ?_
    refine ze_getR kc_62_14 rfl rfl rfl ?_
    refine ze_iload_n kc_62_17 rfl ?_
    refine zE_callv 2 kc_62_18 rfl rfl (Nat.le_of_ble_eq_true rfl) (Nat.le_of_ble_eq_true rfl) (Nat.le_of_ble_eq_true rfl) rfl (by decide +kernel) rfl ?_
    refine m_has zgF_2 (by omega) (by omega) (fun g18 => ?_) (fun g18 => ?_)
    · simp only [Option.toList_some, Option.toList_none, List.drop_succ_cons, List.drop_zero, List.cons_append, List.nil_append]
      refine ze_if_ne kc_62_21 (by decide) (fun _ => ?_) (fun q => absurd q (by decide))
      refine ze_aload_n kc_62_26 rfl ?_
      refine ze_getR kc_62_27 rfl rfl rfl ?_
      refine zE_callv 1 kc_62_30 rfl rfl (Nat.le_of_ble_eq_true rfl) (Nat.le_of_ble_eq_true rfl) (Nat.le_of_ble_eq_true rfl) rfl (by decide +kernel) rfl ?_
      refine m_ready zsF_1 hU0 (fun g30 => ?_) (fun g30 => ?_)
      · simp only [Option.toList_some, Option.toList_none, List.drop_succ_cons, List.drop_zero, List.cons_append, List.nil_append]
        refine ze_if_eq kc_62_33 (by decide) (fun q => absurd q (by decide)) (fun _ => ?_)
        refine ze_aload_n kc_62_36 rfl ?_
        refine ze_getR kc_62_37 rfl rfl rfl ?_
        refine ze_iload_n kc_62_40 rfl ?_
        refine ze_iload_n kc_62_41 rfl ?_
        refine zE_callv 3 kc_62_42 rfl rfl (Nat.le_of_ble_eq_true rfl) (Nat.le_of_ble_eq_true rfl) (Nat.le_of_ble_eq_true rfl) rfl (by decide +kernel) rfl ?_
        refine m_sorest zsF_1 hU0 (by omega) (by omega) (by omega) (by omega) (fun Z2 f1 => ?_)
        simp only [Option.toList_some, Option.toList_none, List.drop_succ_cons, List.drop_zero, List.cons_append, List.nil_append]
        refine ze_goto kc_62_45 ?_
        refine ze_ireturn kc_62_50 (Or.inl rfl) ?_
        unfold oSore at q1
        first
          | (rw [if_pos (by omega)] at q1; exact q1 _ zFq_refl)
          | (rw [if_neg (by omega), if_pos (by omega)] at q1; exact q1 _ zFq_refl)
          | (rw [if_neg (by omega), if_neg (by omega), if_neg (by omega)] at q1; exact q1 _ zFq_refl)
          | (rw [if_neg (by omega), if_neg (by omega), if_pos (by omega)] at q1; exact q1 _ (by first | exact zFq_refl | exact ⟨fun k a b d e f => f1 k (by omega), fun j _ _ _ _ _ => by rw [f1 63 (by decide)], fun a => by rw [f1 11 (by decide)]; exact a, fun a => by rw [f1 16 (by decide)]; exact a⟩))
      · simp only [Option.toList_some, Option.toList_none, List.drop_succ_cons, List.drop_zero, List.cons_append, List.nil_append]
        refine ze_if_eq kc_62_33 (by decide) (fun _ => ?_) (fun q => absurd q (by decide))
        refine ze_bipush kc_62_48 ?_
        refine ze_ireturn kc_62_50 (Or.inl rfl) ?_
        unfold oSore at q1
        first
          | (rw [if_pos (by omega)] at q1; exact q1 _ zFq_refl)
          | (rw [if_neg (by omega), if_pos (by omega)] at q1; exact q1 _ zFq_refl)
          | (rw [if_neg (by omega), if_neg (by omega), if_neg (by omega)] at q1; exact q1 _ zFq_refl)
          | (rw [if_neg (by omega), if_neg (by omega), if_pos (by omega)] at q1; exact q1 _ (by first | exact zFq_refl | exact ⟨fun k a b d e f => f1 k (by omega), fun j _ _ _ _ _ => by rw [f1 63 (by decide)], fun a => by rw [f1 11 (by decide)]; exact a, fun a => by rw [f1 16 (by decide)]; exact a⟩))
    · simp only [Option.toList_some, Option.toList_none, List.drop_succ_cons, List.drop_zero, List.cons_append, List.nil_append]
      refine ze_if_ne kc_62_21 (by decide) (fun q => absurd q (by decide)) (fun _ => ?_)
      refine ze_iconst kc_62_24 ?_
      refine ze_ireturn kc_62_25 (Or.inl rfl) ?_
      unfold oSore at q1
      first
        | (rw [if_pos (by omega)] at q1; exact q1 _ zFq_refl)
        | (rw [if_neg (by omega), if_pos (by omega)] at q1; exact q1 _ zFq_refl)
        | (rw [if_neg (by omega), if_neg (by omega), if_neg (by omega)] at q1; exact q1 _ zFq_refl)
        | (rw [if_neg (by omega), if_neg (by omega), if_pos (by omega)] at q1; exact q1 _ (by first | exact zFq_refl | exact ⟨fun k a b d e f => f1 k (by omega), fun j _ _ _ _ _ => by rw [f1 63 (by decide)], fun a => by rw [f1 11 (by decide)]; exact a, fun a => by rw [f1 16 (by decide)]; exact a⟩))
  · simp only [Option.toList_some, Option.toList_none, List.drop_succ_cons, List.drop_zero, List.cons_append, List.nil_append]
    refine ze_if_ne kc_62_4 (by decide) (fun q => absurd q (by decide)) (fun _ => ?_)
    refine ze_bipush kc_62_7 ?_
    refine ze_ireturn kc_62_9 (Or.inl rfl) ?_
    unfold oSore at q1
    first
      | (rw [if_pos (by omega)] at q1; exact q1 _ zFq_refl)
      | (rw [if_neg (by omega), if_pos (by omega)] at q1; exact q1 _ zFq_refl)
      | (rw [if_neg (by omega), if_neg (by omega), if_neg (by omega)] at q1; exact q1 _ zFq_refl)
      | (rw [if_neg (by omega), if_neg (by omega), if_pos (by omega)] at q1; exact q1 _ (by first | exact zFq_refl | exact ⟨fun k a b d e f => f1 k (by omega), fun j _ _ _ _ _ => by rw [f1 63 (by decide)], fun a => by rw [f1 11 (by decide)]; exact a, fun a => by rw [f1 16 (by decide)]; exact a⟩))

set_option maxHeartbeats 4000000 in
theorem m_dualX {Z : zMem} {Q : Option zAV → zMem → Prop} {n : Nat} {c : Nat → Int} {e ρ : Int} (hC : zCl n c e ρ Z) {r i p : Int} (hr : -2147483648 ≤ r ∧ r ≤ 2147483647) (hi : -2147483648 ≤ i ∧ i ≤ 2147483647) (hp : -2147483648 ≤ p ∧ p ≤ 2147483647) (q1 : ∀ Z', zFq Z Z' → Q (some (zL (oDual n c e r i p))) Z') : zE 53 0 (zent 53 [zR 0, zI r, zI i, zI p]) [] Z Q := by
  show zE 53 0 [some (zR 0), some (zI r), some (zI i), some (zI p), none, none, none, none, none] [] Z Q
  obtain ⟨hU0, hG0, n6, n0, cc, cr, ce, cρ, ceR, cρR, c11, c16⟩ := zCl_o hC
  have csr := zsum_range cr
  refine ze_iload_n kc_53_0 rfl ?_
  refine zE_calls 1 kc_53_1 rfl rfl (Nat.le_of_ble_eq_true rfl) (Nat.le_of_ble_eq_true rfl) (Nat.le_of_ble_eq_true rfl) rfl ?_
  refine m_isRule (by omega) (fun g1 => ?_) (fun g1 => ?_)
  · simp only [Option.toList_some, Option.toList_none, List.drop_succ_cons, List.drop_zero, List.cons_append, List.nil_append]
    refine ze_if_eq kc_53_4 (by decide) (fun q => absurd q (by decide)) (fun _ => ?_)
    refine ze_aload_n kc_53_7 rfl ?_
    refine ze_getR kc_53_8 rfl rfl rfl ?_
    refine ze_getR kc_53_11 rfl rfl rfl ?_
    refine ze_iload_n kc_53_14 rfl ?_
    refine zE_callv 2 kc_53_15 rfl rfl (Nat.le_of_ble_eq_true rfl) (Nat.le_of_ble_eq_true rfl) (Nat.le_of_ble_eq_true rfl) rfl (by decide +kernel) rfl ?_
    refine m_has zgF_2 (by omega) (by omega) (fun g15 => ?_) (fun g15 => ?_)
    · simp only [Option.toList_some, Option.toList_none, List.drop_succ_cons, List.drop_zero, List.cons_append, List.nil_append]
      refine ze_if_eq kc_53_18 (by decide) (fun q => absurd q (by decide)) (fun _ => ?_)
      refine ze_iload_n kc_53_21 rfl ?_
      refine zE_calls 1 kc_53_22 rfl rfl (Nat.le_of_ble_eq_true rfl) (Nat.le_of_ble_eq_true rfl) (Nat.le_of_ble_eq_true rfl) rfl ?_
      refine m_isPart (by omega) (fun g22 => ?_) (fun g22 => ?_)
      · simp only [Option.toList_some, Option.toList_none, List.drop_succ_cons, List.drop_zero, List.cons_append, List.nil_append]
        refine ze_if_eq kc_53_25 (by decide) (fun q => absurd q (by decide)) (fun _ => ?_)
        refine ze_aload_n kc_53_28 rfl ?_
        refine ze_getR kc_53_29 rfl rfl rfl ?_
        refine zE_callv 1 kc_53_32 rfl rfl (Nat.le_of_ble_eq_true rfl) (Nat.le_of_ble_eq_true rfl) (Nat.le_of_ble_eq_true rfl) rfl (by decide +kernel) rfl ?_
        refine m_ready zsF_1 hU0 (fun g32 => ?_) (fun g32 => ?_)
        · simp only [Option.toList_some, Option.toList_none, List.drop_succ_cons, List.drop_zero, List.cons_append, List.nil_append]
          refine ze_if_ne kc_53_35 (by decide) (fun _ => ?_) (fun q => absurd q (by decide))
          obtain ⟨κ, rfl⟩ := Int.eq_ofNat_of_zero_le (show 0 ≤ i by omega)
          refine ze_aload_n kc_53_42 rfl ?_
          refine ze_getR kc_53_43 rfl rfl rfl ?_
          refine ze_getR kc_53_46 rfl rfl rfl ?_
          refine ze_astore kc_53_49 (Nat.le_of_ble_eq_true rfl) ?_
          simp only [zset1, zset2, zcut, List.set_cons_zero, List.set_cons_succ, List.getD_cons_zero, List.getD_cons_succ]
          refine ze_aload kc_53_51 rfl ?_
          refine ze_iload_n kc_53_53 rfl ?_
          refine zE_callv 2 kc_53_54 rfl rfl (Nat.le_of_ble_eq_true rfl) (Nat.le_of_ble_eq_true rfl) (Nat.le_of_ble_eq_true rfl) rfl (by decide +kernel) rfl ?_
          refine m_scale zgF_2 hG0 (by omega) ?_
          simp only [Option.toList_some, Option.toList_none, List.drop_succ_cons, List.drop_zero, List.cons_append, List.nil_append]
          refine ze_lstore kc_53_57 (Nat.le_of_ble_eq_true rfl) ?_
          simp only [zset1, zset2, zcut, List.set_cons_zero, List.set_cons_succ, List.getD_cons_zero, List.getD_cons_succ]
          refine ze_aload kc_53_59 rfl ?_
          refine ze_iload_n kc_53_61 rfl ?_
          refine ze_iload_n kc_53_62 rfl ?_
          refine ze_aload kc_53_63 rfl ?_
          refine zE_callv 1 kc_53_65 rfl rfl (Nat.le_of_ble_eq_true rfl) (Nat.le_of_ble_eq_true rfl) (Nat.le_of_ble_eq_true rfl) rfl (by decide +kernel) rfl ?_
          refine m_all zgF_2 hG0 ?_
          simp only [Option.toList_some, Option.toList_none, List.drop_succ_cons, List.drop_zero, List.cons_append, List.nil_append]
          refine ze_aload_n kc_53_68 rfl ?_
          refine ze_getR kc_53_69 rfl rfl rfl ?_
          refine ze_getI kc_53_72 rfl (by decide) ?_
          rw [ce]
          refine ze_isub kc_53_75 ?_
          refine ze_i2l kc_53_76 (by omega) ?_
          refine ze_lconst1 kc_53_77 ?_
          refine zE_callv 5 kc_53_78 rfl rfl (Nat.le_of_ble_eq_true rfl) (Nat.le_of_ble_eq_true rfl) (Nat.le_of_ble_eq_true rfl) rfl (by decide +kernel) rfl ?_
          refine m_gets zgF_2 hG0 (by omega) (by omega) (by omega) (by omega) ?_
          simp only [Option.toList_some, Option.toList_none, List.drop_succ_cons, List.drop_zero, List.cons_append, List.nil_append]
          refine ze_lstore kc_53_81 (Nat.le_of_ble_eq_true rfl) ?_
          simp only [zset1, zset2, zcut, List.set_cons_zero, List.set_cons_succ, List.getD_cons_zero, List.getD_cons_succ]
          refine ze_aload kc_53_83 rfl ?_
          refine ze_getR kc_53_85 rfl rfl rfl ?_
          refine ze_iload_n kc_53_88 rfl ?_
          refine ze_iald kc_53_89 rfl (by omega) ?_
          rw [Int.toNat_natCast, cc κ (by omega)]
          have hck := cr κ (by omega)
          refine ze_i2l kc_53_90 (by omega) ?_
          refine ze_lload kc_53_91 rfl ?_
          refine ze_lmul kc_53_93 ?_
          refine ze_lload kc_53_94 rfl ?_
          refine ze_lsub kc_53_96 ?_
          refine ze_lload kc_53_97 rfl ?_
          have hss := zS_range (r := r) (n := n) (c := c) ⟨by omega, n6⟩ cr
          have hgr := zGt_range (r := r) (i := κ) (w := 1) (u := zsum n c - e) n6 (show κ < n by omega) cr (by omega) (by omega)
          have hlp := zlow_p (a := zGt r n c κ 1 (zsum n c - e)) (b := zS r n c) (by omega)
          have hlq := hlp.2.2.2 hgr.1
          have hcs := zmb (a := c κ) (b := zS r n c) (A := 60) (B := 720) (by omega) (by omega)
          refine ze_iload_n kc_53_99 rfl ?_
          refine zE_calls 3 kc_53_100 rfl rfl (Nat.le_of_ble_eq_true rfl) (Nat.le_of_ble_eq_true rfl) (Nat.le_of_ble_eq_true rfl) rfl ?_
          refine m_low (by omega) (by omega) (by omega) ?_
          simp only [Option.toList_some, Option.toList_none, List.drop_succ_cons, List.drop_zero, List.cons_append, List.nil_append]
          refine ze_lreturn kc_53_103 ?_
          rw [show oDual n c e r κ p = _ from if_pos (by omega)] at q1
          exact q1 _ zFq_refl
        · simp only [Option.toList_some, Option.toList_none, List.drop_succ_cons, List.drop_zero, List.cons_append, List.nil_append]
          refine ze_if_ne kc_53_35 (by decide) (fun q => absurd q (by decide)) (fun _ => ?_)
          refine ze_ldc2L kc_53_38 ?_
          refine ze_lreturn kc_53_41 ?_
          rw [show oDual n c e r i p = -9223372036854775808 from if_neg (by omega)] at q1
          exact q1 _ zFq_refl
      · simp only [Option.toList_some, Option.toList_none, List.drop_succ_cons, List.drop_zero, List.cons_append, List.nil_append]
        refine ze_if_eq kc_53_25 (by decide) (fun _ => ?_) (fun q => absurd q (by decide))
        refine ze_ldc2L kc_53_38 ?_
        refine ze_lreturn kc_53_41 ?_
        rw [show oDual n c e r i p = -9223372036854775808 from if_neg (by omega)] at q1
        exact q1 _ zFq_refl
    · simp only [Option.toList_some, Option.toList_none, List.drop_succ_cons, List.drop_zero, List.cons_append, List.nil_append]
      refine ze_if_eq kc_53_18 (by decide) (fun _ => ?_) (fun q => absurd q (by decide))
      refine ze_ldc2L kc_53_38 ?_
      refine ze_lreturn kc_53_41 ?_
      rw [show oDual n c e r i p = -9223372036854775808 from if_neg (by omega)] at q1
      exact q1 _ zFq_refl
  · simp only [Option.toList_some, Option.toList_none, List.drop_succ_cons, List.drop_zero, List.cons_append, List.nil_append]
    refine ze_if_eq kc_53_4 (by decide) (fun _ => ?_) (fun q => absurd q (by decide))
    refine ze_ldc2L kc_53_38 ?_
    refine ze_lreturn kc_53_41 ?_
    rw [show oDual n c e r i p = -9223372036854775808 from if_neg (by omega)] at q1
    exact q1 _ zFq_refl

set_option maxHeartbeats 4000000 in
theorem m_dualM {Z : zMem} {Q : Option zAV → zMem → Prop} {n : Nat} {c : Nat → Int} {e ρ : Int} (hM : zMo n c e ρ Z) {r i p : Int} (hr : -2147483648 ≤ r ∧ r ≤ 2147483647) (hi : -2147483648 ≤ i ∧ i ≤ 2147483647) (hp : -2147483648 ≤ p ∧ p ≤ 2147483647) (q1 : ∀ Z', zFq Z Z' → Q (some (zL (oDual n c e r i p))) Z') : zE 129 0 (zent 129 [zR 63, zI r, zI i, zI p]) [] Z Q := by
  show zE 129 0 [some (zR 63), some (zI r), some (zI i), some (zI p)] [] Z Q
  have hM0 := hM
  obtain ⟨n0, n6, mc, mr, me, mρ, meR, mρR⟩ := hM
  have msr := zsum_range mr
  have hp6 := zpow6 n6
  refine ze_iload_n kc_129_0 rfl ?_
  refine zE_calls 1 kc_129_1 rfl rfl (Nat.le_of_ble_eq_true rfl) (Nat.le_of_ble_eq_true rfl) (Nat.le_of_ble_eq_true rfl) rfl ?_
  refine m_isRuleM (by omega) (fun g1 => ?_) (fun g1 => ?_)
  · simp only [Option.toList_some, Option.toList_none, List.drop_succ_cons, List.drop_zero, List.cons_append, List.nil_append]
    refine ze_if_eq kc_129_4 (by decide) (fun q => absurd q (by decide)) (fun _ => ?_)
    refine ze_aload_n kc_129_7 rfl ?_
    refine ze_iload_n kc_129_8 rfl ?_
    refine zE_callv 2 kc_129_9 rfl rfl (Nat.le_of_ble_eq_true rfl) (Nat.le_of_ble_eq_true rfl) (Nat.le_of_ble_eq_true rfl) rfl (by decide +kernel) rfl ?_
    refine m_isOne hM0 (by omega) (fun g9 => ?_) (fun g9 => ?_)
    · simp only [Option.toList_some, Option.toList_none, List.drop_succ_cons, List.drop_zero, List.cons_append, List.nil_append]
      refine ze_if_eq kc_129_12 (by decide) (fun q => absurd q (by decide)) (fun _ => ?_)
      refine ze_iload_n kc_129_15 rfl ?_
      refine zE_calls 1 kc_129_16 rfl rfl (Nat.le_of_ble_eq_true rfl) (Nat.le_of_ble_eq_true rfl) (Nat.le_of_ble_eq_true rfl) rfl ?_
      refine m_isPartM (by omega) (fun g16 => ?_) (fun g16 => ?_)
      · simp only [Option.toList_some, Option.toList_none, List.drop_succ_cons, List.drop_zero, List.cons_append, List.nil_append]
        refine ze_if_eq kc_129_19 (by decide) (fun q => absurd q (by decide)) (fun _ => ?_)
        refine ze_aload_n kc_129_22 rfl ?_
        refine zE_callv 1 kc_129_23 rfl rfl (Nat.le_of_ble_eq_true rfl) (Nat.le_of_ble_eq_true rfl) (Nat.le_of_ble_eq_true rfl) rfl (by decide +kernel) rfl ?_
        refine m_readyM hM0 (fun g23 => ?_) (fun g23 => ?_)
        · simp only [Option.toList_some, Option.toList_none, List.drop_succ_cons, List.drop_zero, List.cons_append, List.nil_append]
          refine ze_if_ne kc_129_26 (by decide) (fun _ => ?_) (fun q => absurd q (by decide))
          obtain ⟨κ, rfl⟩ := Int.eq_ofNat_of_zero_le (show 0 ≤ i by omega)
          have hss := zS_range (r := r) (n := n) (c := c) ⟨by omega, n6⟩ mr
          have hgr := zGt_range (r := r) (i := κ) (w := 1) (u := zsum n c - e) n6 (show κ < n by omega) mr (by omega) (by omega)
          have hlp := zlow_p (a := zGt r n c κ 1 (zsum n c - e)) (b := zS r n c) (by omega)
          have hlq := hlp.2.2.2 hgr.1
          have hck := mr κ (by omega)
          refine ze_aload_n kc_129_33 rfl ?_
          refine ze_iload_n kc_129_34 rfl ?_
          refine ze_aload_n kc_129_35 rfl ?_
          refine zE_callv 1 kc_129_36 rfl rfl (Nat.le_of_ble_eq_true rfl) (Nat.le_of_ble_eq_true rfl) (Nat.le_of_ble_eq_true rfl) rfl (by decide +kernel) rfl ?_
          refine m_everyone hM0 ?_
          simp only [Option.toList_some, Option.toList_none, List.drop_succ_cons, List.drop_zero, List.cons_append, List.nil_append]
          refine ze_aload_n kc_129_39 rfl ?_
          refine zE_callv 1 kc_129_40 rfl rfl (Nat.le_of_ble_eq_true rfl) (Nat.le_of_ble_eq_true rfl) (Nat.le_of_ble_eq_true rfl) rfl (by decide +kernel) rfl ?_
          refine m_allM hM0 ?_
          simp only [Option.toList_some, Option.toList_none, List.drop_succ_cons, List.drop_zero, List.cons_append, List.nil_append]
          refine ze_aload_n kc_129_43 rfl ?_
          refine ze_getI kc_129_44 rfl (by decide) ?_
          rw [me]
          refine ze_isub kc_129_47 ?_
          refine ze_i2l kc_129_48 (by omega) ?_
          refine ze_lconst1 kc_129_49 ?_
          refine ze_iload_n kc_129_50 rfl ?_
          refine zE_callv 6 kc_129_51 rfl rfl (Nat.le_of_ble_eq_true rfl) (Nat.le_of_ble_eq_true rfl) (Nat.le_of_ble_eq_true rfl) rfl (by decide +kernel) rfl ?_
          refine m_awards hM0 (zEn_all n6 (show κ < n by omega)) (by omega) (by omega) (by show 0 ≤ zsum n c - e ∧ zsum n c - e ≤ zsum n c * 1; omega) (fun Z2 f1 f2 f3 => ?_)
          simp only [Option.toList_some, Option.toList_none, List.drop_succ_cons, List.drop_zero, List.cons_append, List.nil_append]
          rw [Int.mul_one] at f2 f3
          replace f2 : Z2 63 18 = zlow (zGt r n c κ 1 (zsum n c - e)) (zS r n c) 0 := f2
          replace f3 : Z2 63 19 = zlow (zGt r n c κ 1 (zsum n c - e)) (zS r n c) 1 := f3
          refine ze_aload_n kc_129_54 rfl ?_
          refine ze_aload_n kc_129_55 rfl ?_
          refine ze_getR kc_129_56 rfl rfl rfl ?_
          refine ze_iload_n kc_129_59 rfl ?_
          refine ze_iald kc_129_60 rfl (by omega) ?_
          rw [Int.toNat_natCast, (zMo_fm hM0 f1).2.2.1 κ (by omega)]
          refine ze_i2l kc_129_61 (by omega) ?_
          refine ze_aload_n kc_129_62 rfl ?_
          refine ze_getL kc_129_63 rfl rfl ?_
          rw [f3]
          refine ze_lmul kc_129_66 ?_
          refine ze_aload_n kc_129_67 rfl ?_
          refine ze_getL kc_129_68 rfl rfl ?_
          rw [f2]
          refine ze_lsub kc_129_71 ?_
          refine ze_aload_n kc_129_72 rfl ?_
          refine ze_getL kc_129_73 rfl rfl ?_
          rw [f3]
          have hcs := zmb (a := c κ) (b := zlow (zGt r n c κ 1 (zsum n c - e)) (zS r n c) 1) (A := 60) (B := 720) (by omega) (by omega)
          refine zE_callv 3 kc_129_76 rfl rfl (Nat.le_of_ble_eq_true rfl) (Nat.le_of_ble_eq_true rfl) (Nat.le_of_ble_eq_true rfl) rfl (by decide +kernel) rfl ?_
          refine m_fraction (by omega) (by omega) ?_
          simp only [Option.toList_some, Option.toList_none, List.drop_succ_cons, List.drop_zero, List.cons_append, List.nil_append]
          refine ze_aload_n kc_129_79 rfl ?_
          refine ze_iload_n kc_129_80 rfl ?_
          refine zE_callv 2 kc_129_81 rfl rfl (Nat.le_of_ble_eq_true rfl) (Nat.le_of_ble_eq_true rfl) (Nat.le_of_ble_eq_true rfl) rfl (by decide +kernel) rfl ?_
          refine m_partM (by omega) ?_
          simp only [Option.toList_some, Option.toList_none, List.drop_succ_cons, List.drop_zero, List.cons_append, List.nil_append]
          refine ze_lreturn kc_129_84 ?_
          rw [show oDual n c e r κ p = _ from if_pos (by omega)] at q1
          rw [zup_o (by decide), zup_s, zup_s]
          have hA : ∀ p, zlow (c κ * zlow (zGt r n c κ 1 (zsum n c - e)) (zS r n c) 1 - zlow (zGt r n c κ 1 (zsum n c - e)) (zS r n c) 0) (zlow (zGt r n c κ 1 (zsum n c - e)) (zS r n c) 1) p = zlow (c κ * zS r n c - zGt r n c κ 1 (zsum n c - e)) (zS r n c) p := fun p => zlow_eq hlp.1 (by omega) (by
            rw [Int.sub_mul, Int.sub_mul, hlp.2.2.1, Int.mul_assoc, Int.mul_assoc, Int.mul_comm (zS r n c)]) p
          rcases (show p = 0 ∨ p = 1 by omega) with rfl | rfl
          · rw [if_pos rfl, hA]; exact q1 _ (zFq_fm (zFm_up (zFm_up f1 (by omega)) (by omega)))
          · rw [if_neg (by decide), hA]; exact q1 _ (zFq_fm (zFm_up (zFm_up f1 (by omega)) (by omega)))
        · simp only [Option.toList_some, Option.toList_none, List.drop_succ_cons, List.drop_zero, List.cons_append, List.nil_append]
          refine ze_if_ne kc_129_26 (by decide) (fun q => absurd q (by decide)) (fun _ => ?_)
          refine ze_ldc2L kc_129_29 ?_
          refine ze_lreturn kc_129_32 ?_
          rw [show oDual n c e r i p = -9223372036854775808 from if_neg (by omega)] at q1
          exact q1 _ zFq_refl
      · simp only [Option.toList_some, Option.toList_none, List.drop_succ_cons, List.drop_zero, List.cons_append, List.nil_append]
        refine ze_if_eq kc_129_19 (by decide) (fun _ => ?_) (fun q => absurd q (by decide))
        refine ze_ldc2L kc_129_29 ?_
        refine ze_lreturn kc_129_32 ?_
        rw [show oDual n c e r i p = -9223372036854775808 from if_neg (by omega)] at q1
        exact q1 _ zFq_refl
    · simp only [Option.toList_some, Option.toList_none, List.drop_succ_cons, List.drop_zero, List.cons_append, List.nil_append]
      refine ze_if_eq kc_129_12 (by decide) (fun _ => ?_) (fun q => absurd q (by decide))
      refine ze_ldc2L kc_129_29 ?_
      refine ze_lreturn kc_129_32 ?_
      rw [show oDual n c e r i p = -9223372036854775808 from if_neg (by omega)] at q1
      exact q1 _ zFq_refl
  · simp only [Option.toList_some, Option.toList_none, List.drop_succ_cons, List.drop_zero, List.cons_append, List.nil_append]
    refine ze_if_eq kc_129_4 (by decide) (fun _ => ?_) (fun q => absurd q (by decide))
    refine ze_ldc2L kc_129_29 ?_
    refine ze_lreturn kc_129_32 ?_
    rw [show oDual n c e r i p = -9223372036854775808 from if_neg (by omega)] at q1
    exact q1 _ zFq_refl
