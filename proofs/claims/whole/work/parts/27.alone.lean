theorem zpos_of {g x : Int} (hg : 0 < g) (h : 0 < g * x) : 0 < x := by
  rcases Int.lt_or_le 0 x with q | q
  · exact q
  · have := Int.mul_nonpos_of_nonneg_of_nonpos (Int.le_of_lt hg) q
    omega
theorem zmin_mul {g a b : Int} (hg : 0 ≤ g) : min (g * a) (g * b) = g * min a b := by
  rcases Int.le_total a b with q | q
  · rw [Int.min_eq_left q, Int.min_eq_left (Int.mul_le_mul_of_nonneg_left q hg)]
  · rw [Int.min_eq_right q, Int.min_eq_right (Int.mul_le_mul_of_nonneg_left q hg)]
theorem zLv_homg {n : Nat} {c : Nat → Int} {i : Nat} {w u g : Int} (hn : n ≤ 6) (hi : i < n) (hc : ∀ k, k < n → 0 ≤ c k) (hw : 0 ≤ w) (hu : 0 ≤ u) (hg : 0 ≤ g) : zLv n c i (g * w) (g * u) = g * zLv n c i w u := by
  have f : ∀ k, c k * (g * w) * 60 = g * (c k * w * 60) := fun k => by rw [Int.mul_left_comm (c k) g w, Int.mul_assoc]
  by_cases q : u ≤ zsum n c * w
  · obtain ⟨x, hx⟩ := zlev_ex hn hc hw hu q
    rw [zLv_eq hi hx]
    have e : zsum n (fun k => min (c k * (g * w) * 60) (g * x)) = g * u * 60 := by
      have : zsum n (fun k => min (c k * (g * w) * 60) (g * x)) = zsum n (fun k => min (c k * w * 60) x * g) := zsum_congr (fun k _ => by
        rw [f, zmin_mul hg, Int.mul_comm])
      rw [this, zsum_mul, hx, Int.mul_comm, Int.mul_assoc]
    rw [zLv_eq hi e, f, zmin_mul hg]
  · rw [zLv_full (w := w) (u := u) hi (by omega), zLv_full hi (by
      rw [Int.mul_left_comm]
      exact Int.mul_le_mul_of_nonneg_left (by omega) hg), f]
theorem zAr_homg {n i : Nat} {c : Nat → Int} {w u g : Int} (hg : 0 < g) : zAr n c i (g * w) (g * u) = g * zAr n c i w u := by
  unfold zAr
  rw [Int.mul_comm g (zsum _ _), ← zsum_mul]
  refine zsum_congr (fun S hS => ?_)
  unfold zArt
  have e1 : zsub n c S * (g * w) = g * (zsub n c S * w) := by rw [Int.mul_left_comm]
  have e2 : c i * (g * w) = g * (c i * w) := by rw [Int.mul_left_comm]
  rw [e1, e2, ← Int.mul_sub]
  by_cases q : S.testBit i = false ∧ 0 < u - zsub n c S * w
  · rw [if_pos q, if_pos ⟨q.1, Int.mul_pos hg q.2⟩, zmin_mul (Int.le_of_lt hg)]
    simp only [Int.mul_assoc, Int.mul_comm, Int.mul_left_comm]
  · rw [if_neg q, if_neg (fun h => q ⟨h.1, zpos_of hg h.2⟩), Int.zero_mul]
theorem zGt_homg {r : Int} {n i : Nat} {c : Nat → Int} {w u g : Int} (hn : n ≤ 6) (hi : i < n) (hc : ∀ k, k < n → 0 ≤ c k) (hw : 0 ≤ w) (hu : 0 ≤ u ∧ u ≤ zsum n c * w) (hg : 0 < g) : zGt r n c i (g * w) (g * u) = g * zGt r n c i w u := by
  have e1 : zsum n c * (g * w) = g * (zsum n c * w) := by rw [Int.mul_left_comm]
  have e2 : c i * (g * w) = g * (c i * w) := by rw [Int.mul_left_comm]
  have hg0 := Int.le_of_lt hg
  have L := fun v (hv : 0 ≤ v) => zLv_homg (u := v) hn hi hc hw hv hg0
  have C : (g * u ≤ g * (zsum n c * w) - g * u) ↔ (u ≤ zsum n c * w - u) := by
    rw [← Int.mul_sub]
    exact ⟨fun h => Int.le_of_mul_le_mul_left h hg, fun h => Int.mul_le_mul_of_nonneg_left h hg0⟩
  unfold zGt
  rw [e1, e2]
  by_cases h0 : r = 0
  · rw [if_pos h0, if_pos h0, L u hu.1, Int.mul_left_comm]
  rw [if_neg h0, if_neg h0]
  by_cases h1 : r = 1
  · rw [if_pos h1, if_pos h1, ← Int.mul_sub, L _ (by omega), Int.mul_sub, Int.mul_left_comm g 2, Int.mul_assoc]
  rw [if_neg h1, if_neg h1]
  by_cases h2 : r = 2
  · rw [if_pos h2, if_pos h2, Int.mul_assoc]
  rw [if_neg h2, if_neg h2]
  by_cases h3 : r = 3
  · rw [if_pos h3, if_pos h3]
    by_cases q : u ≤ zsum n c * w - u
    · rw [if_pos (C.mpr q), if_pos q, Int.mul_left_comm, L _ (by omega)]
    · rw [if_neg (fun h => q (C.mp h)), if_neg q, ← Int.mul_sub, Int.mul_left_comm 2 g, L _ (by omega), Int.mul_sub g (c i * w * 120), Int.mul_assoc]
  rw [if_neg h3, if_neg h3]
  by_cases h4 : r = 4
  · rw [if_pos h4, if_pos h4]
    by_cases q : u ≤ zsum n c * w - u
    · rw [if_pos (C.mpr q), if_pos q, ← Int.mul_sub, ← Int.mul_sub, L _ (by omega), Int.mul_sub, Int.mul_assoc]
    · rw [if_neg (fun h => q (C.mp h)), if_neg q, ← Int.mul_sub, ← Int.mul_sub, L _ (by omega), Int.mul_add, Int.mul_assoc]
  rw [if_neg h4, if_neg h4, zAr_homg hg]
theorem zfac_sum : ∀ n, n < 7 → ∀ i, i < n → zsum (2 ^ n) (fun S => if S.testBit i = false then zfac (zpc S) * zfac (n - 1 - zpc S) else 0) = zfac n := by decide +kernel
theorem zGt_le {r : Int} {n i : Nat} {c : Nat → Int} {w u : Int} (hr : 0 ≤ r ∧ r ≤ 5) (hn : n ≤ 6) (hi : i < n) (h : ∀ i, i < n → 1 ≤ c i ∧ c i ≤ 60) (hw : 0 ≤ w) (hu : 0 ≤ u ∧ u ≤ zsum n c * w) : zGt r n c i w u ≤ c i * (zS r n c * w) := by
  have hc : ∀ k, k < n → 0 ≤ c k := fun k hk => by have := h k hk; omega
  have c1 := h i hi
  have cw : 0 ≤ c i * w := Int.mul_nonneg (by omega) hw
  have L := fun v hv => zLv_range (u := v) hn hi hc hw hv
  have e120 : c i * (120 * w) = 120 * (c i * w) := by rw [Int.mul_left_comm]
  unfold zGt zS
  by_cases h2 : r = 2
  · rw [if_neg (by omega), if_neg (by omega), if_pos h2, if_pos h2, Int.mul_comm u]
    exact Int.mul_le_mul_of_nonneg_left hu.2 (by omega)
  rw [if_neg h2, if_neg h2]
  by_cases h5 : r = 5
  · rw [if_neg (by omega), if_neg (by omega), if_neg (by omega), if_neg (by omega), if_pos h5]
    have e := zfac_sum n (by omega) i hi
    have m : zAr n c i w u ≤ zsum (2 ^ n) (fun S => (if S.testBit i = false then zfac (zpc S) * zfac (n - 1 - zpc S) else 0) * (c i * w)) := zsum_le (fun S hS => by
      unfold zArt
      by_cases q1 : S.testBit i = false
      · have hp := zpc_b n (by omega) S hS i hi q1
        have f1 := zfac_range (n := zpc S) (by omega)
        have f2 := zfac_range (n := n - 1 - zpc S) (by omega)
        have ff := Int.mul_nonneg (show 0 ≤ zfac (zpc S) by omega) (show 0 ≤ zfac (n - 1 - zpc S) by omega)
        rw [if_pos q1]
        by_cases q2 : 0 < u - zsub n c S * w
        · rw [if_pos ⟨q1, q2⟩, Int.mul_assoc, Int.mul_comm]
          exact Int.mul_le_mul_of_nonneg_left (by omega) ff
        · rw [if_neg (fun a => q2 a.2)]
          exact Int.mul_nonneg ff cw
      · rw [if_neg q1, if_neg (fun a => q1 a.1)]
        omega)
    rw [zsum_mul, e] at m
    rw [Int.mul_left_comm]
    exact m
  rw [if_neg h5, e120]
  by_cases h0 : r = 0
  · rw [if_pos h0]
    have := L u (by omega)
    omega
  rw [if_neg h0]
  by_cases h1 : r = 1
  · rw [if_pos h1]
    have := L (zsum n c * w - u) (by omega)
    omega
  rw [if_neg h1]
  split
  · split
    · have := L (2 * u) (by omega); omega
    · have := L (2 * (zsum n c * w - u)) (by omega); omega
  · split
    · split
      · have := L (zsum n c * w - u - u) (by omega); omega
      · have := L (u - (zsum n c * w - u)) (by omega); omega
    · omega
theorem zor_b : ∀ a, a < 64 → ∀ b, b < 64 → (Int32.ofInt ((a : Nat) : Int) ||| Int32.ofInt ((b : Nat) : Int)).toInt = ((a ||| b : Nat) : Int) := by decide +kernel
/-- what the first of two gets of what both get -/
def zc2 (c : Nat → Int) (i j : Nat) : Nat → Int := fun k => c (zpr i j k)
noncomputable def zTw (n : Nat) (c : Nat → Int) (e r : Int) (i j : Nat) : Int := zGt r 2 (zc2 c i j) 0 (zS r n c) (zGt r n c i 1 e + zGt r n c j 1 e)
theorem zc2_r {n i j : Nat} {c : Nat → Int} (hi : i < n) (hj : j < n) (h : ∀ i, i < n → 1 ≤ c i ∧ c i ≤ 60) : ∀ k, k < 2 → 1 ≤ zc2 c i j k ∧ zc2 c i j k ≤ 60 := fun k _ => by
  unfold zc2 zpr
  split
  · exact h i hi
  · exact h j hj
theorem zc2_s {c : Nat → Int} {i j : Nat} : zsum 2 (zc2 c i j) = c i + c j := by
  show 0 + c i + c j = c i + c j
  omega
theorem zTw_in {n i j : Nat} {c : Nat → Int} {e r : Int} (hr : 0 ≤ r ∧ r ≤ 5) (hn : n ≤ 6) (hi : i < n) (hj : j < n) (h : ∀ i, i < n → 1 ≤ c i ∧ c i ≤ 60) (he : 0 ≤ e ∧ e ≤ zsum n c) : 0 ≤ zGt r n c i 1 e + zGt r n c j 1 e ∧ zGt r n c i 1 e + zGt r n c j 1 e ≤ zsum 2 (zc2 c i j) * zS r n c := by
  have g1 := zGt_range (r := r) (w := 1) (u := e) hn hi h (by omega) (by omega)
  have g2 := zGt_range (r := r) (w := 1) (u := e) hn hj h (by omega) (by omega)
  have l1 := zGt_le (w := 1) (u := e) hr hn hi h (by omega) (by omega)
  have l2 := zGt_le (w := 1) (u := e) hr hn hj h (by omega) (by omega)
  rw [Int.mul_one] at l1 l2
  rw [zc2_s, Int.add_mul]
  omega
noncomputable def oAlone (n : Nat) (c : Nat → Int) (e r i j p : Int) : Int := if (0 ≤ r ∧ r < 6) ∧ (0 ≤ i ∧ i < n) ∧ (0 ≤ j ∧ j < n) ∧ i ≠ j ∧ (0 ≤ p ∧ p ≤ 1) ∧ (1 ≤ n ∧ e ≤ zsum n c) then zlow (zTw n c e r i.toNat j.toNat) (zS r 2 (zc2 c i.toNat j.toNat) * zS r n c) p else -9223372036854775808
set_option maxHeartbeats 4000000 in
theorem m_first2 {Z : zMem} {Q : Option zAV → zMem → Prop} {n : Nat} {c : Nat → Int} {e ρ : Int} (hC : zCl n c e ρ Z) {r : Int} {i j : Nat} (hr : 0 ≤ r ∧ r ≤ 5) (hi : i < n) (hj : j < n) (he : e ≤ zsum n c) (q1 : ∀ Z', zFq Z Z' → zG 13 2 (zc2 c i j) Z' → Q (some (zL (zTw n c e r i j))) Z') : zE 55 0 (zent 55 [zR 0, zI r, zI (i : Nat), zI (j : Nat)]) [] Z Q := by
  show zE 55 0 [some (zR 0), some (zI r), some (zI (i : Nat)), some (zI (j : Nat)), none, none, none] [] Z Q
  obtain ⟨hU0, hG0, n6, n0, cc, cr, ce, cρ, ceR, cρR, c11, c16⟩ := zCl_o hC
  have csr := zsum_range cr
  have hci := cr i hi
  have hcj := cr j hj
  have htw := zTw_in hr n6 hi hj cr ⟨ceR.1, he⟩
  have hss := zS_range (r := r) (n := n) (c := c) ⟨by omega, n6⟩ cr
  have gi := zGt_range (r := r) (w := 1) (u := e) n6 hi cr (by omega) (by omega)
  have gj := zGt_range (r := r) (w := 1) (u := e) n6 hj cr (by omega) (by omega)
  refine ze_aload_n kc_55_0 rfl ?_
  refine ze_getR kc_55_1 rfl rfl rfl ?_
  refine ze_getR kc_55_4 rfl rfl rfl ?_
  refine ze_astore kc_55_7 (Nat.le_of_ble_eq_true rfl) ?_
  simp only [zset1, zset2, zcut, List.set_cons_zero, List.set_cons_succ, List.getD_cons_zero, List.getD_cons_succ]
  refine ze_aload_n kc_55_9 rfl ?_
  refine ze_getR kc_55_10 rfl rfl rfl ?_
  refine zE_callv 1 kc_55_13 rfl rfl (Nat.le_of_ble_eq_true rfl) (Nat.le_of_ble_eq_true rfl) (Nat.le_of_ble_eq_true rfl) rfl (by decide +kernel) rfl ?_
  refine m_clear zgF_13 ?_
  simp only [Option.toList_some, Option.toList_none, List.drop_succ_cons, List.drop_zero, List.cons_append, List.nil_append]
  refine ze_aload_n kc_55_16 rfl ?_
  refine ze_getR kc_55_17 rfl rfl rfl ?_
  refine ze_aload kc_55_20 rfl ?_
  refine ze_getR kc_55_22 rfl rfl rfl ?_
  refine ze_iload_n kc_55_25 rfl ?_
  refine ze_iald kc_55_26 rfl (by omega) ?_
  rw [Int.toNat_natCast, zup_ne' (by decide), cc i hi]
  refine zE_callv 2 kc_55_27 rfl rfl (Nat.le_of_ble_eq_true rfl) (Nat.le_of_ble_eq_true rfl) (Nat.le_of_ble_eq_true rfl) rfl (by decide +kernel) rfl ?_
  refine m_add (c := zc2 c i j) (n := 0) zgF_13 (zG_empty zup_s (by rw [zup_ne' (by decide)]; exact c16)) (by decide) (by omega) (fun Z2 r1 r2 r3 r4 => ?_)
  simp only [Option.toList_some, Option.toList_none, List.drop_succ_cons, List.drop_zero, List.cons_append, List.nil_append]
  rw [show zext (zc2 c i j) 0 (c i) = zc2 c i j from zext_self (c := zc2 c i j) (k := 0)] at r1
  refine ze_aload_n kc_55_30 rfl ?_
  refine ze_getR kc_55_31 rfl rfl rfl ?_
  refine ze_aload kc_55_34 rfl ?_
  refine ze_getR kc_55_36 rfl rfl rfl ?_
  refine ze_iload_n kc_55_39 rfl ?_
  refine ze_iald kc_55_40 rfl (by omega) ?_
  rw [Int.toNat_natCast, r2 3 (by decide), zup_ne' (by decide), cc j hj]
  refine zE_callv 2 kc_55_41 rfl rfl (Nat.le_of_ble_eq_true rfl) (Nat.le_of_ble_eq_true rfl) (Nat.le_of_ble_eq_true rfl) rfl (by decide +kernel) rfl ?_
  refine m_add (c := zc2 c i j) (n := 1) zgF_13 r1 (by decide) (by omega) (fun Z3 s1 s2 s3 s4 => ?_)
  simp only [Option.toList_some, Option.toList_none, List.drop_succ_cons, List.drop_zero, List.cons_append, List.nil_append]
  rw [show zext (zc2 c i j) 1 (c j) = zc2 c i j from zext_self (c := zc2 c i j) (k := 1)] at s1
  have hfr : ∀ k, k < 13 ∨ 16 < k → Z3 k = Z k := fun k hk => by rw [s2 k hk, r2 k hk, zup_ne' (by omega)]
  have hG3 : zG 2 n c Z3 := zG_same hG0 (fun k a b => hfr k (by omega))
  refine ze_aload kc_55_44 rfl ?_
  refine ze_iload_n kc_55_46 rfl ?_
  refine ze_iload_n kc_55_47 rfl ?_
  refine ze_aload_n kc_55_48 rfl ?_
  refine ze_getR kc_55_49 rfl rfl rfl ?_
  refine ze_getI kc_55_52 rfl (by decide) ?_
  rw [hfr 1 (by decide), ce]
  refine ze_i2l kc_55_55 (by omega) ?_
  refine ze_lconst1 kc_55_56 ?_
  refine zE_callv 5 kc_55_57 rfl rfl (Nat.le_of_ble_eq_true rfl) (Nat.le_of_ble_eq_true rfl) (Nat.le_of_ble_eq_true rfl) rfl (by decide +kernel) rfl ?_
  refine m_gets zgF_2 hG3 hi hr (by omega) (by omega) ?_
  simp only [Option.toList_some, Option.toList_none, List.drop_succ_cons, List.drop_zero, List.cons_append, List.nil_append]
  refine ze_aload kc_55_60 rfl ?_
  refine ze_iload_n kc_55_62 rfl ?_
  refine ze_iload_n kc_55_63 rfl ?_
  refine ze_aload_n kc_55_64 rfl ?_
  refine ze_getR kc_55_65 rfl rfl rfl ?_
  refine ze_getI kc_55_68 rfl (by decide) ?_
  rw [hfr 1 (by decide), ce]
  refine ze_i2l kc_55_71 (by omega) ?_
  refine ze_lconst1 kc_55_72 ?_
  refine zE_callv 5 kc_55_73 rfl rfl (Nat.le_of_ble_eq_true rfl) (Nat.le_of_ble_eq_true rfl) (Nat.le_of_ble_eq_true rfl) rfl (by decide +kernel) rfl ?_
  refine m_gets zgF_2 hG3 hj hr (by omega) (by omega) ?_
  simp only [Option.toList_some, Option.toList_none, List.drop_succ_cons, List.drop_zero, List.cons_append, List.nil_append]
  refine ze_ladd kc_55_76 ?_
  refine ze_lstore kc_55_77 (Nat.le_of_ble_eq_true rfl) ?_
  simp only [zset1, zset2, zcut, List.set_cons_zero, List.set_cons_succ, List.getD_cons_zero, List.getD_cons_succ]
  refine ze_aload_n kc_55_79 rfl ?_
  refine ze_getR kc_55_80 rfl rfl rfl ?_
  refine ze_iload_n kc_55_83 rfl ?_
  refine ze_iconst kc_55_84 ?_
  refine ze_lload kc_55_85 rfl ?_
  refine ze_aload kc_55_87 rfl ?_
  refine ze_iload_n kc_55_89 rfl ?_
  refine zE_callv 2 kc_55_90 rfl rfl (Nat.le_of_ble_eq_true rfl) (Nat.le_of_ble_eq_true rfl) (Nat.le_of_ble_eq_true rfl) rfl (by decide +kernel) rfl ?_
  refine m_scale zgF_2 hG3 hr ?_
  simp only [Option.toList_some, Option.toList_none, List.drop_succ_cons, List.drop_zero, List.cons_append, List.nil_append]
  refine zE_callv 5 kc_55_93 rfl rfl (Nat.le_of_ble_eq_true rfl) (Nat.le_of_ble_eq_true rfl) (Nat.le_of_ble_eq_true rfl) rfl (by decide +kernel) rfl ?_
  refine m_gets (i := 0) (c := zc2 c i j) zgF_13 s1 (by decide) hr (by omega) (by omega) ?_
  simp only [Option.toList_some, Option.toList_none, List.drop_succ_cons, List.drop_zero, List.cons_append, List.nil_append]
  refine ze_lreturn kc_55_96 ?_
  exact q1 _ ⟨fun k a b d f g => hfr k (by omega), fun k _ _ _ _ _ => by rw [hfr 63 (by decide)], fun a => by rw [hfr 11 (by decide)]; exact a, fun _ => zG_z s1⟩ s1

set_option maxHeartbeats 4000000 in
theorem m_aloneX {Z : zMem} {Q : Option zAV → zMem → Prop} {n : Nat} {c : Nat → Int} {e ρ : Int} (hC : zCl n c e ρ Z) {r i j p : Int} (hr : -2147483648 ≤ r ∧ r ≤ 2147483647) (hi : -2147483648 ≤ i ∧ i ≤ 2147483647) (hj : -2147483648 ≤ j ∧ j ≤ 2147483647) (hp : -2147483648 ≤ p ∧ p ≤ 2147483647) (q1 : ∀ Z', zFq Z Z' → Q (some (zL (oAlone n c e r i j p))) Z') : zE 54 0 (zent 54 [zR 0, zI r, zI i, zI j, zI p]) [] Z Q := by
  show zE 54 0 [some (zR 0), some (zI r), some (zI i), some (zI j), some (zI p), none, none] [] Z Q
  obtain ⟨hU0, hG0, n6, n0, cc, cr, ce, cρ, ceR, cρR, c11, c16⟩ := zCl_o hC
  have csr := zsum_range cr
  refine ze_iload_n kc_54_0 rfl ?_
  refine zE_calls 1 kc_54_1 rfl rfl (Nat.le_of_ble_eq_true rfl) (Nat.le_of_ble_eq_true rfl) (Nat.le_of_ble_eq_true rfl) rfl ?_
  refine m_isRule (by omega) (fun g1 => ?_) (fun g1 => ?_)
  · simp only [Option.toList_some, Option.toList_none, List.drop_succ_cons, List.drop_zero, List.cons_append, List.nil_append]
    refine ze_if_eq kc_54_4 (by decide) (fun q => absurd q (by decide)) (fun _ => ?_)
    refine ze_aload_n kc_54_7 rfl ?_
    refine ze_getR kc_54_8 rfl rfl rfl ?_
    refine ze_getR kc_54_11 rfl rfl rfl ?_
    refine ze_iload_n kc_54_14 rfl ?_
    refine zE_callv 2 kc_54_15 rfl rfl (Nat.le_of_ble_eq_true rfl) (Nat.le_of_ble_eq_true rfl) (Nat.le_of_ble_eq_true rfl) rfl (by decide +kernel) rfl ?_
    refine m_has zgF_2 (by omega) (by omega) (fun g15 => ?_) (fun g15 => ?_)
    · simp only [Option.toList_some, Option.toList_none, List.drop_succ_cons, List.drop_zero, List.cons_append, List.nil_append]
      refine ze_if_eq kc_54_18 (by decide) (fun q => absurd q (by decide)) (fun _ => ?_)
      refine ze_aload_n kc_54_21 rfl ?_
      refine ze_getR kc_54_22 rfl rfl rfl ?_
      refine ze_getR kc_54_25 rfl rfl rfl ?_
      refine ze_iload_n kc_54_28 rfl ?_
      refine zE_callv 2 kc_54_29 rfl rfl (Nat.le_of_ble_eq_true rfl) (Nat.le_of_ble_eq_true rfl) (Nat.le_of_ble_eq_true rfl) rfl (by decide +kernel) rfl ?_
      refine m_has zgF_2 (by omega) (by omega) (fun g29 => ?_) (fun g29 => ?_)
      · simp only [Option.toList_some, Option.toList_none, List.drop_succ_cons, List.drop_zero, List.cons_append, List.nil_append]
        refine ze_if_eq kc_54_32 (by decide) (fun q => absurd q (by decide)) (fun _ => ?_)
        refine ze_iload_n kc_54_35 rfl ?_
        refine ze_iload_n kc_54_36 rfl ?_
        refine ze_icmp_ne kc_54_37 (by omega) (by omega) (fun h37 => ?_) (fun h37 => ?_)
        · skip
          refine ze_iload kc_54_44 rfl ?_
          refine zE_calls 1 kc_54_46 rfl rfl (Nat.le_of_ble_eq_true rfl) (Nat.le_of_ble_eq_true rfl) (Nat.le_of_ble_eq_true rfl) rfl ?_
          refine m_isPart (by omega) (fun g46 => ?_) (fun g46 => ?_)
          · simp only [Option.toList_some, Option.toList_none, List.drop_succ_cons, List.drop_zero, List.cons_append, List.nil_append]
            refine ze_if_eq kc_54_49 (by decide) (fun q => absurd q (by decide)) (fun _ => ?_)
            refine ze_aload_n kc_54_52 rfl ?_
            refine ze_getR kc_54_53 rfl rfl rfl ?_
            refine zE_callv 1 kc_54_56 rfl rfl (Nat.le_of_ble_eq_true rfl) (Nat.le_of_ble_eq_true rfl) (Nat.le_of_ble_eq_true rfl) rfl (by decide +kernel) rfl ?_
            refine m_ready zsF_1 hU0 (fun g56 => ?_) (fun g56 => ?_)
            · simp only [Option.toList_some, Option.toList_none, List.drop_succ_cons, List.drop_zero, List.cons_append, List.nil_append]
              refine ze_if_ne kc_54_59 (by decide) (fun _ => ?_) (fun q => absurd q (by decide))
              obtain ⟨κ, rfl⟩ := Int.eq_ofNat_of_zero_le (show 0 ≤ i by omega)
              obtain ⟨ν, rfl⟩ := Int.eq_ofNat_of_zero_le (show 0 ≤ j by omega)
              have hκ : κ < n := by omega
              have hν : ν < n := by omega
              have htw := zTw_in (r := r) (e := e) (by omega) n6 hκ hν cr ⟨by omega, by omega⟩
              have hss := zS_range (r := r) (n := n) (c := c) ⟨by omega, n6⟩ cr
              have hs2 := zS_range (r := r) (n := 2) (c := zc2 c κ ν) (by decide) (zc2_r hκ hν cr)
              have hsm := zmb (a := zS r 2 (zc2 c κ ν)) (b := zS r n c) (A := 720) (B := 720) (by omega) (by omega)
              have hsp := Int.mul_pos (show 0 < zS r 2 (zc2 c κ ν) by omega) (show 0 < zS r n c by omega)
              have hgt := zGt_range (r := r) (i := 0) (w := zS r n c) (by decide) (by decide) (zc2_r hκ hν cr) (by omega) htw
              have hgt2 : 0 ≤ zTw n c e r κ ν ∧ zTw n c e r κ ν ≤ 2147483648 * zS r n c := hgt
              refine ze_aload_n kc_54_66 rfl ?_
              refine ze_iload_n kc_54_67 rfl ?_
              refine ze_iload_n kc_54_68 rfl ?_
              refine ze_iload_n kc_54_69 rfl ?_
              refine zE_callv 4 kc_54_70 rfl rfl (Nat.le_of_ble_eq_true rfl) (Nat.le_of_ble_eq_true rfl) (Nat.le_of_ble_eq_true rfl) rfl (by decide +kernel) rfl ?_
              refine m_first2 hC (by omega) hκ hν (by omega) (fun Z2 f1 f2 => ?_)
              simp only [Option.toList_some, Option.toList_none, List.drop_succ_cons, List.drop_zero, List.cons_append, List.nil_append]
              refine ze_lstore kc_54_73 (Nat.le_of_ble_eq_true rfl) ?_
              simp only [zset1, zset2, zcut, List.set_cons_zero, List.set_cons_succ, List.getD_cons_zero, List.getD_cons_succ]
              refine ze_lload kc_54_75 rfl ?_
              refine ze_aload_n kc_54_77 rfl ?_
              refine ze_getR kc_54_78 rfl rfl rfl ?_
              refine ze_iload_n kc_54_81 rfl ?_
              refine zE_callv 2 kc_54_82 rfl rfl (Nat.le_of_ble_eq_true rfl) (Nat.le_of_ble_eq_true rfl) (Nat.le_of_ble_eq_true rfl) rfl (by decide +kernel) rfl ?_
              refine m_scale zgF_13 f2 (by omega) ?_
              simp only [Option.toList_some, Option.toList_none, List.drop_succ_cons, List.drop_zero, List.cons_append, List.nil_append]
              refine ze_aload_n kc_54_85 rfl ?_
              refine ze_getR kc_54_86 rfl rfl rfl ?_
              refine ze_getR kc_54_89 rfl rfl rfl ?_
              refine ze_iload_n kc_54_92 rfl ?_
              refine zE_callv 2 kc_54_93 rfl rfl (Nat.le_of_ble_eq_true rfl) (Nat.le_of_ble_eq_true rfl) (Nat.le_of_ble_eq_true rfl) rfl (by decide +kernel) rfl ?_
              refine m_scale zgF_2 (zCl_o (zCl_q hC f1)).2.1 (by omega) ?_
              simp only [Option.toList_some, Option.toList_none, List.drop_succ_cons, List.drop_zero, List.cons_append, List.nil_append]
              refine ze_lmul kc_54_96 ?_
              refine ze_iload kc_54_97 rfl ?_
              refine zE_calls 3 kc_54_99 rfl rfl (Nat.le_of_ble_eq_true rfl) (Nat.le_of_ble_eq_true rfl) (Nat.le_of_ble_eq_true rfl) rfl ?_
              refine m_low (by omega) (by omega) (by omega) ?_
              simp only [Option.toList_some, Option.toList_none, List.drop_succ_cons, List.drop_zero, List.cons_append, List.nil_append]
              refine ze_lreturn kc_54_102 ?_
              rw [show oAlone n c e r κ ν p = _ from if_pos (by omega)] at q1
              exact q1 _ f1
            · simp only [Option.toList_some, Option.toList_none, List.drop_succ_cons, List.drop_zero, List.cons_append, List.nil_append]
              refine ze_if_ne kc_54_59 (by decide) (fun q => absurd q (by decide)) (fun _ => ?_)
              refine ze_ldc2L kc_54_62 ?_
              refine ze_lreturn kc_54_65 ?_
              rw [show oAlone n c e r i j p = -9223372036854775808 from if_neg (by omega)] at q1
              exact q1 _ zFq_refl
          · simp only [Option.toList_some, Option.toList_none, List.drop_succ_cons, List.drop_zero, List.cons_append, List.nil_append]
            refine ze_if_eq kc_54_49 (by decide) (fun _ => ?_) (fun q => absurd q (by decide))
            refine ze_ldc2L kc_54_62 ?_
            refine ze_lreturn kc_54_65 ?_
            rw [show oAlone n c e r i j p = -9223372036854775808 from if_neg (by omega)] at q1
            exact q1 _ zFq_refl
        · skip
          refine ze_ldc2L kc_54_40 ?_
          refine ze_lreturn kc_54_43 ?_
          rw [show oAlone n c e r i j p = -9223372036854775808 from if_neg (by omega)] at q1
          exact q1 _ zFq_refl
      · simp only [Option.toList_some, Option.toList_none, List.drop_succ_cons, List.drop_zero, List.cons_append, List.nil_append]
        refine ze_if_eq kc_54_32 (by decide) (fun _ => ?_) (fun q => absurd q (by decide))
        refine ze_ldc2L kc_54_40 ?_
        refine ze_lreturn kc_54_43 ?_
        rw [show oAlone n c e r i j p = -9223372036854775808 from if_neg (by omega)] at q1
        exact q1 _ zFq_refl
    · simp only [Option.toList_some, Option.toList_none, List.drop_succ_cons, List.drop_zero, List.cons_append, List.nil_append]
      refine ze_if_eq kc_54_18 (by decide) (fun _ => ?_) (fun q => absurd q (by decide))
      refine ze_ldc2L kc_54_40 ?_
      refine ze_lreturn kc_54_43 ?_
      rw [show oAlone n c e r i j p = -9223372036854775808 from if_neg (by omega)] at q1
      exact q1 _ zFq_refl
  · simp only [Option.toList_some, Option.toList_none, List.drop_succ_cons, List.drop_zero, List.cons_append, List.nil_append]
    refine ze_if_eq kc_54_4 (by decide) (fun _ => ?_) (fun q => absurd q (by decide))
    refine ze_ldc2L kc_54_40 ?_
    refine ze_lreturn kc_54_43 ?_
    rw [show oAlone n c e r i j p = -9223372036854775808 from if_neg (by omega)] at q1
    exact q1 _ zFq_refl

set_option maxHeartbeats 8000000 in
theorem m_aloneOf {Z : zMem} {Q : Option zAV → zMem → Prop} {n : Nat} {c : Nat → Int} {e ρ : Int} (hM : zMo n c e ρ Z) {r : Int} {i j : Nat} (hr : 0 ≤ r ∧ r ≤ 5) (hi : i < n) (hj : j < n) (he : e ≤ zsum n c) (hij : i ≠ j) (q1 : ∀ Z', zFm Z Z' → Z' 63 18 = zlow (zTw n c e r i j) (zS r 2 (zc2 c i j) * zS r n c) 0 → Z' 63 19 = zlow (zTw n c e r i j) (zS r 2 (zc2 c i j) * zS r n c) 1 → Q none Z') : zE 130 0 (zent 130 [zR 63, zI r, zI (i : Nat), zI (j : Nat)]) [] Z Q := by
  show zE 130 0 [some (zR 63), some (zI r), some (zI (i : Nat)), some (zI (j : Nat)), none, none, none, none] [] Z Q
  have hM0 := hM
  obtain ⟨n0, n6, mc, mr, me, mρ, meR, mρR⟩ := hM
  have msr := zsum_range mr
  have hp6 := zpow6 n6
  have htw := zTw_in (r := r) (e := e) (by omega) n6 hi hj mr ⟨by omega, by omega⟩
  have hss := zS_range (r := r) (n := n) (c := c) ⟨by omega, n6⟩ mr
  have hs2 := zS_range (r := r) (n := 2) (c := zc2 c i j) (by decide) (zc2_r hi hj mr)
  have hsm := zmb (a := zS r 2 (zc2 c i j)) (b := zS r n c) (A := 720) (B := 720) (by omega) (by omega)
  have hsp := Int.mul_pos (show 0 < zS r 2 (zc2 c i j) by omega) (show 0 < zS r n c by omega)
  have hgt := zGt_range (r := r) (i := 0) (w := zS r n c) (by decide) (by decide) (zc2_r hi hj mr) (by omega) htw
  have hgt2 : 0 ≤ zTw n c e r i j ∧ zTw n c e r i j ≤ 2147483648 * zS r n c := hgt
  have hlpi := zlow_p (a := zGt r n c i 1 e) (b := zS r n c) (by omega)
  have gi := zGt_range (r := r) (i := i) (w := 1) (u := e) n6 hi mr (by omega) (by omega)
  have hlqi := hlpi.2.2.2 gi.1
  have hlpj := zlow_p (a := zGt r n c j 1 e) (b := zS r n c) (by omega)
  have gj := zGt_range (r := r) (i := j) (w := 1) (u := e) n6 hj mr (by omega) (by omega)
  have hlqj := hlpj.2.2.2 gj.1
  refine ze_aload_n kc_130_0 rfl ?_
  refine ze_iload_n kc_130_1 rfl ?_
  refine ze_iload_n kc_130_2 rfl ?_
  refine zE_callv 3 kc_130_3 rfl rfl (Nat.le_of_ble_eq_true rfl) (Nat.le_of_ble_eq_true rfl) (Nat.le_of_ble_eq_true rfl) rfl (by decide +kernel) rfl ?_
  refine m_awardOf hM0 hr hi he (fun Z2 f1 f2 f3 => ?_)
  simp only [Option.toList_some, Option.toList_none, List.drop_succ_cons, List.drop_zero, List.cons_append, List.nil_append]
  refine ze_aload_n kc_130_6 rfl ?_
  refine ze_getL kc_130_7 rfl rfl ?_
  rw [f2]
  refine ze_lstore kc_130_10 (Nat.le_of_ble_eq_true rfl) ?_
  simp only [zset1, zset2, zcut, List.set_cons_zero, List.set_cons_succ, List.getD_cons_zero, List.getD_cons_succ]
  refine ze_aload_n kc_130_12 rfl ?_
  refine ze_getL kc_130_13 rfl rfl ?_
  rw [f3]
  refine ze_lstore kc_130_16 (Nat.le_of_ble_eq_true rfl) ?_
  simp only [zset1, zset2, zcut, List.set_cons_zero, List.set_cons_succ, List.getD_cons_zero, List.getD_cons_succ]
  refine ze_aload_n kc_130_18 rfl ?_
  refine ze_iload_n kc_130_19 rfl ?_
  refine ze_iload_n kc_130_20 rfl ?_
  refine zE_callv 3 kc_130_21 rfl rfl (Nat.le_of_ble_eq_true rfl) (Nat.le_of_ble_eq_true rfl) (Nat.le_of_ble_eq_true rfl) rfl (by decide +kernel) rfl ?_
  refine m_awardOf (zMo_fm hM0 f1) hr hj he (fun Z3 k1 k2 k3 => ?_)
  simp only [Option.toList_some, Option.toList_none, List.drop_succ_cons, List.drop_zero, List.cons_append, List.nil_append]
  refine ze_aload_n kc_130_24 rfl ?_
  refine ze_lload kc_130_25 rfl ?_
  refine ze_aload_n kc_130_27 rfl ?_
  refine ze_getL kc_130_28 rfl rfl ?_
  rw [k3]
  refine ze_lmul kc_130_31 ?_
  refine ze_aload_n kc_130_32 rfl ?_
  refine ze_getL kc_130_33 rfl rfl ?_
  rw [k2]
  refine ze_lload kc_130_36 rfl ?_
  refine ze_lmul kc_130_38 ?_
  refine ze_ladd kc_130_39 ?_
  refine ze_lload kc_130_40 rfl ?_
  refine ze_aload_n kc_130_42 rfl ?_
  refine ze_getL kc_130_43 rfl rfl ?_
  rw [k3]
  refine ze_lmul kc_130_46 ?_
  have b1 := zmb (a := zlow (zGt r n c i 1 e) (zS r n c) 0) (b := zlow (zGt r n c j 1 e) (zS r n c) 1) (A := 2147483648) (B := 720) (by omega) (by omega)
  have b2 := zmb (a := zlow (zGt r n c j 1 e) (zS r n c) 0) (b := zlow (zGt r n c i 1 e) (zS r n c) 1) (A := 2147483648) (B := 720) (by omega) (by omega)
  have b3 := zmb (a := zlow (zGt r n c i 1 e) (zS r n c) 1) (b := zlow (zGt r n c j 1 e) (zS r n c) 1) (A := 720) (B := 720) (by omega) (by omega)
  have b4 := Int.mul_pos hlpi.1 hlpj.1
  have eS : ∀ p, zlow (zlow (zGt r n c i 1 e) (zS r n c) 0 * zlow (zGt r n c j 1 e) (zS r n c) 1 + zlow (zGt r n c j 1 e) (zS r n c) 0 * zlow (zGt r n c i 1 e) (zS r n c) 1) (zlow (zGt r n c i 1 e) (zS r n c) 1 * zlow (zGt r n c j 1 e) (zS r n c) 1) p = zlow (zGt r n c i 1 e + zGt r n c j 1 e) (zS r n c) p := fun p => zlow_eq b4 (by omega) (by
    have a1 := hlpi.2.2.1
    have a2 := hlpj.2.2.1
    generalize zlow (zGt r n c i 1 e) (zS r n c) 0 = x at *
    generalize zlow (zGt r n c j 1 e) (zS r n c) 0 = y at *
    generalize zlow (zGt r n c i 1 e) (zS r n c) 1 = x1 at *
    generalize zlow (zGt r n c j 1 e) (zS r n c) 1 = y1 at *
    rw [Int.add_mul, Int.add_mul, Int.mul_right_comm x, a1, Int.mul_right_comm y, a2]
    simp only [Int.mul_assoc, Int.mul_comm, Int.mul_left_comm]) p
  refine zE_callv 3 kc_130_47 rfl rfl (Nat.le_of_ble_eq_true rfl) (Nat.le_of_ble_eq_true rfl) (Nat.le_of_ble_eq_true rfl) rfl (by decide +kernel) rfl ?_
  refine m_fraction (by omega) (by omega) ?_
  simp only [Option.toList_some, Option.toList_none, List.drop_succ_cons, List.drop_zero, List.cons_append, List.nil_append]
  refine ze_aload_n kc_130_50 rfl ?_
  refine ze_iload_n kc_130_51 rfl ?_
  refine ze_iconst kc_130_52 ?_
  refine ze_iload_n kc_130_53 rfl ?_
  skip
  refine ze_ishl kc_130_54 ?_
  rw [zshl1 (by omega)]
  refine ze_iconst kc_130_55 ?_
  refine ze_iload_n kc_130_56 rfl ?_
  refine ze_ishl kc_130_57 ?_
  rw [zshl1 (by omega)]
  refine ze_ior kc_130_58 ?_
  rw [zor_b _ (by have := zpow_b 6 (by decide) i (by omega); omega) _ (by have := zpow_b 6 (by decide) j (by omega); omega)]
  refine ze_aload_n kc_130_59 rfl ?_
  refine ze_getL kc_130_60 rfl rfl ?_
  rw [zup_o (by decide), zup_s, eS]
  refine ze_aload_n kc_130_63 rfl ?_
  refine ze_getL kc_130_64 rfl rfl ?_
  rw [zup_s, eS]
  have hf5 : zFm Z (zup (zup Z3 63 18 (zlow (zGt r n c i 1 e + zGt r n c j 1 e) (zS r n c) 0)) 63 19 (zlow (zGt r n c i 1 e + zGt r n c j 1 e) (zS r n c) 1)) := zFm_up (zFm_up (zFm_trans f1 k1) (by omega)) (by omega)
  have hlS := zlow_p (a := zGt r n c i 1 e + zGt r n c j 1 e) (b := zS r n c) (by omega)
  have hy0 := (hlS.2.2.2 htw.1).1
  have hx0 : zlow (zGt r n c i 1 e + zGt r n c j 1 e) (zS r n c) 0 ≤ zsum 2 (fun k => c (zpr i j k)) * zlow (zGt r n c i 1 e + zGt r n c j 1 e) (zS r n c) 1 := by
    have q1 := Int.mul_le_mul_of_nonneg_right htw.2 (Int.le_of_lt hlS.1)
    rw [← hlS.2.2.1, Int.mul_right_comm] at q1
    exact Int.le_of_mul_le_mul_right q1 (by omega)
  refine ze_iload_n kc_130_67 rfl ?_
  refine zE_callv 6 kc_130_68 rfl rfl (Nat.le_of_ble_eq_true rfl) (Nat.le_of_ble_eq_true rfl) (Nat.le_of_ble_eq_true rfl) rfl (by decide +kernel) rfl ?_
  refine m_awards (zMo_fm hM0 hf5) (zEn_pair n6 hi hj hij) hr (by omega) ⟨hy0, hx0⟩ (fun Z5 l1 l2 l3 => ?_)
  simp only [Option.toList_some, Option.toList_none, List.drop_succ_cons, List.drop_zero, List.cons_append, List.nil_append]
  refine ze_return kc_130_71 ?_
  have hh := zGt_homg (r := r) (n := 2) (i := 0) (c := zc2 c i j) (w := zlow (zGt r n c i 1 e + zGt r n c j 1 e) (zS r n c) 1) (u := zlow (zGt r n c i 1 e + zGt r n c j 1 e) (zS r n c) 0) (g := (Int.gcd (zGt r n c i 1 e + zGt r n c j 1 e) (zS r n c) : Nat)) (by decide) (by decide) (fun k hk => by have := zc2_r hi hj mr k hk; omega) (Int.le_of_lt hlS.1) ⟨hy0, hx0⟩ (by have := Int.gcd_pos_of_ne_zero_right (zGt r n c i 1 e + zGt r n c j 1 e) (show zS r n c ≠ 0 by omega); omega)
  obtain ⟨g, x, y, g0, y0, g1, hx, hy, h0, h1⟩ := zlow_c (a := zGt r n c i 1 e + zGt r n c j 1 e) (b := zS r n c) (by omega)
  rw [← g1, h0, h1 1 (by decide), ← hx, ← hy] at hh
  have eq : ∀ p, zlow (zGt r 2 (zc2 c i j) 0 y x) (zS r 2 (zc2 c i j) * y) p = zlow (zTw n c e r i j) (zS r 2 (zc2 c i j) * zS r n c) p := fun p => zlow_eq (Int.mul_pos (by omega) y0) hsp (by
    rw [show zTw n c e r i j = g * zGt r 2 (zc2 c i j) 0 y x from hh]
    generalize zGt r 2 (zc2 c i j) 0 y x = X
    rw [hy]
    simp only [Int.mul_assoc, Int.mul_comm, Int.mul_left_comm]) p
  rw [h0, h1 1 (by decide)] at l2 l3
  exact q1 _ (zFm_trans hf5 l1) (l2.trans (eq 0)) (l3.trans (eq 1))

set_option maxHeartbeats 4000000 in
theorem m_aloneM {Z : zMem} {Q : Option zAV → zMem → Prop} {n : Nat} {c : Nat → Int} {e ρ : Int} (hM : zMo n c e ρ Z) {r i j p : Int} (hr : -2147483648 ≤ r ∧ r ≤ 2147483647) (hi : -2147483648 ≤ i ∧ i ≤ 2147483647) (hj : -2147483648 ≤ j ∧ j ≤ 2147483647) (hp : -2147483648 ≤ p ∧ p ≤ 2147483647) (q1 : ∀ Z', zFq Z Z' → Q (some (zL (oAlone n c e r i j p))) Z') : zE 131 0 (zent 131 [zR 63, zI r, zI i, zI j, zI p]) [] Z Q := by
  show zE 131 0 [some (zR 63), some (zI r), some (zI i), some (zI j), some (zI p)] [] Z Q
  have hM0 := hM
  obtain ⟨n0, n6, mc, mr, me, mρ, meR, mρR⟩ := hM
  have msr := zsum_range mr
  have hp6 := zpow6 n6
  refine ze_iload_n kc_131_0 rfl ?_
  refine zE_calls 1 kc_131_1 rfl rfl (Nat.le_of_ble_eq_true rfl) (Nat.le_of_ble_eq_true rfl) (Nat.le_of_ble_eq_true rfl) rfl ?_
  refine m_isRuleM (by omega) (fun g1 => ?_) (fun g1 => ?_)
  · simp only [Option.toList_some, Option.toList_none, List.drop_succ_cons, List.drop_zero, List.cons_append, List.nil_append]
    refine ze_if_eq kc_131_4 (by decide) (fun q => absurd q (by decide)) (fun _ => ?_)
    refine ze_aload_n kc_131_7 rfl ?_
    refine ze_iload_n kc_131_8 rfl ?_
    refine zE_callv 2 kc_131_9 rfl rfl (Nat.le_of_ble_eq_true rfl) (Nat.le_of_ble_eq_true rfl) (Nat.le_of_ble_eq_true rfl) rfl (by decide +kernel) rfl ?_
    refine m_isOne hM0 (by omega) (fun g9 => ?_) (fun g9 => ?_)
    · simp only [Option.toList_some, Option.toList_none, List.drop_succ_cons, List.drop_zero, List.cons_append, List.nil_append]
      refine ze_if_eq kc_131_12 (by decide) (fun q => absurd q (by decide)) (fun _ => ?_)
      refine ze_aload_n kc_131_15 rfl ?_
      refine ze_iload_n kc_131_16 rfl ?_
      refine zE_callv 2 kc_131_17 rfl rfl (Nat.le_of_ble_eq_true rfl) (Nat.le_of_ble_eq_true rfl) (Nat.le_of_ble_eq_true rfl) rfl (by decide +kernel) rfl ?_
      refine m_isOne hM0 (by omega) (fun g17 => ?_) (fun g17 => ?_)
      · simp only [Option.toList_some, Option.toList_none, List.drop_succ_cons, List.drop_zero, List.cons_append, List.nil_append]
        refine ze_if_eq kc_131_20 (by decide) (fun q => absurd q (by decide)) (fun _ => ?_)
        refine ze_iload_n kc_131_23 rfl ?_
        refine ze_iload_n kc_131_24 rfl ?_
        refine ze_icmp_eq kc_131_25 (by omega) (by omega) (fun h25 => ?_) (fun h25 => ?_)
        · skip
          refine ze_ldc2L kc_131_43 ?_
          refine ze_lreturn kc_131_46 ?_
          rw [show oAlone n c e r i j p = -9223372036854775808 from if_neg (by omega)] at q1
          exact q1 _ zFq_refl
        · skip
          refine ze_iload kc_131_28 rfl ?_
          refine zE_calls 1 kc_131_30 rfl rfl (Nat.le_of_ble_eq_true rfl) (Nat.le_of_ble_eq_true rfl) (Nat.le_of_ble_eq_true rfl) rfl ?_
          refine m_isPartM (by omega) (fun g30 => ?_) (fun g30 => ?_)
          · simp only [Option.toList_some, Option.toList_none, List.drop_succ_cons, List.drop_zero, List.cons_append, List.nil_append]
            refine ze_if_eq kc_131_33 (by decide) (fun q => absurd q (by decide)) (fun _ => ?_)
            refine ze_aload_n kc_131_36 rfl ?_
            refine zE_callv 1 kc_131_37 rfl rfl (Nat.le_of_ble_eq_true rfl) (Nat.le_of_ble_eq_true rfl) (Nat.le_of_ble_eq_true rfl) rfl (by decide +kernel) rfl ?_
            refine m_readyM hM0 (fun g37 => ?_) (fun g37 => ?_)
            · simp only [Option.toList_some, Option.toList_none, List.drop_succ_cons, List.drop_zero, List.cons_append, List.nil_append]
              refine ze_if_ne kc_131_40 (by decide) (fun _ => ?_) (fun q => absurd q (by decide))
              obtain ⟨κ, rfl⟩ := Int.eq_ofNat_of_zero_le (show 0 ≤ i by omega)
              obtain ⟨ν, rfl⟩ := Int.eq_ofNat_of_zero_le (show 0 ≤ j by omega)
              have hκ : κ < n := by omega
              have hν : ν < n := by omega
              refine ze_aload_n kc_131_47 rfl ?_
              refine ze_iload_n kc_131_48 rfl ?_
              refine ze_iload_n kc_131_49 rfl ?_
              refine ze_iload_n kc_131_50 rfl ?_
              refine zE_callv 4 kc_131_51 rfl rfl (Nat.le_of_ble_eq_true rfl) (Nat.le_of_ble_eq_true rfl) (Nat.le_of_ble_eq_true rfl) rfl (by decide +kernel) rfl ?_
              refine m_aloneOf hM0 (by omega) hκ hν (by omega) (by omega) (fun Z2 f1 f2 f3 => ?_)
              simp only [Option.toList_some, Option.toList_none, List.drop_succ_cons, List.drop_zero, List.cons_append, List.nil_append]
              refine ze_aload_n kc_131_54 rfl ?_
              refine ze_iload kc_131_55 rfl ?_
              refine zE_callv 2 kc_131_57 rfl rfl (Nat.le_of_ble_eq_true rfl) (Nat.le_of_ble_eq_true rfl) (Nat.le_of_ble_eq_true rfl) rfl (by decide +kernel) rfl ?_
              refine m_partM (by omega) ?_
              simp only [Option.toList_some, Option.toList_none, List.drop_succ_cons, List.drop_zero, List.cons_append, List.nil_append]
              refine ze_lreturn kc_131_60 ?_
              rw [show oAlone n c e r κ ν p = _ from if_pos (by omega)] at q1
              rw [f2, f3]
              rcases (show p = 0 ∨ p = 1 by omega) with rfl | rfl
              · exact q1 _ (zFq_fm f1)
              · exact q1 _ (zFq_fm f1)
            · simp only [Option.toList_some, Option.toList_none, List.drop_succ_cons, List.drop_zero, List.cons_append, List.nil_append]
              refine ze_if_ne kc_131_40 (by decide) (fun q => absurd q (by decide)) (fun _ => ?_)
              refine ze_ldc2L kc_131_43 ?_
              refine ze_lreturn kc_131_46 ?_
              rw [show oAlone n c e r i j p = -9223372036854775808 from if_neg (by omega)] at q1
              exact q1 _ zFq_refl
          · simp only [Option.toList_some, Option.toList_none, List.drop_succ_cons, List.drop_zero, List.cons_append, List.nil_append]
            refine ze_if_eq kc_131_33 (by decide) (fun _ => ?_) (fun q => absurd q (by decide))
            refine ze_ldc2L kc_131_43 ?_
            refine ze_lreturn kc_131_46 ?_
            rw [show oAlone n c e r i j p = -9223372036854775808 from if_neg (by omega)] at q1
            exact q1 _ zFq_refl
      · simp only [Option.toList_some, Option.toList_none, List.drop_succ_cons, List.drop_zero, List.cons_append, List.nil_append]
        refine ze_if_eq kc_131_20 (by decide) (fun _ => ?_) (fun q => absurd q (by decide))
        refine ze_ldc2L kc_131_43 ?_
        refine ze_lreturn kc_131_46 ?_
        rw [show oAlone n c e r i j p = -9223372036854775808 from if_neg (by omega)] at q1
        exact q1 _ zFq_refl
    · simp only [Option.toList_some, Option.toList_none, List.drop_succ_cons, List.drop_zero, List.cons_append, List.nil_append]
      refine ze_if_eq kc_131_12 (by decide) (fun _ => ?_) (fun q => absurd q (by decide))
      refine ze_ldc2L kc_131_43 ?_
      refine ze_lreturn kc_131_46 ?_
      rw [show oAlone n c e r i j p = -9223372036854775808 from if_neg (by omega)] at q1
      exact q1 _ zFq_refl
  · simp only [Option.toList_some, Option.toList_none, List.drop_succ_cons, List.drop_zero, List.cons_append, List.nil_append]
    refine ze_if_eq kc_131_4 (by decide) (fun _ => ?_) (fun q => absurd q (by decide))
    refine ze_ldc2L kc_131_43 ?_
    refine ze_lreturn kc_131_46 ?_
    rw [show oAlone n c e r i j p = -9223372036854775808 from if_neg (by omega)] at q1
    exact q1 _ zFq_refl
