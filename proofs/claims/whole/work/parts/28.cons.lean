noncomputable def zSm (n : Nat) (c : Nat → Int) (e r : Int) (i j : Nat) : Bool := decide (zTw n c e r i j = zGt r n c i 1 e * zS r 2 (zc2 c i j))
noncomputable def zrowc (n : Nat) (c : Nat → Int) (e r : Int) (i : Nat) : Int := zfst (n - (i + 1)) (i + 1) (fun j => !zSm n c e r i j) (-5)
def zprs (row : Nat → Int) : Nat → Nat → Int
  | 0, _ => -5
  | m + 1, i => if row i = -5 then zprs row m (i + 1) else 10 * i + row i
theorem zprs_next {row : Nat → Int} {n i : Nat} (h : i < n) (hr : row i = -5) : zprs row (n - i) i = zprs row (n - (i + 1)) (i + 1) := by
  rw [show n - i = (n - (i + 1)) + 1 by omega]
  exact if_pos hr
theorem zprs_hit {row : Nat → Int} {n i : Nat} (h : i < n) (hr : ¬ row i = -5) : zprs row (n - i) i = 10 * i + row i := by
  rw [show n - i = (n - (i + 1)) + 1 by omega]
  exact if_neg hr
theorem zprs_end {row : Nat → Int} {n i : Nat} (h : n ≤ i) : zprs row (n - i) i = -5 := by
  rw [show n - i = 0 by omega]
  rfl
noncomputable def oCons (n : Nat) (c : Nat → Int) (e r : Int) : Int := if ¬ (0 ≤ r ∧ r < 6) then -2 else if (1 ≤ n ∧ e ≤ zsum n c) then zprs (zrowc n c e r) n 0 else -3
noncomputable def oInv (n : Nat) (c : Nat → Int) (r i v : Int) : Int := if ¬ (0 ≤ r ∧ r < 6) then -2 else if ¬ (0 ≤ i ∧ i < n) then -1 else if (0 ≤ v ∧ v ≤ 60) then zfst ((zsum n c).toNat + 1) 0 (fun x => decide (v * zS r n c ≤ zGt r n c i.toNat 1 (x : Int))) (-5) else -2
noncomputable def zCnt (n : Nat) (c : Nat → Int) (r : Int) (i : Nat) (m : Nat) : Int := zsum m (fun x => if c i * zS r n c ≤ 2 * zGt r n c i 1 (x : Int) then 1 else 0)
noncomputable def oOdds (n : Nat) (c : Nat → Int) (r i p : Int) : Int := if (0 ≤ r ∧ r < 6) ∧ (0 ≤ i ∧ i < n) ∧ (0 ≤ p ∧ p ≤ 1) then zlow (zCnt n c r i.toNat ((zsum n c).toNat + 1)) (zsum n c + 1) p else -9223372036854775808
def oMean (n : Nat) (e p : Int) : Int := if (0 ≤ p ∧ p ≤ 1) ∧ 1 ≤ n then zlow e n p else -9223372036854775808
theorem zlow_cmp {G S a b : Int} (hS : 0 < S) : (a * zlow G S 1 ≤ b * zlow G S 0) ↔ (a * S ≤ b * G) := by
  obtain ⟨h1, -, h3, -⟩ := zlow_p (a := G) hS
  generalize zlow G S 1 = D at *
  generalize zlow G S 0 = U at *
  constructor
  · intro h
    have q := Int.mul_le_mul_of_nonneg_right h (Int.le_of_lt hS)
    rw [Int.mul_assoc b, h3, Int.mul_right_comm a, ← Int.mul_assoc b] at q
    exact Int.le_of_mul_le_mul_right q h1
  · intro h
    have q := Int.mul_le_mul_of_nonneg_right h (Int.le_of_lt h1)
    rw [Int.mul_assoc b, ← h3, Int.mul_right_comm a, ← Int.mul_assoc b] at q
    exact Int.le_of_mul_le_mul_right q hS
theorem zCnt_r {n : Nat} {c : Nat → Int} {r : Int} {i m : Nat} : 0 ≤ zCnt n c r i m ∧ zCnt n c r i m ≤ m := by
  have h1 := zsum_hi (n := m) (f := fun x => if c i * zS r n c ≤ 2 * zGt r n c i 1 (x : Int) then (1 : Int) else 0) (c := 1) (fun i _ => by split <;> omega)
  have h2 := zsum_lo (n := m) (f := fun x => if c i * zS r n c ≤ 2 * zGt r n c i 1 (x : Int) then (1 : Int) else 0) (c := 0) (fun i _ => by split <;> omega)
  unfold zCnt
  omega
set_option maxHeartbeats 4000000 in
theorem m_sameX {Z : zMem} {Q : Option zAV → zMem → Prop} {n : Nat} {c : Nat → Int} {e ρ : Int} (hC : zCl n c e ρ Z) {r : Int} {i j : Nat} (hr : 0 ≤ r ∧ r ≤ 5) (hi : i < n) (hj : j < n) (he : e ≤ zsum n c) (q1 : zSm n c e r i j = true → ∀ Z', zFq Z Z' → Q (some (zI 1)) Z') (q2 : zSm n c e r i j = false → ∀ Z', zFq Z Z' → Q (some (zI 0)) Z') : zE 57 0 (zent 57 [zR 0, zI r, zI (i : Nat), zI (j : Nat)]) [] Z Q := by
  show zE 57 0 [some (zR 0), some (zI r), some (zI (i : Nat)), some (zI (j : Nat)), none, none] [] Z Q
  obtain ⟨hU0, hG0, n6, n0, cc, cr, ce, cρ, ceR, cρR, c11, c16⟩ := zCl_o hC
  have csr := zsum_range cr
  have htw := zTw_in (r := r) (e := e) (by omega) n6 hi hj cr ⟨by omega, by omega⟩
  have hss := zS_range (r := r) (n := n) (c := c) ⟨by omega, n6⟩ cr
  have hs2 := zS_range (r := r) (n := 2) (c := zc2 c i j) (by decide) (zc2_r hi hj cr)
  have hsm := zmb (a := zS r 2 (zc2 c i j)) (b := zS r n c) (A := 720) (B := 720) (by omega) (by omega)
  have hsp := Int.mul_pos (show 0 < zS r 2 (zc2 c i j) by omega) (show 0 < zS r n c by omega)
  have hgt := zGt_range (r := r) (i := 0) (w := zS r n c) (by decide) (by decide) (zc2_r hi hj cr) (by omega) htw
  have hgt2 : 0 ≤ zTw n c e r i j ∧ zTw n c e r i j ≤ 2147483648 * zS r n c := hgt
  have gi := zGt_range (r := r) (w := 1) (u := e) n6 hi cr (by omega) (by omega)
  refine ze_aload_n kc_57_0 rfl ?_
  refine ze_iload_n kc_57_1 rfl ?_
  refine ze_iload_n kc_57_2 rfl ?_
  refine ze_iload_n kc_57_3 rfl ?_
  refine zE_callv 4 kc_57_4 rfl rfl (Nat.le_of_ble_eq_true rfl) (Nat.le_of_ble_eq_true rfl) (Nat.le_of_ble_eq_true rfl) rfl (by decide +kernel) rfl ?_
  refine m_first2 hC hr hi hj he (fun Z2 f1 f2 => ?_)
  simp only [Option.toList_some, Option.toList_none, List.drop_succ_cons, List.drop_zero, List.cons_append, List.nil_append]
  refine ze_lstore kc_57_7 (Nat.le_of_ble_eq_true rfl) ?_
  simp only [zset1, zset2, zcut, List.set_cons_zero, List.set_cons_succ, List.getD_cons_zero, List.getD_cons_succ]
  refine ze_lload kc_57_9 rfl ?_
  refine ze_aload_n kc_57_11 rfl ?_
  refine ze_getR kc_57_12 rfl rfl rfl ?_
  refine ze_getR kc_57_15 rfl rfl rfl ?_
  refine ze_iload_n kc_57_18 rfl ?_
  refine ze_iload_n kc_57_19 rfl ?_
  refine ze_aload_n kc_57_20 rfl ?_
  refine ze_getR kc_57_21 rfl rfl rfl ?_
  refine ze_getI kc_57_24 rfl (by decide) ?_
  rw [f1.1 1 (by decide) (by decide) (by decide) (by decide) (by decide), ce]
  refine ze_i2l kc_57_27 (by omega) ?_
  refine ze_lconst1 kc_57_28 ?_
  refine zE_callv 5 kc_57_29 rfl rfl (Nat.le_of_ble_eq_true rfl) (Nat.le_of_ble_eq_true rfl) (Nat.le_of_ble_eq_true rfl) rfl (by decide +kernel) rfl ?_
  refine m_gets zgF_2 (zCl_o (zCl_q hC f1)).2.1 hi hr (by omega) (by omega) ?_
  simp only [Option.toList_some, Option.toList_none, List.drop_succ_cons, List.drop_zero, List.cons_append, List.nil_append]
  refine ze_aload_n kc_57_32 rfl ?_
  refine ze_getR kc_57_33 rfl rfl rfl ?_
  refine ze_iload_n kc_57_36 rfl ?_
  refine zE_callv 2 kc_57_37 rfl rfl (Nat.le_of_ble_eq_true rfl) (Nat.le_of_ble_eq_true rfl) (Nat.le_of_ble_eq_true rfl) rfl (by decide +kernel) rfl ?_
  refine m_scale zgF_13 f2 hr ?_
  simp only [Option.toList_some, Option.toList_none, List.drop_succ_cons, List.drop_zero, List.cons_append, List.nil_append]
  refine ze_lmul kc_57_40 ?_
  have bb := zmb (a := zGt r n c i 1 e) (b := zS r 2 (zc2 c i j)) (A := 2147483648) (B := 720) (by omega) (by omega)
  refine ze_lcmp_ne kc_57_41 kc_57_42 (by omega) (by omega) (fun h41 => ?_) (fun h41 => ?_)
  · skip
    refine ze_iconst kc_57_49 ?_
    refine ze_ireturn kc_57_50 (by decide) ?_
    first
      | exact q1 (decide_eq_true h41) _ f1
      | exact q2 (decide_eq_false h41) _ f1
  · skip
    refine ze_iconst kc_57_45 ?_
    refine ze_goto kc_57_46 ?_
    refine ze_ireturn kc_57_50 (by decide) ?_
    first
      | exact q1 (decide_eq_true h41) _ f1
      | exact q2 (decide_eq_false h41) _ f1

set_option maxHeartbeats 4000000 in
theorem m_sameM {Z : zMem} {Q : Option zAV → zMem → Prop} {n : Nat} {c : Nat → Int} {e ρ : Int} (hM : zMo n c e ρ Z) {r : Int} {i j : Nat} (hr : 0 ≤ r ∧ r ≤ 5) (hi : i < n) (hj : j < n) (he : e ≤ zsum n c) (hij : i ≠ j) (q1 : zSm n c e r i j = true → ∀ Z', zFm Z Z' → Q (some (zI 1)) Z') (q2 : zSm n c e r i j = false → ∀ Z', zFm Z Z' → Q (some (zI 0)) Z') : zE 132 0 (zent 132 [zR 63, zI r, zI (i : Nat), zI (j : Nat)]) [] Z Q := by
  show zE 132 0 [some (zR 63), some (zI r), some (zI (i : Nat)), some (zI (j : Nat)), none, none, none, none] [] Z Q
  have hM0 := hM
  obtain ⟨n0, n6, mc, mr, me, mρ, meR, mρR⟩ := hM
  have msr := zsum_range mr
  have hp6 := zpow6 n6
  have htw := zTw_in (r := r) (e := e) (by omega) n6 hi hj mr ⟨by omega, by omega⟩
  have hss := zS_range (r := r) (n := n) (c := c) ⟨by omega, n6⟩ mr
  have hs2 := zS_range (r := r) (n := 2) (c := zc2 c i j) (by decide) (zc2_r hi hj mr)
  have hsm := zmb (a := zS r 2 (zc2 c i j)) (b := zS r n c) (A := 720) (B := 720) (by omega) (by omega)
  have hsp := Int.mul_pos (show 0 < zS r 2 (zc2 c i j) by omega) (show 0 < zS r n c by omega)
  have hgt := zGt_range (r := r) (i := 0) (w := zS r n c) (by decide) (by decide) (zc2_r hi hj mr) (by omega) htw
  have hgt2 : 0 ≤ zTw n c e r i j ∧ zTw n c e r i j ≤ 2147483648 * zS r n c := hgt
  have hlpi := zlow_p (a := zGt r n c i 1 e) (b := zS r n c) (by omega)
  have gi := zGt_range (r := r) (i := i) (w := 1) (u := e) n6 hi mr (by omega) (by omega)
  have hlqi := hlpi.2.2.2 gi.1
  have hl2 := zlow_p (a := zTw n c e r i j) (b := zS r 2 (zc2 c i j) * zS r n c) hsp
  have hl3 := hl2.2.2.2 hgt2.1
  have hiff := zlow_iff (a := zTw n c e r i j) (a' := zGt r n c i 1 e) hsp (show 0 < zS r n c by omega)
  rw [← Int.mul_assoc] at hiff
  refine ze_aload_n kc_132_0 rfl ?_
  refine ze_iload_n kc_132_1 rfl ?_
  refine ze_iload_n kc_132_2 rfl ?_
  refine zE_callv 3 kc_132_3 rfl rfl (Nat.le_of_ble_eq_true rfl) (Nat.le_of_ble_eq_true rfl) (Nat.le_of_ble_eq_true rfl) rfl (by decide +kernel) rfl ?_
  refine m_awardOf hM0 hr hi he (fun Z2 f1 f2 f3 => ?_)
  simp only [Option.toList_some, Option.toList_none, List.drop_succ_cons, List.drop_zero, List.cons_append, List.nil_append]
  refine ze_aload_n kc_132_6 rfl ?_
  refine ze_getL kc_132_7 rfl rfl ?_
  rw [f2]
  refine ze_lstore kc_132_10 (Nat.le_of_ble_eq_true rfl) ?_
  simp only [zset1, zset2, zcut, List.set_cons_zero, List.set_cons_succ, List.getD_cons_zero, List.getD_cons_succ]
  refine ze_aload_n kc_132_12 rfl ?_
  refine ze_getL kc_132_13 rfl rfl ?_
  rw [f3]
  refine ze_lstore kc_132_16 (Nat.le_of_ble_eq_true rfl) ?_
  simp only [zset1, zset2, zcut, List.set_cons_zero, List.set_cons_succ, List.getD_cons_zero, List.getD_cons_succ]
  refine ze_aload_n kc_132_18 rfl ?_
  refine ze_iload_n kc_132_19 rfl ?_
  refine ze_iload_n kc_132_20 rfl ?_
  refine ze_iload_n kc_132_21 rfl ?_
  refine zE_callv 4 kc_132_22 rfl rfl (Nat.le_of_ble_eq_true rfl) (Nat.le_of_ble_eq_true rfl) (Nat.le_of_ble_eq_true rfl) rfl (by decide +kernel) rfl ?_
  refine m_aloneOf (zMo_fm hM0 f1) hr hi hj he hij (fun Z3 k1 k2 k3 => ?_)
  simp only [Option.toList_some, Option.toList_none, List.drop_succ_cons, List.drop_zero, List.cons_append, List.nil_append]
  refine ze_aload_n kc_132_25 rfl ?_
  refine ze_getL kc_132_26 rfl rfl ?_
  rw [k2]
  refine ze_lload kc_132_29 rfl ?_
  refine ze_lcmp_ne kc_132_31 kc_132_32 (by omega) (by omega) (fun h31 => ?_) (fun h31 => ?_)
  · skip
    refine ze_iconst kc_132_49 ?_
    refine ze_ireturn kc_132_50 (by decide) ?_
    first
      | exact q1 (decide_eq_true (Int.eq_of_mul_eq_mul_right (by omega) (hiff.mp ⟨h31, h41⟩))) _ (zFm_trans f1 k1)
      | exact q2 (decide_eq_false (fun q => h31 (hiff.mpr (by rw [q])).1)) _ (zFm_trans f1 k1)
      | exact q2 (decide_eq_false (fun q => h41 (hiff.mpr (by rw [q])).2)) _ (zFm_trans f1 k1)
  · skip
    refine ze_aload_n kc_132_35 rfl ?_
    refine ze_getL kc_132_36 rfl rfl ?_
    rw [k3]
    refine ze_lload kc_132_39 rfl ?_
    refine ze_lcmp_ne kc_132_41 kc_132_42 (by omega) (by omega) (fun h41 => ?_) (fun h41 => ?_)
    · skip
      refine ze_iconst kc_132_49 ?_
      refine ze_ireturn kc_132_50 (by decide) ?_
      first
        | exact q1 (decide_eq_true (Int.eq_of_mul_eq_mul_right (by omega) (hiff.mp ⟨h31, h41⟩))) _ (zFm_trans f1 k1)
        | exact q2 (decide_eq_false (fun q => h31 (hiff.mpr (by rw [q])).1)) _ (zFm_trans f1 k1)
        | exact q2 (decide_eq_false (fun q => h41 (hiff.mpr (by rw [q])).2)) _ (zFm_trans f1 k1)
    · skip
      refine ze_iconst kc_132_45 ?_
      refine ze_goto kc_132_46 ?_
      refine ze_ireturn kc_132_50 (by decide) ?_
      first
        | exact q1 (decide_eq_true (Int.eq_of_mul_eq_mul_right (by omega) (hiff.mp ⟨h31, h41⟩))) _ (zFm_trans f1 k1)
        | exact q2 (decide_eq_false (fun q => h31 (hiff.mpr (by rw [q])).1)) _ (zFm_trans f1 k1)
        | exact q2 (decide_eq_false (fun q => h41 (hiff.mpr (by rw [q])).2)) _ (zFm_trans f1 k1)

set_option maxHeartbeats 4000000 in
theorem m_consX {Z : zMem} {Q : Option zAV → zMem → Prop} {n : Nat} {c : Nat → Int} {e ρ : Int} (hC : zCl n c e ρ Z) {r : Int} (hr : -2147483648 ≤ r ∧ r ≤ 2147483647) (q1 : ∀ Z', zFq Z Z' → Q (some (zI (oCons n c e r))) Z') : zE 56 0 (zent 56 [zR 0, zI r]) [] Z Q := by
  show zE 56 0 [some (zR 0), some (zI r), none, none] [] Z Q
  obtain ⟨hU0, hG0, n6, n0, cc, cr, ce, cρ, ceR, cρR, c11, c16⟩ := zCl_o hC
  have csr := zsum_range cr
  refine ze_iload_n kc_56_0 rfl ?_
  refine zE_calls 1 kc_56_1 rfl rfl (Nat.le_of_ble_eq_true rfl) (Nat.le_of_ble_eq_true rfl) (Nat.le_of_ble_eq_true rfl) rfl ?_
  refine m_isRule (by omega) (fun g1 => ?_) (fun g1 => ?_)
  · simp only [Option.toList_some, Option.toList_none, List.drop_succ_cons, List.drop_zero, List.cons_append, List.nil_append]
    refine ze_if_ne kc_56_4 (by decide) (fun _ => ?_) (fun q => absurd q (by decide))
    refine ze_aload_n kc_56_10 rfl ?_
    refine ze_getR kc_56_11 rfl rfl rfl ?_
    refine zE_callv 1 kc_56_14 rfl rfl (Nat.le_of_ble_eq_true rfl) (Nat.le_of_ble_eq_true rfl) (Nat.le_of_ble_eq_true rfl) rfl (by decide +kernel) rfl ?_
    refine m_ready zsF_1 hU0 (fun g14 => ?_) (fun g14 => ?_)
    · simp only [Option.toList_some, Option.toList_none, List.drop_succ_cons, List.drop_zero, List.cons_append, List.nil_append]
      refine ze_if_ne kc_56_17 (by decide) (fun _ => ?_) (fun q => absurd q (by decide))
      refine ze_iconst kc_56_23 ?_
      refine ze_istore_n kc_56_24 (Nat.le_of_ble_eq_true rfl) ?_
      simp only [zset1, zset2, zcut, List.set_cons_zero, List.set_cons_succ, List.getD_cons_zero, List.getD_cons_succ]
      have loop25 : ∀ (μ : Nat) (i : Nat) (x : Int) (Zc : zMem) (o1 : Option zAV), n - i = μ → (i ≤ n) → (x = i) → (zFq Z Zc) → (zprs (zrowc n c e r) (n - i) i = zprs (zrowc n c e r) n 0) → zE 56 25 [some (zR 0), some (zI r), some (zI x), o1] [] Zc Q := by
        refine zind ?_
        intro μ1 ih1 i x Zc o1 hm1 hi hx hq hR
        subst hx
        have hn2 : Zc 2 3 = n := (zCl_o (zCl_q hC hq)).2.2.2.1
        refine ze_iload_n kc_56_25 rfl ?_
        refine ze_aload_n kc_56_26 rfl ?_
        refine ze_getR kc_56_27 rfl rfl rfl ?_
        refine ze_getR kc_56_30 rfl rfl rfl ?_
        refine ze_getI kc_56_33 rfl (by decide) ?_
        refine ze_icmp_ge kc_56_36 (by omega) (by omega) (fun h36 => ?_) (fun h36 => ?_)
        · skip
          refine ze_bipush kc_56_86 ?_
          refine ze_ireturn kc_56_88 (Or.inl rfl) ?_
          rw [zprs_end (by omega)] at hR
          rw [show oCons n c e r = zprs (zrowc n c e r) n 0 from (if_neg (by omega)).trans (if_pos (by omega)), ← hR] at q1
          exact q1 _ hq
        · skip
          refine ze_iload_n kc_56_39 rfl ?_
          refine ze_iconst kc_56_40 ?_
          refine ze_iadd kc_56_41 ?_
          refine ze_istore_n kc_56_42 (Nat.le_of_ble_eq_true rfl) ?_
          simp only [zset1, zset2, zcut, List.set_cons_zero, List.set_cons_succ, List.getD_cons_zero, List.getD_cons_succ]
          have loop43 : ∀ (μ : Nat) (j : Nat) (y : Int) (Zd : zMem), n - j = μ → (j ≤ n ∧ i < j) → (y = j) → (zFq Z Zd) → (zfst (n - j) j (fun j => !zSm n c e r i j) (-5) = zrowc n c e r i) → zE 56 43 [some (zR 0), some (zI r), some (zI (i : Nat)), some (zI y)] [] Zd Q := by
            refine zind ?_
            intro μ2 ih2 j y Zd hm2 hj hy hq2 hRi
            subst hy
            have hn3 : Zd 2 3 = n := (zCl_o (zCl_q hC hq2)).2.2.2.1
            refine ze_iload_n kc_56_43 rfl ?_
            refine ze_aload_n kc_56_44 rfl ?_
            refine ze_getR kc_56_45 rfl rfl rfl ?_
            refine ze_getR kc_56_48 rfl rfl rfl ?_
            refine ze_getI kc_56_51 rfl (by decide) ?_
            refine ze_icmp_ge kc_56_54 (by omega) (by omega) (fun h54 => ?_) (fun h54 => ?_)
            · skip
              refine ze_iinc kc_56_80 rfl ?_
              simp only [zset1, zset2, zcut, List.set_cons_zero, List.set_cons_succ, List.getD_cons_zero, List.getD_cons_succ]
              refine ze_goto kc_56_83 ?_
              refine ih1 _ (by omega) (i + 1) _ _ _ rfl (by omega) (by omega) hq2 ((zprs_next (by omega) (by rw [← hRi, show n - j = 0 by omega]; rfl)).symm.trans hR)
            · skip
              refine ze_aload_n kc_56_57 rfl ?_
              refine ze_iload_n kc_56_58 rfl ?_
              refine ze_iload_n kc_56_59 rfl ?_
              refine ze_iload_n kc_56_60 rfl ?_
              refine zE_callv 4 kc_56_61 rfl rfl (Nat.le_of_ble_eq_true rfl) (Nat.le_of_ble_eq_true rfl) (Nat.le_of_ble_eq_true rfl) rfl (by decide +kernel) rfl ?_
              refine m_sameX (zCl_q hC hq2) (i := i) (j := j) (by omega) (by omega) (by omega) (by omega) (fun g61 Z2 f1 => ?_) (fun g61 Z2 f1 => ?_)
              · simp only [Option.toList_some, Option.toList_none, List.drop_succ_cons, List.drop_zero, List.cons_append, List.nil_append]
                refine ze_if_ne kc_56_64 (by decide) (fun _ => ?_) (fun q => absurd q (by decide))
                refine ze_iinc kc_56_74 rfl ?_
                simp only [zset1, zset2, zcut, List.set_cons_zero, List.set_cons_succ, List.getD_cons_zero, List.getD_cons_succ]
                refine ze_goto kc_56_77 ?_
                refine ih2 _ (by omega) (j + 1) _ _ rfl (by omega) (by omega) (zFq_trans hq2 f1) ((zfst_next (by omega) (by rw [g61]; rfl)).symm.trans hRi)
              · simp only [Option.toList_some, Option.toList_none, List.drop_succ_cons, List.drop_zero, List.cons_append, List.nil_append]
                refine ze_if_ne kc_56_64 (by decide) (fun q => absurd q (by decide)) (fun _ => ?_)
                refine ze_bipush kc_56_67 ?_
                refine ze_iload_n kc_56_69 rfl ?_
                refine ze_imul kc_56_70 ?_
                refine ze_iload_n kc_56_71 rfl ?_
                refine ze_iadd kc_56_72 ?_
                refine ze_ireturn kc_56_73 (Or.inl rfl) ?_
                have hz := zfst_hit (n := n) (i := j) (P := fun j => !zSm n c e r i j) (d := -5) (by omega) (by rw [g61]; rfl)
                rw [hRi] at hz
                rw [zprs_hit (by omega) (by omega), hz] at hR
                rw [show oCons n c e r = zprs (zrowc n c e r) n 0 from (if_neg (by omega)).trans (if_pos (by omega)), ← hR] at q1
                exact q1 _ (zFq_trans hq2 f1)
          refine loop43 _ (i + 1) _ Zc rfl (by omega) (by omega) hq rfl
      refine loop25 _ 0 0 Z none rfl (by omega) rfl zFq_refl rfl
    · simp only [Option.toList_some, Option.toList_none, List.drop_succ_cons, List.drop_zero, List.cons_append, List.nil_append]
      refine ze_if_ne kc_56_17 (by decide) (fun q => absurd q (by decide)) (fun _ => ?_)
      refine ze_bipush kc_56_20 ?_
      refine ze_ireturn kc_56_22 (Or.inl rfl) ?_
      rw [show oCons n c e r = -3 from (if_neg (by omega)).trans (if_neg (by omega))] at q1
      exact q1 _ zFq_refl
  · simp only [Option.toList_some, Option.toList_none, List.drop_succ_cons, List.drop_zero, List.cons_append, List.nil_append]
    refine ze_if_ne kc_56_4 (by decide) (fun q => absurd q (by decide)) (fun _ => ?_)
    refine ze_bipush kc_56_7 ?_
    refine ze_ireturn kc_56_9 (Or.inl rfl) ?_
    rw [show oCons n c e r = -2 from if_pos (by omega)] at q1
    exact q1 _ zFq_refl

set_option maxHeartbeats 4000000 in
theorem m_consM {Z : zMem} {Q : Option zAV → zMem → Prop} {n : Nat} {c : Nat → Int} {e ρ : Int} (hM : zMo n c e ρ Z) {r : Int} (hr : -2147483648 ≤ r ∧ r ≤ 2147483647) (q1 : ∀ Z', zFq Z Z' → Q (some (zI (oCons n c e r))) Z') : zE 133 0 (zent 133 [zR 63, zI r]) [] Z Q := by
  show zE 133 0 [some (zR 63), some (zI r), none, none] [] Z Q
  have hM0 := hM
  obtain ⟨n0, n6, mc, mr, me, mρ, meR, mρR⟩ := hM
  have msr := zsum_range mr
  have hp6 := zpow6 n6
  refine ze_iload_n kc_133_0 rfl ?_
  refine zE_calls 1 kc_133_1 rfl rfl (Nat.le_of_ble_eq_true rfl) (Nat.le_of_ble_eq_true rfl) (Nat.le_of_ble_eq_true rfl) rfl ?_
  refine m_isRuleM (by omega) (fun g1 => ?_) (fun g1 => ?_)
  · simp only [Option.toList_some, Option.toList_none, List.drop_succ_cons, List.drop_zero, List.cons_append, List.nil_append]
    refine ze_if_ne kc_133_4 (by decide) (fun _ => ?_) (fun q => absurd q (by decide))
    refine ze_aload_n kc_133_10 rfl ?_
    refine zE_callv 1 kc_133_11 rfl rfl (Nat.le_of_ble_eq_true rfl) (Nat.le_of_ble_eq_true rfl) (Nat.le_of_ble_eq_true rfl) rfl (by decide +kernel) rfl ?_
    refine m_readyM hM0 (fun g11 => ?_) (fun g11 => ?_)
    · simp only [Option.toList_some, Option.toList_none, List.drop_succ_cons, List.drop_zero, List.cons_append, List.nil_append]
      refine ze_if_ne kc_133_14 (by decide) (fun _ => ?_) (fun q => absurd q (by decide))
      refine ze_iconst kc_133_20 ?_
      refine ze_istore_n kc_133_21 (Nat.le_of_ble_eq_true rfl) ?_
      simp only [zset1, zset2, zcut, List.set_cons_zero, List.set_cons_succ, List.getD_cons_zero, List.getD_cons_succ]
      have loop22 : ∀ (μ : Nat) (i : Nat) (x : Int) (Zc : zMem) (o1 : Option zAV), n - i = μ → (i ≤ n) → (x = i) → (zFq Z Zc) → (zprs (zrowc n c e r) (n - i) i = zprs (zrowc n c e r) n 0) → zE 133 22 [some (zR 63), some (zI r), some (zI x), o1] [] Zc Q := by
        refine zind ?_
        intro μ1 ih1 i x Zc o1 hm1 hi hx hq hR
        subst hx
        have hn2 : Zc 63 0 = n := (zMo_q hM0 hq).1
        refine ze_iload_n kc_133_22 rfl ?_
        refine ze_aload_n kc_133_23 rfl ?_
        refine ze_getI kc_133_24 rfl (by decide) ?_
        refine ze_icmp_ge kc_133_27 (by omega) (by omega) (fun h27 => ?_) (fun h27 => ?_)
        · skip
          refine ze_bipush kc_133_71 ?_
          refine ze_ireturn kc_133_73 (Or.inl rfl) ?_
          rw [zprs_end (by omega)] at hR
          rw [show oCons n c e r = zprs (zrowc n c e r) n 0 from (if_neg (by omega)).trans (if_pos (by omega)), ← hR] at q1
          exact q1 _ hq
        · skip
          refine ze_iload_n kc_133_30 rfl ?_
          refine ze_iconst kc_133_31 ?_
          refine ze_iadd kc_133_32 ?_
          refine ze_istore_n kc_133_33 (Nat.le_of_ble_eq_true rfl) ?_
          simp only [zset1, zset2, zcut, List.set_cons_zero, List.set_cons_succ, List.getD_cons_zero, List.getD_cons_succ]
          have loop34 : ∀ (μ : Nat) (j : Nat) (y : Int) (Zd : zMem), n - j = μ → (j ≤ n ∧ i < j) → (y = j) → (zFq Z Zd) → (zfst (n - j) j (fun j => !zSm n c e r i j) (-5) = zrowc n c e r i) → zE 133 34 [some (zR 63), some (zI r), some (zI (i : Nat)), some (zI y)] [] Zd Q := by
            refine zind ?_
            intro μ2 ih2 j y Zd hm2 hj hy hq2 hRi
            subst hy
            have hn3 : Zd 63 0 = n := (zMo_q hM0 hq2).1
            refine ze_iload_n kc_133_34 rfl ?_
            refine ze_aload_n kc_133_35 rfl ?_
            refine ze_getI kc_133_36 rfl (by decide) ?_
            refine ze_icmp_ge kc_133_39 (by omega) (by omega) (fun h39 => ?_) (fun h39 => ?_)
            · skip
              refine ze_iinc kc_133_65 rfl ?_
              simp only [zset1, zset2, zcut, List.set_cons_zero, List.set_cons_succ, List.getD_cons_zero, List.getD_cons_succ]
              refine ze_goto kc_133_68 ?_
              refine ih1 _ (by omega) (i + 1) _ _ _ rfl (by omega) (by omega) hq2 ((zprs_next (by omega) (by rw [← hRi, show n - j = 0 by omega]; rfl)).symm.trans hR)
            · skip
              refine ze_aload_n kc_133_42 rfl ?_
              refine ze_iload_n kc_133_43 rfl ?_
              refine ze_iload_n kc_133_44 rfl ?_
              refine ze_iload_n kc_133_45 rfl ?_
              refine zE_callv 4 kc_133_46 rfl rfl (Nat.le_of_ble_eq_true rfl) (Nat.le_of_ble_eq_true rfl) (Nat.le_of_ble_eq_true rfl) rfl (by decide +kernel) rfl ?_
              refine m_sameM (zMo_q hM0 hq2) (i := i) (j := j) (by omega) (by omega) (by omega) (by omega) (by omega) (fun g46 Z2 f1 => ?_) (fun g46 Z2 f1 => ?_)
              · simp only [Option.toList_some, Option.toList_none, List.drop_succ_cons, List.drop_zero, List.cons_append, List.nil_append]
                refine ze_if_ne kc_133_49 (by decide) (fun _ => ?_) (fun q => absurd q (by decide))
                refine ze_iinc kc_133_59 rfl ?_
                simp only [zset1, zset2, zcut, List.set_cons_zero, List.set_cons_succ, List.getD_cons_zero, List.getD_cons_succ]
                refine ze_goto kc_133_62 ?_
                refine ih2 _ (by omega) (j + 1) _ _ rfl (by omega) (by omega) (zFq_trans hq2 (zFq_fm f1)) ((zfst_next (by omega) (by rw [g46]; rfl)).symm.trans hRi)
              · simp only [Option.toList_some, Option.toList_none, List.drop_succ_cons, List.drop_zero, List.cons_append, List.nil_append]
                refine ze_if_ne kc_133_49 (by decide) (fun q => absurd q (by decide)) (fun _ => ?_)
                refine ze_bipush kc_133_52 ?_
                refine ze_iload_n kc_133_54 rfl ?_
                refine ze_imul kc_133_55 ?_
                refine ze_iload_n kc_133_56 rfl ?_
                refine ze_iadd kc_133_57 ?_
                refine ze_ireturn kc_133_58 (Or.inl rfl) ?_
                have hz := zfst_hit (n := n) (i := j) (P := fun j => !zSm n c e r i j) (d := -5) (by omega) (by rw [g46]; rfl)
                rw [hRi] at hz
                rw [zprs_hit (by omega) (by omega), hz] at hR
                rw [show oCons n c e r = zprs (zrowc n c e r) n 0 from (if_neg (by omega)).trans (if_pos (by omega)), ← hR] at q1
                exact q1 _ (zFq_trans hq2 (zFq_fm f1))
          refine loop34 _ (i + 1) _ Zc rfl (by omega) (by omega) hq rfl
      refine loop22 _ 0 0 Z none rfl (by omega) rfl zFq_refl rfl
    · simp only [Option.toList_some, Option.toList_none, List.drop_succ_cons, List.drop_zero, List.cons_append, List.nil_append]
      refine ze_if_ne kc_133_14 (by decide) (fun q => absurd q (by decide)) (fun _ => ?_)
      refine ze_bipush kc_133_17 ?_
      refine ze_ireturn kc_133_19 (Or.inl rfl) ?_
      rw [show oCons n c e r = -3 from (if_neg (by omega)).trans (if_neg (by omega))] at q1
      exact q1 _ zFq_refl
  · simp only [Option.toList_some, Option.toList_none, List.drop_succ_cons, List.drop_zero, List.cons_append, List.nil_append]
    refine ze_if_ne kc_133_4 (by decide) (fun q => absurd q (by decide)) (fun _ => ?_)
    refine ze_bipush kc_133_7 ?_
    refine ze_ireturn kc_133_9 (Or.inl rfl) ?_
    rw [show oCons n c e r = -2 from if_pos (by omega)] at q1
    exact q1 _ zFq_refl

set_option maxHeartbeats 4000000 in
theorem m_invX {Z : zMem} {Q : Option zAV → zMem → Prop} {n : Nat} {c : Nat → Int} {e ρ : Int} (hC : zCl n c e ρ Z) {r i v : Int} (hr : -2147483648 ≤ r ∧ r ≤ 2147483647) (hi : -2147483648 ≤ i ∧ i ≤ 2147483647) (hv : -2147483648 ≤ v ∧ v ≤ 2147483647) (q1 : ∀ Z', zFq Z Z' → Q (some (zI (oInv n c r i v))) Z') : zE 59 0 (zent 59 [zR 0, zI r, zI i, zI v]) [] Z Q := by
  show zE 59 0 [some (zR 0), some (zI r), some (zI i), some (zI v), none, none, none, none, none] [] Z Q
  obtain ⟨hU0, hG0, n6, n0, cc, cr, ce, cρ, ceR, cρR, c11, c16⟩ := zCl_o hC
  have csr := zsum_range cr
  refine ze_iload_n kc_59_0 rfl ?_
  refine zE_calls 1 kc_59_1 rfl rfl (Nat.le_of_ble_eq_true rfl) (Nat.le_of_ble_eq_true rfl) (Nat.le_of_ble_eq_true rfl) rfl ?_
  refine m_isRule (by omega) (fun g1 => ?_) (fun g1 => ?_)
  · simp only [Option.toList_some, Option.toList_none, List.drop_succ_cons, List.drop_zero, List.cons_append, List.nil_append]
    refine ze_if_ne kc_59_4 (by decide) (fun _ => ?_) (fun q => absurd q (by decide))
    refine ze_aload_n kc_59_10 rfl ?_
    refine ze_getR kc_59_11 rfl rfl rfl ?_
    refine ze_getR kc_59_14 rfl rfl rfl ?_
    refine ze_iload_n kc_59_17 rfl ?_
    refine zE_callv 2 kc_59_18 rfl rfl (Nat.le_of_ble_eq_true rfl) (Nat.le_of_ble_eq_true rfl) (Nat.le_of_ble_eq_true rfl) rfl (by decide +kernel) rfl ?_
    refine m_has zgF_2 (by omega) (by omega) (fun g18 => ?_) (fun g18 => ?_)
    · simp only [Option.toList_some, Option.toList_none, List.drop_succ_cons, List.drop_zero, List.cons_append, List.nil_append]
      refine ze_if_ne kc_59_21 (by decide) (fun _ => ?_) (fun q => absurd q (by decide))
      refine ze_iload_n kc_59_26 rfl ?_
      refine ze_if_lt kc_59_27 (by omega) (fun h27 => ?_) (fun h27 => ?_)
      · skip
        refine ze_bipush kc_59_36 ?_
        refine ze_ireturn kc_59_38 (Or.inl rfl) ?_
        first
          | (rw [show oInv n c r i v = -2 from if_pos (by omega)] at q1; exact q1 _ zFq_refl)
          | (rw [show oInv n c r i v = -1 from (if_neg (by omega)).trans (if_pos (by omega))] at q1; exact q1 _ zFq_refl)
          | (rw [show oInv n c r i v = -2 from (if_neg (by omega)).trans ((if_neg (by omega)).trans (if_neg (by omega)))] at q1; exact q1 _ zFq_refl)
      · skip
        refine ze_iload_n kc_59_30 rfl ?_
        refine ze_bipush kc_59_31 ?_
        refine ze_icmp_le kc_59_33 (by omega) (by omega) (fun h33 => ?_) (fun h33 => ?_)
        · skip
          obtain ⟨κ, rfl⟩ := Int.eq_ofNat_of_zero_le (show 0 ≤ i by omega)
          have hκ : κ < n := by omega
          have hss := zS_range (r := r) (n := n) (c := c) ⟨by omega, n6⟩ cr
          have hvs := zmb (a := v) (b := zS r n c) (A := 60) (B := 720) (by omega) (by omega)
          refine ze_aload_n kc_59_39 rfl ?_
          refine ze_getR kc_59_40 rfl rfl rfl ?_
          refine ze_getR kc_59_43 rfl rfl rfl ?_
          refine ze_astore kc_59_46 (Nat.le_of_ble_eq_true rfl) ?_
          simp only [zset1, zset2, zcut, List.set_cons_zero, List.set_cons_succ, List.getD_cons_zero, List.getD_cons_succ]
          refine ze_aload kc_59_48 rfl ?_
          refine zE_callv 1 kc_59_50 rfl rfl (Nat.le_of_ble_eq_true rfl) (Nat.le_of_ble_eq_true rfl) (Nat.le_of_ble_eq_true rfl) rfl (by decide +kernel) rfl ?_
          refine m_all zgF_2 hG0 ?_
          simp only [Option.toList_some, Option.toList_none, List.drop_succ_cons, List.drop_zero, List.cons_append, List.nil_append]
          refine ze_istore kc_59_53 (Nat.le_of_ble_eq_true rfl) ?_
          simp only [zset1, zset2, zcut, List.set_cons_zero, List.set_cons_succ, List.getD_cons_zero, List.getD_cons_succ]
          refine ze_iload_n kc_59_55 rfl ?_
          refine ze_i2l kc_59_56 (by omega) ?_
          refine ze_aload kc_59_57 rfl ?_
          refine ze_iload_n kc_59_59 rfl ?_
          refine zE_callv 2 kc_59_60 rfl rfl (Nat.le_of_ble_eq_true rfl) (Nat.le_of_ble_eq_true rfl) (Nat.le_of_ble_eq_true rfl) rfl (by decide +kernel) rfl ?_
          refine m_scale zgF_2 hG0 (by omega) ?_
          simp only [Option.toList_some, Option.toList_none, List.drop_succ_cons, List.drop_zero, List.cons_append, List.nil_append]
          refine ze_lmul kc_59_63 ?_
          refine ze_lstore kc_59_64 (Nat.le_of_ble_eq_true rfl) ?_
          simp only [zset1, zset2, zcut, List.set_cons_zero, List.set_cons_succ, List.getD_cons_zero, List.getD_cons_succ]
          refine ze_iconst kc_59_66 ?_
          refine ze_istore kc_59_67 (Nat.le_of_ble_eq_true rfl) ?_
          simp only [zset1, zset2, zcut, List.set_cons_zero, List.set_cons_succ, List.getD_cons_zero, List.getD_cons_succ]
          have loop69 : ∀ (μ : Nat) (k : Nat) (x : Int), (zsum n c).toNat + 1 - k = μ → (k ≤ (zsum n c).toNat + 1) → (x = k) → (zfst ((zsum n c).toNat + 1 - k) k (fun x => decide (v * zS r n c ≤ zGt r n c κ 1 (x : Int))) (-5) = zfst ((zsum n c).toNat + 1) 0 (fun x => decide (v * zS r n c ≤ zGt r n c κ 1 (x : Int))) (-5)) → zE 59 69 [some (zR 0), some (zI r), some (zI (κ : Nat)), some (zI v), some (zR 2), some (zI (zsum n c)), some (zL (v * zS r n c)), none, some (zI x)] [] Z Q := by
            refine zind ?_
            intro μ ih k x hm hk hx hR
            subst hx
            refine ze_iload kc_59_69 rfl ?_
            refine ze_iload kc_59_71 rfl ?_
            refine ze_icmp_gt kc_59_73 (by omega) (by omega) (fun h73 => ?_) (fun h73 => ?_)
            · skip
              refine ze_bipush kc_59_102 ?_
              refine ze_ireturn kc_59_104 (Or.inl rfl) ?_
              rw [zfst_end (by omega)] at hR
              rw [show oInv n c r κ v = zfst ((zsum n c).toNat + 1) 0 (fun x => decide (v * zS r n c ≤ zGt r n c κ 1 (x : Int))) (-5) from (if_neg (by omega)).trans ((if_neg (by omega)).trans (if_pos (by omega))), ← hR] at q1
              exact q1 _ zFq_refl
            · skip
              refine ze_aload kc_59_76 rfl ?_
              refine ze_iload_n kc_59_78 rfl ?_
              refine ze_iload_n kc_59_79 rfl ?_
              refine ze_iload kc_59_80 rfl ?_
              have gx := zGt_range (r := r) (w := 1) (u := ((k : Nat) : Int)) n6 hκ cr (by omega) (by omega)
              refine ze_i2l kc_59_82 (by omega) ?_
              refine ze_lconst1 kc_59_83 ?_
              refine zE_callv 5 kc_59_84 rfl rfl (Nat.le_of_ble_eq_true rfl) (Nat.le_of_ble_eq_true rfl) (Nat.le_of_ble_eq_true rfl) rfl (by decide +kernel) rfl ?_
              refine m_gets zgF_2 hG0 hκ (by omega) (by omega) (by omega) ?_
              simp only [Option.toList_some, Option.toList_none, List.drop_succ_cons, List.drop_zero, List.cons_append, List.nil_append]
              refine ze_lload kc_59_87 rfl ?_
              refine ze_lcmp_lt kc_59_89 kc_59_90 (by omega) (by omega) (fun h89 => ?_) (fun h89 => ?_)
              · skip
                refine ze_iinc kc_59_96 rfl ?_
                simp only [zset1, zset2, zcut, List.set_cons_zero, List.set_cons_succ, List.getD_cons_zero, List.getD_cons_succ]
                refine ze_goto kc_59_99 ?_
                refine ih _ (by omega) (k + 1) _ rfl (by omega) (by omega) ((zfst_next (by omega) (decide_eq_false (by omega))).symm.trans hR)
              · skip
                refine ze_iload kc_59_93 rfl ?_
                refine ze_ireturn kc_59_95 (Or.inl rfl) ?_
                rw [zfst_hit (by omega) (decide_eq_true h89)] at hR
                rw [show oInv n c r κ v = zfst ((zsum n c).toNat + 1) 0 (fun x => decide (v * zS r n c ≤ zGt r n c κ 1 (x : Int))) (-5) from (if_neg (by omega)).trans ((if_neg (by omega)).trans (if_pos (by omega))), ← hR] at q1
                exact q1 _ zFq_refl
          refine loop69 _ 0 0 rfl (by omega) rfl rfl
        · skip
          refine ze_bipush kc_59_36 ?_
          refine ze_ireturn kc_59_38 (Or.inl rfl) ?_
          first
            | (rw [show oInv n c r i v = -2 from if_pos (by omega)] at q1; exact q1 _ zFq_refl)
            | (rw [show oInv n c r i v = -1 from (if_neg (by omega)).trans (if_pos (by omega))] at q1; exact q1 _ zFq_refl)
            | (rw [show oInv n c r i v = -2 from (if_neg (by omega)).trans ((if_neg (by omega)).trans (if_neg (by omega)))] at q1; exact q1 _ zFq_refl)
    · simp only [Option.toList_some, Option.toList_none, List.drop_succ_cons, List.drop_zero, List.cons_append, List.nil_append]
      refine ze_if_ne kc_59_21 (by decide) (fun q => absurd q (by decide)) (fun _ => ?_)
      refine ze_iconst kc_59_24 ?_
      refine ze_ireturn kc_59_25 (Or.inl rfl) ?_
      first
        | (rw [show oInv n c r i v = -2 from if_pos (by omega)] at q1; exact q1 _ zFq_refl)
        | (rw [show oInv n c r i v = -1 from (if_neg (by omega)).trans (if_pos (by omega))] at q1; exact q1 _ zFq_refl)
        | (rw [show oInv n c r i v = -2 from (if_neg (by omega)).trans ((if_neg (by omega)).trans (if_neg (by omega)))] at q1; exact q1 _ zFq_refl)
  · simp only [Option.toList_some, Option.toList_none, List.drop_succ_cons, List.drop_zero, List.cons_append, List.nil_append]
    refine ze_if_ne kc_59_4 (by decide) (fun q => absurd q (by decide)) (fun _ => ?_)
    refine ze_bipush kc_59_7 ?_
    refine ze_ireturn kc_59_9 (Or.inl rfl) ?_
    first
      | (rw [show oInv n c r i v = -2 from if_pos (by omega)] at q1; exact q1 _ zFq_refl)
      | (rw [show oInv n c r i v = -1 from (if_neg (by omega)).trans (if_pos (by omega))] at q1; exact q1 _ zFq_refl)
      | (rw [show oInv n c r i v = -2 from (if_neg (by omega)).trans ((if_neg (by omega)).trans (if_neg (by omega)))] at q1; exact q1 _ zFq_refl)

set_option maxHeartbeats 4000000 in
theorem m_invM {Z : zMem} {Q : Option zAV → zMem → Prop} {n : Nat} {c : Nat → Int} {e ρ : Int} (hM : zMo n c e ρ Z) {r i v : Int} (hr : -2147483648 ≤ r ∧ r ≤ 2147483647) (hi : -2147483648 ≤ i ∧ i ≤ 2147483647) (hv : -2147483648 ≤ v ∧ v ≤ 2147483647) (q1 : ∀ Z', zFq Z Z' → Q (some (zI (oInv n c r i v))) Z') : zE 136 0 (zent 136 [zR 63, zI r, zI i, zI v]) [] Z Q := by
  show zE 136 0 [some (zR 63), some (zI r), some (zI i), some (zI v), none] [] Z Q
  have hM0 := hM
  obtain ⟨n0, n6, mc, mr, me, mρ, meR, mρR⟩ := hM
  have msr := zsum_range mr
  have hp6 := zpow6 n6
  refine ze_iload_n kc_136_0 rfl ?_
  refine zE_calls 1 kc_136_1 rfl rfl (Nat.le_of_ble_eq_true rfl) (Nat.le_of_ble_eq_true rfl) (Nat.le_of_ble_eq_true rfl) rfl ?_
  refine m_isRuleM (by omega) (fun g1 => ?_) (fun g1 => ?_)
  · simp only [Option.toList_some, Option.toList_none, List.drop_succ_cons, List.drop_zero, List.cons_append, List.nil_append]
    refine ze_if_ne kc_136_4 (by decide) (fun _ => ?_) (fun q => absurd q (by decide))
    refine ze_aload_n kc_136_10 rfl ?_
    refine ze_iload_n kc_136_11 rfl ?_
    refine zE_callv 2 kc_136_12 rfl rfl (Nat.le_of_ble_eq_true rfl) (Nat.le_of_ble_eq_true rfl) (Nat.le_of_ble_eq_true rfl) rfl (by decide +kernel) rfl ?_
    refine m_isOne hM0 (by omega) (fun g12 => ?_) (fun g12 => ?_)
    · simp only [Option.toList_some, Option.toList_none, List.drop_succ_cons, List.drop_zero, List.cons_append, List.nil_append]
      refine ze_if_ne kc_136_15 (by decide) (fun _ => ?_) (fun q => absurd q (by decide))
      refine ze_iload_n kc_136_20 rfl ?_
      refine ze_iconst kc_136_21 ?_
      refine ze_bipush kc_136_22 ?_
      refine zE_calls 3 kc_136_24 rfl rfl (Nat.le_of_ble_eq_true rfl) (Nat.le_of_ble_eq_true rfl) (Nat.le_of_ble_eq_true rfl) rfl ?_
      refine m_in (by omega) (by omega) (by omega) (fun g24 => ?_) (fun g24 => ?_)
      · simp only [Option.toList_some, Option.toList_none, List.drop_succ_cons, List.drop_zero, List.cons_append, List.nil_append]
        refine ze_if_ne kc_136_27 (by decide) (fun _ => ?_) (fun q => absurd q (by decide))
        obtain ⟨κ, rfl⟩ := Int.eq_ofNat_of_zero_le (show 0 ≤ i by omega)
        have hκ : κ < n := by omega
        have hss := zS_range (r := r) (n := n) (c := c) ⟨by omega, n6⟩ mr
        refine ze_iconst kc_136_33 ?_
        refine ze_istore kc_136_34 (Nat.le_of_ble_eq_true rfl) ?_
        simp only [zset1, zset2, zcut, List.set_cons_zero, List.set_cons_succ, List.getD_cons_zero, List.getD_cons_succ]
        have loop36 : ∀ (μ : Nat) (k : Nat) (x : Int) (Zc : zMem), (zsum n c).toNat + 1 - k = μ → (k ≤ (zsum n c).toNat + 1) → (x = k) → (zFq Z Zc) → (zfst ((zsum n c).toNat + 1 - k) k (fun x => decide (v * zS r n c ≤ zGt r n c κ 1 (x : Int))) (-5) = zfst ((zsum n c).toNat + 1) 0 (fun x => decide (v * zS r n c ≤ zGt r n c κ 1 (x : Int))) (-5)) → zE 136 36 [some (zR 63), some (zI r), some (zI (κ : Nat)), some (zI v), some (zI x)] [] Zc Q := by
          refine zind ?_
          intro μ ih k x Zc hm hk hx hq hR
          subst hx
          refine ze_iload kc_136_36 rfl ?_
          refine ze_aload_n kc_136_38 rfl ?_
          refine zE_callv 1 kc_136_39 rfl rfl (Nat.le_of_ble_eq_true rfl) (Nat.le_of_ble_eq_true rfl) (Nat.le_of_ble_eq_true rfl) rfl (by decide +kernel) rfl ?_
          refine m_allM (zMo_q hM0 hq) ?_
          simp only [Option.toList_some, Option.toList_none, List.drop_succ_cons, List.drop_zero, List.cons_append, List.nil_append]
          refine ze_icmp_gt kc_136_42 (by omega) (by omega) (fun h42 => ?_) (fun h42 => ?_)
          · skip
            refine ze_bipush kc_136_77 ?_
            refine ze_ireturn kc_136_79 (Or.inl rfl) ?_
            rw [zfst_end (by omega)] at hR
            rw [show oInv n c r κ v = zfst ((zsum n c).toNat + 1) 0 (fun x => decide (v * zS r n c ≤ zGt r n c κ 1 (x : Int))) (-5) from (if_neg (by omega)).trans ((if_neg (by omega)).trans (if_pos (by omega))), ← hR] at q1
            exact q1 _ hq
          · skip
            refine ze_aload_n kc_136_45 rfl ?_
            refine ze_iload_n kc_136_46 rfl ?_
            refine ze_iload kc_136_47 rfl ?_
            refine ze_iload_n kc_136_49 rfl ?_
            refine zE_callv 4 kc_136_50 rfl rfl (Nat.le_of_ble_eq_true rfl) (Nat.le_of_ble_eq_true rfl) (Nat.le_of_ble_eq_true rfl) rfl (by decide +kernel) rfl ?_
            refine m_awardAt (zMo_q hM0 hq) (by omega) hκ (by omega) (fun Z2 f1 f2 f3 => ?_)
            simp only [Option.toList_some, Option.toList_none, List.drop_succ_cons, List.drop_zero, List.cons_append, List.nil_append]
            refine ze_aload_n kc_136_53 rfl ?_
            refine ze_getL kc_136_54 rfl rfl ?_
            rw [f2]
            refine ze_iload_n kc_136_57 rfl ?_
            refine ze_i2l kc_136_58 (by omega) ?_
            refine ze_aload_n kc_136_59 rfl ?_
            refine ze_getL kc_136_60 rfl rfl ?_
            rw [f3]
            refine ze_lmul kc_136_63 ?_
            have gx := zGt_range (r := r) (i := κ) (w := 1) (u := ((k : Nat) : Int)) n6 hκ mr (by omega) (by omega)
            have hlp := zlow_p (a := zGt r n c κ 1 (k : Int)) (b := zS r n c) (by omega)
            have hlq := hlp.2.2.2 gx.1
            have hvs := zmb (a := v) (b := zlow (zGt r n c κ 1 (k : Int)) (zS r n c) 1) (A := 60) (B := 720) (by omega) (by omega)
            have hcmp := zlow_cmp (G := zGt r n c κ 1 (k : Int)) (S := zS r n c) (a := v) (b := 1) (by omega)
            rw [Int.one_mul, Int.one_mul] at hcmp
            refine ze_lcmp_lt kc_136_64 kc_136_65 (by omega) (by omega) (fun h64 => ?_) (fun h64 => ?_)
            · skip
              refine ze_iinc kc_136_71 rfl ?_
              simp only [zset1, zset2, zcut, List.set_cons_zero, List.set_cons_succ, List.getD_cons_zero, List.getD_cons_succ]
              refine ze_goto kc_136_74 ?_
              refine ih _ (by omega) (k + 1) _ _ rfl (by omega) (by omega) (zFq_trans hq (zFq_fm f1)) ((zfst_next (by omega) (decide_eq_false (fun q => absurd (hcmp.mpr q) (by omega)))).symm.trans hR)
            · skip
              refine ze_iload kc_136_68 rfl ?_
              refine ze_ireturn kc_136_70 (Or.inl rfl) ?_
              rw [zfst_hit (by omega) (decide_eq_true (hcmp.mp h64))] at hR
              rw [show oInv n c r κ v = zfst ((zsum n c).toNat + 1) 0 (fun x => decide (v * zS r n c ≤ zGt r n c κ 1 (x : Int))) (-5) from (if_neg (by omega)).trans ((if_neg (by omega)).trans (if_pos (by omega))), ← hR] at q1
              exact q1 _ (zFq_trans hq (zFq_fm f1))
        refine loop36 _ 0 0 Z rfl (by omega) rfl zFq_refl rfl
      · simp only [Option.toList_some, Option.toList_none, List.drop_succ_cons, List.drop_zero, List.cons_append, List.nil_append]
        refine ze_if_ne kc_136_27 (by decide) (fun q => absurd q (by decide)) (fun _ => ?_)
        refine ze_bipush kc_136_30 ?_
        refine ze_ireturn kc_136_32 (Or.inl rfl) ?_
        first
          | (rw [show oInv n c r i v = -2 from if_pos (by omega)] at q1; exact q1 _ zFq_refl)
          | (rw [show oInv n c r i v = -1 from (if_neg (by omega)).trans (if_pos (by omega))] at q1; exact q1 _ zFq_refl)
          | (rw [show oInv n c r i v = -2 from (if_neg (by omega)).trans ((if_neg (by omega)).trans (if_neg (by omega)))] at q1; exact q1 _ zFq_refl)
    · simp only [Option.toList_some, Option.toList_none, List.drop_succ_cons, List.drop_zero, List.cons_append, List.nil_append]
      refine ze_if_ne kc_136_15 (by decide) (fun q => absurd q (by decide)) (fun _ => ?_)
      refine ze_iconst kc_136_18 ?_
      refine ze_ireturn kc_136_19 (Or.inl rfl) ?_
      first
        | (rw [show oInv n c r i v = -2 from if_pos (by omega)] at q1; exact q1 _ zFq_refl)
        | (rw [show oInv n c r i v = -1 from (if_neg (by omega)).trans (if_pos (by omega))] at q1; exact q1 _ zFq_refl)
        | (rw [show oInv n c r i v = -2 from (if_neg (by omega)).trans ((if_neg (by omega)).trans (if_neg (by omega)))] at q1; exact q1 _ zFq_refl)
  · simp only [Option.toList_some, Option.toList_none, List.drop_succ_cons, List.drop_zero, List.cons_append, List.nil_append]
    refine ze_if_ne kc_136_4 (by decide) (fun q => absurd q (by decide)) (fun _ => ?_)
    refine ze_bipush kc_136_7 ?_
    refine ze_ireturn kc_136_9 (Or.inl rfl) ?_
    first
      | (rw [show oInv n c r i v = -2 from if_pos (by omega)] at q1; exact q1 _ zFq_refl)
      | (rw [show oInv n c r i v = -1 from (if_neg (by omega)).trans (if_pos (by omega))] at q1; exact q1 _ zFq_refl)
      | (rw [show oInv n c r i v = -2 from (if_neg (by omega)).trans ((if_neg (by omega)).trans (if_neg (by omega)))] at q1; exact q1 _ zFq_refl)

set_option maxHeartbeats 4000000 in
theorem m_oddsX {Z : zMem} {Q : Option zAV → zMem → Prop} {n : Nat} {c : Nat → Int} {e ρ : Int} (hC : zCl n c e ρ Z) {r i p : Int} (hr : -2147483648 ≤ r ∧ r ≤ 2147483647) (hi : -2147483648 ≤ i ∧ i ≤ 2147483647) (hp : -2147483648 ≤ p ∧ p ≤ 2147483647) (q1 : ∀ Z', zFq Z Z' → Q (some (zL (oOdds n c r i p))) Z') : zE 70 0 (zent 70 [zR 0, zI r, zI i, zI p]) [] Z Q := by
  show zE 70 0 [some (zR 0), some (zI r), some (zI i), some (zI p), none, none, none, none, none, none] [] Z Q
  obtain ⟨hU0, hG0, n6, n0, cc, cr, ce, cρ, ceR, cρR, c11, c16⟩ := zCl_o hC
  have csr := zsum_range cr
  refine ze_iload_n kc_70_0 rfl ?_
  refine zE_calls 1 kc_70_1 rfl rfl (Nat.le_of_ble_eq_true rfl) (Nat.le_of_ble_eq_true rfl) (Nat.le_of_ble_eq_true rfl) rfl ?_
  refine m_isRule (by omega) (fun g1 => ?_) (fun g1 => ?_)
  · simp only [Option.toList_some, Option.toList_none, List.drop_succ_cons, List.drop_zero, List.cons_append, List.nil_append]
    refine ze_if_eq kc_70_4 (by decide) (fun q => absurd q (by decide)) (fun _ => ?_)
    refine ze_aload_n kc_70_7 rfl ?_
    refine ze_getR kc_70_8 rfl rfl rfl ?_
    refine ze_getR kc_70_11 rfl rfl rfl ?_
    refine ze_iload_n kc_70_14 rfl ?_
    refine zE_callv 2 kc_70_15 rfl rfl (Nat.le_of_ble_eq_true rfl) (Nat.le_of_ble_eq_true rfl) (Nat.le_of_ble_eq_true rfl) rfl (by decide +kernel) rfl ?_
    refine m_has zgF_2 (by omega) (by omega) (fun g15 => ?_) (fun g15 => ?_)
    · simp only [Option.toList_some, Option.toList_none, List.drop_succ_cons, List.drop_zero, List.cons_append, List.nil_append]
      refine ze_if_eq kc_70_18 (by decide) (fun q => absurd q (by decide)) (fun _ => ?_)
      refine ze_iload_n kc_70_21 rfl ?_
      refine zE_calls 1 kc_70_22 rfl rfl (Nat.le_of_ble_eq_true rfl) (Nat.le_of_ble_eq_true rfl) (Nat.le_of_ble_eq_true rfl) rfl ?_
      refine m_isPart (by omega) (fun g22 => ?_) (fun g22 => ?_)
      · simp only [Option.toList_some, Option.toList_none, List.drop_succ_cons, List.drop_zero, List.cons_append, List.nil_append]
        refine ze_if_ne kc_70_25 (by decide) (fun _ => ?_) (fun q => absurd q (by decide))
        obtain ⟨κ, rfl⟩ := Int.eq_ofNat_of_zero_le (show 0 ≤ i by omega)
        have hκ : κ < n := by omega
        have hss := zS_range (r := r) (n := n) (c := c) ⟨by omega, n6⟩ cr
        have hck := cr κ hκ
        have hvs := zmb (a := c κ) (b := zS r n c) (A := 60) (B := 720) (by omega) (by omega)
        refine ze_aload_n kc_70_32 rfl ?_
        refine ze_getR kc_70_33 rfl rfl rfl ?_
        refine ze_getR kc_70_36 rfl rfl rfl ?_
        refine ze_astore kc_70_39 (Nat.le_of_ble_eq_true rfl) ?_
        simp only [zset1, zset2, zcut, List.set_cons_zero, List.set_cons_succ, List.getD_cons_zero, List.getD_cons_succ]
        refine ze_aload kc_70_41 rfl ?_
        refine zE_callv 1 kc_70_43 rfl rfl (Nat.le_of_ble_eq_true rfl) (Nat.le_of_ble_eq_true rfl) (Nat.le_of_ble_eq_true rfl) rfl (by decide +kernel) rfl ?_
        refine m_all zgF_2 hG0 ?_
        simp only [Option.toList_some, Option.toList_none, List.drop_succ_cons, List.drop_zero, List.cons_append, List.nil_append]
        refine ze_istore kc_70_46 (Nat.le_of_ble_eq_true rfl) ?_
        simp only [zset1, zset2, zcut, List.set_cons_zero, List.set_cons_succ, List.getD_cons_zero, List.getD_cons_succ]
        refine ze_aload kc_70_48 rfl ?_
        refine ze_getR kc_70_50 rfl rfl rfl ?_
        refine ze_iload_n kc_70_53 rfl ?_
        refine ze_iald kc_70_54 rfl (by omega) ?_
        rw [Int.toNat_natCast, cc κ hκ]
        refine ze_i2l kc_70_55 (by omega) ?_
        refine ze_aload kc_70_56 rfl ?_
        refine ze_iload_n kc_70_58 rfl ?_
        refine zE_callv 2 kc_70_59 rfl rfl (Nat.le_of_ble_eq_true rfl) (Nat.le_of_ble_eq_true rfl) (Nat.le_of_ble_eq_true rfl) rfl (by decide +kernel) rfl ?_
        refine m_scale zgF_2 hG0 (by omega) ?_
        simp only [Option.toList_some, Option.toList_none, List.drop_succ_cons, List.drop_zero, List.cons_append, List.nil_append]
        refine ze_lmul kc_70_62 ?_
        refine ze_lstore kc_70_63 (Nat.le_of_ble_eq_true rfl) ?_
        simp only [zset1, zset2, zcut, List.set_cons_zero, List.set_cons_succ, List.getD_cons_zero, List.getD_cons_succ]
        refine ze_iconst kc_70_65 ?_
        refine ze_istore kc_70_66 (Nat.le_of_ble_eq_true rfl) ?_
        simp only [zset1, zset2, zcut, List.set_cons_zero, List.set_cons_succ, List.getD_cons_zero, List.getD_cons_succ]
        refine ze_iconst kc_70_68 ?_
        refine ze_istore kc_70_69 (Nat.le_of_ble_eq_true rfl) ?_
        simp only [zset1, zset2, zcut, List.set_cons_zero, List.set_cons_succ, List.getD_cons_zero, List.getD_cons_succ]
        have loop71 : ∀ (μ : Nat) (k : Nat) (x v : Int), (zsum n c).toNat + 1 - k = μ → (k ≤ (zsum n c).toNat + 1) → (x = k) → (v = zCnt n c r κ k) → zE 70 71 [some (zR 0), some (zI r), some (zI (κ : Nat)), some (zI p), some (zR 2), some (zI (zsum n c)), some (zL (c κ * zS r n c)), none, some (zI v), some (zI x)] [] Z Q := by
          refine zind ?_
          intro μ ih k x v hm hk hx hv
          subst hx
          refine ze_iload kc_70_71 rfl ?_
          refine ze_iload kc_70_73 rfl ?_
          refine ze_icmp_gt kc_70_75 (by omega) (by omega) (fun h75 => ?_) (fun h75 => ?_)
          · skip
            have hk2 : k = (zsum n c).toNat + 1 := by omega
            have hz := zCnt_r (n := n) (c := c) (r := r) (i := κ) (m := k)
            refine ze_iload kc_70_108 rfl ?_
            refine ze_i2l kc_70_110 (by omega) ?_
            refine ze_iload kc_70_111 rfl ?_
            refine ze_iconst kc_70_113 ?_
            refine ze_iadd kc_70_114 ?_
            refine ze_i2l kc_70_115 (by omega) ?_
            refine ze_iload_n kc_70_116 rfl ?_
            refine zE_calls 3 kc_70_117 rfl rfl (Nat.le_of_ble_eq_true rfl) (Nat.le_of_ble_eq_true rfl) (Nat.le_of_ble_eq_true rfl) rfl ?_
            refine m_low (by omega) (by omega) (by omega) ?_
            simp only [Option.toList_some, Option.toList_none, List.drop_succ_cons, List.drop_zero, List.cons_append, List.nil_append]
            refine ze_lreturn kc_70_120 ?_
            rw [show oOdds n c r κ p = _ from if_pos (by omega)] at q1
            rw [hv, hk2]
            exact q1 _ zFq_refl
          · skip
            refine ze_ldc2L kc_70_78 ?_
            refine ze_aload kc_70_81 rfl ?_
            refine ze_iload_n kc_70_83 rfl ?_
            refine ze_iload_n kc_70_84 rfl ?_
            refine ze_iload kc_70_85 rfl ?_
            have gx := zGt_range (r := r) (w := 1) (u := ((k : Nat) : Int)) n6 hκ cr (by omega) (by omega)
            refine ze_i2l kc_70_87 (by omega) ?_
            refine ze_lconst1 kc_70_88 ?_
            refine zE_callv 5 kc_70_89 rfl rfl (Nat.le_of_ble_eq_true rfl) (Nat.le_of_ble_eq_true rfl) (Nat.le_of_ble_eq_true rfl) rfl (by decide +kernel) rfl ?_
            refine m_gets zgF_2 hG0 hκ (by omega) (by omega) (by omega) ?_
            simp only [Option.toList_some, Option.toList_none, List.drop_succ_cons, List.drop_zero, List.cons_append, List.nil_append]
            refine ze_lmul kc_70_92 ?_
            refine ze_lload kc_70_93 rfl ?_
            refine ze_lcmp_lt kc_70_95 kc_70_96 (by omega) (by omega) (fun h95 => ?_) (fun h95 => ?_)
            · skip
              refine ze_iinc kc_70_102 rfl ?_
              simp only [zset1, zset2, zcut, List.set_cons_zero, List.set_cons_succ, List.getD_cons_zero, List.getD_cons_succ]
              refine ze_goto kc_70_105 ?_
              refine ih _ (by omega) (k + 1) _ _ rfl (by omega) (by omega) ?_
              unfold zCnt at hv ⊢
              rw [zsum_succ, ← hv]
              first
                | rw [if_pos h95]
                | rw [if_neg (by omega), Int.add_zero]
            · skip
              refine ze_iinc kc_70_99 rfl ?_
              simp only [zset1, zset2, zcut, List.set_cons_zero, List.set_cons_succ, List.getD_cons_zero, List.getD_cons_succ]
              refine ze_iinc kc_70_102 rfl ?_
              simp only [zset1, zset2, zcut, List.set_cons_zero, List.set_cons_succ, List.getD_cons_zero, List.getD_cons_succ]
              refine ze_goto kc_70_105 ?_
              refine ih _ (by omega) (k + 1) _ _ rfl (by omega) (by omega) ?_
              unfold zCnt at hv ⊢
              rw [zsum_succ, ← hv]
              first
                | rw [if_pos h95]
                | rw [if_neg (by omega), Int.add_zero]
        refine loop71 _ 0 0 0 rfl (by omega) rfl rfl
      · simp only [Option.toList_some, Option.toList_none, List.drop_succ_cons, List.drop_zero, List.cons_append, List.nil_append]
        refine ze_if_ne kc_70_25 (by decide) (fun q => absurd q (by decide)) (fun _ => ?_)
        refine ze_ldc2L kc_70_28 ?_
        refine ze_lreturn kc_70_31 ?_
        rw [show oOdds n c r i p = -9223372036854775808 from if_neg (by omega)] at q1
        exact q1 _ zFq_refl
    · simp only [Option.toList_some, Option.toList_none, List.drop_succ_cons, List.drop_zero, List.cons_append, List.nil_append]
      refine ze_if_eq kc_70_18 (by decide) (fun _ => ?_) (fun q => absurd q (by decide))
      refine ze_ldc2L kc_70_28 ?_
      refine ze_lreturn kc_70_31 ?_
      rw [show oOdds n c r i p = -9223372036854775808 from if_neg (by omega)] at q1
      exact q1 _ zFq_refl
  · simp only [Option.toList_some, Option.toList_none, List.drop_succ_cons, List.drop_zero, List.cons_append, List.nil_append]
    refine ze_if_eq kc_70_4 (by decide) (fun _ => ?_) (fun q => absurd q (by decide))
    refine ze_ldc2L kc_70_28 ?_
    refine ze_lreturn kc_70_31 ?_
    rw [show oOdds n c r i p = -9223372036854775808 from if_neg (by omega)] at q1
    exact q1 _ zFq_refl

set_option maxHeartbeats 4000000 in
theorem m_oddsM {Z : zMem} {Q : Option zAV → zMem → Prop} {n : Nat} {c : Nat → Int} {e ρ : Int} (hM : zMo n c e ρ Z) {r i p : Int} (hr : -2147483648 ≤ r ∧ r ≤ 2147483647) (hi : -2147483648 ≤ i ∧ i ≤ 2147483647) (hp : -2147483648 ≤ p ∧ p ≤ 2147483647) (q1 : ∀ Z', zFq Z Z' → Q (some (zL (oOdds n c r i p))) Z') : zE 154 0 (zent 154 [zR 63, zI r, zI i, zI p]) [] Z Q := by
  show zE 154 0 [some (zR 63), some (zI r), some (zI i), some (zI p), none, none, none] [] Z Q
  have hM0 := hM
  obtain ⟨n0, n6, mc, mr, me, mρ, meR, mρR⟩ := hM
  have msr := zsum_range mr
  have hp6 := zpow6 n6
  refine ze_iload_n kc_154_0 rfl ?_
  refine zE_calls 1 kc_154_1 rfl rfl (Nat.le_of_ble_eq_true rfl) (Nat.le_of_ble_eq_true rfl) (Nat.le_of_ble_eq_true rfl) rfl ?_
  refine m_isRuleM (by omega) (fun g1 => ?_) (fun g1 => ?_)
  · simp only [Option.toList_some, Option.toList_none, List.drop_succ_cons, List.drop_zero, List.cons_append, List.nil_append]
    refine ze_if_eq kc_154_4 (by decide) (fun q => absurd q (by decide)) (fun _ => ?_)
    refine ze_aload_n kc_154_7 rfl ?_
    refine ze_iload_n kc_154_8 rfl ?_
    refine zE_callv 2 kc_154_9 rfl rfl (Nat.le_of_ble_eq_true rfl) (Nat.le_of_ble_eq_true rfl) (Nat.le_of_ble_eq_true rfl) rfl (by decide +kernel) rfl ?_
    refine m_isOne hM0 (by omega) (fun g9 => ?_) (fun g9 => ?_)
    · simp only [Option.toList_some, Option.toList_none, List.drop_succ_cons, List.drop_zero, List.cons_append, List.nil_append]
      refine ze_if_eq kc_154_12 (by decide) (fun q => absurd q (by decide)) (fun _ => ?_)
      refine ze_iload_n kc_154_15 rfl ?_
      refine zE_calls 1 kc_154_16 rfl rfl (Nat.le_of_ble_eq_true rfl) (Nat.le_of_ble_eq_true rfl) (Nat.le_of_ble_eq_true rfl) rfl ?_
      refine m_isPartM (by omega) (fun g16 => ?_) (fun g16 => ?_)
      · simp only [Option.toList_some, Option.toList_none, List.drop_succ_cons, List.drop_zero, List.cons_append, List.nil_append]
        refine ze_if_ne kc_154_19 (by decide) (fun _ => ?_) (fun q => absurd q (by decide))
        obtain ⟨κ, rfl⟩ := Int.eq_ofNat_of_zero_le (show 0 ≤ i by omega)
        have hκ : κ < n := by omega
        have hss := zS_range (r := r) (n := n) (c := c) ⟨by omega, n6⟩ mr
        have hck := mr κ hκ
        refine ze_iconst kc_154_26 ?_
        refine ze_istore kc_154_27 (Nat.le_of_ble_eq_true rfl) ?_
        simp only [zset1, zset2, zcut, List.set_cons_zero, List.set_cons_succ, List.getD_cons_zero, List.getD_cons_succ]
        refine ze_aload_n kc_154_29 rfl ?_
        refine zE_callv 1 kc_154_30 rfl rfl (Nat.le_of_ble_eq_true rfl) (Nat.le_of_ble_eq_true rfl) (Nat.le_of_ble_eq_true rfl) rfl (by decide +kernel) rfl ?_
        refine m_allM hM0 ?_
        simp only [Option.toList_some, Option.toList_none, List.drop_succ_cons, List.drop_zero, List.cons_append, List.nil_append]
        refine ze_istore kc_154_33 (Nat.le_of_ble_eq_true rfl) ?_
        simp only [zset1, zset2, zcut, List.set_cons_zero, List.set_cons_succ, List.getD_cons_zero, List.getD_cons_succ]
        refine ze_iconst kc_154_35 ?_
        refine ze_istore kc_154_36 (Nat.le_of_ble_eq_true rfl) ?_
        simp only [zset1, zset2, zcut, List.set_cons_zero, List.set_cons_succ, List.getD_cons_zero, List.getD_cons_succ]
        have loop38 : ∀ (μ : Nat) (k : Nat) (x v : Int) (Zc : zMem), (zsum n c).toNat + 1 - k = μ → (k ≤ (zsum n c).toNat + 1) → (x = k) → (v = zCnt n c r κ k) → (zFq Z Zc) → zE 154 38 [some (zR 63), some (zI r), some (zI (κ : Nat)), some (zI p), some (zI v), some (zI (zsum n c)), some (zI x)] [] Zc Q := by
          refine zind ?_
          intro μ ih k x v Zc hm hk hx hv hq
          subst hx
          refine ze_iload kc_154_38 rfl ?_
          refine ze_iload kc_154_40 rfl ?_
          refine ze_icmp_gt kc_154_42 (by omega) (by omega) (fun h42 => ?_) (fun h42 => ?_)
          · skip
            have hk2 : k = (zsum n c).toNat + 1 := by omega
            have hz := zCnt_r (n := n) (c := c) (r := r) (i := κ) (m := k)
            refine ze_aload_n kc_154_93 rfl ?_
            refine ze_iload kc_154_94 rfl ?_
            refine ze_i2l kc_154_96 (by omega) ?_
            refine ze_iload kc_154_97 rfl ?_
            refine ze_i2l kc_154_99 (by omega) ?_
            refine ze_lconst1 kc_154_100 ?_
            refine ze_ladd kc_154_101 ?_
            refine zE_callv 3 kc_154_102 rfl rfl (Nat.le_of_ble_eq_true rfl) (Nat.le_of_ble_eq_true rfl) (Nat.le_of_ble_eq_true rfl) rfl (by decide +kernel) rfl ?_
            refine m_fraction (by omega) (by omega) ?_
            simp only [Option.toList_some, Option.toList_none, List.drop_succ_cons, List.drop_zero, List.cons_append, List.nil_append]
            refine ze_aload_n kc_154_105 rfl ?_
            refine ze_iload_n kc_154_106 rfl ?_
            refine zE_callv 2 kc_154_107 rfl rfl (Nat.le_of_ble_eq_true rfl) (Nat.le_of_ble_eq_true rfl) (Nat.le_of_ble_eq_true rfl) rfl (by decide +kernel) rfl ?_
            refine m_partM (by omega) ?_
            simp only [Option.toList_some, Option.toList_none, List.drop_succ_cons, List.drop_zero, List.cons_append, List.nil_append]
            refine ze_lreturn kc_154_110 ?_
            rw [show oOdds n c r κ p = _ from if_pos (by omega)] at q1
            rw [zup_o (by decide), zup_s, zup_s, hv, hk2]
            rcases (show p = 0 ∨ p = 1 by omega) with rfl | rfl
            · exact q1 _ (zFq_trans hq (zFq_fm (zFm_up (zFm_up zFm_refl (by omega)) (by omega))))
            · exact q1 _ (zFq_trans hq (zFq_fm (zFm_up (zFm_up zFm_refl (by omega)) (by omega))))
          · skip
            refine ze_aload_n kc_154_45 rfl ?_
            refine ze_iload_n kc_154_46 rfl ?_
            refine ze_iload kc_154_47 rfl ?_
            refine ze_iload_n kc_154_49 rfl ?_
            refine zE_callv 4 kc_154_50 rfl rfl (Nat.le_of_ble_eq_true rfl) (Nat.le_of_ble_eq_true rfl) (Nat.le_of_ble_eq_true rfl) rfl (by decide +kernel) rfl ?_
            refine m_awardAt (zMo_q hM0 hq) (by omega) hκ (by omega) (fun Z2 f1 f2 f3 => ?_)
            simp only [Option.toList_some, Option.toList_none, List.drop_succ_cons, List.drop_zero, List.cons_append, List.nil_append]
            refine ze_iload kc_154_53 rfl ?_
            refine ze_ldc2L kc_154_55 ?_
            refine ze_aload_n kc_154_58 rfl ?_
            refine ze_getL kc_154_59 rfl rfl ?_
            rw [f2]
            refine ze_lmul kc_154_62 ?_
            refine ze_aload_n kc_154_63 rfl ?_
            refine ze_getR kc_154_64 rfl rfl rfl ?_
            refine ze_iload_n kc_154_67 rfl ?_
            refine ze_iald kc_154_68 rfl (by omega) ?_
            rw [Int.toNat_natCast, (zMo_fm (zMo_q hM0 hq) f1).2.2.1 κ hκ]
            refine ze_i2l kc_154_69 (by omega) ?_
            refine ze_aload_n kc_154_70 rfl ?_
            refine ze_getL kc_154_71 rfl rfl ?_
            rw [f3]
            refine ze_lmul kc_154_74 ?_
            have gx := zGt_range (r := r) (i := κ) (w := 1) (u := ((k : Nat) : Int)) n6 hκ mr (by omega) (by omega)
            have hlp := zlow_p (a := zGt r n c κ 1 (k : Int)) (b := zS r n c) (by omega)
            have hlq := hlp.2.2.2 gx.1
            have hvs := zmb (a := c κ) (b := zlow (zGt r n c κ 1 (k : Int)) (zS r n c) 1) (A := 60) (B := 720) (by omega) (by omega)
            have hcmp := zlow_cmp (G := zGt r n c κ 1 (k : Int)) (S := zS r n c) (a := c κ) (b := 2) (by omega)
            refine ze_lcmp_lt kc_154_75 kc_154_76 (by omega) (by omega) (fun h75 => ?_) (fun h75 => ?_)
            · skip
              refine ze_iconst kc_154_83 ?_
              refine ze_iadd kc_154_84 ?_
              refine ze_istore kc_154_85 (Nat.le_of_ble_eq_true rfl) ?_
              simp only [zset1, zset2, zcut, List.set_cons_zero, List.set_cons_succ, List.getD_cons_zero, List.getD_cons_succ]
              refine ze_iinc kc_154_87 rfl ?_
              simp only [zset1, zset2, zcut, List.set_cons_zero, List.set_cons_succ, List.getD_cons_zero, List.getD_cons_succ]
              refine ze_goto kc_154_90 ?_
              refine ih _ (by omega) (k + 1) _ _ _ rfl (by omega) (by omega) ?_ (zFq_trans hq (zFq_fm f1))
              unfold zCnt at hv ⊢
              rw [zsum_succ, ← hv]
              first
                | rw [if_pos (hcmp.mp h75)]
                | rw [if_neg (fun q => absurd (hcmp.mpr q) (by omega))]
            · skip
              refine ze_iconst kc_154_79 ?_
              refine ze_goto kc_154_80 ?_
              refine ze_iadd kc_154_84 ?_
              refine ze_istore kc_154_85 (Nat.le_of_ble_eq_true rfl) ?_
              simp only [zset1, zset2, zcut, List.set_cons_zero, List.set_cons_succ, List.getD_cons_zero, List.getD_cons_succ]
              refine ze_iinc kc_154_87 rfl ?_
              simp only [zset1, zset2, zcut, List.set_cons_zero, List.set_cons_succ, List.getD_cons_zero, List.getD_cons_succ]
              refine ze_goto kc_154_90 ?_
              refine ih _ (by omega) (k + 1) _ _ _ rfl (by omega) (by omega) ?_ (zFq_trans hq (zFq_fm f1))
              unfold zCnt at hv ⊢
              rw [zsum_succ, ← hv]
              first
                | rw [if_pos (hcmp.mp h75)]
                | rw [if_neg (fun q => absurd (hcmp.mpr q) (by omega))]
        refine loop38 _ 0 0 0 Z rfl (by omega) rfl rfl zFq_refl
      · simp only [Option.toList_some, Option.toList_none, List.drop_succ_cons, List.drop_zero, List.cons_append, List.nil_append]
        refine ze_if_ne kc_154_19 (by decide) (fun q => absurd q (by decide)) (fun _ => ?_)
        refine ze_ldc2L kc_154_22 ?_
        refine ze_lreturn kc_154_25 ?_
        rw [show oOdds n c r i p = -9223372036854775808 from if_neg (by omega)] at q1
        exact q1 _ zFq_refl
    · simp only [Option.toList_some, Option.toList_none, List.drop_succ_cons, List.drop_zero, List.cons_append, List.nil_append]
      refine ze_if_eq kc_154_12 (by decide) (fun _ => ?_) (fun q => absurd q (by decide))
      refine ze_ldc2L kc_154_22 ?_
      refine ze_lreturn kc_154_25 ?_
      rw [show oOdds n c r i p = -9223372036854775808 from if_neg (by omega)] at q1
      exact q1 _ zFq_refl
  · simp only [Option.toList_some, Option.toList_none, List.drop_succ_cons, List.drop_zero, List.cons_append, List.nil_append]
    refine ze_if_eq kc_154_4 (by decide) (fun _ => ?_) (fun q => absurd q (by decide))
    refine ze_ldc2L kc_154_22 ?_
    refine ze_lreturn kc_154_25 ?_
    rw [show oOdds n c r i p = -9223372036854775808 from if_neg (by omega)] at q1
    exact q1 _ zFq_refl

set_option maxHeartbeats 4000000 in
theorem m_meanX {Z : zMem} {Q : Option zAV → zMem → Prop} {n : Nat} {c : Nat → Int} {e ρ : Int} (hC : zCl n c e ρ Z) {p : Int} (hp : -2147483648 ≤ p ∧ p ≤ 2147483647) (q1 : ∀ Z', zFq Z Z' → Q (some (zL (oMean n e p))) Z') : zE 71 0 (zent 71 [zR 0, zI p]) [] Z Q := by
  show zE 71 0 [some (zR 0), some (zI p)] [] Z Q
  obtain ⟨hU0, hG0, n6, n0, cc, cr, ce, cρ, ceR, cρR, c11, c16⟩ := zCl_o hC
  have csr := zsum_range cr
  refine ze_iload_n kc_71_0 rfl ?_
  refine zE_calls 1 kc_71_1 rfl rfl (Nat.le_of_ble_eq_true rfl) (Nat.le_of_ble_eq_true rfl) (Nat.le_of_ble_eq_true rfl) rfl ?_
  refine m_isPart (by omega) (fun g1 => ?_) (fun g1 => ?_)
  · simp only [Option.toList_some, Option.toList_none, List.drop_succ_cons, List.drop_zero, List.cons_append, List.nil_append]
    refine ze_if_eq kc_71_4 (by decide) (fun q => absurd q (by decide)) (fun _ => ?_)
    refine ze_aload_n kc_71_7 rfl ?_
    refine ze_getR kc_71_8 rfl rfl rfl ?_
    refine ze_getR kc_71_11 rfl rfl rfl ?_
    refine ze_getI kc_71_14 rfl (by decide) ?_
    rw [n0]
    refine ze_iconst kc_71_17 ?_
    refine ze_icmp_ge kc_71_18 (by omega) (by omega) (fun h18 => ?_) (fun h18 => ?_)
    · skip
      refine ze_aload_n kc_71_25 rfl ?_
      refine ze_getR kc_71_26 rfl rfl rfl ?_
      refine ze_getI kc_71_29 rfl (by decide) ?_
      rw [ce]
      refine ze_i2l kc_71_32 (by omega) ?_
      refine ze_aload_n kc_71_33 rfl ?_
      refine ze_getR kc_71_34 rfl rfl rfl ?_
      refine ze_getR kc_71_37 rfl rfl rfl ?_
      refine ze_getI kc_71_40 rfl (by decide) ?_
      rw [n0]
      refine ze_i2l kc_71_43 (by omega) ?_
      refine ze_iload_n kc_71_44 rfl ?_
      refine zE_calls 3 kc_71_45 rfl rfl (Nat.le_of_ble_eq_true rfl) (Nat.le_of_ble_eq_true rfl) (Nat.le_of_ble_eq_true rfl) rfl ?_
      refine m_low (by omega) (by omega) (by omega) ?_
      simp only [Option.toList_some, Option.toList_none, List.drop_succ_cons, List.drop_zero, List.cons_append, List.nil_append]
      refine ze_lreturn kc_71_48 ?_
      rw [show oMean n e p = _ from if_pos (by omega)] at q1
      exact q1 _ zFq_refl
    · skip
      refine ze_ldc2L kc_71_21 ?_
      refine ze_lreturn kc_71_24 ?_
      rw [show oMean n e p = -9223372036854775808 from if_neg (by omega)] at q1
      exact q1 _ zFq_refl
  · simp only [Option.toList_some, Option.toList_none, List.drop_succ_cons, List.drop_zero, List.cons_append, List.nil_append]
    refine ze_if_eq kc_71_4 (by decide) (fun _ => ?_) (fun q => absurd q (by decide))
    refine ze_ldc2L kc_71_21 ?_
    refine ze_lreturn kc_71_24 ?_
    rw [show oMean n e p = -9223372036854775808 from if_neg (by omega)] at q1
    exact q1 _ zFq_refl

set_option maxHeartbeats 4000000 in
theorem m_meanM {Z : zMem} {Q : Option zAV → zMem → Prop} {n : Nat} {c : Nat → Int} {e ρ : Int} (hM : zMo n c e ρ Z) {p : Int} (hp : -2147483648 ≤ p ∧ p ≤ 2147483647) (q1 : ∀ Z', zFq Z Z' → Q (some (zL (oMean n e p))) Z') : zE 155 0 (zent 155 [zR 63, zI p]) [] Z Q := by
  show zE 155 0 [some (zR 63), some (zI p)] [] Z Q
  have hM0 := hM
  obtain ⟨n0, n6, mc, mr, me, mρ, meR, mρR⟩ := hM
  have msr := zsum_range mr
  have hp6 := zpow6 n6
  refine ze_iload_n kc_155_0 rfl ?_
  refine zE_calls 1 kc_155_1 rfl rfl (Nat.le_of_ble_eq_true rfl) (Nat.le_of_ble_eq_true rfl) (Nat.le_of_ble_eq_true rfl) rfl ?_
  refine m_isPartM (by omega) (fun g1 => ?_) (fun g1 => ?_)
  · simp only [Option.toList_some, Option.toList_none, List.drop_succ_cons, List.drop_zero, List.cons_append, List.nil_append]
    refine ze_if_eq kc_155_4 (by decide) (fun q => absurd q (by decide)) (fun _ => ?_)
    refine ze_aload_n kc_155_7 rfl ?_
    refine ze_getI kc_155_8 rfl (by decide) ?_
    rw [n0]
    refine ze_if_ne kc_155_11 (by omega) (fun h11 => ?_) (fun h11 => ?_)
    · skip
      refine ze_aload_n kc_155_18 rfl ?_
      refine ze_aload_n kc_155_19 rfl ?_
      refine ze_getI kc_155_20 rfl (by decide) ?_
      rw [me]
      refine ze_i2l kc_155_23 (by omega) ?_
      refine ze_aload_n kc_155_24 rfl ?_
      refine ze_getI kc_155_25 rfl (by decide) ?_
      rw [n0]
      refine ze_i2l kc_155_28 (by omega) ?_
      refine zE_callv 3 kc_155_29 rfl rfl (Nat.le_of_ble_eq_true rfl) (Nat.le_of_ble_eq_true rfl) (Nat.le_of_ble_eq_true rfl) rfl (by decide +kernel) rfl ?_
      refine m_fraction (by omega) (by omega) ?_
      simp only [Option.toList_some, Option.toList_none, List.drop_succ_cons, List.drop_zero, List.cons_append, List.nil_append]
      refine ze_aload_n kc_155_32 rfl ?_
      refine ze_iload_n kc_155_33 rfl ?_
      refine zE_callv 2 kc_155_34 rfl rfl (Nat.le_of_ble_eq_true rfl) (Nat.le_of_ble_eq_true rfl) (Nat.le_of_ble_eq_true rfl) rfl (by decide +kernel) rfl ?_
      refine m_partM (by omega) ?_
      simp only [Option.toList_some, Option.toList_none, List.drop_succ_cons, List.drop_zero, List.cons_append, List.nil_append]
      refine ze_lreturn kc_155_37 ?_
      rw [show oMean n e p = _ from if_pos (by omega)] at q1
      rw [zup_o (by decide), zup_s, zup_s]
      rcases (show p = 0 ∨ p = 1 by omega) with rfl | rfl
      · exact q1 _ (zFq_fm (zFm_up (zFm_up zFm_refl (by omega)) (by omega)))
      · exact q1 _ (zFq_fm (zFm_up (zFm_up zFm_refl (by omega)) (by omega)))
    · skip
      refine ze_ldc2L kc_155_14 ?_
      refine ze_lreturn kc_155_17 ?_
      rw [show oMean n e p = -9223372036854775808 from if_neg (by omega)] at q1
      exact q1 _ zFq_refl
  · simp only [Option.toList_some, Option.toList_none, List.drop_succ_cons, List.drop_zero, List.cons_append, List.nil_append]
    refine ze_if_eq kc_155_4 (by decide) (fun _ => ?_) (fun q => absurd q (by decide))
    refine ze_ldc2L kc_155_14 ?_
    refine ze_lreturn kc_155_17 ?_
    rw [show oMean n e p = -9223372036854775808 from if_neg (by omega)] at q1
    exact q1 _ zFq_refl
