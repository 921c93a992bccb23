theorem zpc_lt : ∀ S, S < 64 → ∀ A, A < 64 → ∀ i, i < 6 → (decide (A &&& S = A) && !A.testBit i && S.testBit i) = true → zpc A + 1 ≤ zpc S := by decide +kernel
theorem zGt_0 {r : Int} {n i : Nat} {c : Nat → Int} {w u : Int} (h : r = 0) : zGt r n c i w u = 2 * zLv n c i w u := if_pos h
theorem zGt_1 {r : Int} {n i : Nat} {c : Nat → Int} {w u : Int} (h : r = 1) : zGt r n c i w u = c i * w * 120 - 2 * zLv n c i w (zsum n c * w - u) := (if_neg (by omega)).trans (if_pos h)
theorem zGt_2 {r : Int} {n i : Nat} {c : Nat → Int} {w u : Int} (h : r = 2) : zGt r n c i w u = u * c i := (if_neg (by omega)).trans ((if_neg (by omega)).trans (if_pos h))
theorem zGt_3p {r : Int} {n i : Nat} {c : Nat → Int} {w u : Int} (h : r = 3) (q : u ≤ zsum n c * w - u) : zGt r n c i w u = zLv n c i w (2 * u) := (if_neg (by omega)).trans ((if_neg (by omega)).trans ((if_neg (by omega)).trans ((if_pos h).trans (if_pos q))))
theorem zGt_3r {r : Int} {n i : Nat} {c : Nat → Int} {w u : Int} (h : r = 3) (q : ¬ u ≤ zsum n c * w - u) : zGt r n c i w u = c i * w * 120 - zLv n c i w (2 * (zsum n c * w - u)) := (if_neg (by omega)).trans ((if_neg (by omega)).trans ((if_neg (by omega)).trans ((if_pos h).trans (if_neg q))))
theorem zGt_4p {r : Int} {n i : Nat} {c : Nat → Int} {w u : Int} (h : r = 4) (q : u ≤ zsum n c * w - u) : zGt r n c i w u = c i * w * 60 - zLv n c i w (zsum n c * w - u - u) := (if_neg (by omega)).trans ((if_neg (by omega)).trans ((if_neg (by omega)).trans ((if_neg (by omega)).trans ((if_pos h).trans (if_pos q)))))
theorem zGt_4r {r : Int} {n i : Nat} {c : Nat → Int} {w u : Int} (h : r = 4) (q : ¬ u ≤ zsum n c * w - u) : zGt r n c i w u = c i * w * 60 + zLv n c i w (u - (zsum n c * w - u)) := (if_neg (by omega)).trans ((if_neg (by omega)).trans ((if_neg (by omega)).trans ((if_neg (by omega)).trans ((if_pos h).trans (if_neg q)))))
theorem zGt_5 {r : Int} {n i : Nat} {c : Nat → Int} {w u : Int} (h : r = 5) : zGt r n c i w u = zAr n c i w u := (if_neg (by omega)).trans ((if_neg (by omega)).trans ((if_neg (by omega)).trans ((if_neg (by omega)).trans (if_neg (by omega)))))
def zAwd (r : Int) (m : Nat) (c : Nat → Int) (i : Nat) (d u : Int) (Z Zx : zMem) : Prop := ∃ uU uD : Int, zFm Z Zx ∧ Zx 63 22 = uU ∧ Zx 63 23 = uD ∧ (1 ≤ uD ∧ uD ≤ 720) ∧ (-576460752303423488 ≤ uU ∧ uU ≤ 576460752303423488) ∧ uU * (zS r m c * d) = zGt r m c i d u * (uD * (2 * d))
theorem zAwd_60 {r : Int} {m : Nat} {c : Nat → Int} {i : Nat} {d u uU uD : Int} {Z Zx : zMem} (hr : r ≠ 2 ∧ r ≠ 5) (hf : zFm Z Zx) (h22 : Zx 63 22 = uU) (h23 : Zx 63 23 = uD) (hD : 1 ≤ uD ∧ uD ≤ 6) (hg : 0 ≤ zGt r m c i d u ∧ zGt r m c i d u ≤ 2199023255552) (h : uU * 60 = zGt r m c i d u * uD) : zAwd r m c i d u Z Zx := by
  have hb := zmb hg (show 0 ≤ uD ∧ uD ≤ 6 by omega)
  exact ⟨uU, uD, hf, h22, h23, by omega, by omega, by
    rw [show zS r m c = 120 by unfold zS; rw [if_neg hr.1, if_neg hr.2], show (120 : Int) * d = 60 * (2 * d) by omega, ← Int.mul_assoc, h, Int.mul_assoc]⟩
theorem zArt_alt {n S m i i' : Nat} {σ : Nat → Nat} {c : Nat → Int} {w u : Int} (hE : zEn n S m σ c i i') (hc : 0 ≤ c i * w) : zsum (2 ^ n) (fun A => if A &&& S = A ∧ A.testBit i = false then min (c i * w) (max 0 (u - zsub n c A * w)) * zfac (zpc A) * zfac (m - 1 - zpc A) else 0) = zAr m (fun k => c (σ k)) i' w u := by
  obtain ⟨e1, e2, e3, e4, e5, e6, e7, e8, e9, e10⟩ := hE
  rw [e10 (fun p s => min (c i * w) (max 0 (u - s * w)) * zfac p * zfac (m - 1 - p))]
  unfold zAr
  refine zsum_congr (fun B hB => ?_)
  unfold zArt
  simp only [e5]
  by_cases q : B.testBit i' = false
  · by_cases q2 : 0 < u - zsub m (fun k => c (σ k)) B * w
    · rw [if_pos q, if_pos ⟨q, q2⟩, show max 0 (u - zsub m (fun k => c (σ k)) B * w) = u - zsub m (fun k => c (σ k)) B * w by omega]
    · rw [if_pos q, if_neg (fun h => q2 h.2), show min (c i * w) (max 0 (u - zsub m (fun k => c (σ k)) B * w)) = 0 by omega, Int.zero_mul, Int.zero_mul]
  · rw [if_neg q, if_neg (fun h => q h.1)]
set_option maxHeartbeats 4000000 in
theorem m_less {Z : zMem} {Q : Option zAV → zMem → Prop} {n : Nat} {c : Nat → Int} {e ρ : Int} (hM : zMo n c e ρ Z) {i : Nat} {w : Int} (hi : i < n) (q1 : Q none (zup Z 63 22 (c i * w * Z 63 23 - Z 63 22))) : zE 120 0 (zent 120 [zR 63, zI (i : Nat), zL w]) [] Z Q := by
  show zE 120 0 [some (zR 63), some (zI (i : Nat)), some (zL w), none] [] Z Q
  have hM0 := hM
  obtain ⟨n0, n6, mc, mr, me, mρ, meR, mρR⟩ := hM
  have msr := zsum_range mr
  have hp6 := zpow6 n6
  have hci := mr i hi
  refine ze_aload_n kc_120_0 rfl ?_
  refine ze_aload_n kc_120_1 rfl ?_
  refine ze_getR kc_120_2 rfl rfl rfl ?_
  refine ze_iload_n kc_120_5 rfl ?_
  refine ze_iald kc_120_6 rfl (by omega) ?_
  rw [Int.toNat_natCast, mc i hi]
  refine ze_i2l kc_120_7 (by omega) ?_
  refine ze_lload_n kc_120_8 rfl ?_
  refine ze_lmul kc_120_9 ?_
  refine ze_aload_n kc_120_10 rfl ?_
  refine ze_getL kc_120_11 rfl rfl ?_
  refine ze_lmul kc_120_14 ?_
  refine ze_aload_n kc_120_15 rfl ?_
  refine ze_getL kc_120_16 rfl rfl ?_
  refine ze_lsub kc_120_19 ?_
  refine ze_putL kc_120_20 rfl rfl ?_
  refine ze_return kc_120_23 ?_
  exact q1

set_option maxHeartbeats 4000000 in
theorem m_loss {Z : zMem} {Q : Option zAV → zMem → Prop} {n : Nat} {c : Nat → Int} {e ρ : Int} (hM : zMo n c e ρ Z) {S m i i' : Nat} {σ : Nat → Nat} {u w : Int} (hE : zEn n S m σ c i i') (hw : 0 ≤ w ∧ w ≤ 1048576) (hu : 0 ≤ zsub n c S * w - u ∧ zsub n c S * w - u ≤ 1099511627776) (q1 : ∀ Z' uU uD, zFm Z Z' → Z' 63 22 = uU → Z' 63 23 = uD → 1 ≤ uD ∧ uD ≤ 6 → uU * 60 = (c i * w * 60 - zLv m (fun k => c (σ k)) i' w (zsub n c S * w - u)) * uD → Q none Z') : zE 121 0 (zent 121 [zR 63, zI (i : Nat), zI (S : Nat), zL u, zL w]) [] Z Q := by
  show zE 121 0 [some (zR 63), some (zI (i : Nat)), some (zI (S : Nat)), some (zL u), none, some (zL w), none] [] Z Q
  have hM0 := hM
  obtain ⟨n0, n6, mc, mr, me, mρ, meR, mρR⟩ := hM
  have msr := zsum_range mr
  have hp6 := zpow6 n6
  have hE0 := hE
  obtain ⟨e1, e2, e3, e4, e5, e6, e7, e8, e9, e10⟩ := hE0
  have hci := mr i e6
  have hsz := zsub_range (n := n) (S := S) mr
  refine ze_aload_n kc_121_0 rfl ?_
  refine ze_iload_n kc_121_1 rfl ?_
  refine ze_iload_n kc_121_2 rfl ?_
  refine ze_aload_n kc_121_3 rfl ?_
  refine ze_iload_n kc_121_4 rfl ?_
  refine zE_callv 2 kc_121_5 rfl rfl (Nat.le_of_ble_eq_true rfl) (Nat.le_of_ble_eq_true rfl) (Nat.le_of_ble_eq_true rfl) rfl (by decide +kernel) rfl ?_
  refine m_allOf hM0 (by omega) ?_
  simp only [Option.toList_some, Option.toList_none, List.drop_succ_cons, List.drop_zero, List.cons_append, List.nil_append]
  refine ze_i2l kc_121_8 (by omega) ?_
  refine ze_lload kc_121_9 rfl ?_
  refine ze_lmul kc_121_11 ?_
  refine ze_lload_n kc_121_12 rfl ?_
  refine ze_lsub kc_121_13 ?_
  refine ze_lload kc_121_14 rfl ?_
  refine zE_callv 5 kc_121_16 rfl rfl (Nat.le_of_ble_eq_true rfl) (Nat.le_of_ble_eq_true rfl) (Nat.le_of_ble_eq_true rfl) rfl (by decide +kernel) rfl ?_
  refine m_even hM0 hE hw hu (fun Z2 uU uD f1 f2 f3 f4 f5 => ?_)
  simp only [Option.toList_some, Option.toList_none, List.drop_succ_cons, List.drop_zero, List.cons_append, List.nil_append]
  refine ze_aload_n kc_121_19 rfl ?_
  refine ze_iload_n kc_121_20 rfl ?_
  refine ze_lload kc_121_21 rfl ?_
  refine zE_callv 3 kc_121_23 rfl rfl (Nat.le_of_ble_eq_true rfl) (Nat.le_of_ble_eq_true rfl) (Nat.le_of_ble_eq_true rfl) rfl (by decide +kernel) rfl ?_
  refine m_less (zMo_fm hM0 f1) e6 ?_
  simp only [Option.toList_some, Option.toList_none, List.drop_succ_cons, List.drop_zero, List.cons_append, List.nil_append]
  refine ze_return kc_121_26 ?_
  refine q1 _ _ uD (zFm_up f1 (by omega)) zup_s (by rw [zup_o (by decide)]; exact f3) f4 ?_
  rw [f2, f3, Int.sub_mul, f5, Int.sub_mul]
  rw [show c i * w * uD * 60 = c i * w * 60 * uD by rw [Int.mul_assoc, Int.mul_comm uD 60, ← Int.mul_assoc]]

set_option maxHeartbeats 4000000 in
theorem m_fact {Z : zMem} {Q : Option zAV → zMem → Prop} {n : Nat} (hn : n ≤ 6) (q1 : Q (some (zI (zfac n))) Z) : zE 122 0 (zent 122 [zI (n : Nat)]) [] Z Q := by
  show zE 122 0 [some (zI (n : Nat)), none, none] [] Z Q
  refine ze_iconst kc_122_0 ?_
  refine ze_istore_n kc_122_1 (Nat.le_of_ble_eq_true rfl) ?_
  simp only [zset1, zset2, zcut, List.set_cons_zero, List.set_cons_succ, List.getD_cons_zero, List.getD_cons_succ]
  refine ze_iconst kc_122_2 ?_
  refine ze_istore_n kc_122_3 (Nat.le_of_ble_eq_true rfl) ?_
  simp only [zset1, zset2, zcut, List.set_cons_zero, List.set_cons_succ, List.getD_cons_zero, List.getD_cons_succ]
  have loop4 : ∀ (μ : Nat) (k : Nat) (x v : Int), n + 1 - k = μ → (2 ≤ k ∧ (k ≤ n + 1 ∨ k = 2)) → (x = k) → (v = zfac (k - 1)) → zE 122 4 [some (zI (n : Nat)), some (zI v), some (zI x)] [] Z Q := by
    refine zind ?_
    intro μ ih k x v hm hk hx hv
    subst hx
    refine ze_iload_n kc_122_4 rfl ?_
    refine ze_iload_n kc_122_5 rfl ?_
    refine ze_icmp_gt kc_122_6 (by omega) (by omega) (fun h6 => ?_) (fun h6 => ?_)
    · skip
      refine ze_iload_n kc_122_19 rfl ?_
      refine ze_ireturn kc_122_20 (Or.inl rfl) ?_
      rcases hk.2 with q | q
      · rw [show n = k - 1 by omega, ← hv] at q1
        exact q1
      · subst q
        rw [show v = zfac n by
          rw [hv]
          rcases (show n = 0 ∨ n = 1 by omega) with rfl | rfl <;> rfl]
        exact q1
    · skip
      refine ze_iload_n kc_122_9 rfl ?_
      refine ze_iload_n kc_122_10 rfl ?_
      refine ze_imul kc_122_11 ?_
      refine ze_istore_n kc_122_12 (Nat.le_of_ble_eq_true rfl) ?_
      simp only [zset1, zset2, zcut, List.set_cons_zero, List.set_cons_succ, List.getD_cons_zero, List.getD_cons_succ]
      refine ze_iinc kc_122_13 rfl ?_
      simp only [zset1, zset2, zcut, List.set_cons_zero, List.set_cons_succ, List.getD_cons_zero, List.getD_cons_succ]
      refine ze_goto kc_122_16 ?_
      refine ih _ (by omega) (k + 1) _ _ rfl (by omega) (by omega) ?_
      rw [hv, Nat.add_sub_cancel, zfac_s k (by omega) (by omega)]
  refine loop4 _ 2 2 1 rfl (by omega) rfl rfl

set_option maxHeartbeats 4000000 in
theorem m_arrival {Z : zMem} {Q : Option zAV → zMem → Prop} {n : Nat} {c : Nat → Int} {e ρ : Int} (hM : zMo n c e ρ Z) {S m i i' : Nat} {σ : Nat → Nat} {u w : Int} (hE : zEn n S m σ c i i') (hw : 0 ≤ w ∧ w ≤ 1048576) (hu : 0 ≤ u ∧ u ≤ 1099511627776) (q1 : ∀ Z', zFm Z Z' → Z' 63 22 = zAr m (fun k => c (σ k)) i' w u → Z' 63 23 = zfac m → Q none Z') : zE 123 0 (zent 123 [zR 63, zI (i : Nat), zI (S : Nat), zL u, zL w]) [] Z Q := by
  show zE 123 0 [some (zR 63), some (zI (i : Nat)), some (zI (S : Nat)), some (zL u), none, some (zL w), none, none, none, none, none, none] [] Z Q
  have hM0 := hM
  obtain ⟨n0, n6, mc, mr, me, mρ, meR, mρR⟩ := hM
  have msr := zsum_range mr
  have hp6 := zpow6 n6
  have hE0 := hE
  obtain ⟨e1, e2, e3, e4, e5, e6, e7, e8, e9, e10⟩ := hE0
  have hci := mr i e6
  have hwi := zmb (a := c i) (b := w) (A := 60) (B := 1048576) (by omega) (by omega)
  have hfm := zfac_range (n := m) e3
  refine ze_iload_n kc_123_0 rfl ?_
  refine zE_calls 1 kc_123_1 rfl rfl (Nat.le_of_ble_eq_true rfl) (Nat.le_of_ble_eq_true rfl) (Nat.le_of_ble_eq_true rfl) rfl ?_
  refine m_bitc (by omega) ?_
  simp only [Option.toList_some, Option.toList_none, List.drop_succ_cons, List.drop_zero, List.cons_append, List.nil_append]
  rw [← e2]
  refine ze_istore kc_123_4 (Nat.le_of_ble_eq_true rfl) ?_
  simp only [zset1, zset2, zcut, List.set_cons_zero, List.set_cons_succ, List.getD_cons_zero, List.getD_cons_succ]
  refine ze_aload_n kc_123_6 rfl ?_
  refine ze_lconst0 kc_123_7 ?_
  refine ze_putL kc_123_8 rfl rfl ?_
  refine ze_aload_n kc_123_11 rfl ?_
  refine ze_iload kc_123_12 rfl ?_
  refine zE_calls 1 kc_123_14 rfl rfl (Nat.le_of_ble_eq_true rfl) (Nat.le_of_ble_eq_true rfl) (Nat.le_of_ble_eq_true rfl) rfl ?_
  refine m_fact e3 ?_
  simp only [Option.toList_some, Option.toList_none, List.drop_succ_cons, List.drop_zero, List.cons_append, List.nil_append]
  refine ze_i2l kc_123_17 (by omega) ?_
  refine ze_putL kc_123_18 rfl rfl ?_
  refine ze_iconst kc_123_21 ?_
  refine ze_istore kc_123_22 (Nat.le_of_ble_eq_true rfl) ?_
  simp only [zset1, zset2, zcut, List.set_cons_zero, List.set_cons_succ, List.getD_cons_zero, List.getD_cons_succ]
  have loop24 : ∀ (μ : Nat) (A : Nat) (x : Int) (Zd : zMem) (o1 o2 o3 : Option zAV), 2 ^ n - A = μ → (A ≤ 2 ^ n) → (x = A) → (zFm Z Zd) → (Zd 63 22 = zsum A (fun A => if A &&& S = A ∧ A.testBit i = false then min (c i * w) (max 0 (u - zsub n c A * w)) * zfac (zpc A) * zfac (m - 1 - zpc A) else 0)) → (Zd 63 23 = zfac m) → zE 123 24 [some (zR 63), some (zI (i : Nat)), some (zI (S : Nat)), some (zL u), none, some (zL w), none, some (zI (m : Nat)), some (zI x), o1, o2, o3] [] Zd Q := by
    refine zind ?_
    intro μ ih A x Zd o1 o2 o3 hm hA2 hx hfm2 hs hD
    subst hx
    refine ze_iload kc_123_24 rfl ?_
    refine ze_iconst kc_123_26 ?_
    refine ze_aload_n kc_123_27 rfl ?_
    refine ze_getI kc_123_28 rfl (by decide) ?_
    rw [hfm2.2 0 (by decide) (by decide) (by decide) (by decide), n0]
    refine ze_ishl kc_123_31 ?_
    rw [zshl1 n6]
    refine ze_icmp_ge kc_123_32 (by omega) (by omega) (fun h32 => ?_) (fun h32 => ?_)
    · skip
      refine ze_return kc_123_130 ?_
      have hA3 : A = 2 ^ n := by omega
      rw [hA3, zArt_alt hE hwi.1] at hs
      exact q1 _ hfm2 hs hD
    · skip
      refine ze_iload kc_123_35 rfl ?_
      refine ze_iload_n kc_123_37 rfl ?_
      refine ze_iconst kc_123_38 ?_
      refine ze_ixor kc_123_39 ?_
      refine ze_iand kc_123_40 ?_
      refine ze_if_ne kc_123_41 (zmask_in A S) (fun h41 => ?_) (fun h41 => ?_)
      · skip
        have hA : ¬ A &&& S = A := fun q => h41 ((zmask_b A (by omega) S (by omega)).mpr q)
        refine ze_iinc kc_123_124 rfl ?_
        simp only [zset1, zset2, zcut, List.set_cons_zero, List.set_cons_succ, List.getD_cons_zero, List.getD_cons_succ]
        refine ze_goto kc_123_127 ?_
        refine ih _ (by omega) (A + 1) _ _ _ _ _ rfl (by omega) (by omega) ?_ ?_ ?_
        · first
            | exact hfm2
            | exact zFm_up hfm2 (by omega)
        · rw [zsum_succ]
          first
            | (rw [if_neg (fun q => hA q.1), hs]; omega)
            | (rw [if_neg (fun q => absurd (g47.symm.trans q.2) (by decide)), hs]; omega)
            | (rw [zup_s, if_pos ⟨hA, g47⟩, hs])
        · first
            | exact hD
            | (rw [zup_o (by decide)]; exact hD)
      · skip
        have hA : A &&& S = A := (zmask_b A (by omega) S (by omega)).mp h41
        refine ze_iload kc_123_44 rfl ?_
        refine ze_iload_n kc_123_46 rfl ?_
        refine zE_calls 2 kc_123_47 rfl rfl (Nat.le_of_ble_eq_true rfl) (Nat.le_of_ble_eq_true rfl) (Nat.le_of_ble_eq_true rfl) rfl ?_
        refine m_hasM (by omega) (by omega) (fun g47 => ?_) (fun g47 => ?_)
        · simp only [Option.toList_some, Option.toList_none, List.drop_succ_cons, List.drop_zero, List.cons_append, List.nil_append]
          refine ze_if_eq kc_123_50 (by decide) (fun q => absurd q (by decide)) (fun _ => ?_)
          refine ze_goto kc_123_53 ?_
          refine ze_iinc kc_123_124 rfl ?_
          simp only [zset1, zset2, zcut, List.set_cons_zero, List.set_cons_succ, List.getD_cons_zero, List.getD_cons_succ]
          refine ze_goto kc_123_127 ?_
          refine ih _ (by omega) (A + 1) _ _ _ _ _ rfl (by omega) (by omega) ?_ ?_ ?_
          · first
              | exact hfm2
              | exact zFm_up hfm2 (by omega)
          · rw [zsum_succ]
            first
              | (rw [if_neg (fun q => hA q.1), hs]; omega)
              | (rw [if_neg (fun q => absurd (g47.symm.trans q.2) (by decide)), hs]; omega)
              | (rw [zup_s, if_pos ⟨hA, g47⟩, hs])
          · first
              | exact hD
              | (rw [zup_o (by decide)]; exact hD)
        · simp only [Option.toList_some, Option.toList_none, List.drop_succ_cons, List.drop_zero, List.cons_append, List.nil_append]
          refine ze_if_eq kc_123_50 (by decide) (fun _ => ?_) (fun q => absurd q (by decide))
          refine ze_iload kc_123_56 rfl ?_
          refine zE_calls 1 kc_123_58 rfl rfl (Nat.le_of_ble_eq_true rfl) (Nat.le_of_ble_eq_true rfl) (Nat.le_of_ble_eq_true rfl) rfl ?_
          refine m_bitc (by omega) ?_
          simp only [Option.toList_some, Option.toList_none, List.drop_succ_cons, List.drop_zero, List.cons_append, List.nil_append]
          refine ze_istore kc_123_61 (Nat.le_of_ble_eq_true rfl) ?_
          simp only [zset1, zset2, zcut, List.set_cons_zero, List.set_cons_succ, List.getD_cons_zero, List.getD_cons_succ]
          refine ze_lconst0 kc_123_63 ?_
          refine ze_lload_n kc_123_64 rfl ?_
          refine ze_aload_n kc_123_65 rfl ?_
          refine ze_iload kc_123_66 rfl ?_
          refine zE_callv 2 kc_123_68 rfl rfl (Nat.le_of_ble_eq_true rfl) (Nat.le_of_ble_eq_true rfl) (Nat.le_of_ble_eq_true rfl) rfl (by decide +kernel) rfl ?_
          refine m_allOf (zMo_fm hM0 hfm2) (by omega) ?_
          simp only [Option.toList_some, Option.toList_none, List.drop_succ_cons, List.drop_zero, List.cons_append, List.nil_append]
          have hz := zsub_range (n := n) (S := A) mr
          have hzw := zmb (a := zsub n c A) (b := w) (A := 360) (B := 1048576) (by omega) (by omega)
          refine ze_i2l kc_123_71 (by omega) ?_
          refine ze_lload kc_123_72 rfl ?_
          refine ze_lmul kc_123_74 ?_
          refine ze_lsub kc_123_75 ?_
          refine zE_calls 2 kc_123_76 rfl rfl (Nat.le_of_ble_eq_true rfl) (Nat.le_of_ble_eq_true rfl) (Nat.le_of_ble_eq_true rfl) rfl ?_
          refine m_maxL (by omega) (by omega) ?_
          simp only [Option.toList_some, Option.toList_none, List.drop_succ_cons, List.drop_zero, List.cons_append, List.nil_append]
          refine ze_lstore kc_123_79 (Nat.le_of_ble_eq_true rfl) ?_
          simp only [zset1, zset2, zcut, List.set_cons_zero, List.set_cons_succ, List.getD_cons_zero, List.getD_cons_succ]
          refine ze_aload_n kc_123_81 rfl ?_
          refine ze_dup kc_123_82 rfl ?_
          refine ze_getL kc_123_83 rfl rfl ?_
          refine ze_aload_n kc_123_86 rfl ?_
          refine ze_getR kc_123_87 rfl rfl rfl ?_
          refine ze_iload_n kc_123_90 rfl ?_
          refine ze_iald kc_123_91 rfl (by omega) ?_
          rw [Int.toNat_natCast, hfm2.1 64 (by decide) (by decide), mc i e6]
          refine ze_i2l kc_123_92 (by omega) ?_
          refine ze_lload kc_123_93 rfl ?_
          refine ze_lmul kc_123_95 ?_
          refine ze_lload kc_123_96 rfl ?_
          refine zE_calls 2 kc_123_98 rfl rfl (Nat.le_of_ble_eq_true rfl) (Nat.le_of_ble_eq_true rfl) (Nat.le_of_ble_eq_true rfl) rfl ?_
          refine m_minL (by omega) (by omega) ?_
          simp only [Option.toList_some, Option.toList_none, List.drop_succ_cons, List.drop_zero, List.cons_append, List.nil_append]
          refine ze_iload kc_123_101 rfl ?_
          have hpl := zpc_lt S (by omega) A (by omega) i (by omega) (by rw [decide_eq_true hA, g47, e7]; rfl)
          have hf1 := zfac_range (n := zpc A) (by omega)
          have hf2 := zfac_range (n := m - 1 - zpc A) (by omega)
          refine zE_calls 1 kc_123_103 rfl rfl (Nat.le_of_ble_eq_true rfl) (Nat.le_of_ble_eq_true rfl) (Nat.le_of_ble_eq_true rfl) rfl ?_
          refine m_fact (by omega) ?_
          simp only [Option.toList_some, Option.toList_none, List.drop_succ_cons, List.drop_zero, List.cons_append, List.nil_append]
          refine ze_i2l kc_123_106 (by omega) ?_
          refine ze_lmul kc_123_107 ?_
          refine ze_iload kc_123_108 rfl ?_
          refine ze_iconst kc_123_110 ?_
          refine ze_isub kc_123_111 ?_
          refine ze_iload kc_123_112 rfl ?_
          refine ze_isub kc_123_114 ?_
          rw [show ((m : Nat) : Int) - 1 - (zpc A : Nat) = ((m - 1 - zpc A : Nat) : Int) by omega]
          refine zE_calls 1 kc_123_115 rfl rfl (Nat.le_of_ble_eq_true rfl) (Nat.le_of_ble_eq_true rfl) (Nat.le_of_ble_eq_true rfl) rfl ?_
          refine m_fact (by omega) ?_
          simp only [Option.toList_some, Option.toList_none, List.drop_succ_cons, List.drop_zero, List.cons_append, List.nil_append]
          refine ze_i2l kc_123_118 (by omega) ?_
          refine ze_lmul kc_123_119 ?_
          refine ze_ladd kc_123_120 ?_
          refine ze_putL kc_123_121 rfl rfl ?_
          refine ze_iinc kc_123_124 rfl ?_
          simp only [zset1, zset2, zcut, List.set_cons_zero, List.set_cons_succ, List.getD_cons_zero, List.getD_cons_succ]
          refine ze_goto kc_123_127 ?_
          refine ih _ (by omega) (A + 1) _ _ _ _ _ rfl (by omega) (by omega) ?_ ?_ ?_
          · first
              | exact hfm2
              | exact zFm_up hfm2 (by omega)
          · rw [zsum_succ]
            first
              | (rw [if_neg (fun q => hA q.1), hs]; omega)
              | (rw [if_neg (fun q => absurd (g47.symm.trans q.2) (by decide)), hs]; omega)
              | (rw [zup_s, if_pos ⟨hA, g47⟩, hs])
          · first
              | exact hD
              | (rw [zup_o (by decide)]; exact hD)
  refine loop24 _ 0 0 _ none none none rfl (by omega) rfl (zFm_up (zFm_up zFm_refl (by omega)) (by omega)) (by rw [zup_o (by decide), zup_s]; rfl) zup_s

set_option maxHeartbeats 4000000 in
theorem m_awards_end {Zx : zMem} {l1 l2 l3 l4 l5 l6 l7 l9 l10 l11 l12 l13 l14 : Option zAV} {Z : zMem} {Q : Option zAV → zMem → Prop} {n : Nat} {c : Nat → Int} {e ρ : Int} (hM : zMo n c e ρ Z) {S m i i' : Nat} {σ : Nat → Nat} {u : Int} (hE : zEn n S m σ c i i') {r d : Int} (hr : 0 ≤ r ∧ r ≤ 5) (hd : 1 ≤ d ∧ d ≤ 1024) (hu : 0 ≤ u ∧ u ≤ zsum m (fun k => c (σ k)) * d) (hfin : zAwd r m (fun k => c (σ k)) i' d u Z Zx) (q1 : ∀ Z', zFm Z Z' → Z' 63 18 = zlow (zGt r m (fun k => c (σ k)) i' d u) (zS r m (fun k => c (σ k)) * d) 0 → Z' 63 19 = zlow (zGt r m (fun k => c (σ k)) i' d u) (zS r m (fun k => c (σ k)) * d) 1 → Q none Z') : zE 124 252 [some (zR 63), l1, l2, l3, l4, l5, l6, l7, some (zL (2 * d)), l9, l10, l11, l12, l13, l14] [] Zx Q := by
  have hM0 := hM
  obtain ⟨n0, n6, mc, mr, me, mρ, meR, mρR⟩ := hM
  have msr := zsum_range mr
  have hp6 := zpow6 n6
  have hE0 := hE
  obtain ⟨e1, e2, e3, e4, e5, e6, e7, e8, e9, e10⟩ := hE0
  have hci := mr i e6
  obtain ⟨uU, uD, f1, f2, f3, f4, f5, f6⟩ := hfin
  have hm1 : 1 ≤ m := by omega
  have hss := zS_range (r := r) (n := m) (c := (fun k => c (σ k))) ⟨hm1, e3⟩ (zEn_range hE mr)
  have hb1 := zmb (a := uD) (b := 2 * d) (A := 720) (B := 2048) (by omega) (by omega)
  have hb2 := Int.mul_pos (show 0 < uD by omega) (show 0 < 2 * d by omega)
  have hb3 := Int.mul_pos (show 0 < zS r m (fun k => c (σ k)) by omega) (show 0 < d by omega)
  refine ze_aload_n kc_124_252 rfl ?_
  refine ze_aload_n kc_124_253 rfl ?_
  refine ze_getL kc_124_254 rfl rfl ?_
  rw [f2]
  refine ze_aload_n kc_124_257 rfl ?_
  refine ze_getL kc_124_258 rfl rfl ?_
  rw [f3]
  refine ze_lload kc_124_261 rfl ?_
  refine ze_lmul kc_124_263 ?_
  refine zE_callv 3 kc_124_264 rfl rfl (Nat.le_of_ble_eq_true rfl) (Nat.le_of_ble_eq_true rfl) (Nat.le_of_ble_eq_true rfl) rfl (by decide +kernel) rfl ?_
  refine m_fraction (by omega) (by omega) ?_
  simp only [Option.toList_some, Option.toList_none, List.drop_succ_cons, List.drop_zero, List.cons_append, List.nil_append]
  refine ze_return kc_124_267 ?_
  exact q1 _ (zFm_up (zFm_up f1 (by omega)) (by omega)) (by rw [zup_o (by decide), zup_s]; exact zlow_eq hb2 hb3 f6 0) (by rw [zup_s]; exact zlow_eq hb2 hb3 f6 1)

theorem zAr_hom {n i : Nat} {c : Nat → Int} {w u : Int} : zAr n c i (2 * w) (2 * u) = 2 * zAr n c i w u := by
  unfold zAr
  rw [Int.mul_comm 2 (zsum _ _), ← zsum_mul]
  refine zsum_congr (fun S hS => ?_)
  unfold zArt
  have e1 : zsub n c S * (2 * w) = 2 * (zsub n c S * w) := by rw [Int.mul_left_comm]
  have e2 : c i * (2 * w) = 2 * (c i * w) := by rw [Int.mul_left_comm]
  rw [e1, e2]
  by_cases q : S.testBit i = false ∧ 0 < u - zsub n c S * w
  · rw [if_pos q, if_pos ⟨q.1, by omega⟩, show min (2 * (c i * w)) (2 * u - 2 * (zsub n c S * w)) = 2 * min (c i * w) (u - zsub n c S * w) by omega]
    simp only [Int.mul_assoc, Int.mul_comm, Int.mul_left_comm]
  · rw [if_neg q, if_neg (fun h => q ⟨h.1, by omega⟩), Int.zero_mul]
set_option maxHeartbeats 8000000 in
theorem m_awards {Z : zMem} {Q : Option zAV → zMem → Prop} {n : Nat} {c : Nat → Int} {e ρ : Int} (hM : zMo n c e ρ Z) {S m i i' : Nat} {σ : Nat → Nat} {u : Int} (hE : zEn n S m σ c i i') {r d : Int} (hr : 0 ≤ r ∧ r ≤ 5) (hd : 1 ≤ d ∧ d ≤ 1024) (hu : 0 ≤ u ∧ u ≤ zsum m (fun k => c (σ k)) * d) (q1 : ∀ Z', zFm Z Z' → Z' 63 18 = zlow (zGt r m (fun k => c (σ k)) i' d u) (zS r m (fun k => c (σ k)) * d) 0 → Z' 63 19 = zlow (zGt r m (fun k => c (σ k)) i' d u) (zS r m (fun k => c (σ k)) * d) 1 → Q none Z') : zE 124 0 (zent 124 [zR 63, zI r, zI (S : Nat), zL u, zL d, zI (i : Nat)]) [] Z Q := by
  show zE 124 0 [some (zR 63), some (zI r), some (zI (S : Nat)), some (zL u), none, some (zL d), none, some (zI (i : Nat)), none, none, none, none, none, none, none] [] Z Q
  have hM0 := hM
  obtain ⟨n0, n6, mc, mr, me, mρ, meR, mρR⟩ := hM
  have msr := zsum_range mr
  have hp6 := zpow6 n6
  have hE0 := hE
  obtain ⟨e1, e2, e3, e4, e5, e6, e7, e8, e9, e10⟩ := hE0
  have hci := mr i e6
  have her := zEn_range hE mr
  have hm1 : 1 ≤ m := by omega
  have hsr := zsum_range her
  have hcs : zsub n c S = zsum m (fun k => c (σ k)) := e9 c
  have had := zmb (a := zsum m (fun k => c (σ k))) (b := d) (A := 360) (B := 1024) (by omega) (by omega)
  have had2 : zsum m (fun k => c (σ k)) * (2 * d) = 2 * (zsum m (fun k => c (σ k)) * d) := by rw [Int.mul_left_comm]
  have hG := zGt_range (r := r) (i := i') (w := d) (u := u) e3 e4 her (by omega) hu
  have hcd := zmb (a := c i) (b := d) (A := 60) (B := 1024) (by omega) (by omega)
  have hcd2 : c i * (2 * d) = 2 * (c i * d) := by rw [Int.mul_left_comm]
  have her0 : ∀ k, k < m → 0 ≤ c (σ k) := fun k hk => by have := her k hk; omega
  refine ze_ldc2L kc_124_0 ?_
  refine ze_lload kc_124_3 rfl ?_
  refine ze_lmul kc_124_5 ?_
  refine ze_lstore kc_124_6 (Nat.le_of_ble_eq_true rfl) ?_
  simp only [zset1, zset2, zcut, List.set_cons_zero, List.set_cons_succ, List.getD_cons_zero, List.getD_cons_succ]
  refine ze_ldc2L kc_124_8 ?_
  refine ze_lload_n kc_124_11 rfl ?_
  refine ze_lmul kc_124_12 ?_
  refine ze_lstore kc_124_13 (Nat.le_of_ble_eq_true rfl) ?_
  simp only [zset1, zset2, zcut, List.set_cons_zero, List.set_cons_succ, List.getD_cons_zero, List.getD_cons_succ]
  refine ze_aload_n kc_124_15 rfl ?_
  refine ze_iload_n kc_124_16 rfl ?_
  refine zE_callv 2 kc_124_17 rfl rfl (Nat.le_of_ble_eq_true rfl) (Nat.le_of_ble_eq_true rfl) (Nat.le_of_ble_eq_true rfl) rfl (by decide +kernel) rfl ?_
  refine m_allOf hM0 (by omega) ?_
  simp only [Option.toList_some, Option.toList_none, List.drop_succ_cons, List.drop_zero, List.cons_append, List.nil_append]
  rw [hcs]
  refine ze_i2l kc_124_20 (by omega) ?_
  refine ze_lload kc_124_21 rfl ?_
  refine ze_lmul kc_124_23 ?_
  refine ze_lstore kc_124_24 (Nat.le_of_ble_eq_true rfl) ?_
  simp only [zset1, zset2, zcut, List.set_cons_zero, List.set_cons_succ, List.getD_cons_zero, List.getD_cons_succ]
  refine ze_ldc2L kc_124_26 ?_
  refine ze_lload kc_124_29 rfl ?_
  refine ze_lmul kc_124_31 ?_
  refine ze_lload kc_124_32 rfl ?_
  refine ze_lcmp_gt kc_124_34 kc_124_35 (by omega) (by omega) (fun h34 => ?_) (fun h34 => ?_)
  · skip
    refine ze_iconst kc_124_42 ?_
    refine ze_istore kc_124_43 (Nat.le_of_ble_eq_true rfl) ?_
    simp only [zset1, zset2, zcut, List.set_cons_zero, List.set_cons_succ, List.getD_cons_zero, List.getD_cons_succ]
    refine ze_iload_n kc_124_45 rfl ?_
    by_cases hs0 : r = 0
    · refine ze_tableIn 0 kc_124_46 hs0 (by decide) (by decide) rfl rfl ?_
      refine ze_aload_n kc_124_80 rfl ?_
      refine ze_iload kc_124_81 rfl ?_
      refine ze_iload_n kc_124_83 rfl ?_
      refine ze_lload kc_124_84 rfl ?_
      refine ze_lload kc_124_86 rfl ?_
      refine zE_callv 5 kc_124_88 rfl rfl (Nat.le_of_ble_eq_true rfl) (Nat.le_of_ble_eq_true rfl) (Nat.le_of_ble_eq_true rfl) rfl (by decide +kernel) rfl ?_
      refine m_even hM0 hE (by omega) (by omega) (fun Zx uU uD f1 f2 f3 f4 f5 => ?_)
      simp only [Option.toList_some, Option.toList_none, List.drop_succ_cons, List.drop_zero, List.cons_append, List.nil_append]
      refine ze_goto kc_124_91 ?_
      refine m_awards_end hM0 hE hr hd hu ?_ q1
      first
        | (refine zAwd_60 (by omega) f1 f2 f3 f4 (by omega) ?_
           first
             | (rw [f5, zGt_0 hs0, zLv_hom e3 e4 her0 (by omega) hu.1])
             | (rw [f5, zGt_1 hs1, e5, hcs, had2, show 2 * (zsum m (fun k => c (σ k)) * d) - 2 * u = 2 * (zsum m (fun k => c (σ k)) * d - u) by omega, zLv_hom e3 e4 her0 (by omega) (by omega), hcd2, show 2 * (c i * d) * 60 = c i * d * 120 by omega])
             | (rw [f5, zGt_3p hs3 (by omega)])
             | (rw [f5, zGt_4p hs4 (by omega), e5, hcs, show zsum m (fun k => c (σ k)) * d - 2 * u = zsum m (fun k => c (σ k)) * d - u - u by omega]))
        | (refine zAwd_60 (by omega) (zFm_up f1 (by omega)) zup_s (by rw [zup_o (by decide)]; exact f3) f4 (by omega) ?_
           first
             | (rw [f2, f3, Int.sub_mul, f5, zGt_3r hs3 (by omega), e5, Int.sub_mul, show c i * d * 120 = c i * (2 * d) * 60 by omega, had2, show 2 * (zsum m (fun k => c (σ k)) * d) - 2 * u = 2 * (zsum m (fun k => c (σ k)) * d - u) by omega, show c i * (2 * d) * uD * 60 = c i * (2 * d) * 60 * uD by rw [Int.mul_assoc, Int.mul_comm uD 60, ← Int.mul_assoc]])
             | (rw [f2, f3, Int.add_mul, f5, zGt_4r hs4 (by omega), e5, Int.add_mul, show 2 * u - zsum m (fun k => c (σ k)) * d = u - (zsum m (fun k => c (σ k)) * d - u) by omega, show c i * d * uD * 60 = c i * d * 60 * uD by rw [Int.mul_assoc, Int.mul_comm uD 60, ← Int.mul_assoc], Int.add_comm]))
        | (refine ⟨_, _, f1, f2, f3, by have := zfac_range (n := m) e3; omega, ?_, ?_⟩
           · have h5 := zGt_range (r := 5) (i := i') (w := 2 * d) (u := 2 * u) e3 e4 her (by omega) (by omega)
             rw [zGt_5 rfl] at h5
             omega
           · rw [zAr_hom, show zS r m (fun k => c (σ k)) = zfac m by unfold zS; rw [if_neg (by omega), if_pos (by omega)], zGt_5 (by omega)]
             simp only [Int.mul_assoc, Int.mul_comm, Int.mul_left_comm])
        | (refine ⟨2 * u * c i, zsum m (fun k => c (σ k)), zFm_up (zFm_up zFm_refl (by omega)) (by omega), by rw [zup_o (by decide), zup_s], zup_s, by omega, ?_, ?_⟩
           · have := zmb (a := 2 * u) (b := c i) (A := 737280) (B := 60) (by omega) (by omega)
             omega
           · rw [show zS r m (fun k => c (σ k)) = zsum m (fun k => c (σ k)) by unfold zS; rw [if_pos (by omega)], zGt_2 (by omega), e5]
             simp only [Int.mul_assoc, Int.mul_comm, Int.mul_left_comm])
    by_cases hs1 : r = 1
    · refine ze_tableIn 1 kc_124_46 hs1 (by decide) (by decide) rfl rfl ?_
      refine ze_aload_n kc_124_94 rfl ?_
      refine ze_iload kc_124_95 rfl ?_
      refine ze_iload_n kc_124_97 rfl ?_
      refine ze_lload kc_124_98 rfl ?_
      refine ze_lload kc_124_100 rfl ?_
      refine zE_callv 5 kc_124_102 rfl rfl (Nat.le_of_ble_eq_true rfl) (Nat.le_of_ble_eq_true rfl) (Nat.le_of_ble_eq_true rfl) rfl (by decide +kernel) rfl ?_
      refine m_loss hM0 hE (by omega) (by rw [hcs]; omega) (fun Zx uU uD f1 f2 f3 f4 f5 => ?_)
      simp only [Option.toList_some, Option.toList_none, List.drop_succ_cons, List.drop_zero, List.cons_append, List.nil_append]
      refine ze_goto kc_124_105 ?_
      refine m_awards_end hM0 hE hr hd hu ?_ q1
      first
        | (refine zAwd_60 (by omega) f1 f2 f3 f4 (by omega) ?_
           first
             | (rw [f5, zGt_0 hs0, zLv_hom e3 e4 her0 (by omega) hu.1])
             | (rw [f5, zGt_1 hs1, e5, hcs, had2, show 2 * (zsum m (fun k => c (σ k)) * d) - 2 * u = 2 * (zsum m (fun k => c (σ k)) * d - u) by omega, zLv_hom e3 e4 her0 (by omega) (by omega), hcd2, show 2 * (c i * d) * 60 = c i * d * 120 by omega])
             | (rw [f5, zGt_3p hs3 (by omega)])
             | (rw [f5, zGt_4p hs4 (by omega), e5, hcs, show zsum m (fun k => c (σ k)) * d - 2 * u = zsum m (fun k => c (σ k)) * d - u - u by omega]))
        | (refine zAwd_60 (by omega) (zFm_up f1 (by omega)) zup_s (by rw [zup_o (by decide)]; exact f3) f4 (by omega) ?_
           first
             | (rw [f2, f3, Int.sub_mul, f5, zGt_3r hs3 (by omega), e5, Int.sub_mul, show c i * d * 120 = c i * (2 * d) * 60 by omega, had2, show 2 * (zsum m (fun k => c (σ k)) * d) - 2 * u = 2 * (zsum m (fun k => c (σ k)) * d - u) by omega, show c i * (2 * d) * uD * 60 = c i * (2 * d) * 60 * uD by rw [Int.mul_assoc, Int.mul_comm uD 60, ← Int.mul_assoc]])
             | (rw [f2, f3, Int.add_mul, f5, zGt_4r hs4 (by omega), e5, Int.add_mul, show 2 * u - zsum m (fun k => c (σ k)) * d = u - (zsum m (fun k => c (σ k)) * d - u) by omega, show c i * d * uD * 60 = c i * d * 60 * uD by rw [Int.mul_assoc, Int.mul_comm uD 60, ← Int.mul_assoc], Int.add_comm]))
        | (refine ⟨_, _, f1, f2, f3, by have := zfac_range (n := m) e3; omega, ?_, ?_⟩
           · have h5 := zGt_range (r := 5) (i := i') (w := 2 * d) (u := 2 * u) e3 e4 her (by omega) (by omega)
             rw [zGt_5 rfl] at h5
             omega
           · rw [zAr_hom, show zS r m (fun k => c (σ k)) = zfac m by unfold zS; rw [if_neg (by omega), if_pos (by omega)], zGt_5 (by omega)]
             simp only [Int.mul_assoc, Int.mul_comm, Int.mul_left_comm])
        | (refine ⟨2 * u * c i, zsum m (fun k => c (σ k)), zFm_up (zFm_up zFm_refl (by omega)) (by omega), by rw [zup_o (by decide), zup_s], zup_s, by omega, ?_, ?_⟩
           · have := zmb (a := 2 * u) (b := c i) (A := 737280) (B := 60) (by omega) (by omega)
             omega
           · rw [show zS r m (fun k => c (σ k)) = zsum m (fun k => c (σ k)) by unfold zS; rw [if_pos (by omega)], zGt_2 (by omega), e5]
             simp only [Int.mul_assoc, Int.mul_comm, Int.mul_left_comm])
    by_cases hs2 : r = 2
    · refine ze_tableIn 2 kc_124_46 hs2 (by decide) (by decide) rfl rfl ?_
      refine ze_aload_n kc_124_108 rfl ?_
      refine ze_lload kc_124_109 rfl ?_
      refine ze_aload_n kc_124_111 rfl ?_
      refine ze_getR kc_124_112 rfl rfl rfl ?_
      refine ze_iload kc_124_115 rfl ?_
      refine ze_iald kc_124_117 rfl (by omega) ?_
      rw [Int.toNat_natCast, mc i e6]
      refine ze_i2l kc_124_118 (by omega) ?_
      refine ze_lmul kc_124_119 ?_
      refine ze_putL kc_124_120 rfl rfl ?_
      refine ze_aload_n kc_124_123 rfl ?_
      refine ze_aload_n kc_124_124 rfl ?_
      refine ze_iload_n kc_124_125 rfl ?_
      refine zE_callv 2 kc_124_126 rfl rfl (Nat.le_of_ble_eq_true rfl) (Nat.le_of_ble_eq_true rfl) (Nat.le_of_ble_eq_true rfl) rfl (by decide +kernel) rfl ?_
      refine m_allOf (zMo_fm hM0 (zFm_up zFm_refl (by omega))) (by omega) ?_
      simp only [Option.toList_some, Option.toList_none, List.drop_succ_cons, List.drop_zero, List.cons_append, List.nil_append]
      rw [hcs]
      refine ze_i2l kc_124_129 (by omega) ?_
      refine ze_putL kc_124_130 rfl rfl ?_
      refine ze_goto kc_124_133 ?_
      refine m_awards_end hM0 hE hr hd hu ?_ q1
      first
        | (refine zAwd_60 (by omega) f1 f2 f3 f4 (by omega) ?_
           first
             | (rw [f5, zGt_0 hs0, zLv_hom e3 e4 her0 (by omega) hu.1])
             | (rw [f5, zGt_1 hs1, e5, hcs, had2, show 2 * (zsum m (fun k => c (σ k)) * d) - 2 * u = 2 * (zsum m (fun k => c (σ k)) * d - u) by omega, zLv_hom e3 e4 her0 (by omega) (by omega), hcd2, show 2 * (c i * d) * 60 = c i * d * 120 by omega])
             | (rw [f5, zGt_3p hs3 (by omega)])
             | (rw [f5, zGt_4p hs4 (by omega), e5, hcs, show zsum m (fun k => c (σ k)) * d - 2 * u = zsum m (fun k => c (σ k)) * d - u - u by omega]))
        | (refine zAwd_60 (by omega) (zFm_up f1 (by omega)) zup_s (by rw [zup_o (by decide)]; exact f3) f4 (by omega) ?_
           first
             | (rw [f2, f3, Int.sub_mul, f5, zGt_3r hs3 (by omega), e5, Int.sub_mul, show c i * d * 120 = c i * (2 * d) * 60 by omega, had2, show 2 * (zsum m (fun k => c (σ k)) * d) - 2 * u = 2 * (zsum m (fun k => c (σ k)) * d - u) by omega, show c i * (2 * d) * uD * 60 = c i * (2 * d) * 60 * uD by rw [Int.mul_assoc, Int.mul_comm uD 60, ← Int.mul_assoc]])
             | (rw [f2, f3, Int.add_mul, f5, zGt_4r hs4 (by omega), e5, Int.add_mul, show 2 * u - zsum m (fun k => c (σ k)) * d = u - (zsum m (fun k => c (σ k)) * d - u) by omega, show c i * d * uD * 60 = c i * d * 60 * uD by rw [Int.mul_assoc, Int.mul_comm uD 60, ← Int.mul_assoc], Int.add_comm]))
        | (refine ⟨_, _, f1, f2, f3, by have := zfac_range (n := m) e3; omega, ?_, ?_⟩
           · have h5 := zGt_range (r := 5) (i := i') (w := 2 * d) (u := 2 * u) e3 e4 her (by omega) (by omega)
             rw [zGt_5 rfl] at h5
             omega
           · rw [zAr_hom, show zS r m (fun k => c (σ k)) = zfac m by unfold zS; rw [if_neg (by omega), if_pos (by omega)], zGt_5 (by omega)]
             simp only [Int.mul_assoc, Int.mul_comm, Int.mul_left_comm])
        | (refine ⟨2 * u * c i, zsum m (fun k => c (σ k)), zFm_up (zFm_up zFm_refl (by omega)) (by omega), by rw [zup_o (by decide), zup_s], zup_s, by omega, ?_, ?_⟩
           · have := zmb (a := 2 * u) (b := c i) (A := 737280) (B := 60) (by omega) (by omega)
             omega
           · rw [show zS r m (fun k => c (σ k)) = zsum m (fun k => c (σ k)) by unfold zS; rw [if_pos (by omega)], zGt_2 (by omega), e5]
             simp only [Int.mul_assoc, Int.mul_comm, Int.mul_left_comm])
    by_cases hs3 : r = 3
    · refine ze_tableIn 3 kc_124_46 hs3 (by decide) (by decide) rfl rfl ?_
      refine ze_aload_n kc_124_136 rfl ?_
      refine ze_iload kc_124_137 rfl ?_
      refine ze_iload_n kc_124_139 rfl ?_
      refine ze_iload kc_124_140 rfl ?_
      refine ze_if_eq kc_124_142 (by decide) (fun _ => ?_) (fun q => absurd q (by decide))
      refine ze_lload kc_124_150 rfl ?_
      refine ze_lload kc_124_152 rfl ?_
      refine ze_lsub kc_124_154 ?_
      refine ze_lload kc_124_155 rfl ?_
      refine zE_callv 5 kc_124_157 rfl rfl (Nat.le_of_ble_eq_true rfl) (Nat.le_of_ble_eq_true rfl) (Nat.le_of_ble_eq_true rfl) rfl (by decide +kernel) rfl ?_
      refine m_even hM0 hE (by omega) (by omega) (fun Zx uU uD f1 f2 f3 f4 f5 => ?_)
      simp only [Option.toList_some, Option.toList_none, List.drop_succ_cons, List.drop_zero, List.cons_append, List.nil_append]
      refine ze_iload kc_124_160 rfl ?_
      refine ze_if_ne kc_124_162 (by decide) (fun q => absurd q (by decide)) (fun _ => ?_)
      refine ze_aload_n kc_124_165 rfl ?_
      refine ze_iload kc_124_166 rfl ?_
      refine ze_lload kc_124_168 rfl ?_
      refine zE_callv 3 kc_124_170 rfl rfl (Nat.le_of_ble_eq_true rfl) (Nat.le_of_ble_eq_true rfl) (Nat.le_of_ble_eq_true rfl) rfl (by decide +kernel) rfl ?_
      refine m_less (zMo_fm hM0 f1) e6 ?_
      simp only [Option.toList_some, Option.toList_none, List.drop_succ_cons, List.drop_zero, List.cons_append, List.nil_append]
      refine ze_goto kc_124_173 ?_
      refine m_awards_end hM0 hE hr hd hu ?_ q1
      first
        | (refine zAwd_60 (by omega) f1 f2 f3 f4 (by omega) ?_
           first
             | (rw [f5, zGt_0 hs0, zLv_hom e3 e4 her0 (by omega) hu.1])
             | (rw [f5, zGt_1 hs1, e5, hcs, had2, show 2 * (zsum m (fun k => c (σ k)) * d) - 2 * u = 2 * (zsum m (fun k => c (σ k)) * d - u) by omega, zLv_hom e3 e4 her0 (by omega) (by omega), hcd2, show 2 * (c i * d) * 60 = c i * d * 120 by omega])
             | (rw [f5, zGt_3p hs3 (by omega)])
             | (rw [f5, zGt_4p hs4 (by omega), e5, hcs, show zsum m (fun k => c (σ k)) * d - 2 * u = zsum m (fun k => c (σ k)) * d - u - u by omega]))
        | (refine zAwd_60 (by omega) (zFm_up f1 (by omega)) zup_s (by rw [zup_o (by decide)]; exact f3) f4 (by omega) ?_
           first
             | (rw [f2, f3, Int.sub_mul, f5, zGt_3r hs3 (by omega), e5, Int.sub_mul, show c i * d * 120 = c i * (2 * d) * 60 by omega, had2, show 2 * (zsum m (fun k => c (σ k)) * d) - 2 * u = 2 * (zsum m (fun k => c (σ k)) * d - u) by omega, show c i * (2 * d) * uD * 60 = c i * (2 * d) * 60 * uD by rw [Int.mul_assoc, Int.mul_comm uD 60, ← Int.mul_assoc]])
             | (rw [f2, f3, Int.add_mul, f5, zGt_4r hs4 (by omega), e5, Int.add_mul, show 2 * u - zsum m (fun k => c (σ k)) * d = u - (zsum m (fun k => c (σ k)) * d - u) by omega, show c i * d * uD * 60 = c i * d * 60 * uD by rw [Int.mul_assoc, Int.mul_comm uD 60, ← Int.mul_assoc], Int.add_comm]))
        | (refine ⟨_, _, f1, f2, f3, by have := zfac_range (n := m) e3; omega, ?_, ?_⟩
           · have h5 := zGt_range (r := 5) (i := i') (w := 2 * d) (u := 2 * u) e3 e4 her (by omega) (by omega)
             rw [zGt_5 rfl] at h5
             omega
           · rw [zAr_hom, show zS r m (fun k => c (σ k)) = zfac m by unfold zS; rw [if_neg (by omega), if_pos (by omega)], zGt_5 (by omega)]
             simp only [Int.mul_assoc, Int.mul_comm, Int.mul_left_comm])
        | (refine ⟨2 * u * c i, zsum m (fun k => c (σ k)), zFm_up (zFm_up zFm_refl (by omega)) (by omega), by rw [zup_o (by decide), zup_s], zup_s, by omega, ?_, ?_⟩
           · have := zmb (a := 2 * u) (b := c i) (A := 737280) (B := 60) (by omega) (by omega)
             omega
           · rw [show zS r m (fun k => c (σ k)) = zsum m (fun k => c (σ k)) by unfold zS; rw [if_pos (by omega)], zGt_2 (by omega), e5]
             simp only [Int.mul_assoc, Int.mul_comm, Int.mul_left_comm])
    by_cases hs4 : r = 4
    · refine ze_tableIn 4 kc_124_46 hs4 (by decide) (by decide) rfl rfl ?_
      refine ze_iload kc_124_176 rfl ?_
      refine ze_if_eq kc_124_178 (by decide) (fun _ => ?_) (fun q => absurd q (by decide))
      refine ze_aload_n kc_124_195 rfl ?_
      refine ze_iload kc_124_196 rfl ?_
      refine ze_iload_n kc_124_198 rfl ?_
      refine ze_lload kc_124_199 rfl ?_
      refine ze_lload kc_124_201 rfl ?_
      refine ze_ldc2L kc_124_203 ?_
      refine ze_ldiv kc_124_206 (by omega) ?_
      rw [show (zsum m (fun k => c (σ k)) * (2 * d)).tdiv 2 = zsum m (fun k => c (σ k)) * d by rw [had2, Int.mul_tdiv_cancel_left _ (by decide)]]
      refine ze_lsub kc_124_207 ?_
      refine ze_lload kc_124_208 rfl ?_
      refine zE_callv 5 kc_124_210 rfl rfl (Nat.le_of_ble_eq_true rfl) (Nat.le_of_ble_eq_true rfl) (Nat.le_of_ble_eq_true rfl) rfl (by decide +kernel) rfl ?_
      refine m_even hM0 hE (by omega) (by omega) (fun Zx uU uD f1 f2 f3 f4 f5 => ?_)
      simp only [Option.toList_some, Option.toList_none, List.drop_succ_cons, List.drop_zero, List.cons_append, List.nil_append]
      refine ze_aload_n kc_124_213 rfl ?_
      refine ze_dup kc_124_214 rfl ?_
      refine ze_getL kc_124_215 rfl rfl ?_
      refine ze_aload_n kc_124_218 rfl ?_
      refine ze_getR kc_124_219 rfl rfl rfl ?_
      refine ze_iload kc_124_222 rfl ?_
      refine ze_iald kc_124_224 rfl (by omega) ?_
      rw [Int.toNat_natCast, (zMo_fm hM0 f1).2.2.1 i e6]
      refine ze_i2l kc_124_225 (by omega) ?_
      refine ze_lload kc_124_226 rfl ?_
      refine ze_lmul kc_124_228 ?_
      refine ze_aload_n kc_124_229 rfl ?_
      refine ze_getL kc_124_230 rfl rfl ?_
      refine ze_lmul kc_124_233 ?_
      refine ze_ladd kc_124_234 ?_
      refine ze_putL kc_124_235 rfl rfl ?_
      refine ze_goto kc_124_238 ?_
      refine m_awards_end hM0 hE hr hd hu ?_ q1
      first
        | (refine zAwd_60 (by omega) f1 f2 f3 f4 (by omega) ?_
           first
             | (rw [f5, zGt_0 hs0, zLv_hom e3 e4 her0 (by omega) hu.1])
             | (rw [f5, zGt_1 hs1, e5, hcs, had2, show 2 * (zsum m (fun k => c (σ k)) * d) - 2 * u = 2 * (zsum m (fun k => c (σ k)) * d - u) by omega, zLv_hom e3 e4 her0 (by omega) (by omega), hcd2, show 2 * (c i * d) * 60 = c i * d * 120 by omega])
             | (rw [f5, zGt_3p hs3 (by omega)])
             | (rw [f5, zGt_4p hs4 (by omega), e5, hcs, show zsum m (fun k => c (σ k)) * d - 2 * u = zsum m (fun k => c (σ k)) * d - u - u by omega]))
        | (refine zAwd_60 (by omega) (zFm_up f1 (by omega)) zup_s (by rw [zup_o (by decide)]; exact f3) f4 (by omega) ?_
           first
             | (rw [f2, f3, Int.sub_mul, f5, zGt_3r hs3 (by omega), e5, Int.sub_mul, show c i * d * 120 = c i * (2 * d) * 60 by omega, had2, show 2 * (zsum m (fun k => c (σ k)) * d) - 2 * u = 2 * (zsum m (fun k => c (σ k)) * d - u) by omega, show c i * (2 * d) * uD * 60 = c i * (2 * d) * 60 * uD by rw [Int.mul_assoc, Int.mul_comm uD 60, ← Int.mul_assoc]])
             | (rw [f2, f3, Int.add_mul, f5, zGt_4r hs4 (by omega), e5, Int.add_mul, show 2 * u - zsum m (fun k => c (σ k)) * d = u - (zsum m (fun k => c (σ k)) * d - u) by omega, show c i * d * uD * 60 = c i * d * 60 * uD by rw [Int.mul_assoc, Int.mul_comm uD 60, ← Int.mul_assoc], Int.add_comm]))
        | (refine ⟨_, _, f1, f2, f3, by have := zfac_range (n := m) e3; omega, ?_, ?_⟩
           · have h5 := zGt_range (r := 5) (i := i') (w := 2 * d) (u := 2 * u) e3 e4 her (by omega) (by omega)
             rw [zGt_5 rfl] at h5
             omega
           · rw [zAr_hom, show zS r m (fun k => c (σ k)) = zfac m by unfold zS; rw [if_neg (by omega), if_pos (by omega)], zGt_5 (by omega)]
             simp only [Int.mul_assoc, Int.mul_comm, Int.mul_left_comm])
        | (refine ⟨2 * u * c i, zsum m (fun k => c (σ k)), zFm_up (zFm_up zFm_refl (by omega)) (by omega), by rw [zup_o (by decide), zup_s], zup_s, by omega, ?_, ?_⟩
           · have := zmb (a := 2 * u) (b := c i) (A := 737280) (B := 60) (by omega) (by omega)
             omega
           · rw [show zS r m (fun k => c (σ k)) = zsum m (fun k => c (σ k)) by unfold zS; rw [if_pos (by omega)], zGt_2 (by omega), e5]
             simp only [Int.mul_assoc, Int.mul_comm, Int.mul_left_comm])
    refine ze_tableOut kc_124_46 (by omega) (by omega) rfl ?_
    refine ze_aload_n kc_124_241 rfl ?_
    refine ze_iload kc_124_242 rfl ?_
    refine ze_iload_n kc_124_244 rfl ?_
    refine ze_lload kc_124_245 rfl ?_
    refine ze_lload kc_124_247 rfl ?_
    refine zE_callv 5 kc_124_249 rfl rfl (Nat.le_of_ble_eq_true rfl) (Nat.le_of_ble_eq_true rfl) (Nat.le_of_ble_eq_true rfl) rfl (by decide +kernel) rfl ?_
    refine m_arrival hM0 hE (by omega) (by omega) (fun Zx f1 f2 f3 => ?_)
    simp only [Option.toList_some, Option.toList_none, List.drop_succ_cons, List.drop_zero, List.cons_append, List.nil_append]
    refine m_awards_end hM0 hE hr hd hu ?_ q1
    first
      | (refine zAwd_60 (by omega) f1 f2 f3 f4 (by omega) ?_
         first
           | (rw [f5, zGt_0 hs0, zLv_hom e3 e4 her0 (by omega) hu.1])
           | (rw [f5, zGt_1 hs1, e5, hcs, had2, show 2 * (zsum m (fun k => c (σ k)) * d) - 2 * u = 2 * (zsum m (fun k => c (σ k)) * d - u) by omega, zLv_hom e3 e4 her0 (by omega) (by omega), hcd2, show 2 * (c i * d) * 60 = c i * d * 120 by omega])
           | (rw [f5, zGt_3p hs3 (by omega)])
           | (rw [f5, zGt_4p hs4 (by omega), e5, hcs, show zsum m (fun k => c (σ k)) * d - 2 * u = zsum m (fun k => c (σ k)) * d - u - u by omega]))
      | (refine zAwd_60 (by omega) (zFm_up f1 (by omega)) zup_s (by rw [zup_o (by decide)]; exact f3) f4 (by omega) ?_
         first
           | (rw [f2, f3, Int.sub_mul, f5, zGt_3r hs3 (by omega), e5, Int.sub_mul, show c i * d * 120 = c i * (2 * d) * 60 by omega, had2, show 2 * (zsum m (fun k => c (σ k)) * d) - 2 * u = 2 * (zsum m (fun k => c (σ k)) * d - u) by omega, show c i * (2 * d) * uD * 60 = c i * (2 * d) * 60 * uD by rw [Int.mul_assoc, Int.mul_comm uD 60, ← Int.mul_assoc]])
           | (rw [f2, f3, Int.add_mul, f5, zGt_4r hs4 (by omega), e5, Int.add_mul, show 2 * u - zsum m (fun k => c (σ k)) * d = u - (zsum m (fun k => c (σ k)) * d - u) by omega, show c i * d * uD * 60 = c i * d * 60 * uD by rw [Int.mul_assoc, Int.mul_comm uD 60, ← Int.mul_assoc], Int.add_comm]))
      | (refine ⟨_, _, f1, f2, f3, by have := zfac_range (n := m) e3; omega, ?_, ?_⟩
         · have h5 := zGt_range (r := 5) (i := i') (w := 2 * d) (u := 2 * u) e3 e4 her (by omega) (by omega)
           rw [zGt_5 rfl] at h5
           omega
         · rw [zAr_hom, show zS r m (fun k => c (σ k)) = zfac m by unfold zS; rw [if_neg (by omega), if_pos (by omega)], zGt_5 (by omega)]
           simp only [Int.mul_assoc, Int.mul_comm, Int.mul_left_comm])
      | (refine ⟨2 * u * c i, zsum m (fun k => c (σ k)), zFm_up (zFm_up zFm_refl (by omega)) (by omega), by rw [zup_o (by decide), zup_s], zup_s, by omega, ?_, ?_⟩
         · have := zmb (a := 2 * u) (b := c i) (A := 737280) (B := 60) (by omega) (by omega)
           omega
         · rw [show zS r m (fun k => c (σ k)) = zsum m (fun k => c (σ k)) by unfold zS; rw [if_pos (by omega)], zGt_2 (by omega), e5]
           simp only [Int.mul_assoc, Int.mul_comm, Int.mul_left_comm])
  · skip
    refine ze_iconst kc_124_38 ?_
    refine ze_goto kc_124_39 ?_
    refine ze_istore kc_124_43 (Nat.le_of_ble_eq_true rfl) ?_
    simp only [zset1, zset2, zcut, List.set_cons_zero, List.set_cons_succ, List.getD_cons_zero, List.getD_cons_succ]
    refine ze_iload_n kc_124_45 rfl ?_
    by_cases hs0 : r = 0
    · refine ze_tableIn 0 kc_124_46 hs0 (by decide) (by decide) rfl rfl ?_
      refine ze_aload_n kc_124_80 rfl ?_
      refine ze_iload kc_124_81 rfl ?_
      refine ze_iload_n kc_124_83 rfl ?_
      refine ze_lload kc_124_84 rfl ?_
      refine ze_lload kc_124_86 rfl ?_
      refine zE_callv 5 kc_124_88 rfl rfl (Nat.le_of_ble_eq_true rfl) (Nat.le_of_ble_eq_true rfl) (Nat.le_of_ble_eq_true rfl) rfl (by decide +kernel) rfl ?_
      refine m_even hM0 hE (by omega) (by omega) (fun Zx uU uD f1 f2 f3 f4 f5 => ?_)
      simp only [Option.toList_some, Option.toList_none, List.drop_succ_cons, List.drop_zero, List.cons_append, List.nil_append]
      refine ze_goto kc_124_91 ?_
      refine m_awards_end hM0 hE hr hd hu ?_ q1
      first
        | (refine zAwd_60 (by omega) f1 f2 f3 f4 (by omega) ?_
           first
             | (rw [f5, zGt_0 hs0, zLv_hom e3 e4 her0 (by omega) hu.1])
             | (rw [f5, zGt_1 hs1, e5, hcs, had2, show 2 * (zsum m (fun k => c (σ k)) * d) - 2 * u = 2 * (zsum m (fun k => c (σ k)) * d - u) by omega, zLv_hom e3 e4 her0 (by omega) (by omega), hcd2, show 2 * (c i * d) * 60 = c i * d * 120 by omega])
             | (rw [f5, zGt_3p hs3 (by omega)])
             | (rw [f5, zGt_4p hs4 (by omega), e5, hcs, show zsum m (fun k => c (σ k)) * d - 2 * u = zsum m (fun k => c (σ k)) * d - u - u by omega]))
        | (refine zAwd_60 (by omega) (zFm_up f1 (by omega)) zup_s (by rw [zup_o (by decide)]; exact f3) f4 (by omega) ?_
           first
             | (rw [f2, f3, Int.sub_mul, f5, zGt_3r hs3 (by omega), e5, Int.sub_mul, show c i * d * 120 = c i * (2 * d) * 60 by omega, had2, show 2 * (zsum m (fun k => c (σ k)) * d) - 2 * u = 2 * (zsum m (fun k => c (σ k)) * d - u) by omega, show c i * (2 * d) * uD * 60 = c i * (2 * d) * 60 * uD by rw [Int.mul_assoc, Int.mul_comm uD 60, ← Int.mul_assoc]])
             | (rw [f2, f3, Int.add_mul, f5, zGt_4r hs4 (by omega), e5, Int.add_mul, show 2 * u - zsum m (fun k => c (σ k)) * d = u - (zsum m (fun k => c (σ k)) * d - u) by omega, show c i * d * uD * 60 = c i * d * 60 * uD by rw [Int.mul_assoc, Int.mul_comm uD 60, ← Int.mul_assoc], Int.add_comm]))
        | (refine ⟨_, _, f1, f2, f3, by have := zfac_range (n := m) e3; omega, ?_, ?_⟩
           · have h5 := zGt_range (r := 5) (i := i') (w := 2 * d) (u := 2 * u) e3 e4 her (by omega) (by omega)
             rw [zGt_5 rfl] at h5
             omega
           · rw [zAr_hom, show zS r m (fun k => c (σ k)) = zfac m by unfold zS; rw [if_neg (by omega), if_pos (by omega)], zGt_5 (by omega)]
             simp only [Int.mul_assoc, Int.mul_comm, Int.mul_left_comm])
        | (refine ⟨2 * u * c i, zsum m (fun k => c (σ k)), zFm_up (zFm_up zFm_refl (by omega)) (by omega), by rw [zup_o (by decide), zup_s], zup_s, by omega, ?_, ?_⟩
           · have := zmb (a := 2 * u) (b := c i) (A := 737280) (B := 60) (by omega) (by omega)
             omega
           · rw [show zS r m (fun k => c (σ k)) = zsum m (fun k => c (σ k)) by unfold zS; rw [if_pos (by omega)], zGt_2 (by omega), e5]
             simp only [Int.mul_assoc, Int.mul_comm, Int.mul_left_comm])
    by_cases hs1 : r = 1
    · refine ze_tableIn 1 kc_124_46 hs1 (by decide) (by decide) rfl rfl ?_
      refine ze_aload_n kc_124_94 rfl ?_
      refine ze_iload kc_124_95 rfl ?_
      refine ze_iload_n kc_124_97 rfl ?_
      refine ze_lload kc_124_98 rfl ?_
      refine ze_lload kc_124_100 rfl ?_
      refine zE_callv 5 kc_124_102 rfl rfl (Nat.le_of_ble_eq_true rfl) (Nat.le_of_ble_eq_true rfl) (Nat.le_of_ble_eq_true rfl) rfl (by decide +kernel) rfl ?_
      refine m_loss hM0 hE (by omega) (by rw [hcs]; omega) (fun Zx uU uD f1 f2 f3 f4 f5 => ?_)
      simp only [Option.toList_some, Option.toList_none, List.drop_succ_cons, List.drop_zero, List.cons_append, List.nil_append]
      refine ze_goto kc_124_105 ?_
      refine m_awards_end hM0 hE hr hd hu ?_ q1
      first
        | (refine zAwd_60 (by omega) f1 f2 f3 f4 (by omega) ?_
           first
             | (rw [f5, zGt_0 hs0, zLv_hom e3 e4 her0 (by omega) hu.1])
             | (rw [f5, zGt_1 hs1, e5, hcs, had2, show 2 * (zsum m (fun k => c (σ k)) * d) - 2 * u = 2 * (zsum m (fun k => c (σ k)) * d - u) by omega, zLv_hom e3 e4 her0 (by omega) (by omega), hcd2, show 2 * (c i * d) * 60 = c i * d * 120 by omega])
             | (rw [f5, zGt_3p hs3 (by omega)])
             | (rw [f5, zGt_4p hs4 (by omega), e5, hcs, show zsum m (fun k => c (σ k)) * d - 2 * u = zsum m (fun k => c (σ k)) * d - u - u by omega]))
        | (refine zAwd_60 (by omega) (zFm_up f1 (by omega)) zup_s (by rw [zup_o (by decide)]; exact f3) f4 (by omega) ?_
           first
             | (rw [f2, f3, Int.sub_mul, f5, zGt_3r hs3 (by omega), e5, Int.sub_mul, show c i * d * 120 = c i * (2 * d) * 60 by omega, had2, show 2 * (zsum m (fun k => c (σ k)) * d) - 2 * u = 2 * (zsum m (fun k => c (σ k)) * d - u) by omega, show c i * (2 * d) * uD * 60 = c i * (2 * d) * 60 * uD by rw [Int.mul_assoc, Int.mul_comm uD 60, ← Int.mul_assoc]])
             | (rw [f2, f3, Int.add_mul, f5, zGt_4r hs4 (by omega), e5, Int.add_mul, show 2 * u - zsum m (fun k => c (σ k)) * d = u - (zsum m (fun k => c (σ k)) * d - u) by omega, show c i * d * uD * 60 = c i * d * 60 * uD by rw [Int.mul_assoc, Int.mul_comm uD 60, ← Int.mul_assoc], Int.add_comm]))
        | (refine ⟨_, _, f1, f2, f3, by have := zfac_range (n := m) e3; omega, ?_, ?_⟩
           · have h5 := zGt_range (r := 5) (i := i') (w := 2 * d) (u := 2 * u) e3 e4 her (by omega) (by omega)
             rw [zGt_5 rfl] at h5
             omega
           · rw [zAr_hom, show zS r m (fun k => c (σ k)) = zfac m by unfold zS; rw [if_neg (by omega), if_pos (by omega)], zGt_5 (by omega)]
             simp only [Int.mul_assoc, Int.mul_comm, Int.mul_left_comm])
        | (refine ⟨2 * u * c i, zsum m (fun k => c (σ k)), zFm_up (zFm_up zFm_refl (by omega)) (by omega), by rw [zup_o (by decide), zup_s], zup_s, by omega, ?_, ?_⟩
           · have := zmb (a := 2 * u) (b := c i) (A := 737280) (B := 60) (by omega) (by omega)
             omega
           · rw [show zS r m (fun k => c (σ k)) = zsum m (fun k => c (σ k)) by unfold zS; rw [if_pos (by omega)], zGt_2 (by omega), e5]
             simp only [Int.mul_assoc, Int.mul_comm, Int.mul_left_comm])
    by_cases hs2 : r = 2
    · refine ze_tableIn 2 kc_124_46 hs2 (by decide) (by decide) rfl rfl ?_
      refine ze_aload_n kc_124_108 rfl ?_
      refine ze_lload kc_124_109 rfl ?_
      refine ze_aload_n kc_124_111 rfl ?_
      refine ze_getR kc_124_112 rfl rfl rfl ?_
      refine ze_iload kc_124_115 rfl ?_
      refine ze_iald kc_124_117 rfl (by omega) ?_
      rw [Int.toNat_natCast, mc i e6]
      refine ze_i2l kc_124_118 (by omega) ?_
      refine ze_lmul kc_124_119 ?_
      refine ze_putL kc_124_120 rfl rfl ?_
      refine ze_aload_n kc_124_123 rfl ?_
      refine ze_aload_n kc_124_124 rfl ?_
      refine ze_iload_n kc_124_125 rfl ?_
      refine zE_callv 2 kc_124_126 rfl rfl (Nat.le_of_ble_eq_true rfl) (Nat.le_of_ble_eq_true rfl) (Nat.le_of_ble_eq_true rfl) rfl (by decide +kernel) rfl ?_
      refine m_allOf (zMo_fm hM0 (zFm_up zFm_refl (by omega))) (by omega) ?_
      simp only [Option.toList_some, Option.toList_none, List.drop_succ_cons, List.drop_zero, List.cons_append, List.nil_append]
      rw [hcs]
      refine ze_i2l kc_124_129 (by omega) ?_
      refine ze_putL kc_124_130 rfl rfl ?_
      refine ze_goto kc_124_133 ?_
      refine m_awards_end hM0 hE hr hd hu ?_ q1
      first
        | (refine zAwd_60 (by omega) f1 f2 f3 f4 (by omega) ?_
           first
             | (rw [f5, zGt_0 hs0, zLv_hom e3 e4 her0 (by omega) hu.1])
             | (rw [f5, zGt_1 hs1, e5, hcs, had2, show 2 * (zsum m (fun k => c (σ k)) * d) - 2 * u = 2 * (zsum m (fun k => c (σ k)) * d - u) by omega, zLv_hom e3 e4 her0 (by omega) (by omega), hcd2, show 2 * (c i * d) * 60 = c i * d * 120 by omega])
             | (rw [f5, zGt_3p hs3 (by omega)])
             | (rw [f5, zGt_4p hs4 (by omega), e5, hcs, show zsum m (fun k => c (σ k)) * d - 2 * u = zsum m (fun k => c (σ k)) * d - u - u by omega]))
        | (refine zAwd_60 (by omega) (zFm_up f1 (by omega)) zup_s (by rw [zup_o (by decide)]; exact f3) f4 (by omega) ?_
           first
             | (rw [f2, f3, Int.sub_mul, f5, zGt_3r hs3 (by omega), e5, Int.sub_mul, show c i * d * 120 = c i * (2 * d) * 60 by omega, had2, show 2 * (zsum m (fun k => c (σ k)) * d) - 2 * u = 2 * (zsum m (fun k => c (σ k)) * d - u) by omega, show c i * (2 * d) * uD * 60 = c i * (2 * d) * 60 * uD by rw [Int.mul_assoc, Int.mul_comm uD 60, ← Int.mul_assoc]])
             | (rw [f2, f3, Int.add_mul, f5, zGt_4r hs4 (by omega), e5, Int.add_mul, show 2 * u - zsum m (fun k => c (σ k)) * d = u - (zsum m (fun k => c (σ k)) * d - u) by omega, show c i * d * uD * 60 = c i * d * 60 * uD by rw [Int.mul_assoc, Int.mul_comm uD 60, ← Int.mul_assoc], Int.add_comm]))
        | (refine ⟨_, _, f1, f2, f3, by have := zfac_range (n := m) e3; omega, ?_, ?_⟩
           · have h5 := zGt_range (r := 5) (i := i') (w := 2 * d) (u := 2 * u) e3 e4 her (by omega) (by omega)
             rw [zGt_5 rfl] at h5
             omega
           · rw [zAr_hom, show zS r m (fun k => c (σ k)) = zfac m by unfold zS; rw [if_neg (by omega), if_pos (by omega)], zGt_5 (by omega)]
             simp only [Int.mul_assoc, Int.mul_comm, Int.mul_left_comm])
        | (refine ⟨2 * u * c i, zsum m (fun k => c (σ k)), zFm_up (zFm_up zFm_refl (by omega)) (by omega), by rw [zup_o (by decide), zup_s], zup_s, by omega, ?_, ?_⟩
           · have := zmb (a := 2 * u) (b := c i) (A := 737280) (B := 60) (by omega) (by omega)
             omega
           · rw [show zS r m (fun k => c (σ k)) = zsum m (fun k => c (σ k)) by unfold zS; rw [if_pos (by omega)], zGt_2 (by omega), e5]
             simp only [Int.mul_assoc, Int.mul_comm, Int.mul_left_comm])
    by_cases hs3 : r = 3
    · refine ze_tableIn 3 kc_124_46 hs3 (by decide) (by decide) rfl rfl ?_
      refine ze_aload_n kc_124_136 rfl ?_
      refine ze_iload kc_124_137 rfl ?_
      refine ze_iload_n kc_124_139 rfl ?_
      refine ze_iload kc_124_140 rfl ?_
      refine ze_if_eq kc_124_142 (by decide) (fun q => absurd q (by decide)) (fun _ => ?_)
      refine ze_lload kc_124_145 rfl ?_
      refine ze_goto kc_124_147 ?_
      refine ze_lload kc_124_155 rfl ?_
      refine zE_callv 5 kc_124_157 rfl rfl (Nat.le_of_ble_eq_true rfl) (Nat.le_of_ble_eq_true rfl) (Nat.le_of_ble_eq_true rfl) rfl (by decide +kernel) rfl ?_
      refine m_even hM0 hE (by omega) (by omega) (fun Zx uU uD f1 f2 f3 f4 f5 => ?_)
      simp only [Option.toList_some, Option.toList_none, List.drop_succ_cons, List.drop_zero, List.cons_append, List.nil_append]
      refine ze_iload kc_124_160 rfl ?_
      refine ze_if_ne kc_124_162 (by decide) (fun _ => ?_) (fun q => absurd q (by decide))
      refine m_awards_end hM0 hE hr hd hu ?_ q1
      first
        | (refine zAwd_60 (by omega) f1 f2 f3 f4 (by omega) ?_
           first
             | (rw [f5, zGt_0 hs0, zLv_hom e3 e4 her0 (by omega) hu.1])
             | (rw [f5, zGt_1 hs1, e5, hcs, had2, show 2 * (zsum m (fun k => c (σ k)) * d) - 2 * u = 2 * (zsum m (fun k => c (σ k)) * d - u) by omega, zLv_hom e3 e4 her0 (by omega) (by omega), hcd2, show 2 * (c i * d) * 60 = c i * d * 120 by omega])
             | (rw [f5, zGt_3p hs3 (by omega)])
             | (rw [f5, zGt_4p hs4 (by omega), e5, hcs, show zsum m (fun k => c (σ k)) * d - 2 * u = zsum m (fun k => c (σ k)) * d - u - u by omega]))
        | (refine zAwd_60 (by omega) (zFm_up f1 (by omega)) zup_s (by rw [zup_o (by decide)]; exact f3) f4 (by omega) ?_
           first
             | (rw [f2, f3, Int.sub_mul, f5, zGt_3r hs3 (by omega), e5, Int.sub_mul, show c i * d * 120 = c i * (2 * d) * 60 by omega, had2, show 2 * (zsum m (fun k => c (σ k)) * d) - 2 * u = 2 * (zsum m (fun k => c (σ k)) * d - u) by omega, show c i * (2 * d) * uD * 60 = c i * (2 * d) * 60 * uD by rw [Int.mul_assoc, Int.mul_comm uD 60, ← Int.mul_assoc]])
             | (rw [f2, f3, Int.add_mul, f5, zGt_4r hs4 (by omega), e5, Int.add_mul, show 2 * u - zsum m (fun k => c (σ k)) * d = u - (zsum m (fun k => c (σ k)) * d - u) by omega, show c i * d * uD * 60 = c i * d * 60 * uD by rw [Int.mul_assoc, Int.mul_comm uD 60, ← Int.mul_assoc], Int.add_comm]))
        | (refine ⟨_, _, f1, f2, f3, by have := zfac_range (n := m) e3; omega, ?_, ?_⟩
           · have h5 := zGt_range (r := 5) (i := i') (w := 2 * d) (u := 2 * u) e3 e4 her (by omega) (by omega)
             rw [zGt_5 rfl] at h5
             omega
           · rw [zAr_hom, show zS r m (fun k => c (σ k)) = zfac m by unfold zS; rw [if_neg (by omega), if_pos (by omega)], zGt_5 (by omega)]
             simp only [Int.mul_assoc, Int.mul_comm, Int.mul_left_comm])
        | (refine ⟨2 * u * c i, zsum m (fun k => c (σ k)), zFm_up (zFm_up zFm_refl (by omega)) (by omega), by rw [zup_o (by decide), zup_s], zup_s, by omega, ?_, ?_⟩
           · have := zmb (a := 2 * u) (b := c i) (A := 737280) (B := 60) (by omega) (by omega)
             omega
           · rw [show zS r m (fun k => c (σ k)) = zsum m (fun k => c (σ k)) by unfold zS; rw [if_pos (by omega)], zGt_2 (by omega), e5]
             simp only [Int.mul_assoc, Int.mul_comm, Int.mul_left_comm])
    by_cases hs4 : r = 4
    · refine ze_tableIn 4 kc_124_46 hs4 (by decide) (by decide) rfl rfl ?_
      refine ze_iload kc_124_176 rfl ?_
      refine ze_if_eq kc_124_178 (by decide) (fun q => absurd q (by decide)) (fun _ => ?_)
      refine ze_aload_n kc_124_181 rfl ?_
      refine ze_iload kc_124_182 rfl ?_
      refine ze_iload_n kc_124_184 rfl ?_
      refine ze_lload kc_124_185 rfl ?_
      refine ze_lload kc_124_187 rfl ?_
      refine zE_callv 5 kc_124_189 rfl rfl (Nat.le_of_ble_eq_true rfl) (Nat.le_of_ble_eq_true rfl) (Nat.le_of_ble_eq_true rfl) rfl (by decide +kernel) rfl ?_
      refine m_loss hM0 hE (by omega) (by rw [hcs]; omega) (fun Zx uU uD f1 f2 f3 f4 f5 => ?_)
      simp only [Option.toList_some, Option.toList_none, List.drop_succ_cons, List.drop_zero, List.cons_append, List.nil_append]
      refine ze_goto kc_124_192 ?_
      refine m_awards_end hM0 hE hr hd hu ?_ q1
      first
        | (refine zAwd_60 (by omega) f1 f2 f3 f4 (by omega) ?_
           first
             | (rw [f5, zGt_0 hs0, zLv_hom e3 e4 her0 (by omega) hu.1])
             | (rw [f5, zGt_1 hs1, e5, hcs, had2, show 2 * (zsum m (fun k => c (σ k)) * d) - 2 * u = 2 * (zsum m (fun k => c (σ k)) * d - u) by omega, zLv_hom e3 e4 her0 (by omega) (by omega), hcd2, show 2 * (c i * d) * 60 = c i * d * 120 by omega])
             | (rw [f5, zGt_3p hs3 (by omega)])
             | (rw [f5, zGt_4p hs4 (by omega), e5, hcs, show zsum m (fun k => c (σ k)) * d - 2 * u = zsum m (fun k => c (σ k)) * d - u - u by omega]))
        | (refine zAwd_60 (by omega) (zFm_up f1 (by omega)) zup_s (by rw [zup_o (by decide)]; exact f3) f4 (by omega) ?_
           first
             | (rw [f2, f3, Int.sub_mul, f5, zGt_3r hs3 (by omega), e5, Int.sub_mul, show c i * d * 120 = c i * (2 * d) * 60 by omega, had2, show 2 * (zsum m (fun k => c (σ k)) * d) - 2 * u = 2 * (zsum m (fun k => c (σ k)) * d - u) by omega, show c i * (2 * d) * uD * 60 = c i * (2 * d) * 60 * uD by rw [Int.mul_assoc, Int.mul_comm uD 60, ← Int.mul_assoc]])
             | (rw [f2, f3, Int.add_mul, f5, zGt_4r hs4 (by omega), e5, Int.add_mul, show 2 * u - zsum m (fun k => c (σ k)) * d = u - (zsum m (fun k => c (σ k)) * d - u) by omega, show c i * d * uD * 60 = c i * d * 60 * uD by rw [Int.mul_assoc, Int.mul_comm uD 60, ← Int.mul_assoc], Int.add_comm]))
        | (refine ⟨_, _, f1, f2, f3, by have := zfac_range (n := m) e3; omega, ?_, ?_⟩
           · have h5 := zGt_range (r := 5) (i := i') (w := 2 * d) (u := 2 * u) e3 e4 her (by omega) (by omega)
             rw [zGt_5 rfl] at h5
             omega
           · rw [zAr_hom, show zS r m (fun k => c (σ k)) = zfac m by unfold zS; rw [if_neg (by omega), if_pos (by omega)], zGt_5 (by omega)]
             simp only [Int.mul_assoc, Int.mul_comm, Int.mul_left_comm])
        | (refine ⟨2 * u * c i, zsum m (fun k => c (σ k)), zFm_up (zFm_up zFm_refl (by omega)) (by omega), by rw [zup_o (by decide), zup_s], zup_s, by omega, ?_, ?_⟩
           · have := zmb (a := 2 * u) (b := c i) (A := 737280) (B := 60) (by omega) (by omega)
             omega
           · rw [show zS r m (fun k => c (σ k)) = zsum m (fun k => c (σ k)) by unfold zS; rw [if_pos (by omega)], zGt_2 (by omega), e5]
             simp only [Int.mul_assoc, Int.mul_comm, Int.mul_left_comm])
    refine ze_tableOut kc_124_46 (by omega) (by omega) rfl ?_
    refine ze_aload_n kc_124_241 rfl ?_
    refine ze_iload kc_124_242 rfl ?_
    refine ze_iload_n kc_124_244 rfl ?_
    refine ze_lload kc_124_245 rfl ?_
    refine ze_lload kc_124_247 rfl ?_
    refine zE_callv 5 kc_124_249 rfl rfl (Nat.le_of_ble_eq_true rfl) (Nat.le_of_ble_eq_true rfl) (Nat.le_of_ble_eq_true rfl) rfl (by decide +kernel) rfl ?_
    refine m_arrival hM0 hE (by omega) (by omega) (fun Zx f1 f2 f3 => ?_)
    simp only [Option.toList_some, Option.toList_none, List.drop_succ_cons, List.drop_zero, List.cons_append, List.nil_append]
    refine m_awards_end hM0 hE hr hd hu ?_ q1
    first
      | (refine zAwd_60 (by omega) f1 f2 f3 f4 (by omega) ?_
         first
           | (rw [f5, zGt_0 hs0, zLv_hom e3 e4 her0 (by omega) hu.1])
           | (rw [f5, zGt_1 hs1, e5, hcs, had2, show 2 * (zsum m (fun k => c (σ k)) * d) - 2 * u = 2 * (zsum m (fun k => c (σ k)) * d - u) by omega, zLv_hom e3 e4 her0 (by omega) (by omega), hcd2, show 2 * (c i * d) * 60 = c i * d * 120 by omega])
           | (rw [f5, zGt_3p hs3 (by omega)])
           | (rw [f5, zGt_4p hs4 (by omega), e5, hcs, show zsum m (fun k => c (σ k)) * d - 2 * u = zsum m (fun k => c (σ k)) * d - u - u by omega]))
      | (refine zAwd_60 (by omega) (zFm_up f1 (by omega)) zup_s (by rw [zup_o (by decide)]; exact f3) f4 (by omega) ?_
         first
           | (rw [f2, f3, Int.sub_mul, f5, zGt_3r hs3 (by omega), e5, Int.sub_mul, show c i * d * 120 = c i * (2 * d) * 60 by omega, had2, show 2 * (zsum m (fun k => c (σ k)) * d) - 2 * u = 2 * (zsum m (fun k => c (σ k)) * d - u) by omega, show c i * (2 * d) * uD * 60 = c i * (2 * d) * 60 * uD by rw [Int.mul_assoc, Int.mul_comm uD 60, ← Int.mul_assoc]])
           | (rw [f2, f3, Int.add_mul, f5, zGt_4r hs4 (by omega), e5, Int.add_mul, show 2 * u - zsum m (fun k => c (σ k)) * d = u - (zsum m (fun k => c (σ k)) * d - u) by omega, show c i * d * uD * 60 = c i * d * 60 * uD by rw [Int.mul_assoc, Int.mul_comm uD 60, ← Int.mul_assoc], Int.add_comm]))
      | (refine ⟨_, _, f1, f2, f3, by have := zfac_range (n := m) e3; omega, ?_, ?_⟩
         · have h5 := zGt_range (r := 5) (i := i') (w := 2 * d) (u := 2 * u) e3 e4 her (by omega) (by omega)
           rw [zGt_5 rfl] at h5
           omega
         · rw [zAr_hom, show zS r m (fun k => c (σ k)) = zfac m by unfold zS; rw [if_neg (by omega), if_pos (by omega)], zGt_5 (by omega)]
           simp only [Int.mul_assoc, Int.mul_comm, Int.mul_left_comm])
      | (refine ⟨2 * u * c i, zsum m (fun k => c (σ k)), zFm_up (zFm_up zFm_refl (by omega)) (by omega), by rw [zup_o (by decide), zup_s], zup_s, by omega, ?_, ?_⟩
         · have := zmb (a := 2 * u) (b := c i) (A := 737280) (B := 60) (by omega) (by omega)
           omega
         · rw [show zS r m (fun k => c (σ k)) = zsum m (fun k => c (σ k)) by unfold zS; rw [if_pos (by omega)], zGt_2 (by omega), e5]
           simp only [Int.mul_assoc, Int.mul_comm, Int.mul_left_comm])
