/-! LEVELS -/
theorem zmb {a b A B : Int} (ha : 0 ≤ a ∧ a ≤ A) (hb : 0 ≤ b ∧ b ≤ B) : 0 ≤ a * b ∧ a * b ≤ A * B :=
  ⟨Int.mul_nonneg ha.1 hb.1, Int.mul_le_mul ha.2 hb.2 hb.1 (by omega)⟩
theorem zsum_eq_le {n : Nat} {f g : Nat → Int} (h : ∀ i, i < n → f i ≤ g i) (he : zsum n f = zsum n g) : ∀ i, i < n → f i = g i := by
  induction n with
  | zero => intro i hi; omega
  | succ n ih =>
    rw [zsum_succ, zsum_succ] at he
    have h1 := zsum_le (fun i hi => h i (Nat.lt_succ_of_lt hi))
    have h2 := h n (by omega)
    intro i hi
    by_cases e : i = n
    · rw [e]; omega
    · exact ih (fun i hi => h i (by omega)) (by omega) i (by omega)
theorem zsum_split {n k : Nat} {f a : Nat → Int} {x : Int} (hk : k ≤ n) (h1 : ∀ j, j < k → f j = a j) (h2 : ∀ j, k ≤ j → j < n → f j = x) : zsum n f = zsum k a + ((n : Int) - k) * x := by
  induction n with
  | zero =>
    have e : k = 0 := by omega
    subst e
    simp [zsum]
  | succ n ih =>
    by_cases e : k = n + 1
    · subst e
      rw [zsum_congr h1]
      simp
    · rw [zsum_succ, ih (by omega) (fun j a b => h2 j a (by omega)), h2 n (by omega) (by omega), show ((n + 1 : Nat) : Int) - k = ((n : Int) - k) + 1 by omega, Int.add_mul, Int.one_mul, Int.add_assoc]
theorem zlev_uniq {n : Nat} {A : Nat → Int} {x y : Int} (h : zsum n (fun k => min (A k) x) = zsum n (fun k => min (A k) y)) : ∀ i, i < n → min (A i) x = min (A i) y := by
  by_cases q : x ≤ y
  · exact zsum_eq_le (fun i _ => by omega) h
  · intro i hi
    exact (zsum_eq_le (fun i _ => by omega) h.symm i hi).symm
noncomputable def zLv (n : Nat) (c : Nat → Int) (i : Nat) (w u : Int) : Int :=
  @dite Int (∃ x, zsum n (fun k => min (c k * w * 60) x) = u * 60) (Classical.propDecidable _) (fun h => min (c i * w * 60) (Classical.choose h)) (fun _ => c i * w * 60)
theorem zLv_eq {n : Nat} {c : Nat → Int} {i : Nat} {w u x : Int} (hi : i < n) (h : zsum n (fun k => min (c k * w * 60) x) = u * 60) : zLv n c i w u = min (c i * w * 60) x := by
  unfold zLv
  have hx : ∃ x, zsum n (fun k => min (c k * w * 60) x) = u * 60 := ⟨x, h⟩
  rw [dif_pos hx]
  exact zlev_uniq ((Classical.choose_spec hx).trans h.symm) i hi
theorem zLv_full {n : Nat} {c : Nat → Int} {i : Nat} {w u : Int} (hi : i < n) (h : zsum n c * w ≤ u) : zLv n c i w u = c i * w * 60 := by
  unfold zLv
  split
  · rename_i hx
    have h1 := Classical.choose_spec hx
    have h2 : zsum n (fun k => c k * w * 60) = zsum n c * w * 60 := by rw [zsum_mul, zsum_mul]
    have h3 := zsum_le (n := n) (f := fun k => min (c k * w * 60) (Classical.choose hx)) (g := fun k => c k * w * 60) (fun i _ => by omega)
    exact zsum_eq_le (n := n) (f := fun k => min (c k * w * 60) (Classical.choose hx)) (g := fun k => c k * w * 60) (fun i _ => by omega) (by omega) i hi
  · rfl
theorem zdiv60 {m : Int} (h : 1 ≤ m ∧ m ≤ 6) : ∃ q, m * q = 60 ∧ 10 ≤ q ∧ q ≤ 60 := by
  rcases (show m = 1 ∨ m = 2 ∨ m = 3 ∨ m = 4 ∨ m = 5 ∨ m = 6 by omega) with rfl | rfl | rfl | rfl | rfl | rfl
  · exact ⟨60, by omega⟩
  · exact ⟨30, by omega⟩
  · exact ⟨20, by omega⟩
  · exact ⟨15, by omega⟩
  · exact ⟨12, by omega⟩
  · exact ⟨10, by omega⟩
theorem zlev_exT {n : Nat} {A : Nat → Int} {u : Int} (hn : n ≤ 6) (hA : ∀ k, k < n → 0 ≤ A k) (hu : 0 ≤ u) (T : Nat) (hT : u ≤ zsum n (fun k => min (A k) T)) : ∃ x, zsum n (fun k => min (A k * 60) x) = u * 60 := by
  induction T with
  | zero =>
    have e : zsum n (fun k => min (A k) (0 : Nat)) = zsum n (fun _ => 0) := zsum_congr (fun i hi => by have := hA i hi; omega)
    rw [e, zsum_const] at hT
    refine ⟨0, ?_⟩
    have e2 : zsum n (fun k => min (A k * 60) 0) = zsum n (fun _ => 0) := zsum_congr (fun i hi => by have := hA i hi; omega)
    rw [e2, zsum_const]
    omega
  | succ T ih =>
    by_cases q : u ≤ zsum n (fun k => min (A k) T)
    · exact ih q
    · have e1 : zsum n (fun k => min (A k) ((T + 1 : Nat) : Int)) = zsum n (fun k => min (A k) (T : Int)) + zsum n (fun k => if (T : Int) < A k then 1 else 0) := by
        rw [← zsum_add]
        exact zsum_congr (fun i hi => by split <;> omega)
      have hm := zsum_hi (n := n) (f := fun k => if (T : Int) < A k then 1 else 0) (c := 1) (fun i _ => by split <;> omega)
      generalize hM : zsum n (fun k => if (T : Int) < A k then (1 : Int) else 0) = M at e1 hm
      generalize hF : zsum n (fun k => min (A k) (T : Int)) = F at e1 q
      have hM1 : 1 ≤ M ∧ M ≤ 6 := by omega
      obtain ⟨d, d1, d2⟩ := zdiv60 hM1
      refine ⟨60 * T + (u - F) * d, ?_⟩
      have hs : 0 ≤ (u - F) * d ∧ (u - F) * d ≤ 60 := by
        have h1 := Int.mul_le_mul_of_nonneg_right (show u - F ≤ M by omega) (show 0 ≤ d by omega)
        have h2 := Int.mul_nonneg (show 0 ≤ u - F by omega) (show 0 ≤ d by omega)
        omega
      have e2 : zsum n (fun k => min (A k * 60) (60 * T + (u - F) * d)) = zsum n (fun k => min (A k) (T : Int) * 60 + (if (T : Int) < A k then 1 else 0) * ((u - F) * d)) := zsum_congr (fun i hi => by split <;> omega)
      rw [e2, zsum_add, zsum_mul, zsum_mul, hF, hM, show M * ((u - F) * d) = (u - F) * (M * d) by rw [Int.mul_left_comm], d1]
      omega
theorem zlev_ex {n : Nat} {c : Nat → Int} {w u : Int} (hn : n ≤ 6) (hc : ∀ k, k < n → 0 ≤ c k) (hw : 0 ≤ w) (hu : 0 ≤ u) (h : u ≤ zsum n c * w) : ∃ x, zsum n (fun k => min (c k * w * 60) x) = u * 60 := by
  have hA : ∀ k, k < n → 0 ≤ c k * w := fun k hk => Int.mul_nonneg (hc k hk) hw
  refine zlev_exT hn hA hu (zsum n (fun k => c k * w)).toNat ?_
  rw [← zsum_mul] at h
  refine Int.le_trans h ?_
  have hle : ∀ m, m ≤ n → ∀ k, k < m → c k * w ≤ zsum m (fun k => c k * w) := by
    intro m
    induction m with
    | zero => intro _ k hk; omega
    | succ m ih =>
      intro hm k hk
      rw [zsum_succ]
      have h0 := zsum_lo (n := m) (f := fun k => c k * w) (c := 0) (fun i hi => hA i (by omega))
      by_cases e : k = m
      · subst e
        omega
      · have := ih (by omega) k (by omega)
        have := hA m (by omega)
        omega
  exact zsum_le (fun i hi => by have := hle n (Nat.le_refl n) i hi; omega)
theorem zLv_hom {n : Nat} {c : Nat → Int} {i : Nat} {w u : Int} (hn : n ≤ 6) (hi : i < n) (hc : ∀ k, k < n → 0 ≤ c k) (hw : 0 ≤ w) (hu : 0 ≤ u) : zLv n c i (2 * w) (2 * u) = 2 * zLv n c i w u := by
  by_cases q : u ≤ zsum n c * w
  · obtain ⟨x, hx⟩ := zlev_ex hn hc hw hu q
    rw [zLv_eq hi hx]
    have e : zsum n (fun k => min (c k * (2 * w) * 60) (2 * x)) = 2 * u * 60 := by
      have : zsum n (fun k => min (c k * (2 * w) * 60) (2 * x)) = zsum n (fun k => min (c k * w * 60) x * 2) := zsum_congr (fun k _ => by
        rw [show c k * (2 * w) = 2 * (c k * w) by rw [Int.mul_left_comm]]
        omega)
      rw [this, zsum_mul, hx]
      omega
    rw [zLv_eq hi e, show c i * (2 * w) = 2 * (c i * w) by rw [Int.mul_left_comm]]
    omega
  · rw [zLv_full (w := w) (u := u) hi (by omega), zLv_full hi (by rw [show zsum n c * (2 * w) = 2 * (zsum n c * w) by rw [Int.mul_left_comm]]; omega), show c i * (2 * w) = 2 * (c i * w) by rw [Int.mul_left_comm]]
    omega
theorem zLv_range {n : Nat} {c : Nat → Int} {i : Nat} {w u : Int} (hn : n ≤ 6) (hi : i < n) (hc : ∀ k, k < n → 0 ≤ c k) (hw : 0 ≤ w) (hu : 0 ≤ u) : 0 ≤ zLv n c i w u ∧ zLv n c i w u ≤ c i * w * 60 := by
  have hA : 0 ≤ c i * w := Int.mul_nonneg (hc i hi) hw
  by_cases q : u ≤ zsum n c * w
  · obtain ⟨x, hx⟩ := zlev_ex hn hc hw hu q
    rw [zLv_eq hi hx]
    have : 0 ≤ x := by
      by_cases q2 : 0 ≤ x
      · exact q2
      · have h1 := zsum_hi (n := n) (f := fun k => min (c k * w * 60) x) (c := x) (fun i _ => by omega)
        have h2 := Int.mul_pos_of_neg_of_neg (a := x) (b := -1) (by omega) (by omega)
        have h3 : (n : Int) * x ≤ 1 * x := by
          have := Int.mul_le_mul_of_nonpos_right (show (1 : Int) ≤ n by omega) (show x ≤ 0 by omega)
          exact this
        omega
    omega
  · rw [zLv_full hi (by omega)]
    omega
theorem zbit_b : ∀ S, S < 64 → ∀ i, i < 6 → (Int32.ofInt (Int32.ofInt ((S : Nat) : Int) >>> (Int32.ofInt ((i : Nat) : Int) &&& 31)).toInt &&& Int32.ofInt 1).toInt = if S.testBit i = true then 1 else 0 := by decide +kernel
theorem zpc_b : ∀ n, n < 7 → ∀ S, S < 2 ^ n → ∀ i, i < n → S.testBit i = false → zpc S + 1 ≤ n := by decide +kernel
theorem zpc_n : ∀ n, n < 7 → ∀ S, S < 2 ^ n → zpc S ≤ n := by decide +kernel
def zArt (n : Nat) (c : Nat → Int) (i : Nat) (w u : Int) (S : Nat) : Int := if S.testBit i = false ∧ 0 < u - zsub n c S * w then min (c i * w) (u - zsub n c S * w) * zfac (zpc S) * zfac (n - 1 - zpc S) else 0
def zAr (n : Nat) (c : Nat → Int) (i : Nat) (w u : Int) : Int := zsum (2 ^ n) (zArt n c i w u)
noncomputable def zGt (r : Int) (n : Nat) (c : Nat → Int) (i : Nat) (w u : Int) : Int :=
  if r = 0 then 2 * zLv n c i w u
  else if r = 1 then c i * w * 120 - 2 * zLv n c i w (zsum n c * w - u)
  else if r = 2 then u * c i
  else if r = 3 then (if u ≤ zsum n c * w - u then zLv n c i w (2 * u) else c i * w * 120 - zLv n c i w (2 * (zsum n c * w - u)))
  else if r = 4 then (if u ≤ zsum n c * w - u then c i * w * 60 - zLv n c i w (zsum n c * w - u - u) else c i * w * 60 + zLv n c i w (u - (zsum n c * w - u)))
  else zAr n c i w u
set_option maxHeartbeats 4000000 in
theorem m_levelled {Z : zMem} {Q : Option zAV → zMem → Prop} {g n i : Nat} {c : Nat → Int} {w u : Int} (hF : zgF g) (hG : zG g n c Z) (hi : i < n) (hw : 0 ≤ w ∧ w ≤ 1048576) (hu : -1099511627776 ≤ u ∧ u ≤ 1099511627776) (q1 : Q (some (zL (zLv n c i w u))) Z) : zE 9 0 (zent 9 [zR g, zI (i : Int), zL u, zL w]) [] Z Q := by
  show zE 9 0 [some (zR g), some (zI (i : Int)), some (zL u), none, some (zL w), none, none, none, none, none, none, none, none, none] [] Z Q
  obtain ⟨hT0, hT1, hT2, hT3, hR0, hR1, hR2⟩ := hF
  have hG0 := hG
  obtain ⟨h1, h2, h3, h4, h5, h6, h7, h8⟩ := hG
  have hsr := zsum_range h4
  have hci := h4 i hi
  have hcw := zmb (a := c i) (b := w) (A := 60) (B := 1048576) (by omega) (by omega)
  refine ze_ldc2L kc_9_0 ?_
  refine ze_lstore kc_9_3 (Nat.le_of_ble_eq_true rfl) ?_
  simp only [zset1, zset2, zcut, List.set_cons_zero, List.set_cons_succ, List.getD_cons_zero, List.getD_cons_succ]
  refine ze_aload_n kc_9_5 rfl ?_
  refine ze_getR kc_9_6 (by first | assumption | rfl) rfl (by first | assumption | rfl) ?_
  refine ze_iload_n kc_9_9 rfl ?_
  refine ze_iald kc_9_10 (by first | assumption | rfl) (by omega) ?_
  rw [Int.toNat_natCast, h3 i hi]
  refine ze_i2l kc_9_11 (by omega) ?_
  refine ze_lload kc_9_12 rfl ?_
  refine ze_lmul kc_9_14 ?_
  refine ze_lload kc_9_15 rfl ?_
  refine ze_lmul kc_9_17 ?_
  refine ze_lstore kc_9_18 (Nat.le_of_ble_eq_true rfl) ?_
  simp only [zset1, zset2, zcut, List.set_cons_zero, List.set_cons_succ, List.getD_cons_zero, List.getD_cons_succ]
  refine ze_lload_n kc_9_20 rfl ?_
  refine ze_lstore kc_9_21 (Nat.le_of_ble_eq_true rfl) ?_
  simp only [zset1, zset2, zcut, List.set_cons_zero, List.set_cons_succ, List.getD_cons_zero, List.getD_cons_succ]
  refine ze_iconst kc_9_23 ?_
  refine ze_istore kc_9_24 (Nat.le_of_ble_eq_true rfl) ?_
  simp only [zset1, zset2, zcut, List.set_cons_zero, List.set_cons_succ, List.getD_cons_zero, List.getD_cons_succ]
  have loop26 : ∀ (m : Nat) (k : Nat) (x : Int) (l : Int) (LX : Option zAV), n - k = m → (k ≤ n) → (x = k) → (l = u - zsum k (fun j => Z (g + 2) j * w)) → (∀ j, j < k → Z (g + 2) j * w * ((n : Int) - x) ≤ l) → (-1099511627776 - x * 134217728 ≤ l ∧ l ≤ 1099511627776) → zE 9 26 [some (zR g), some (zI (i : Int)), some (zL u), none, some (zL w), none, some (zL 60), none, some (zL (c i * w * 60)), none, some (zL l), none, some (zI x), LX] [] Z Q := by
    refine zind ?_
    intro m ih k x l LX hm hk hx hl hl2 hl3
    refine ze_iload kc_9_26 rfl ?_
    refine ze_aload_n kc_9_28 rfl ?_
    refine ze_getI kc_9_29 (by first | assumption | rfl) (by decide) ?_
    rw [h2]
    refine ze_icmp_ge kc_9_32 (by omega) (by omega) (fun h32 => ?_) (fun h32 => ?_)
    · skip
      refine ze_lload kc_9_102 rfl ?_
      refine ze_lreturn kc_9_104 ?_
      have e : k = n := by omega
      rw [e] at hl hl2
      have hl3 := hl2 (n - 1) (by omega)
      rw [show (n : Int) - x = 0 by omega, Int.mul_zero] at hl3
      have h7' := h7 (fun v => v * w)
      rw [h7', zsum_mul] at hl
      rw [zLv_full hi (by omega)] at q1
      exact q1
    · skip
      refine ze_aload_n kc_9_35 rfl ?_
      refine ze_getI kc_9_36 (by first | assumption | rfl) (by decide) ?_
      rw [h2]
      refine ze_iload kc_9_39 rfl ?_
      refine ze_isub kc_9_41 ?_
      refine ze_istore kc_9_42 (Nat.le_of_ble_eq_true rfl) ?_
      simp only [zset1, zset2, zcut, List.set_cons_zero, List.set_cons_succ, List.getD_cons_zero, List.getD_cons_succ]
      refine ze_lload kc_9_44 rfl ?_
      refine ze_aload_n kc_9_46 rfl ?_
      refine ze_getR kc_9_47 (by first | assumption | rfl) rfl (by first | assumption | rfl) ?_
      refine ze_iload kc_9_50 rfl ?_
      refine ze_iald kc_9_52 (by first | assumption | rfl) (by omega) ?_
      rw [show x.toNat = k by omega]
      have hak := h6 k (by omega)
      have haw := zmb (a := Z (g + 2) k) (b := w) (A := 60) (B := 1048576) (by omega) (by omega)
      have ham := zmb (a := Z (g + 2) k * w) (b := (n : Int) - x) (A := 62914560) (B := 6) (by omega) (by omega)
      refine ze_i2l kc_9_53 (by omega) ?_
      refine ze_lload kc_9_54 rfl ?_
      refine ze_lmul kc_9_56 ?_
      refine ze_iload kc_9_57 rfl ?_
      refine ze_i2l kc_9_59 (by omega) ?_
      refine ze_lmul kc_9_60 ?_
      refine ze_lcmp_ge kc_9_61 kc_9_62 (by omega) (by omega) (fun h61 => ?_) (fun h61 => ?_)
      · skip
        refine ze_lload kc_9_80 rfl ?_
        refine ze_aload_n kc_9_82 rfl ?_
        refine ze_getR kc_9_83 (by first | assumption | rfl) rfl (by first | assumption | rfl) ?_
        refine ze_iload kc_9_86 rfl ?_
        refine ze_iald kc_9_88 (by first | assumption | rfl) (by omega) ?_
        rw [show x.toNat = k by omega]
        refine ze_i2l kc_9_89 (by omega) ?_
        refine ze_lload kc_9_90 rfl ?_
        refine ze_lmul kc_9_92 ?_
        refine ze_lsub kc_9_93 ?_
        refine ze_lstore kc_9_94 (Nat.le_of_ble_eq_true rfl) ?_
        simp only [zset1, zset2, zcut, List.set_cons_zero, List.set_cons_succ, List.getD_cons_zero, List.getD_cons_succ]
        refine ze_iinc kc_9_96 rfl ?_
        simp only [zset1, zset2, zcut, List.set_cons_zero, List.set_cons_succ, List.getD_cons_zero, List.getD_cons_succ]
        refine ze_goto kc_9_99 ?_
        have hs : l - Z (g + 2) k * w = u - zsum (k + 1) (fun j => Z (g + 2) j * w) := by
          rw [zsum_succ, hl]
          omega
        have hq : ∀ j, j < k + 1 → Z (g + 2) j * w * ((n : Int) - (x + 1)) ≤ l - Z (g + 2) k * w := by
          intro j hj
          have b1 := Int.mul_le_mul_of_nonneg_right (h5 j k (by omega) (by omega)) hw.1
          have b2 := Int.mul_le_mul_of_nonneg_right b1 (show 0 ≤ (n : Int) - (x + 1) by omega)
          have b3 : Z (g + 2) k * w * ((n : Int) - x) = Z (g + 2) k * w * ((n : Int) - (x + 1)) + Z (g + 2) k * w := by
            rw [show (n : Int) - x = ((n : Int) - (x + 1)) + 1 by omega, Int.mul_add, Int.mul_one]
          omega
        refine ih _ (by omega) (k + 1) (x + 1) _ _ rfl (by omega) (by omega) hs hq (by omega)
      · skip
        refine ze_lload kc_9_65 rfl ?_
        refine ze_lload kc_9_67 rfl ?_
        refine ze_lload kc_9_69 rfl ?_
        refine ze_lmul kc_9_71 ?_
        refine ze_iload kc_9_72 rfl ?_
        refine ze_i2l kc_9_74 (by omega) ?_
        obtain ⟨d, d1, d2⟩ := zdiv60 (m := (n : Int) - x) (by omega)
        have hd : (l * 60).tdiv ((n : Int) - x) = l * d := by
          rw [← d1, show l * (((n : Int) - x) * d) = l * d * ((n : Int) - x) by rw [Int.mul_comm ((n : Int) - x) d, Int.mul_assoc], Int.mul_tdiv_cancel _ (by omega)]
        have hld : -1099511627776 * 60 - 60 * 6 * 134217728 ≤ l * d ∧ l * d ≤ 1099511627776 * 60 := by
          rcases Int.le_total 0 l with p | p
          · have := zmb (a := l) (b := d) (A := 1099511627776) (B := 60) (by omega) (by omega)
            omega
          · have := zmb (a := -l) (b := d) (A := 1099511627776 + 6 * 134217728) (B := 60) (by omega) (by omega)
            rw [Int.neg_mul] at this
            omega
        refine ze_ldiv kc_9_75 (by omega) ?_
        rw [hd]
        refine zE_calls 2 kc_9_76 rfl rfl (Nat.le_of_ble_eq_true rfl) (Nat.le_of_ble_eq_true rfl) (Nat.le_of_ble_eq_true rfl) rfl ?_
        refine m_minL (by omega) (by omega) ?_
        simp only [Option.toList_some, Option.toList_none, List.drop_succ_cons, List.drop_zero, List.cons_append, List.nil_append]
        have he : zsum n (fun k => min (c k * w * 60) (l * d)) = u * 60 := by
          rw [← h7 (fun v => min (v * w * 60) (l * d))]
          have e2 : zsum n (fun j => min (Z (g + 2) j * w * 60) (l * d)) = zsum k (fun j => Z (g + 2) j * w * 60) + ((n : Int) - k) * (l * d) := by
            refine zsum_split (by omega) (fun j hj => ?_) (fun j a b => ?_)
            · have a1 := Int.mul_le_mul_of_nonneg_right (hl2 j hj) (show 0 ≤ d by omega)
              rw [Int.mul_assoc, d1] at a1
              omega
            · have a1 := h5 k j a b
              have a2 := Int.mul_le_mul_of_nonneg_right (show Z (g + 2) k * w ≤ Z (g + 2) j * w from Int.mul_le_mul_of_nonneg_right a1 hw.1) (show (0 : Int) ≤ 60 by omega)
              have a3 := Int.mul_lt_mul_of_pos_right h61 (show 0 < d by omega)
              rw [Int.mul_assoc (Z (g + 2) k * w), d1] at a3
              omega
          rw [e2, zsum_mul, ← hx, show ((n : Int) - x) * (l * d) = l * (((n : Int) - x) * d) by rw [Int.mul_left_comm], d1, hl]
          omega
        rw [zLv_eq hi he] at q1
        refine ze_lreturn kc_9_79 ?_
        exact q1
  refine loop26 _ 0 0 u none rfl (by omega) rfl (by show u = u - 0; omega) (fun j hj => by omega) (by omega)

set_option maxHeartbeats 4000000 in
theorem m_arrived {Z : zMem} {Q : Option zAV → zMem → Prop} {g n i : Nat} {c : Nat → Int} {w u : Int} (hF : zgF g) (hG : zG g n c Z) (hi : i < n) (hw : 0 ≤ w ∧ w ≤ 1048576) (hu : -1099511627776 ≤ u ∧ u ≤ 1099511627776) (q1 : Q (some (zL (zAr n c i w u))) Z) : zE 10 0 (zent 10 [zR g, zI (i : Int), zL u, zL w]) [] Z Q := by
  show zE 10 0 [some (zR g), some (zI (i : Int)), some (zL u), none, some (zL w), none, none, none, none, none, none, none, none, none, none] [] Z Q
  obtain ⟨hT0, hT1, hT2, hT3, hR0, hR1, hR2⟩ := hF
  have hG0 := hG
  obtain ⟨h1, h2, h3, h4, h5, h6, h7, h8⟩ := hG
  have hsr := zsum_range h4
  have hp6 := zpow6 h1
  have hci := h4 i hi
  have hcw := zmb (a := c i) (b := w) (A := 60) (B := 1048576) (by omega) (by omega)
  refine ze_aload_n kc_10_0 rfl ?_
  refine ze_getR kc_10_1 (by first | assumption | rfl) rfl (by first | assumption | rfl) ?_
  refine ze_iload_n kc_10_4 rfl ?_
  refine ze_iald kc_10_5 (by first | assumption | rfl) (by omega) ?_
  rw [Int.toNat_natCast, h3 i hi]
  refine ze_i2l kc_10_6 (by omega) ?_
  refine ze_lload kc_10_7 rfl ?_
  refine ze_lmul kc_10_9 ?_
  refine ze_lstore kc_10_10 (Nat.le_of_ble_eq_true rfl) ?_
  simp only [zset1, zset2, zcut, List.set_cons_zero, List.set_cons_succ, List.getD_cons_zero, List.getD_cons_succ]
  refine ze_lconst0 kc_10_12 ?_
  refine ze_lstore kc_10_13 (Nat.le_of_ble_eq_true rfl) ?_
  simp only [zset1, zset2, zcut, List.set_cons_zero, List.set_cons_succ, List.getD_cons_zero, List.getD_cons_succ]
  refine ze_iconst kc_10_15 ?_
  refine ze_aload_n kc_10_16 rfl ?_
  refine ze_getI kc_10_17 (by first | assumption | rfl) (by decide) ?_
  rw [h2]
  refine ze_ishl kc_10_20 ?_
  rw [zshl1 h1]
  refine ze_istore kc_10_21 (Nat.le_of_ble_eq_true rfl) ?_
  simp only [zset1, zset2, zcut, List.set_cons_zero, List.set_cons_succ, List.getD_cons_zero, List.getD_cons_succ]
  refine ze_iconst kc_10_23 ?_
  refine ze_istore kc_10_24 (Nat.le_of_ble_eq_true rfl) ?_
  simp only [zset1, zset2, zcut, List.set_cons_zero, List.set_cons_succ, List.getD_cons_zero, List.getD_cons_succ]
  have loop26 : ∀ (m : Nat) (S : Nat) (x : Int) (s : Int) (o1 o2 o3 : Option zAV), 2 ^ n - S = m → (S ≤ 2 ^ n) → (x = S) → (s = zsum S (zArt n c i w u)) → zE 10 26 [some (zR g), some (zI (i : Int)), some (zL u), none, some (zL w), none, some (zL (c i * w)), none, some (zL s), none, some (zI ((2 ^ n : Nat) : Int)), some (zI x), o1, o2, o3] [] Z Q := by
    refine zind ?_
    intro m ih S x s o1 o2 o3 hm hS hx hs
    refine ze_iload kc_10_26 rfl ?_
    refine ze_iload kc_10_28 rfl ?_
    refine ze_icmp_ge kc_10_30 (by omega) (by omega) (fun h30 => ?_) (fun h30 => ?_)
    · skip
      refine ze_lload kc_10_112 rfl ?_
      refine ze_lreturn kc_10_114 ?_
      have e : S = 2 ^ n := by omega
      subst e
      rw [hs] 
      exact q1
    · skip
      refine ze_lload_n kc_10_33 rfl ?_
      refine ze_aload_n kc_10_34 rfl ?_
      refine ze_getR kc_10_35 (by first | assumption | rfl) rfl (by first | assumption | rfl) ?_
      refine ze_iload kc_10_38 rfl ?_
      refine ze_iald kc_10_40 (by first | assumption | rfl) (by omega) ?_
      rw [show x.toNat = S by omega, h8 S (by omega)]
      have hz := zsub_range (n := n) (S := S) h4
      have hzw := zmb (a := zsub n c S) (b := w) (A := 360) (B := 1048576) (by omega) (by omega)
      refine ze_i2l kc_10_41 (by omega) ?_
      refine ze_lload kc_10_42 rfl ?_
      refine ze_lmul kc_10_44 ?_
      refine ze_lsub kc_10_45 ?_
      refine ze_lstore kc_10_46 (Nat.le_of_ble_eq_true rfl) ?_
      simp only [zset1, zset2, zcut, List.set_cons_zero, List.set_cons_succ, List.getD_cons_zero, List.getD_cons_succ]
      refine ze_iload kc_10_48 rfl ?_
      refine ze_iload_n kc_10_50 rfl ?_
      refine ze_ishr kc_10_51 ?_
      refine ze_iconst kc_10_52 ?_
      refine ze_iand kc_10_53 ?_
      rw [hx, zbit_b S (by omega) i (by omega)]
      refine ze_if_ne kc_10_54 (by split <;> omega) (fun h54 => ?_) (fun h54 => ?_)
      · skip
        have hbf : ¬ (S.testBit i = false ∧ 0 < u - zsub n c S * w) := by
          intro q
          rw [q.1, if_neg (by decide)] at h54
          omega
        refine ze_iinc kc_10_106 rfl ?_
        simp only [zset1, zset2, zcut, List.set_cons_zero, List.set_cons_succ, List.getD_cons_zero, List.getD_cons_succ]
        refine ze_goto kc_10_109 ?_
        refine ih _ (by omega) (S + 1) _ _ _ _ _ rfl (by omega) (by omega) ?_
        rw [zsum_succ, hs]
        first
          | rw [show zArt n c i w u S = 0 from if_neg hbf2, Int.add_zero]
          | rw [show zArt n c i w u S = 0 from if_neg hbf, Int.add_zero]
          | (rw [show zArt n c i w u S = _ from if_pos ⟨hbf, h60⟩]; rfl)
      · skip
        have hbf : S.testBit i = false := by
          by_cases q : S.testBit i = true
          · rw [if_pos q] at h54
            omega
          · simpa using q
        refine ze_lload kc_10_57 rfl ?_
        refine ze_lconst0 kc_10_59 ?_
        refine ze_lcmp_le kc_10_60 kc_10_61 (by omega) (by omega) (fun h60 => ?_) (fun h60 => ?_)
        · skip
          have hbf2 : ¬ (S.testBit i = false ∧ 0 < u - zsub n c S * w) := by
            intro q
            omega
          refine ze_iinc kc_10_106 rfl ?_
          simp only [zset1, zset2, zcut, List.set_cons_zero, List.set_cons_succ, List.getD_cons_zero, List.getD_cons_succ]
          refine ze_goto kc_10_109 ?_
          refine ih _ (by omega) (S + 1) _ _ _ _ _ rfl (by omega) (by omega) ?_
          rw [zsum_succ, hs]
          first
            | rw [show zArt n c i w u S = 0 from if_neg hbf2, Int.add_zero]
            | rw [show zArt n c i w u S = 0 from if_neg hbf, Int.add_zero]
            | (rw [show zArt n c i w u S = _ from if_pos ⟨hbf, h60⟩]; rfl)
        · skip
          refine ze_iload kc_10_64 rfl ?_
          refine zE_calls 1 kc_10_66 rfl rfl (Nat.le_of_ble_eq_true rfl) (Nat.le_of_ble_eq_true rfl) (Nat.le_of_ble_eq_true rfl) rfl ?_
          refine m_bitc (by omega) ?_
          simp only [Option.toList_some, Option.toList_none, List.drop_succ_cons, List.drop_zero, List.cons_append, List.nil_append]
          refine ze_istore kc_10_69 (Nat.le_of_ble_eq_true rfl) ?_
          simp only [zset1, zset2, zcut, List.set_cons_zero, List.set_cons_succ, List.getD_cons_zero, List.getD_cons_succ]
          refine ze_lload kc_10_71 rfl ?_
          refine ze_lload kc_10_73 rfl ?_
          refine ze_lload kc_10_75 rfl ?_
          refine zE_calls 2 kc_10_77 rfl rfl (Nat.le_of_ble_eq_true rfl) (Nat.le_of_ble_eq_true rfl) (Nat.le_of_ble_eq_true rfl) rfl ?_
          refine m_minL (by omega) (by omega) ?_
          simp only [Option.toList_some, Option.toList_none, List.drop_succ_cons, List.drop_zero, List.cons_append, List.nil_append]
          refine ze_orders kc_10_80 ?_
          have hpc := zpc_b n (by omega) S (by omega) i hi hbf
          refine ze_iload kc_10_83 rfl ?_
          refine ze_iald0 kc_10_85 (by omega) ?_
          rw [Int.toNat_natCast]
          refine ze_i2l kc_10_86 (by have := zfac_range (n := zpc S) (by omega); unfold zfac at this; omega) ?_
          refine ze_lmul kc_10_87 ?_
          refine ze_orders kc_10_88 ?_
          refine ze_aload_n kc_10_91 rfl ?_
          refine ze_getI kc_10_92 (by first | assumption | rfl) (by decide) ?_
          rw [h2]
          refine ze_iconst kc_10_95 ?_
          refine ze_isub kc_10_96 ?_
          refine ze_iload kc_10_97 rfl ?_
          refine ze_isub kc_10_99 ?_
          refine ze_iald0 kc_10_100 (by omega) ?_
          rw [show ((n : Int) - 1 - (zpc S : Nat)).toNat = n - 1 - zpc S by omega]
          refine ze_i2l kc_10_101 (by have := zfac_range (n := n - 1 - zpc S) (by omega); unfold zfac at this; omega) ?_
          refine ze_lmul kc_10_102 ?_
          refine ze_ladd kc_10_103 ?_
          refine ze_lstore kc_10_104 (Nat.le_of_ble_eq_true rfl) ?_
          simp only [zset1, zset2, zcut, List.set_cons_zero, List.set_cons_succ, List.getD_cons_zero, List.getD_cons_succ]
          refine ze_iinc kc_10_106 rfl ?_
          simp only [zset1, zset2, zcut, List.set_cons_zero, List.set_cons_succ, List.getD_cons_zero, List.getD_cons_succ]
          refine ze_goto kc_10_109 ?_
          refine ih _ (by omega) (S + 1) _ _ _ _ _ rfl (by omega) (by omega) ?_
          rw [zsum_succ, hs]
          first
            | rw [show zArt n c i w u S = 0 from if_neg hbf2, Int.add_zero]
            | rw [show zArt n c i w u S = 0 from if_neg hbf, Int.add_zero]
            | (rw [show zArt n c i w u S = _ from if_pos ⟨hbf, h60⟩]; rfl)
  refine loop26 _ 0 0 0 none none none rfl (by omega) rfl rfl

set_option maxHeartbeats 4000000 in
theorem m_gets {Z : zMem} {Q : Option zAV → zMem → Prop} {g n i : Nat} {c : Nat → Int} {w u r : Int} (hF : zgF g) (hG : zG g n c Z) (hi : i < n) (hr : 0 ≤ r ∧ r ≤ 5) (hw : 0 ≤ w ∧ w ≤ 1048576) (hu : -274877906944 ≤ u ∧ u ≤ 274877906944) (q1 : Q (some (zL (zGt r n c i w u))) Z) : zE 8 0 (zent 8 [zR g, zI r, zI (i : Int), zL u, zL w]) [] Z Q := by
  show zE 8 0 [some (zR g), some (zI r), some (zI (i : Int)), some (zL u), none, some (zL w), none, none, none, none, none, none, none] [] Z Q
  have hF0 := hF
  obtain ⟨hT0, hT1, hT2, hT3, hR0, hR1, hR2⟩ := hF
  have hG0 := hG
  obtain ⟨h1, h2, h3, h4, h5, h6, h7, h8⟩ := hG
  have hsr := zsum_range h4
  have hci := h4 i hi
  have hcw := zmb (a := c i) (b := w) (A := 60) (B := 1048576) (by omega) (by omega)
  have hsw := zmb (a := zsum n c) (b := w) (A := 360) (B := 1048576) (by omega) (by omega)
  unfold zGt at q1
  refine ze_aload_n kc_8_0 rfl ?_
  refine ze_iload_n kc_8_1 rfl ?_
  refine zE_callv 2 kc_8_2 rfl rfl (Nat.le_of_ble_eq_true rfl) (Nat.le_of_ble_eq_true rfl) (Nat.le_of_ble_eq_true rfl) (by first | assumption | rfl) (by decide +kernel) rfl ?_
  refine m_has hF0 (by omega) (by omega) (fun g2 => ?_) (fun g2 => absurd g2 (by omega))
  simp only [Option.toList_some, Option.toList_none, List.drop_succ_cons, List.drop_zero, List.cons_append, List.nil_append]
  refine ze_if_ne kc_8_5 (by decide) (fun _ => ?_) (fun q => absurd q (by decide))
  refine ze_aload_n kc_8_10 rfl ?_
  refine ze_getR kc_8_11 (by first | assumption | rfl) rfl (by first | assumption | rfl) ?_
  refine ze_iload_n kc_8_14 rfl ?_
  refine ze_iald kc_8_15 (by first | assumption | rfl) (by omega) ?_
  rw [Int.toNat_natCast, h3 i hi]
  refine ze_i2l kc_8_16 (by omega) ?_
  refine ze_lload kc_8_17 rfl ?_
  refine ze_lmul kc_8_19 ?_
  refine ze_ldc2L kc_8_20 ?_
  refine ze_lmul kc_8_23 ?_
  refine ze_lstore kc_8_24 (Nat.le_of_ble_eq_true rfl) ?_
  simp only [zset1, zset2, zcut, List.set_cons_zero, List.set_cons_succ, List.getD_cons_zero, List.getD_cons_succ]
  refine ze_lload kc_8_26 rfl ?_
  refine ze_ldc2L kc_8_28 ?_
  refine ze_ldiv kc_8_31 (by omega) ?_
  rw [show c i * w * 120 = c i * w * 60 * 2 by omega, Int.mul_tdiv_cancel _ (by decide), show c i * w * 60 * 2 = c i * w * 120 by omega]
  refine ze_lstore kc_8_32 (Nat.le_of_ble_eq_true rfl) ?_
  simp only [zset1, zset2, zcut, List.set_cons_zero, List.set_cons_succ, List.getD_cons_zero, List.getD_cons_succ]
  refine ze_aload_n kc_8_34 rfl ?_
  refine zE_callv 1 kc_8_35 rfl rfl (Nat.le_of_ble_eq_true rfl) (Nat.le_of_ble_eq_true rfl) (Nat.le_of_ble_eq_true rfl) (by first | assumption | rfl) (by decide +kernel) rfl ?_
  refine m_all hF0 hG0 ?_
  simp only [Option.toList_some, Option.toList_none, List.drop_succ_cons, List.drop_zero, List.cons_append, List.nil_append]
  refine ze_i2l kc_8_38 (by omega) ?_
  refine ze_lload kc_8_39 rfl ?_
  refine ze_lmul kc_8_41 ?_
  refine ze_lload_n kc_8_42 rfl ?_
  refine ze_lsub kc_8_43 ?_
  refine ze_lstore kc_8_44 (Nat.le_of_ble_eq_true rfl) ?_
  simp only [zset1, zset2, zcut, List.set_cons_zero, List.set_cons_succ, List.getD_cons_zero, List.getD_cons_succ]
  refine ze_iload_n kc_8_46 rfl ?_
  by_cases hs0 : r = 0
  · refine ze_tableIn 0 kc_8_47 hs0 (by decide) (by decide) rfl rfl ?_
    refine ze_ldc2L kc_8_80 ?_
    refine ze_aload_n kc_8_83 rfl ?_
    refine ze_iload_n kc_8_84 rfl ?_
    refine ze_lload_n kc_8_85 rfl ?_
    refine ze_lload kc_8_86 rfl ?_
    refine zE_callv 4 kc_8_88 rfl rfl (Nat.le_of_ble_eq_true rfl) (Nat.le_of_ble_eq_true rfl) (Nat.le_of_ble_eq_true rfl) (by first | assumption | rfl) (by decide +kernel) rfl ?_
    refine m_levelled hF0 hG0 hi (by omega) (by omega) ?_
    simp only [Option.toList_some, Option.toList_none, List.drop_succ_cons, List.drop_zero, List.cons_append, List.nil_append]
    refine ze_lmul kc_8_91 ?_
    refine ze_lreturn kc_8_92 ?_
    rw [if_pos hs0] at q1
    exact q1
  by_cases hs1 : r = 1
  · refine ze_tableIn 1 kc_8_47 hs1 (by decide) (by decide) rfl rfl ?_
    refine ze_lload kc_8_93 rfl ?_
    refine ze_ldc2L kc_8_95 ?_
    refine ze_aload_n kc_8_98 rfl ?_
    refine ze_iload_n kc_8_99 rfl ?_
    refine ze_lload kc_8_100 rfl ?_
    refine ze_lload kc_8_102 rfl ?_
    refine zE_callv 4 kc_8_104 rfl rfl (Nat.le_of_ble_eq_true rfl) (Nat.le_of_ble_eq_true rfl) (Nat.le_of_ble_eq_true rfl) (by first | assumption | rfl) (by decide +kernel) rfl ?_
    refine m_levelled hF0 hG0 hi (by omega) (by omega) ?_
    simp only [Option.toList_some, Option.toList_none, List.drop_succ_cons, List.drop_zero, List.cons_append, List.nil_append]
    refine ze_lmul kc_8_107 ?_
    refine ze_lsub kc_8_108 ?_
    refine ze_lreturn kc_8_109 ?_
    rw [if_neg hs0, if_pos hs1] at q1
    exact q1
  by_cases hs2 : r = 2
  · refine ze_tableIn 2 kc_8_47 hs2 (by decide) (by decide) rfl rfl ?_
    refine ze_lload_n kc_8_110 rfl ?_
    refine ze_aload_n kc_8_111 rfl ?_
    refine ze_getR kc_8_112 (by first | assumption | rfl) rfl (by first | assumption | rfl) ?_
    refine ze_iload_n kc_8_115 rfl ?_
    refine ze_iald kc_8_116 (by first | assumption | rfl) (by omega) ?_
    rw [Int.toNat_natCast, h3 i hi]
    refine ze_i2l kc_8_117 (by omega) ?_
    refine ze_lmul kc_8_118 ?_
    refine ze_lreturn kc_8_119 ?_
    rw [if_neg hs0, if_neg hs1, if_pos hs2] at q1
    exact q1
  by_cases hs3 : r = 3
  · refine ze_tableIn 3 kc_8_47 hs3 (by decide) (by decide) rfl rfl ?_
    refine ze_lload_n kc_8_120 rfl ?_
    refine ze_lload kc_8_121 rfl ?_
    refine ze_lcmp_gt kc_8_123 kc_8_124 (by omega) (by omega) (fun h123 => ?_) (fun h123 => ?_)
    · skip
      refine ze_lload kc_8_142 rfl ?_
      refine ze_aload_n kc_8_144 rfl ?_
      refine ze_iload_n kc_8_145 rfl ?_
      refine ze_ldc2L kc_8_146 ?_
      refine ze_lload kc_8_149 rfl ?_
      refine ze_lmul kc_8_151 ?_
      refine ze_lload kc_8_152 rfl ?_
      refine zE_callv 4 kc_8_154 rfl rfl (Nat.le_of_ble_eq_true rfl) (Nat.le_of_ble_eq_true rfl) (Nat.le_of_ble_eq_true rfl) (by first | assumption | rfl) (by decide +kernel) rfl ?_
      refine m_levelled hF0 hG0 hi (by omega) (by omega) ?_
      simp only [Option.toList_some, Option.toList_none, List.drop_succ_cons, List.drop_zero, List.cons_append, List.nil_append]
      refine ze_lsub kc_8_157 ?_
      refine ze_lreturn kc_8_158 ?_
      rw [if_neg hs0, if_neg hs1, if_neg hs2, if_pos hs3] at q1
      first
        | (rw [if_pos h123] at q1; exact q1)
        | (rw [if_neg (by omega)] at q1; exact q1)
    · skip
      refine ze_aload_n kc_8_127 rfl ?_
      refine ze_iload_n kc_8_128 rfl ?_
      refine ze_ldc2L kc_8_129 ?_
      refine ze_lload_n kc_8_132 rfl ?_
      refine ze_lmul kc_8_133 ?_
      refine ze_lload kc_8_134 rfl ?_
      refine zE_callv 4 kc_8_136 rfl rfl (Nat.le_of_ble_eq_true rfl) (Nat.le_of_ble_eq_true rfl) (Nat.le_of_ble_eq_true rfl) (by first | assumption | rfl) (by decide +kernel) rfl ?_
      refine m_levelled hF0 hG0 hi (by omega) (by omega) ?_
      simp only [Option.toList_some, Option.toList_none, List.drop_succ_cons, List.drop_zero, List.cons_append, List.nil_append]
      refine ze_goto kc_8_139 ?_
      refine ze_lreturn kc_8_158 ?_
      rw [if_neg hs0, if_neg hs1, if_neg hs2, if_pos hs3] at q1
      first
        | (rw [if_pos h123] at q1; exact q1)
        | (rw [if_neg (by omega)] at q1; exact q1)
  by_cases hs4 : r = 4
  · refine ze_tableIn 4 kc_8_47 hs4 (by decide) (by decide) rfl rfl ?_
    refine ze_lload_n kc_8_159 rfl ?_
    refine ze_lload kc_8_160 rfl ?_
    refine ze_lcmp_gt kc_8_162 kc_8_163 (by omega) (by omega) (fun h162 => ?_) (fun h162 => ?_)
    · skip
      refine ze_lload kc_8_183 rfl ?_
      refine ze_aload_n kc_8_185 rfl ?_
      refine ze_iload_n kc_8_186 rfl ?_
      refine ze_lload_n kc_8_187 rfl ?_
      refine ze_lload kc_8_188 rfl ?_
      refine ze_lsub kc_8_190 ?_
      refine ze_lload kc_8_191 rfl ?_
      refine zE_callv 4 kc_8_193 rfl rfl (Nat.le_of_ble_eq_true rfl) (Nat.le_of_ble_eq_true rfl) (Nat.le_of_ble_eq_true rfl) (by first | assumption | rfl) (by decide +kernel) rfl ?_
      refine m_levelled hF0 hG0 hi (by omega) (by omega) ?_
      simp only [Option.toList_some, Option.toList_none, List.drop_succ_cons, List.drop_zero, List.cons_append, List.nil_append]
      refine ze_ladd kc_8_196 ?_
      refine ze_lreturn kc_8_197 ?_
      rw [if_neg hs0, if_neg hs1, if_neg hs2, if_neg hs3, if_pos hs4] at q1
      first
        | (rw [if_pos h162] at q1; exact q1)
        | (rw [if_neg (by omega)] at q1; exact q1)
    · skip
      refine ze_lload kc_8_166 rfl ?_
      refine ze_aload_n kc_8_168 rfl ?_
      refine ze_iload_n kc_8_169 rfl ?_
      refine ze_lload kc_8_170 rfl ?_
      refine ze_lload_n kc_8_172 rfl ?_
      refine ze_lsub kc_8_173 ?_
      refine ze_lload kc_8_174 rfl ?_
      refine zE_callv 4 kc_8_176 rfl rfl (Nat.le_of_ble_eq_true rfl) (Nat.le_of_ble_eq_true rfl) (Nat.le_of_ble_eq_true rfl) (by first | assumption | rfl) (by decide +kernel) rfl ?_
      refine m_levelled hF0 hG0 hi (by omega) (by omega) ?_
      simp only [Option.toList_some, Option.toList_none, List.drop_succ_cons, List.drop_zero, List.cons_append, List.nil_append]
      refine ze_lsub kc_8_179 ?_
      refine ze_goto kc_8_180 ?_
      refine ze_lreturn kc_8_197 ?_
      rw [if_neg hs0, if_neg hs1, if_neg hs2, if_neg hs3, if_pos hs4] at q1
      first
        | (rw [if_pos h162] at q1; exact q1)
        | (rw [if_neg (by omega)] at q1; exact q1)
  refine ze_tableOut kc_8_47 (by omega) (by omega) rfl ?_
  refine ze_aload_n kc_8_198 rfl ?_
  refine ze_iload_n kc_8_199 rfl ?_
  refine ze_lload_n kc_8_200 rfl ?_
  refine ze_lload kc_8_201 rfl ?_
  refine zE_callv 4 kc_8_203 rfl rfl (Nat.le_of_ble_eq_true rfl) (Nat.le_of_ble_eq_true rfl) (Nat.le_of_ble_eq_true rfl) (by first | assumption | rfl) (by decide +kernel) rfl ?_
  refine m_arrived hF0 hG0 hi (by omega) (by omega) ?_
  simp only [Option.toList_some, Option.toList_none, List.drop_succ_cons, List.drop_zero, List.cons_append, List.nil_append]
  refine ze_lreturn kc_8_206 ?_
  rw [if_neg hs0, if_neg hs1, if_neg hs2, if_neg hs3, if_neg hs4] at q1
  exact q1
