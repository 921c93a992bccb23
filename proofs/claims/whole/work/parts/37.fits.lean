/-! SEEN, EVENTS, BOOKS asked; the image -/
def zRok (n : Nat) (R : zRs) : Prop := ∀ k, k < R.1 → (0 ≤ R.2.1 k ∧ R.2.1 k < n) ∧ (0 ≤ R.2.2 k ∧ R.2.2 k ≤ 60)
def zEok (n : Nat) (R : zRs) : Prop := ∀ k, k < R.1 → (0 ≤ R.2.1 k ∧ R.2.1 k ≤ 3) ∧ (0 ≤ R.2.2 k ∧ R.2.2 k ≤ 360) ∧ (R.2.1 k < 2 → R.2.2 k < n) ∧ (R.2.1 k = 2 → R.2.2 k ≤ 5)
noncomputable def zFo (n : Nat) (c : Nat → Int) (e ρ : Int) (R : zRs) : Int := zfst R.1 0 (fun k => decide (¬ zWh ρ n c e (R.2.1 k).toNat = R.2.2 k)) (-5)
theorem zfst_in {P : Nat → Bool} {d : Int} (m : Nat) : ∀ i, zfst m i P d = d ∨ ((i : Int) ≤ zfst m i P d ∧ zfst m i P d < i + m) := by
  induction m with
  | zero => intro i; exact Or.inl rfl
  | succ m ih =>
    intro i
    unfold zfst
    split
    · exact Or.inr ⟨Int.le_refl _, by omega⟩
    · rcases ih (i + 1) with h | h
      · exact Or.inl h
      · exact Or.inr (by omega)
theorem zFo_in {n : Nat} {c : Nat → Int} {e ρ : Int} {R : zRs} : -5 ≤ zFo n c e ρ R ∧ zFo n c e ρ R ≤ R.1 := by
  unfold zFo
  rcases zfst_in (P := fun k => decide (¬ zWh ρ n c e (R.2.1 k).toNat = R.2.2 k)) (d := -5) R.1 0 with h | h <;> omega
theorem zWh_in {r : Int} {n i : Nat} {c : Nat → Int} {e : Int} (hr : 0 ≤ r ∧ r ≤ 5) (hn : n ≤ 6) (hi : i < n) (h : ∀ i, i < n → 1 ≤ c i ∧ c i ≤ 60) (he : 0 ≤ e ∧ e ≤ zsum n c) : 0 ≤ zWh r n c e i ∧ zWh r n c e i ≤ 60 := by
  have g := zGt_range (r := r) (i := i) (w := 1) (u := e) hn hi h (by omega) (by omega)
  have l := zGt_le (r := r) (i := i) (w := 1) (u := e) hr hn hi h (by omega) (by omega)
  have s := zS_range (r := r) (n := n) (c := c) ⟨by omega, hn⟩ h
  have ci := h i hi
  have m := Int.mul_le_mul_of_nonneg_right ci.2 (show 0 ≤ zS r n c by omega)
  rw [Int.mul_one] at l
  unfold zWh
  rw [Int.tdiv_eq_ediv_of_nonneg g.1]
  exact ⟨Int.ediv_nonneg g.1 (by omega), Int.ediv_le_of_le_mul (by omega) (by omega)⟩
noncomputable def oLooked (n : Nat) (c : Nat → Int) (e ρ : Int) (R : zRs) : Int := if 1 ≤ n ∧ e ≤ zsum n c then zFo n c e ρ R else -3
noncomputable def zFb (n : Nat) (c : Nat → Int) (e ρ : Int) (R : zRs) (i : Nat) (v : Int) : Bool := decide ((1 ≤ n ∧ e ≤ zsum n (zupd c i v)) ∧ zFo n (zupd c i v) e ρ R < 0)
def zFn (F : Int → Bool) (m : Nat) : Int := zsum m (fun k => if F ((k : Int) + 1) = true then 1 else 0)
def zLe (F : Int → Bool) : Nat → Int
  | 0 => -5
  | m + 1 => if zLe F m = -5 then (if F ((m : Int) + 1) = true then (m : Int) + 1 else -5) else zLe F m
theorem zLe_in (F : Int → Bool) (m : Nat) : zLe F m = -5 ∨ (1 ≤ zLe F m ∧ zLe F m ≤ m) := by
  induction m with
  | zero => exact Or.inl rfl
  | succ m ih =>
    unfold zLe
    split
    · split
      · exact Or.inr (by omega)
      · exact Or.inl rfl
    · exact Or.inr (by omega)
theorem zFn_in (F : Int → Bool) (m : Nat) : 0 ≤ zFn F m ∧ zFn F m ≤ m := by
  have h1 := zsum_hi (n := m) (f := fun k => if F ((k : Int) + 1) = true then (1 : Int) else 0) (c := 1) (fun i _ => by split <;> omega)
  have h2 := zsum_lo (n := m) (f := fun k => if F ((k : Int) + 1) = true then (1 : Int) else 0) (c := 0) (fun i _ => by split <;> omega)
  unfold zFn
  omega
theorem zFn_0 (F : Int → Bool) (m : Nat) : zFn F m = 0 ↔ zLe F m = -5 := by
  induction m with
  | zero => exact ⟨fun _ => rfl, fun _ => rfl⟩
  | succ m ih =>
    have h1 := zFn_in F m
    have h2 := zLe_in F m
    have e : zFn F (m + 1) = zFn F m + (if F ((m : Int) + 1) = true then 1 else 0) := rfl
    have e2 : zLe F (m + 1) = if zLe F m = -5 then (if F ((m : Int) + 1) = true then (m : Int) + 1 else -5) else zLe F m := rfl
    rw [e, e2]
    by_cases g : F ((m : Int) + 1) = true
    · rw [if_pos g, if_pos g]
      split <;> omega
    · rw [if_neg g, if_neg g]
      split <;> omega
noncomputable def oFits (n : Nat) (c : Nat → Int) (e ρ : Int) (R : zRs) (i w : Int) : Int := if ¬ ((0 ≤ i ∧ i < n) ∧ (0 ≤ w ∧ w ≤ 1)) then -1 else if w = 0 then zFn (zFb n c e ρ R i.toNat) 30 else zLe (zFb n c e ρ R i.toNat) 30
theorem zupd_zupd {c : Nat → Int} {i : Nat} {u v : Int} : zupd (zupd c i u) i v = zupd c i v := funext fun j => by
  unfold zupd
  split <;> rfl
theorem zupd_self {c : Nat → Int} {i : Nat} : zupd c i (c i) = c := funext fun j => by
  unfold zupd
  split
  · subst j; rfl
  · rfl
/-- what has happened -/
def zHp (R : zRs) (c : Nat → Int) (e ρ : Int) : Nat → (Nat → Int) × Int × Int
  | 0 => (c, e, ρ)
  | k + 1 => (zhC (R.2.1 k) (R.2.2 k).toNat (zHp R c e ρ k).1, zhE (R.2.1 k) (R.2.2 k).toNat (zHp R c e ρ k).2.1, zhR (R.2.1 k) (R.2.2 k).toNat (zHp R c e ρ k).2.2)
noncomputable def oAfter (n : Nat) (c : Nat → Int) (e ρ : Int) (R : zRs) (w : Int) : Int :=
  if ¬ (0 ≤ w ∧ w ≤ 2) then -9223372036854775808 else if ¬ (1 ≤ n ∧ (zHp R c e ρ R.1).2.1 ≤ zsum n (zHp R c e ρ R.1).1) then -9223372036854775808
  else if w = 2 then zAlk n (zHp R c e ρ R.1).1 (zHp R c e ρ R.1).2.1 (zHp R c e ρ R.1).2.2
  else zlow (zGt (zHp R c e ρ R.1).2.2 n (zHp R c e ρ R.1).1 0 1 (zHp R c e ρ R.1).2.1) (zS (zHp R c e ρ R.1).2.2 n (zHp R c e ρ R.1).1) w
/-- what keeps writes, what again reads -/
def zKp (to : Nat) (Z Z' : zMem) : Prop := (∀ i, i < 6 → Z' to i = Z 64 i) ∧ (∀ i, i < 5 → Z' to (6 + i) = Z 65 i ∧ Z' to (11 + i) = Z 66 i) ∧ (∀ i, i < 8 → Z' to (16 + i) = Z 67 i ∧ Z' to (24 + i) = Z 68 i ∧ Z' to (32 + i) = Z 69 i ∧ Z' to (40 + i) = Z 70 i) ∧ (Z' to 48 = Z 63 0 ∧ Z' to 49 = Z 63 2 ∧ Z' to 50 = Z 63 3 ∧ Z' to 51 = Z 63 4 ∧ Z' to 52 = Z 63 7 ∧ Z' to 53 = Z 63 10)
def zAg (fr : Nat) (Z Z' : zMem) : Prop := (∀ i, Z' 64 i = if i < 6 then Z fr i else Z 64 i) ∧ (∀ i, Z' 65 i = if i < 5 then Z fr (6 + i) else Z 65 i) ∧ (∀ i, Z' 66 i = if i < 5 then Z fr (11 + i) else Z 66 i) ∧ (∀ i, Z' 67 i = if i < 8 then Z fr (16 + i) else Z 67 i) ∧ (∀ i, Z' 68 i = if i < 8 then Z fr (24 + i) else Z 68 i) ∧ (∀ i, Z' 69 i = if i < 8 then Z fr (32 + i) else Z 69 i) ∧ (∀ i, Z' 70 i = if i < 8 then Z fr (40 + i) else Z 70 i) ∧ (Z' 63 0 = Z fr 48 ∧ Z' 63 2 = Z fr 49 ∧ Z' 63 3 = Z fr 50 ∧ Z' 63 4 = Z fr 51 ∧ Z' 63 7 = Z fr 52 ∧ Z' 63 10 = Z fr 53)
set_option maxHeartbeats 4000000 in
theorem m_firstO {Z : zMem} {Q : Option zAV → zMem → Prop} {s n : Nat} {c : Nat → Int} {e ρ : Int} (hS : zsF s) (hU : zSU s n c e ρ Z) {r m N : Nat} {a b : Nat → Int} (hR : zrF r m) (hm : m ≤ 8) (hW : zRw r m N a b Z) (hk0 : zRok n (N, a, b)) (he : e ≤ zsum n c) (q1 : Q (some (zI (zFo n c e ρ (N, a, b)))) Z) : zE 69 0 (zent 69 [zR s, zR r]) [] Z Q := by
  show zE 69 0 [some (zR s), some (zR r), none] [] Z Q
  have hS0 := hS
  have hU0 := hU
  obtain ⟨sT0, sR0, sR1, sT5, hF⟩ := hS
  have hF0 := hF
  obtain ⟨hT0, hT1, hT2, hT3, hR0, hR1, hR2⟩ := hF
  obtain ⟨hG0, hU2, hU3, hUe, hUr⟩ := hU
  have hG := hG0
  obtain ⟨h1, h2, h3, h4, h5, h6, h7, h8⟩ := hG
  have hR0 := hR
  obtain ⟨rT0, rT1, rT2, rR0, rR1⟩ := hR
  have hW0 := hW
  obtain ⟨w1, w2, w3, w4, w5⟩ := hW
  refine ze_iconst kc_69_0 ?_
  refine ze_istore_n kc_69_1 (Nat.le_of_ble_eq_true rfl) ?_
  simp only [zset1, zset2, zcut, zf0, zf1, zf2, zf3, List.set_cons_zero, List.set_cons_succ, List.getD_cons_zero, List.getD_cons_succ]
  have loop2 : ∀ (μ : Nat) (k : Nat) (x : Int), N - k = μ → (k ≤ N) → (x = k) → (zfst (N - k) k (fun k => decide (¬ zWh ρ n c e (a k).toNat = b k)) (-5) = zFo n c e ρ (N, a, b)) → zE 69 2 [some (zR s), some (zR r), some (zI x)] [] Z Q := by
    refine zind ?_
    intro μ ih k x hm hk hx hz
    subst hx
    have hkk := fun (q : k < N) => hk0 k q
    simp only at hkk
    refine ze_iload_n kc_69_2 rfl ?_
    refine ze_aload_n kc_69_3 rfl ?_
    refine ze_getI kc_69_4 (by first | assumption | rfl) (by decide) ?_
    rw [w2]
    refine ze_icmp_ge kc_69_7 (by omega) (by omega) (fun h7 => ?_) (fun h7 => ?_)
    · skip
      refine ze_bipush kc_69_41 ?_
      refine ze_ireturn kc_69_43 (Or.inl rfl) ?_
      rw [zfst_end (by omega)] at hz
      rw [hz]
      exact q1
    · skip
      refine ze_aload_n kc_69_10 rfl ?_
      refine ze_aload_n kc_69_11 rfl ?_
      refine ze_getI kc_69_12 (by first | assumption | rfl) (by decide) ?_
      rw [hU3]
      refine ze_aload_n kc_69_15 rfl ?_
      refine ze_getR kc_69_16 (by first | assumption | rfl) rfl (by first | assumption | rfl) ?_
      refine ze_iload_n kc_69_19 rfl ?_
      refine ze_iald kc_69_20 (by first | assumption | rfl) (by omega) ?_
      rw [Int.toNat_natCast, w4 k (by omega), show a k = (((a k).toNat : Nat) : Int) by omega]
      refine zE_callv 3 kc_69_21 rfl rfl (Nat.le_of_ble_eq_true rfl) (Nat.le_of_ble_eq_true rfl) (Nat.le_of_ble_eq_true rfl) (by first | assumption | rfl) (by decide +kernel) rfl ?_
      refine m_whole hS0 hU0 (by omega) hUr he ?_
      simp only [Option.toList_some, Option.toList_none, List.drop_succ_cons, List.drop_zero, List.cons_append, List.nil_append]
      refine ze_aload_n kc_69_24 rfl ?_
      refine ze_getR kc_69_25 (by first | assumption | rfl) rfl (by first | assumption | rfl) ?_
      refine ze_iload_n kc_69_28 rfl ?_
      refine ze_iald kc_69_29 (by first | assumption | rfl) (by omega) ?_
      rw [Int.toNat_natCast, w5 k (by omega)]
      have hwh := zWh_in (r := ρ) (i := (a k).toNat) hUr h1 (by omega) h4 ⟨hUe.1, he⟩
      refine ze_icmp_eq kc_69_30 (by omega) (by omega) (fun h30 => ?_) (fun h30 => ?_)
      · skip
        refine ze_iinc kc_69_35 rfl ?_
        simp only [zset1, zset2, zcut, zf0, zf1, zf2, zf3, List.set_cons_zero, List.set_cons_succ, List.getD_cons_zero, List.getD_cons_succ]
        refine ze_goto kc_69_38 ?_
        refine ih _ (by omega) (k + 1) _ rfl (by omega) (by omega) ((zfst_next (by omega) (decide_eq_false (fun q => q h30))).symm.trans hz)
      · skip
        refine ze_iload_n kc_69_33 rfl ?_
        refine ze_ireturn kc_69_34 (Or.inl rfl) ?_
        rw [zfst_hit (by omega) (decide_eq_true h30)] at hz
        rw [hz]
        exact q1
  refine loop2 _ 0 0 rfl (by omega) rfl rfl

set_option maxHeartbeats 4000000 in
theorem m_isSeen {Z : zMem} {Q : Option zAV → zMem → Prop} {n : Nat} {c : Nat → Int} {e ρ : Int} (hM : zMo n c e ρ Z) {N : Nat} {a b : Nat → Int} (hW : zRwM 4 65 66 5 (N, a, b) Z) (hk0 : zRok n (N, a, b)) (he : e ≤ zsum n c) (q1 : zFo n c e ρ (N, a, b) < 0 → ∀ Z', zFm Z Z' → Q (some (zI 1)) Z') (q2 : ¬ zFo n c e ρ (N, a, b) < 0 → ∀ Z', zFm Z Z' → Q (some (zI 0)) Z') : zE 152 0 (zent 152 [zR 63]) [] Z Q := by
  show zE 152 0 [some (zR 63), none] [] Z Q
  have hM0 := hM
  obtain ⟨n0, n6, mc, mr, me, mρ, meR, mρR⟩ := hM
  have msr := zsum_range mr
  have hp6 := zpow6 n6
  obtain ⟨w1, w2, w3, w4⟩ := hW
  replace w1 : Z 63 4 = (N : Int) := w1
  replace w2 : N ≤ 5 := w2
  replace w3 : ∀ i, i < N → Z 65 i = a i := w3
  replace w4 : ∀ i, i < N → Z 66 i = b i := w4
  refine ze_iconst kc_152_0 ?_
  refine ze_istore_n kc_152_1 (Nat.le_of_ble_eq_true rfl) ?_
  simp only [zset1, zset2, zcut, zf0, zf1, zf2, zf3, List.set_cons_zero, List.set_cons_succ, List.getD_cons_zero, List.getD_cons_succ]
  have loop2 : ∀ (μ : Nat) (k : Nat) (x : Int) (Zc : zMem), N - k = μ → (k ≤ N) → (x = k) → (zfst (N - k) k (fun k => decide (¬ zWh ρ n c e (a k).toNat = b k)) (-5) = zFo n c e ρ (N, a, b)) → (zFm Z Zc) → zE 152 2 [some (zR 63), some (zI x)] [] Zc Q := by
    refine zind ?_
    intro μ ih k x Zc hm hk hx hz hq
    subst hx
    have hkk := fun (q : k < N) => hk0 k q
    simp only at hkk
    refine ze_iload_n kc_152_2 rfl ?_
    refine ze_aload_n kc_152_3 rfl ?_
    refine ze_getI kc_152_4 rfl (by decide) ?_
    rw [hq.2 4 (by decide) (by decide) (by decide) (by decide), w1]
    refine ze_icmp_ge kc_152_7 (by omega) (by omega) (fun h7 => ?_) (fun h7 => ?_)
    · skip
      refine ze_iconst kc_152_41 ?_
      refine ze_ireturn kc_152_42 (by decide) ?_
      rw [zfst_end (by omega)] at hz
      exact q1 (by omega) _ hq
    · skip
      refine ze_aload_n kc_152_10 rfl ?_
      refine ze_aload_n kc_152_11 rfl ?_
      refine ze_getI kc_152_12 rfl (by decide) ?_
      rw [hq.2 3 (by decide) (by decide) (by decide) (by decide), mρ]
      refine ze_aload_n kc_152_15 rfl ?_
      refine ze_getR kc_152_16 rfl rfl rfl ?_
      refine ze_iload_n kc_152_19 rfl ?_
      refine ze_iald kc_152_20 rfl (by omega) ?_
      rw [Int.toNat_natCast, hq.1 65 (by decide) (by decide), w3 k (by omega), show a k = (((a k).toNat : Nat) : Int) by omega]
      refine zE_callv 3 kc_152_21 rfl rfl (Nat.le_of_ble_eq_true rfl) (Nat.le_of_ble_eq_true rfl) (Nat.le_of_ble_eq_true rfl) rfl (by decide +kernel) rfl ?_
      refine m_cutOf (zMo_fm hM0 hq) (by omega) (by omega) he (fun Z2 f1 => ?_)
      simp only [Option.toList_some, Option.toList_none, List.drop_succ_cons, List.drop_zero, List.cons_append, List.nil_append]
      refine ze_aload_n kc_152_24 rfl ?_
      refine ze_getR kc_152_25 rfl rfl rfl ?_
      refine ze_iload_n kc_152_28 rfl ?_
      refine ze_iald kc_152_29 rfl (by omega) ?_
      rw [Int.toNat_natCast, f1.1 66 (by decide) (by decide), hq.1 66 (by decide) (by decide), w4 k (by omega)]
      have hwh := zWh_in (r := ρ) (i := (a k).toNat) mρR n6 (by omega) mr ⟨meR.1, he⟩
      refine ze_icmp_eq kc_152_30 (by omega) (by omega) (fun h30 => ?_) (fun h30 => ?_)
      · skip
        refine ze_iinc kc_152_35 rfl ?_
        simp only [zset1, zset2, zcut, zf0, zf1, zf2, zf3, List.set_cons_zero, List.set_cons_succ, List.getD_cons_zero, List.getD_cons_succ]
        refine ze_goto kc_152_38 ?_
        refine ih _ (by omega) (k + 1) _ _ rfl (by omega) (by omega) ((zfst_next (by omega) (decide_eq_false (fun q => q h30))).symm.trans hz) (zFm_trans hq f1)
      · skip
        refine ze_iconst kc_152_33 ?_
        refine ze_ireturn kc_152_34 (by decide) ?_
        rw [zfst_hit (by omega) (decide_eq_true h30)] at hz
        exact q2 (by omega) _ (zFm_trans hq f1)
  refine loop2 _ 0 0 Z rfl (by omega) rfl rfl zFm_refl

set_option maxHeartbeats 4000000 in
theorem m_lookedX {Z : zMem} {Q : Option zAV → zMem → Prop} {n : Nat} {c : Nat → Int} {e ρ : Int} (hC : zCl n c e ρ Z) {N : Nat} {a b : Nat → Int} (hW : zRw 26 8 N a b Z) (hk0 : zRok n (N, a, b)) (q1 : ∀ (Z' : zMem), zFq Z Z' → Q (some (zI (oLooked n c e ρ (N, a, b)))) Z') : zE 75 0 (zent 75 [zR 0]) [] Z Q := by
  show zE 75 0 [some (zR 0)] [] Z Q
  obtain ⟨hU0, hG0, n6, n0, cc, cr, ce, cρ, ceR, cρR, c11, c16⟩ := zCl_o hC
  have csr := zsum_range cr
  refine ze_aload_n kc_75_0 rfl ?_
  refine ze_getR kc_75_1 rfl rfl rfl ?_
  refine zE_callv 1 kc_75_4 rfl rfl (Nat.le_of_ble_eq_true rfl) (Nat.le_of_ble_eq_true rfl) (Nat.le_of_ble_eq_true rfl) rfl (by decide +kernel) rfl ?_
  refine m_ready zsF_1 hU0 (fun g4 => ?_) (fun g4 => ?_)
  · simp only [Option.toList_some, Option.toList_none, List.drop_succ_cons, List.drop_zero, List.cons_append, List.nil_append]
    refine ze_if_eq kc_75_7 (by decide) (fun q => absurd q (by decide)) (fun _ => ?_)
    refine ze_aload_n kc_75_10 rfl ?_
    refine ze_getR kc_75_11 rfl rfl rfl ?_
    refine ze_aload_n kc_75_14 rfl ?_
    refine ze_getR kc_75_15 rfl rfl rfl ?_
    refine zE_calls 2 kc_75_18 rfl rfl (Nat.le_of_ble_eq_true rfl) (Nat.le_of_ble_eq_true rfl) (Nat.le_of_ble_eq_true rfl) rfl ?_
    refine m_firstO zsF_1 hU0 zrF_26 (by decide) hW hk0 (by omega) ?_
    simp only [Option.toList_some, Option.toList_none, List.drop_succ_cons, List.drop_zero, List.cons_append, List.nil_append]
    refine ze_goto kc_75_21 ?_
    refine ze_ireturn kc_75_26 (Or.inl rfl) ?_
    first
      | (rw [show oLooked n c e ρ (N, a, b) = zFo n c e ρ (N, a, b) from if_pos (by omega)] at q1
         exact q1 _ zFq_refl)
      | (rw [show oLooked n c e ρ (N, a, b) = -3 from if_neg (by omega)] at q1
         exact q1 _ zFq_refl)
  · simp only [Option.toList_some, Option.toList_none, List.drop_succ_cons, List.drop_zero, List.cons_append, List.nil_append]
    refine ze_if_eq kc_75_7 (by decide) (fun _ => ?_) (fun q => absurd q (by decide))
    refine ze_bipush kc_75_24 ?_
    refine ze_ireturn kc_75_26 (Or.inl rfl) ?_
    first
      | (rw [show oLooked n c e ρ (N, a, b) = zFo n c e ρ (N, a, b) from if_pos (by omega)] at q1
         exact q1 _ zFq_refl)
      | (rw [show oLooked n c e ρ (N, a, b) = -3 from if_neg (by omega)] at q1
         exact q1 _ zFq_refl)

set_option maxHeartbeats 4000000 in
theorem m_lookedM {Z : zMem} {Q : Option zAV → zMem → Prop} {n : Nat} {c : Nat → Int} {e ρ : Int} (hM : zMo n c e ρ Z) {N : Nat} {a b : Nat → Int} (hW : zRwM 10 69 70 8 (N, a, b) Z) (hk0 : zRok n (N, a, b)) (q1 : ∀ (Z' : zMem), zFq Z Z' → Q (some (zI (oLooked n c e ρ (N, a, b)))) Z') : zE 160 0 (zent 160 [zR 63]) [] Z Q := by
  show zE 160 0 [some (zR 63), none] [] Z Q
  have hM0 := hM
  obtain ⟨n0, n6, mc, mr, me, mρ, meR, mρR⟩ := hM
  have msr := zsum_range mr
  have hp6 := zpow6 n6
  obtain ⟨w1, w2, w3, w4⟩ := hW
  replace w1 : Z 63 10 = (N : Int) := w1
  replace w2 : N ≤ 8 := w2
  replace w3 : ∀ i, i < N → Z 69 i = a i := w3
  replace w4 : ∀ i, i < N → Z 70 i = b i := w4
  refine ze_aload_n kc_160_0 rfl ?_
  refine zE_callv 1 kc_160_1 rfl rfl (Nat.le_of_ble_eq_true rfl) (Nat.le_of_ble_eq_true rfl) (Nat.le_of_ble_eq_true rfl) rfl (by decide +kernel) rfl ?_
  refine m_readyM hM0 (fun g1 => ?_) (fun g1 => ?_)
  · simp only [Option.toList_some, Option.toList_none, List.drop_succ_cons, List.drop_zero, List.cons_append, List.nil_append]
    refine ze_if_ne kc_160_4 (by decide) (fun _ => ?_) (fun q => absurd q (by decide))
    rw [show oLooked n c e ρ (N, a, b) = zFo n c e ρ (N, a, b) from if_pos (by omega)] at q1
    have he : e ≤ zsum n c := by omega
    refine ze_iconst kc_160_10 ?_
    refine ze_istore_n kc_160_11 (Nat.le_of_ble_eq_true rfl) ?_
    simp only [zset1, zset2, zcut, zf0, zf1, zf2, zf3, List.set_cons_zero, List.set_cons_succ, List.getD_cons_zero, List.getD_cons_succ]
    have loop12 : ∀ (μ : Nat) (k : Nat) (x : Int) (Zc : zMem), N - k = μ → (k ≤ N) → (x = k) → (zfst (N - k) k (fun k => decide (¬ zWh ρ n c e (a k).toNat = b k)) (-5) = zFo n c e ρ (N, a, b)) → (zFm Z Zc) → zE 160 12 [some (zR 63), some (zI x)] [] Zc Q := by
      refine zind ?_
      intro μ ih k x Zc hm hk hx hz hq
      subst hx
      have hkk := fun (q : k < N) => hk0 k q
      simp only at hkk
      refine ze_iload_n kc_160_12 rfl ?_
      refine ze_aload_n kc_160_13 rfl ?_
      refine ze_getI kc_160_14 rfl (by decide) ?_
      rw [hq.2 10 (by decide) (by decide) (by decide) (by decide), w1]
      refine ze_icmp_ge kc_160_17 (by omega) (by omega) (fun h17 => ?_) (fun h17 => ?_)
      · skip
        refine ze_bipush kc_160_51 ?_
        refine ze_ireturn kc_160_53 (Or.inl rfl) ?_
        rw [zfst_end (by omega)] at hz
        rw [hz]
        exact q1 _ (zFq_fm hq)
      · skip
        refine ze_aload_n kc_160_20 rfl ?_
        refine ze_aload_n kc_160_21 rfl ?_
        refine ze_getI kc_160_22 rfl (by decide) ?_
        rw [hq.2 3 (by decide) (by decide) (by decide) (by decide), mρ]
        refine ze_aload_n kc_160_25 rfl ?_
        refine ze_getR kc_160_26 rfl rfl rfl ?_
        refine ze_iload_n kc_160_29 rfl ?_
        refine ze_iald kc_160_30 rfl (by omega) ?_
        rw [Int.toNat_natCast, hq.1 69 (by decide) (by decide), w3 k (by omega), show a k = (((a k).toNat : Nat) : Int) by omega]
        refine zE_callv 3 kc_160_31 rfl rfl (Nat.le_of_ble_eq_true rfl) (Nat.le_of_ble_eq_true rfl) (Nat.le_of_ble_eq_true rfl) rfl (by decide +kernel) rfl ?_
        refine m_cutOf (zMo_fm hM0 hq) (by omega) (by omega) he (fun Z2 f1 => ?_)
        simp only [Option.toList_some, Option.toList_none, List.drop_succ_cons, List.drop_zero, List.cons_append, List.nil_append]
        refine ze_aload_n kc_160_34 rfl ?_
        refine ze_getR kc_160_35 rfl rfl rfl ?_
        refine ze_iload_n kc_160_38 rfl ?_
        refine ze_iald kc_160_39 rfl (by omega) ?_
        rw [Int.toNat_natCast, f1.1 70 (by decide) (by decide), hq.1 70 (by decide) (by decide), w4 k (by omega)]
        have hwh := zWh_in (r := ρ) (i := (a k).toNat) mρR n6 (by omega) mr ⟨meR.1, he⟩
        refine ze_icmp_eq kc_160_40 (by omega) (by omega) (fun h40 => ?_) (fun h40 => ?_)
        · skip
          refine ze_iinc kc_160_45 rfl ?_
          simp only [zset1, zset2, zcut, zf0, zf1, zf2, zf3, List.set_cons_zero, List.set_cons_succ, List.getD_cons_zero, List.getD_cons_succ]
          refine ze_goto kc_160_48 ?_
          refine ih _ (by omega) (k + 1) _ _ rfl (by omega) (by omega) ((zfst_next (by omega) (decide_eq_false (fun q => q h40))).symm.trans hz) (zFm_trans hq f1)
        · skip
          refine ze_iload_n kc_160_43 rfl ?_
          refine ze_ireturn kc_160_44 (Or.inl rfl) ?_
          rw [zfst_hit (by omega) (decide_eq_true h40)] at hz
          rw [hz]
          exact q1 _ (zFq_fm (zFm_trans hq f1))
    refine loop12 _ 0 0 Z rfl (by omega) rfl rfl zFm_refl
  · simp only [Option.toList_some, Option.toList_none, List.drop_succ_cons, List.drop_zero, List.cons_append, List.nil_append]
    refine ze_if_ne kc_160_4 (by decide) (fun q => absurd q (by decide)) (fun _ => ?_)
    refine ze_bipush kc_160_7 ?_
    refine ze_ireturn kc_160_9 (Or.inl rfl) ?_
    rw [show oLooked n c e ρ (N, a, b) = -3 from if_neg (by omega)] at q1
    exact q1 _ zFq_refl

set_option maxHeartbeats 8000000 in
theorem m_fitsX {Z : zMem} {Q : Option zAV → zMem → Prop} {n : Nat} {c : Nat → Int} {e ρ : Int} (hC : zCl n c e ρ Z) {N : Nat} {a b : Nat → Int} (hW : zRw 20 5 N a b Z) (hk0 : zRok n (N, a, b)) {i w : Int} (hi : -2147483648 ≤ i ∧ i ≤ 2147483647) (hw : -2147483648 ≤ w ∧ w ≤ 2147483647)(q1 : ∀ (Z' : zMem), zFq Z Z' → Q (some (zI (oFits n c e ρ (N, a, b) i w))) Z') : zE 68 0 (zent 68 [zR 0, zI i, zI w]) [] Z Q := by
  show zE 68 0 [some (zR 0), some (zI i), some (zI w), none, none, none] [] Z Q
  obtain ⟨hU0, hG0, n6, n0, cc, cr, ce, cρ, ceR, cρR, c11, c16⟩ := zCl_o hC
  have csr := zsum_range cr
  refine ze_aload_n kc_68_0 rfl ?_
  refine ze_getR kc_68_1 rfl rfl rfl ?_
  refine ze_getR kc_68_4 rfl rfl rfl ?_
  refine ze_iload_n kc_68_7 rfl ?_
  refine zE_callv 2 kc_68_8 rfl rfl (Nat.le_of_ble_eq_true rfl) (Nat.le_of_ble_eq_true rfl) (Nat.le_of_ble_eq_true rfl) rfl (by decide +kernel) rfl ?_
  refine m_has zgF_2 (by omega) (by omega) (fun g8 => ?_) (fun g8 => ?_)
  · simp only [Option.toList_some, Option.toList_none, List.drop_succ_cons, List.drop_zero, List.cons_append, List.nil_append]
    refine ze_if_eq kc_68_11 (by decide) (fun q => absurd q (by decide)) (fun _ => ?_)
    refine ze_iload_n kc_68_14 rfl ?_
    refine ze_if_eq kc_68_15 (by omega) (fun h15 => ?_) (fun h15 => ?_)
    · skip
      obtain ⟨κ, rfl⟩ := Int.eq_ofNat_of_zero_le (show 0 ≤ i by omega)
      have hκ : κ < n := by omega
      refine ze_iconst kc_68_25 ?_
      refine ze_istore_n kc_68_26 (Nat.le_of_ble_eq_true rfl) ?_
      simp only [zset1, zset2, zcut, zf0, zf1, zf2, zf3, List.set_cons_zero, List.set_cons_succ, List.getD_cons_zero, List.getD_cons_succ]
      refine ze_bipush kc_68_27 ?_
      refine ze_istore kc_68_29 (Nat.le_of_ble_eq_true rfl) ?_
      simp only [zset1, zset2, zcut, zf0, zf1, zf2, zf3, List.set_cons_zero, List.set_cons_succ, List.getD_cons_zero, List.getD_cons_succ]
      refine ze_aload_n kc_68_31 rfl ?_
      refine ze_getR kc_68_32 rfl rfl rfl ?_
      refine ze_aload_n kc_68_35 rfl ?_
      refine ze_getR kc_68_36 rfl rfl rfl ?_
      refine zE_callv 2 kc_68_39 rfl rfl (Nat.le_of_ble_eq_true rfl) (Nat.le_of_ble_eq_true rfl) (Nat.le_of_ble_eq_true rfl) rfl (by decide +kernel) rfl ?_
      refine m_copyS zsF_7 zsF_1 (by decide) hU0 c11 (fun Z2 f1 f2 => ?_)
      simp only [Option.toList_some, Option.toList_none, List.drop_succ_cons, List.drop_zero, List.cons_append, List.nil_append]
      refine ze_iconst kc_68_42 ?_
      refine ze_istore kc_68_43 (Nat.le_of_ble_eq_true rfl) ?_
      simp only [zset1, zset2, zcut, zf0, zf1, zf2, zf3, List.set_cons_zero, List.set_cons_succ, List.getD_cons_zero, List.getD_cons_succ]
      have loop45 : ∀ (μ : Nat) (k : Nat) (x p l u : Int) (Zc : zMem), 30 - k = μ → (k ≤ 30) → (x = k + 1) → (p = zFn (zFb n c e ρ (N, a, b) κ) k) → (l = zLe (zFb n c e ρ (N, a, b) κ) k) → (zSU 7 n (zupd c κ u) e ρ Zc) → (∀ i, i < 7 ∨ 11 < i → Zc i = Z i) → (Zc 11 0 = 0) → zE 68 45 [some (zR 0), some (zI (κ : Nat)), some (zI w), some (zI p), some (zI l), some (zI x)] [] Zc Q := by
        refine zind ?_
        intro μ ih k x p l u Zc hm hk hx hp hl hUt hf hz
        subst hx
        have hn0 := zFn_0 (zFb n c e ρ (N, a, b) κ) k
        have hni := zFn_in (zFb n c e ρ (N, a, b) κ) k
        have hli := zLe_in (zFb n c e ρ (N, a, b) κ) k
        refine ze_iload kc_68_45 rfl ?_
        refine ze_bipush kc_68_47 ?_
        refine ze_icmp_gt kc_68_49 (by omega) (by omega) (fun h49 => ?_) (fun h49 => ?_)
        · skip
          have ek : k = 30 := by omega
          subst ek
          refine ze_iload_n kc_68_111 rfl ?_
          refine ze_if_ne kc_68_112 (by omega) (fun h112 => ?_) (fun h112 => ?_)
          · skip
            refine ze_iload kc_68_119 rfl ?_
            refine ze_ireturn kc_68_121 (Or.inl rfl) ?_
            first
              | (rw [show oFits n c e ρ (N, a, b) κ w = zFn (zFb n c e ρ (N, a, b) κ) 30 from (if_neg (by omega)).trans (if_pos (by omega))] at q1
                 rw [hp]
                 exact q1 _ ⟨fun i a b d e g => hf i (by omega), fun j a b d e g => by rw [hf 63 (by decide)], fun _ => hz, fun q => by rw [hf 16 (by decide)]; exact q⟩)
              | (rw [show oFits n c e ρ (N, a, b) κ w = zLe (zFb n c e ρ (N, a, b) κ) 30 from (if_neg (by omega)).trans (if_neg (by omega))] at q1
                 rw [hl]
                 exact q1 _ ⟨fun i a b d e g => hf i (by omega), fun j a b d e g => by rw [hf 63 (by decide)], fun _ => hz, fun q => by rw [hf 16 (by decide)]; exact q⟩)
          · skip
            refine ze_iload_n kc_68_115 rfl ?_
            refine ze_goto kc_68_116 ?_
            refine ze_ireturn kc_68_121 (Or.inl rfl) ?_
            first
              | (rw [show oFits n c e ρ (N, a, b) κ w = zFn (zFb n c e ρ (N, a, b) κ) 30 from (if_neg (by omega)).trans (if_pos (by omega))] at q1
                 rw [hp]
                 exact q1 _ ⟨fun i a b d e g => hf i (by omega), fun j a b d e g => by rw [hf 63 (by decide)], fun _ => hz, fun q => by rw [hf 16 (by decide)]; exact q⟩)
              | (rw [show oFits n c e ρ (N, a, b) κ w = zLe (zFb n c e ρ (N, a, b) κ) 30 from (if_neg (by omega)).trans (if_neg (by omega))] at q1
                 rw [hl]
                 exact q1 _ ⟨fun i a b d e g => hf i (by omega), fun j a b d e g => by rw [hf 63 (by decide)], fun _ => hz, fun q => by rw [hf 16 (by decide)]; exact q⟩)
        · skip
          refine ze_aload_n kc_68_52 rfl ?_
          refine ze_getR kc_68_53 rfl rfl rfl ?_
          refine ze_getR kc_68_56 rfl rfl rfl ?_
          refine ze_iload_n kc_68_59 rfl ?_
          refine ze_iload kc_68_60 rfl ?_
          refine zE_callv 3 kc_68_62 rfl rfl (Nat.le_of_ble_eq_true rfl) (Nat.le_of_ble_eq_true rfl) (Nat.le_of_ble_eq_true rfl) rfl (by decide +kernel) rfl ?_
          refine m_put zgF_8 hUt.1 hκ (by omega) (fun Z3 k1 k2 k3 => ?_)
          simp only [Option.toList_some, Option.toList_none, List.drop_succ_cons, List.drop_zero, List.cons_append, List.nil_append]
          have hU3 : zSU 7 n (zupd c κ ((k : Int) + 1)) e ρ Z3 := ⟨by rw [← zupd_zupd (u := u)]; exact k1, by rw [k2 7 (by decide)]; exact hUt.2.1, by rw [k2 7 (by decide)]; exact hUt.2.2.1, ceR, cρR⟩
          have hf3 : ∀ i, i < 7 ∨ 11 < i → Z3 i = Z i := fun i hi => by rw [k2 i (by omega), hf i hi]
          have hW3 : zRw 20 5 N a b Z3 := zRw_same hW (fun i a b => hf3 i (by omega))
          have hz3 : Z3 11 0 = 0 := zG_z k1
          refine ze_aload_n kc_68_65 rfl ?_
          refine ze_getR kc_68_66 rfl rfl rfl ?_
          refine zE_callv 1 kc_68_69 rfl rfl (Nat.le_of_ble_eq_true rfl) (Nat.le_of_ble_eq_true rfl) (Nat.le_of_ble_eq_true rfl) rfl (by decide +kernel) rfl ?_
          refine m_ready zsF_7 hU3 (fun g69 => ?_) (fun g69 => ?_)
          · simp only [Option.toList_some, Option.toList_none, List.drop_succ_cons, List.drop_zero, List.cons_append, List.nil_append]
            refine ze_if_eq kc_68_72 (by decide) (fun q => absurd q (by decide)) (fun _ => ?_)
            refine ze_aload_n kc_68_75 rfl ?_
            refine ze_getR kc_68_76 rfl rfl rfl ?_
            refine ze_aload_n kc_68_79 rfl ?_
            refine ze_getR kc_68_80 rfl rfl rfl ?_
            refine zE_calls 2 kc_68_83 rfl rfl (Nat.le_of_ble_eq_true rfl) (Nat.le_of_ble_eq_true rfl) (Nat.le_of_ble_eq_true rfl) rfl ?_
            refine m_firstO zsF_7 hU3 zrF_20 (by decide) hW3 hk0 g69.2 ?_
            simp only [Option.toList_some, Option.toList_none, List.drop_succ_cons, List.drop_zero, List.cons_append, List.nil_append]
            have hfi := zFo_in (n := n) (c := zupd c κ ((k : Int) + 1)) (e := e) (ρ := ρ) (R := (N, a, b))
            have hNr := hW.2.2.1
            simp only at hfi
            refine ze_if_ge kc_68_86 (by omega) (fun h86 => ?_) (fun h86 => ?_)
            · skip
              refine ze_iinc kc_68_105 rfl ?_
              simp only [zset1, zset2, zcut, zf0, zf1, zf2, zf3, List.set_cons_zero, List.set_cons_succ, List.getD_cons_zero, List.getD_cons_succ]
              refine ze_goto kc_68_108 ?_
              refine ih _ (by omega) (k + 1) _ _ _ ((k : Int) + 1) _ rfl (by omega) (by omega) ?_ ?_ hU3 hf3 hz3
              · show _ = zFn (zFb n c e ρ (N, a, b) κ) k + (if (zFb n c e ρ (N, a, b) κ) ((k : Int) + 1) = true then 1 else 0)
                first
                  | (have hT : (zFb n c e ρ (N, a, b) κ) ((k : Int) + 1) = true := decide_eq_true ⟨g69, by omega⟩
                     rw [if_pos hT, hp])
                  | (have hT : ¬ (zFb n c e ρ (N, a, b) κ) ((k : Int) + 1) = true := fun q => by have := of_decide_eq_true q; exact g69 this.1
                     rw [if_neg hT, hp, Int.add_zero])
                  | (have hT : ¬ (zFb n c e ρ (N, a, b) κ) ((k : Int) + 1) = true := fun q => by have := (of_decide_eq_true q).2; omega
                     rw [if_neg hT, hp, Int.add_zero])
              · show _ = (if zLe (zFb n c e ρ (N, a, b) κ) k = -5 then (if (zFb n c e ρ (N, a, b) κ) ((k : Int) + 1) = true then (k : Int) + 1 else -5) else zLe (zFb n c e ρ (N, a, b) κ) k)
                first
                  | (have hT : (zFb n c e ρ (N, a, b) κ) ((k : Int) + 1) = true := decide_eq_true ⟨g69, by omega⟩
                     rw [if_pos hT]
                     first
                       | (rw [if_pos (by omega)])
                       | (rw [if_neg (by omega)]; exact hl))
                  | (have hT : ¬ (zFb n c e ρ (N, a, b) κ) ((k : Int) + 1) = true := fun q => by have := of_decide_eq_true q; exact g69 this.1
                     rw [if_neg hT, hl]
                     split <;> omega)
                  | (have hT : ¬ (zFb n c e ρ (N, a, b) κ) ((k : Int) + 1) = true := fun q => by have := (of_decide_eq_true q).2; omega
                     rw [if_neg hT, hl]
                     split <;> omega)
            · skip
              refine ze_iload_n kc_68_89 rfl ?_
              refine ze_if_ne kc_68_90 (by omega) (fun h90 => ?_) (fun h90 => ?_)
              · skip
                refine ze_iload kc_68_98 rfl ?_
                refine ze_istore kc_68_100 (Nat.le_of_ble_eq_true rfl) ?_
                simp only [zset1, zset2, zcut, zf0, zf1, zf2, zf3, List.set_cons_zero, List.set_cons_succ, List.getD_cons_zero, List.getD_cons_succ]
                refine ze_iinc kc_68_102 rfl ?_
                simp only [zset1, zset2, zcut, zf0, zf1, zf2, zf3, List.set_cons_zero, List.set_cons_succ, List.getD_cons_zero, List.getD_cons_succ]
                refine ze_iinc kc_68_105 rfl ?_
                simp only [zset1, zset2, zcut, zf0, zf1, zf2, zf3, List.set_cons_zero, List.set_cons_succ, List.getD_cons_zero, List.getD_cons_succ]
                refine ze_goto kc_68_108 ?_
                refine ih _ (by omega) (k + 1) _ _ _ ((k : Int) + 1) _ rfl (by omega) (by omega) ?_ ?_ hU3 hf3 hz3
                · show _ = zFn (zFb n c e ρ (N, a, b) κ) k + (if (zFb n c e ρ (N, a, b) κ) ((k : Int) + 1) = true then 1 else 0)
                  first
                    | (have hT : (zFb n c e ρ (N, a, b) κ) ((k : Int) + 1) = true := decide_eq_true ⟨g69, by omega⟩
                       rw [if_pos hT, hp])
                    | (have hT : ¬ (zFb n c e ρ (N, a, b) κ) ((k : Int) + 1) = true := fun q => by have := of_decide_eq_true q; exact g69 this.1
                       rw [if_neg hT, hp, Int.add_zero])
                    | (have hT : ¬ (zFb n c e ρ (N, a, b) κ) ((k : Int) + 1) = true := fun q => by have := (of_decide_eq_true q).2; omega
                       rw [if_neg hT, hp, Int.add_zero])
                · show _ = (if zLe (zFb n c e ρ (N, a, b) κ) k = -5 then (if (zFb n c e ρ (N, a, b) κ) ((k : Int) + 1) = true then (k : Int) + 1 else -5) else zLe (zFb n c e ρ (N, a, b) κ) k)
                  first
                    | (have hT : (zFb n c e ρ (N, a, b) κ) ((k : Int) + 1) = true := decide_eq_true ⟨g69, by omega⟩
                       rw [if_pos hT]
                       first
                         | (rw [if_pos (by omega)])
                         | (rw [if_neg (by omega)]; exact hl))
                    | (have hT : ¬ (zFb n c e ρ (N, a, b) κ) ((k : Int) + 1) = true := fun q => by have := of_decide_eq_true q; exact g69 this.1
                       rw [if_neg hT, hl]
                       split <;> omega)
                    | (have hT : ¬ (zFb n c e ρ (N, a, b) κ) ((k : Int) + 1) = true := fun q => by have := (of_decide_eq_true q).2; omega
                       rw [if_neg hT, hl]
                       split <;> omega)
              · skip
                refine ze_iload kc_68_93 rfl ?_
                refine ze_goto kc_68_95 ?_
                refine ze_istore kc_68_100 (Nat.le_of_ble_eq_true rfl) ?_
                simp only [zset1, zset2, zcut, zf0, zf1, zf2, zf3, List.set_cons_zero, List.set_cons_succ, List.getD_cons_zero, List.getD_cons_succ]
                refine ze_iinc kc_68_102 rfl ?_
                simp only [zset1, zset2, zcut, zf0, zf1, zf2, zf3, List.set_cons_zero, List.set_cons_succ, List.getD_cons_zero, List.getD_cons_succ]
                refine ze_iinc kc_68_105 rfl ?_
                simp only [zset1, zset2, zcut, zf0, zf1, zf2, zf3, List.set_cons_zero, List.set_cons_succ, List.getD_cons_zero, List.getD_cons_succ]
                refine ze_goto kc_68_108 ?_
                refine ih _ (by omega) (k + 1) _ _ _ ((k : Int) + 1) _ rfl (by omega) (by omega) ?_ ?_ hU3 hf3 hz3
                · show _ = zFn (zFb n c e ρ (N, a, b) κ) k + (if (zFb n c e ρ (N, a, b) κ) ((k : Int) + 1) = true then 1 else 0)
                  first
                    | (have hT : (zFb n c e ρ (N, a, b) κ) ((k : Int) + 1) = true := decide_eq_true ⟨g69, by omega⟩
                       rw [if_pos hT, hp])
                    | (have hT : ¬ (zFb n c e ρ (N, a, b) κ) ((k : Int) + 1) = true := fun q => by have := of_decide_eq_true q; exact g69 this.1
                       rw [if_neg hT, hp, Int.add_zero])
                    | (have hT : ¬ (zFb n c e ρ (N, a, b) κ) ((k : Int) + 1) = true := fun q => by have := (of_decide_eq_true q).2; omega
                       rw [if_neg hT, hp, Int.add_zero])
                · show _ = (if zLe (zFb n c e ρ (N, a, b) κ) k = -5 then (if (zFb n c e ρ (N, a, b) κ) ((k : Int) + 1) = true then (k : Int) + 1 else -5) else zLe (zFb n c e ρ (N, a, b) κ) k)
                  first
                    | (have hT : (zFb n c e ρ (N, a, b) κ) ((k : Int) + 1) = true := decide_eq_true ⟨g69, by omega⟩
                       rw [if_pos hT]
                       first
                         | (rw [if_pos (by omega)])
                         | (rw [if_neg (by omega)]; exact hl))
                    | (have hT : ¬ (zFb n c e ρ (N, a, b) κ) ((k : Int) + 1) = true := fun q => by have := of_decide_eq_true q; exact g69 this.1
                       rw [if_neg hT, hl]
                       split <;> omega)
                    | (have hT : ¬ (zFb n c e ρ (N, a, b) κ) ((k : Int) + 1) = true := fun q => by have := (of_decide_eq_true q).2; omega
                       rw [if_neg hT, hl]
                       split <;> omega)
          · simp only [Option.toList_some, Option.toList_none, List.drop_succ_cons, List.drop_zero, List.cons_append, List.nil_append]
            refine ze_if_eq kc_68_72 (by decide) (fun _ => ?_) (fun q => absurd q (by decide))
            refine ze_iinc kc_68_105 rfl ?_
            simp only [zset1, zset2, zcut, zf0, zf1, zf2, zf3, List.set_cons_zero, List.set_cons_succ, List.getD_cons_zero, List.getD_cons_succ]
            refine ze_goto kc_68_108 ?_
            refine ih _ (by omega) (k + 1) _ _ _ ((k : Int) + 1) _ rfl (by omega) (by omega) ?_ ?_ hU3 hf3 hz3
            · show _ = zFn (zFb n c e ρ (N, a, b) κ) k + (if (zFb n c e ρ (N, a, b) κ) ((k : Int) + 1) = true then 1 else 0)
              first
                | (have hT : (zFb n c e ρ (N, a, b) κ) ((k : Int) + 1) = true := decide_eq_true ⟨g69, by omega⟩
                   rw [if_pos hT, hp])
                | (have hT : ¬ (zFb n c e ρ (N, a, b) κ) ((k : Int) + 1) = true := fun q => by have := of_decide_eq_true q; exact g69 this.1
                   rw [if_neg hT, hp, Int.add_zero])
                | (have hT : ¬ (zFb n c e ρ (N, a, b) κ) ((k : Int) + 1) = true := fun q => by have := (of_decide_eq_true q).2; omega
                   rw [if_neg hT, hp, Int.add_zero])
            · show _ = (if zLe (zFb n c e ρ (N, a, b) κ) k = -5 then (if (zFb n c e ρ (N, a, b) κ) ((k : Int) + 1) = true then (k : Int) + 1 else -5) else zLe (zFb n c e ρ (N, a, b) κ) k)
              first
                | (have hT : (zFb n c e ρ (N, a, b) κ) ((k : Int) + 1) = true := decide_eq_true ⟨g69, by omega⟩
                   rw [if_pos hT]
                   first
                     | (rw [if_pos (by omega)])
                     | (rw [if_neg (by omega)]; exact hl))
                | (have hT : ¬ (zFb n c e ρ (N, a, b) κ) ((k : Int) + 1) = true := fun q => by have := of_decide_eq_true q; exact g69 this.1
                   rw [if_neg hT, hl]
                   split <;> omega)
                | (have hT : ¬ (zFb n c e ρ (N, a, b) κ) ((k : Int) + 1) = true := fun q => by have := (of_decide_eq_true q).2; omega
                   rw [if_neg hT, hl]
                   split <;> omega)
      refine loop45 _ 0 1 0 (-5) (c κ) _ rfl (by omega) rfl rfl rfl (by rw [zupd_self]; exact f1) f2 (zG_z f1.1)
    · skip
      refine ze_iload_n kc_68_18 rfl ?_
      refine ze_iconst kc_68_19 ?_
      refine ze_icmp_eq kc_68_20 (by omega) (by omega) (fun h20 => ?_) (fun h20 => ?_)
      · skip
        obtain ⟨κ, rfl⟩ := Int.eq_ofNat_of_zero_le (show 0 ≤ i by omega)
        have hκ : κ < n := by omega
        refine ze_iconst kc_68_25 ?_
        refine ze_istore_n kc_68_26 (Nat.le_of_ble_eq_true rfl) ?_
        simp only [zset1, zset2, zcut, zf0, zf1, zf2, zf3, List.set_cons_zero, List.set_cons_succ, List.getD_cons_zero, List.getD_cons_succ]
        refine ze_bipush kc_68_27 ?_
        refine ze_istore kc_68_29 (Nat.le_of_ble_eq_true rfl) ?_
        simp only [zset1, zset2, zcut, zf0, zf1, zf2, zf3, List.set_cons_zero, List.set_cons_succ, List.getD_cons_zero, List.getD_cons_succ]
        refine ze_aload_n kc_68_31 rfl ?_
        refine ze_getR kc_68_32 rfl rfl rfl ?_
        refine ze_aload_n kc_68_35 rfl ?_
        refine ze_getR kc_68_36 rfl rfl rfl ?_
        refine zE_callv 2 kc_68_39 rfl rfl (Nat.le_of_ble_eq_true rfl) (Nat.le_of_ble_eq_true rfl) (Nat.le_of_ble_eq_true rfl) rfl (by decide +kernel) rfl ?_
        refine m_copyS zsF_7 zsF_1 (by decide) hU0 c11 (fun Z2 f1 f2 => ?_)
        simp only [Option.toList_some, Option.toList_none, List.drop_succ_cons, List.drop_zero, List.cons_append, List.nil_append]
        refine ze_iconst kc_68_42 ?_
        refine ze_istore kc_68_43 (Nat.le_of_ble_eq_true rfl) ?_
        simp only [zset1, zset2, zcut, zf0, zf1, zf2, zf3, List.set_cons_zero, List.set_cons_succ, List.getD_cons_zero, List.getD_cons_succ]
        have loop45 : ∀ (μ : Nat) (k : Nat) (x p l u : Int) (Zc : zMem), 30 - k = μ → (k ≤ 30) → (x = k + 1) → (p = zFn (zFb n c e ρ (N, a, b) κ) k) → (l = zLe (zFb n c e ρ (N, a, b) κ) k) → (zSU 7 n (zupd c κ u) e ρ Zc) → (∀ i, i < 7 ∨ 11 < i → Zc i = Z i) → (Zc 11 0 = 0) → zE 68 45 [some (zR 0), some (zI (κ : Nat)), some (zI w), some (zI p), some (zI l), some (zI x)] [] Zc Q := by
          refine zind ?_
          intro μ ih k x p l u Zc hm hk hx hp hl hUt hf hz
          subst hx
          have hn0 := zFn_0 (zFb n c e ρ (N, a, b) κ) k
          have hni := zFn_in (zFb n c e ρ (N, a, b) κ) k
          have hli := zLe_in (zFb n c e ρ (N, a, b) κ) k
          refine ze_iload kc_68_45 rfl ?_
          refine ze_bipush kc_68_47 ?_
          refine ze_icmp_gt kc_68_49 (by omega) (by omega) (fun h49 => ?_) (fun h49 => ?_)
          · skip
            have ek : k = 30 := by omega
            subst ek
            refine ze_iload_n kc_68_111 rfl ?_
            refine ze_if_ne kc_68_112 (by omega) (fun h112 => ?_) (fun h112 => ?_)
            · skip
              refine ze_iload kc_68_119 rfl ?_
              refine ze_ireturn kc_68_121 (Or.inl rfl) ?_
              first
                | (rw [show oFits n c e ρ (N, a, b) κ w = zFn (zFb n c e ρ (N, a, b) κ) 30 from (if_neg (by omega)).trans (if_pos (by omega))] at q1
                   rw [hp]
                   exact q1 _ ⟨fun i a b d e g => hf i (by omega), fun j a b d e g => by rw [hf 63 (by decide)], fun _ => hz, fun q => by rw [hf 16 (by decide)]; exact q⟩)
                | (rw [show oFits n c e ρ (N, a, b) κ w = zLe (zFb n c e ρ (N, a, b) κ) 30 from (if_neg (by omega)).trans (if_neg (by omega))] at q1
                   rw [hl]
                   exact q1 _ ⟨fun i a b d e g => hf i (by omega), fun j a b d e g => by rw [hf 63 (by decide)], fun _ => hz, fun q => by rw [hf 16 (by decide)]; exact q⟩)
            · skip
              refine ze_iload_n kc_68_115 rfl ?_
              refine ze_goto kc_68_116 ?_
              refine ze_ireturn kc_68_121 (Or.inl rfl) ?_
              first
                | (rw [show oFits n c e ρ (N, a, b) κ w = zFn (zFb n c e ρ (N, a, b) κ) 30 from (if_neg (by omega)).trans (if_pos (by omega))] at q1
                   rw [hp]
                   exact q1 _ ⟨fun i a b d e g => hf i (by omega), fun j a b d e g => by rw [hf 63 (by decide)], fun _ => hz, fun q => by rw [hf 16 (by decide)]; exact q⟩)
                | (rw [show oFits n c e ρ (N, a, b) κ w = zLe (zFb n c e ρ (N, a, b) κ) 30 from (if_neg (by omega)).trans (if_neg (by omega))] at q1
                   rw [hl]
                   exact q1 _ ⟨fun i a b d e g => hf i (by omega), fun j a b d e g => by rw [hf 63 (by decide)], fun _ => hz, fun q => by rw [hf 16 (by decide)]; exact q⟩)
          · skip
            refine ze_aload_n kc_68_52 rfl ?_
            refine ze_getR kc_68_53 rfl rfl rfl ?_
            refine ze_getR kc_68_56 rfl rfl rfl ?_
            refine ze_iload_n kc_68_59 rfl ?_
            refine ze_iload kc_68_60 rfl ?_
            refine zE_callv 3 kc_68_62 rfl rfl (Nat.le_of_ble_eq_true rfl) (Nat.le_of_ble_eq_true rfl) (Nat.le_of_ble_eq_true rfl) rfl (by decide +kernel) rfl ?_
            refine m_put zgF_8 hUt.1 hκ (by omega) (fun Z3 k1 k2 k3 => ?_)
            simp only [Option.toList_some, Option.toList_none, List.drop_succ_cons, List.drop_zero, List.cons_append, List.nil_append]
            have hU3 : zSU 7 n (zupd c κ ((k : Int) + 1)) e ρ Z3 := ⟨by rw [← zupd_zupd (u := u)]; exact k1, by rw [k2 7 (by decide)]; exact hUt.2.1, by rw [k2 7 (by decide)]; exact hUt.2.2.1, ceR, cρR⟩
            have hf3 : ∀ i, i < 7 ∨ 11 < i → Z3 i = Z i := fun i hi => by rw [k2 i (by omega), hf i hi]
            have hW3 : zRw 20 5 N a b Z3 := zRw_same hW (fun i a b => hf3 i (by omega))
            have hz3 : Z3 11 0 = 0 := zG_z k1
            refine ze_aload_n kc_68_65 rfl ?_
            refine ze_getR kc_68_66 rfl rfl rfl ?_
            refine zE_callv 1 kc_68_69 rfl rfl (Nat.le_of_ble_eq_true rfl) (Nat.le_of_ble_eq_true rfl) (Nat.le_of_ble_eq_true rfl) rfl (by decide +kernel) rfl ?_
            refine m_ready zsF_7 hU3 (fun g69 => ?_) (fun g69 => ?_)
            · simp only [Option.toList_some, Option.toList_none, List.drop_succ_cons, List.drop_zero, List.cons_append, List.nil_append]
              refine ze_if_eq kc_68_72 (by decide) (fun q => absurd q (by decide)) (fun _ => ?_)
              refine ze_aload_n kc_68_75 rfl ?_
              refine ze_getR kc_68_76 rfl rfl rfl ?_
              refine ze_aload_n kc_68_79 rfl ?_
              refine ze_getR kc_68_80 rfl rfl rfl ?_
              refine zE_calls 2 kc_68_83 rfl rfl (Nat.le_of_ble_eq_true rfl) (Nat.le_of_ble_eq_true rfl) (Nat.le_of_ble_eq_true rfl) rfl ?_
              refine m_firstO zsF_7 hU3 zrF_20 (by decide) hW3 hk0 g69.2 ?_
              simp only [Option.toList_some, Option.toList_none, List.drop_succ_cons, List.drop_zero, List.cons_append, List.nil_append]
              have hfi := zFo_in (n := n) (c := zupd c κ ((k : Int) + 1)) (e := e) (ρ := ρ) (R := (N, a, b))
              have hNr := hW.2.2.1
              simp only at hfi
              refine ze_if_ge kc_68_86 (by omega) (fun h86 => ?_) (fun h86 => ?_)
              · skip
                refine ze_iinc kc_68_105 rfl ?_
                simp only [zset1, zset2, zcut, zf0, zf1, zf2, zf3, List.set_cons_zero, List.set_cons_succ, List.getD_cons_zero, List.getD_cons_succ]
                refine ze_goto kc_68_108 ?_
                refine ih _ (by omega) (k + 1) _ _ _ ((k : Int) + 1) _ rfl (by omega) (by omega) ?_ ?_ hU3 hf3 hz3
                · show _ = zFn (zFb n c e ρ (N, a, b) κ) k + (if (zFb n c e ρ (N, a, b) κ) ((k : Int) + 1) = true then 1 else 0)
                  first
                    | (have hT : (zFb n c e ρ (N, a, b) κ) ((k : Int) + 1) = true := decide_eq_true ⟨g69, by omega⟩
                       rw [if_pos hT, hp])
                    | (have hT : ¬ (zFb n c e ρ (N, a, b) κ) ((k : Int) + 1) = true := fun q => by have := of_decide_eq_true q; exact g69 this.1
                       rw [if_neg hT, hp, Int.add_zero])
                    | (have hT : ¬ (zFb n c e ρ (N, a, b) κ) ((k : Int) + 1) = true := fun q => by have := (of_decide_eq_true q).2; omega
                       rw [if_neg hT, hp, Int.add_zero])
                · show _ = (if zLe (zFb n c e ρ (N, a, b) κ) k = -5 then (if (zFb n c e ρ (N, a, b) κ) ((k : Int) + 1) = true then (k : Int) + 1 else -5) else zLe (zFb n c e ρ (N, a, b) κ) k)
                  first
                    | (have hT : (zFb n c e ρ (N, a, b) κ) ((k : Int) + 1) = true := decide_eq_true ⟨g69, by omega⟩
                       rw [if_pos hT]
                       first
                         | (rw [if_pos (by omega)])
                         | (rw [if_neg (by omega)]; exact hl))
                    | (have hT : ¬ (zFb n c e ρ (N, a, b) κ) ((k : Int) + 1) = true := fun q => by have := of_decide_eq_true q; exact g69 this.1
                       rw [if_neg hT, hl]
                       split <;> omega)
                    | (have hT : ¬ (zFb n c e ρ (N, a, b) κ) ((k : Int) + 1) = true := fun q => by have := (of_decide_eq_true q).2; omega
                       rw [if_neg hT, hl]
                       split <;> omega)
              · skip
                refine ze_iload_n kc_68_89 rfl ?_
                refine ze_if_ne kc_68_90 (by omega) (fun h90 => ?_) (fun h90 => ?_)
                · skip
                  refine ze_iload kc_68_98 rfl ?_
                  refine ze_istore kc_68_100 (Nat.le_of_ble_eq_true rfl) ?_
                  simp only [zset1, zset2, zcut, zf0, zf1, zf2, zf3, List.set_cons_zero, List.set_cons_succ, List.getD_cons_zero, List.getD_cons_succ]
                  refine ze_iinc kc_68_102 rfl ?_
                  simp only [zset1, zset2, zcut, zf0, zf1, zf2, zf3, List.set_cons_zero, List.set_cons_succ, List.getD_cons_zero, List.getD_cons_succ]
                  refine ze_iinc kc_68_105 rfl ?_
                  simp only [zset1, zset2, zcut, zf0, zf1, zf2, zf3, List.set_cons_zero, List.set_cons_succ, List.getD_cons_zero, List.getD_cons_succ]
                  refine ze_goto kc_68_108 ?_
                  refine ih _ (by omega) (k + 1) _ _ _ ((k : Int) + 1) _ rfl (by omega) (by omega) ?_ ?_ hU3 hf3 hz3
                  · show _ = zFn (zFb n c e ρ (N, a, b) κ) k + (if (zFb n c e ρ (N, a, b) κ) ((k : Int) + 1) = true then 1 else 0)
                    first
                      | (have hT : (zFb n c e ρ (N, a, b) κ) ((k : Int) + 1) = true := decide_eq_true ⟨g69, by omega⟩
                         rw [if_pos hT, hp])
                      | (have hT : ¬ (zFb n c e ρ (N, a, b) κ) ((k : Int) + 1) = true := fun q => by have := of_decide_eq_true q; exact g69 this.1
                         rw [if_neg hT, hp, Int.add_zero])
                      | (have hT : ¬ (zFb n c e ρ (N, a, b) κ) ((k : Int) + 1) = true := fun q => by have := (of_decide_eq_true q).2; omega
                         rw [if_neg hT, hp, Int.add_zero])
                  · show _ = (if zLe (zFb n c e ρ (N, a, b) κ) k = -5 then (if (zFb n c e ρ (N, a, b) κ) ((k : Int) + 1) = true then (k : Int) + 1 else -5) else zLe (zFb n c e ρ (N, a, b) κ) k)
                    first
                      | (have hT : (zFb n c e ρ (N, a, b) κ) ((k : Int) + 1) = true := decide_eq_true ⟨g69, by omega⟩
                         rw [if_pos hT]
                         first
                           | (rw [if_pos (by omega)])
                           | (rw [if_neg (by omega)]; exact hl))
                      | (have hT : ¬ (zFb n c e ρ (N, a, b) κ) ((k : Int) + 1) = true := fun q => by have := of_decide_eq_true q; exact g69 this.1
                         rw [if_neg hT, hl]
                         split <;> omega)
                      | (have hT : ¬ (zFb n c e ρ (N, a, b) κ) ((k : Int) + 1) = true := fun q => by have := (of_decide_eq_true q).2; omega
                         rw [if_neg hT, hl]
                         split <;> omega)
                · skip
                  refine ze_iload kc_68_93 rfl ?_
                  refine ze_goto kc_68_95 ?_
                  refine ze_istore kc_68_100 (Nat.le_of_ble_eq_true rfl) ?_
                  simp only [zset1, zset2, zcut, zf0, zf1, zf2, zf3, List.set_cons_zero, List.set_cons_succ, List.getD_cons_zero, List.getD_cons_succ]
                  refine ze_iinc kc_68_102 rfl ?_
                  simp only [zset1, zset2, zcut, zf0, zf1, zf2, zf3, List.set_cons_zero, List.set_cons_succ, List.getD_cons_zero, List.getD_cons_succ]
                  refine ze_iinc kc_68_105 rfl ?_
                  simp only [zset1, zset2, zcut, zf0, zf1, zf2, zf3, List.set_cons_zero, List.set_cons_succ, List.getD_cons_zero, List.getD_cons_succ]
                  refine ze_goto kc_68_108 ?_
                  refine ih _ (by omega) (k + 1) _ _ _ ((k : Int) + 1) _ rfl (by omega) (by omega) ?_ ?_ hU3 hf3 hz3
                  · show _ = zFn (zFb n c e ρ (N, a, b) κ) k + (if (zFb n c e ρ (N, a, b) κ) ((k : Int) + 1) = true then 1 else 0)
                    first
                      | (have hT : (zFb n c e ρ (N, a, b) κ) ((k : Int) + 1) = true := decide_eq_true ⟨g69, by omega⟩
                         rw [if_pos hT, hp])
                      | (have hT : ¬ (zFb n c e ρ (N, a, b) κ) ((k : Int) + 1) = true := fun q => by have := of_decide_eq_true q; exact g69 this.1
                         rw [if_neg hT, hp, Int.add_zero])
                      | (have hT : ¬ (zFb n c e ρ (N, a, b) κ) ((k : Int) + 1) = true := fun q => by have := (of_decide_eq_true q).2; omega
                         rw [if_neg hT, hp, Int.add_zero])
                  · show _ = (if zLe (zFb n c e ρ (N, a, b) κ) k = -5 then (if (zFb n c e ρ (N, a, b) κ) ((k : Int) + 1) = true then (k : Int) + 1 else -5) else zLe (zFb n c e ρ (N, a, b) κ) k)
                    first
                      | (have hT : (zFb n c e ρ (N, a, b) κ) ((k : Int) + 1) = true := decide_eq_true ⟨g69, by omega⟩
                         rw [if_pos hT]
                         first
                           | (rw [if_pos (by omega)])
                           | (rw [if_neg (by omega)]; exact hl))
                      | (have hT : ¬ (zFb n c e ρ (N, a, b) κ) ((k : Int) + 1) = true := fun q => by have := of_decide_eq_true q; exact g69 this.1
                         rw [if_neg hT, hl]
                         split <;> omega)
                      | (have hT : ¬ (zFb n c e ρ (N, a, b) κ) ((k : Int) + 1) = true := fun q => by have := (of_decide_eq_true q).2; omega
                         rw [if_neg hT, hl]
                         split <;> omega)
            · simp only [Option.toList_some, Option.toList_none, List.drop_succ_cons, List.drop_zero, List.cons_append, List.nil_append]
              refine ze_if_eq kc_68_72 (by decide) (fun _ => ?_) (fun q => absurd q (by decide))
              refine ze_iinc kc_68_105 rfl ?_
              simp only [zset1, zset2, zcut, zf0, zf1, zf2, zf3, List.set_cons_zero, List.set_cons_succ, List.getD_cons_zero, List.getD_cons_succ]
              refine ze_goto kc_68_108 ?_
              refine ih _ (by omega) (k + 1) _ _ _ ((k : Int) + 1) _ rfl (by omega) (by omega) ?_ ?_ hU3 hf3 hz3
              · show _ = zFn (zFb n c e ρ (N, a, b) κ) k + (if (zFb n c e ρ (N, a, b) κ) ((k : Int) + 1) = true then 1 else 0)
                first
                  | (have hT : (zFb n c e ρ (N, a, b) κ) ((k : Int) + 1) = true := decide_eq_true ⟨g69, by omega⟩
                     rw [if_pos hT, hp])
                  | (have hT : ¬ (zFb n c e ρ (N, a, b) κ) ((k : Int) + 1) = true := fun q => by have := of_decide_eq_true q; exact g69 this.1
                     rw [if_neg hT, hp, Int.add_zero])
                  | (have hT : ¬ (zFb n c e ρ (N, a, b) κ) ((k : Int) + 1) = true := fun q => by have := (of_decide_eq_true q).2; omega
                     rw [if_neg hT, hp, Int.add_zero])
              · show _ = (if zLe (zFb n c e ρ (N, a, b) κ) k = -5 then (if (zFb n c e ρ (N, a, b) κ) ((k : Int) + 1) = true then (k : Int) + 1 else -5) else zLe (zFb n c e ρ (N, a, b) κ) k)
                first
                  | (have hT : (zFb n c e ρ (N, a, b) κ) ((k : Int) + 1) = true := decide_eq_true ⟨g69, by omega⟩
                     rw [if_pos hT]
                     first
                       | (rw [if_pos (by omega)])
                       | (rw [if_neg (by omega)]; exact hl))
                  | (have hT : ¬ (zFb n c e ρ (N, a, b) κ) ((k : Int) + 1) = true := fun q => by have := of_decide_eq_true q; exact g69 this.1
                     rw [if_neg hT, hl]
                     split <;> omega)
                  | (have hT : ¬ (zFb n c e ρ (N, a, b) κ) ((k : Int) + 1) = true := fun q => by have := (of_decide_eq_true q).2; omega
                     rw [if_neg hT, hl]
                     split <;> omega)
        refine loop45 _ 0 1 0 (-5) (c κ) _ rfl (by omega) rfl rfl rfl (by rw [zupd_self]; exact f1) f2 (zG_z f1.1)
      · skip
        refine ze_iconst kc_68_23 ?_
        refine ze_ireturn kc_68_24 (Or.inl rfl) ?_
        rw [show oFits n c e ρ (N, a, b) i w = -1 from if_pos (by omega)] at q1
        exact q1 _ zFq_refl
  · simp only [Option.toList_some, Option.toList_none, List.drop_succ_cons, List.drop_zero, List.cons_append, List.nil_append]
    refine ze_if_eq kc_68_11 (by decide) (fun _ => ?_) (fun q => absurd q (by decide))
    refine ze_iconst kc_68_23 ?_
    refine ze_ireturn kc_68_24 (Or.inl rfl) ?_
    rw [show oFits n c e ρ (N, a, b) i w = -1 from if_pos (by omega)] at q1
    exact q1 _ zFq_refl

set_option maxHeartbeats 8000000 in
theorem m_fitsM {Z : zMem} {Q : Option zAV → zMem → Prop} {n : Nat} {c : Nat → Int} {e ρ : Int} (hM : zMo n c e ρ Z) {N : Nat} {a b : Nat → Int} (hW : zRwM 4 65 66 5 (N, a, b) Z) (hk0 : zRok n (N, a, b)) {i w : Int} (hi : -2147483648 ≤ i ∧ i ≤ 2147483647) (hw : -2147483648 ≤ w ∧ w ≤ 2147483647)(q1 : ∀ (Z' : zMem), zFq Z Z' → Q (some (zI (oFits n c e ρ (N, a, b) i w))) Z') : zE 153 0 (zent 153 [zR 63, zI i, zI w]) [] Z Q := by
  show zE 153 0 [some (zR 63), some (zI i), some (zI w), none, none, none, none] [] Z Q
  have hM0 := hM
  obtain ⟨n0, n6, mc, mr, me, mρ, meR, mρR⟩ := hM
  have msr := zsum_range mr
  have hp6 := zpow6 n6
  refine ze_aload_n kc_153_0 rfl ?_
  refine ze_iload_n kc_153_1 rfl ?_
  refine zE_callv 2 kc_153_2 rfl rfl (Nat.le_of_ble_eq_true rfl) (Nat.le_of_ble_eq_true rfl) (Nat.le_of_ble_eq_true rfl) rfl (by decide +kernel) rfl ?_
  refine m_isOne hM0 (by omega) (fun g2 => ?_) (fun g2 => ?_)
  · simp only [Option.toList_some, Option.toList_none, List.drop_succ_cons, List.drop_zero, List.cons_append, List.nil_append]
    refine ze_if_eq kc_153_5 (by decide) (fun q => absurd q (by decide)) (fun _ => ?_)
    refine ze_iload_n kc_153_8 rfl ?_
    refine ze_iconst kc_153_9 ?_
    refine ze_iconst kc_153_10 ?_
    refine zE_calls 3 kc_153_11 rfl rfl (Nat.le_of_ble_eq_true rfl) (Nat.le_of_ble_eq_true rfl) (Nat.le_of_ble_eq_true rfl) rfl ?_
    refine m_in (by omega) (by omega) (by omega) (fun g11 => ?_) (fun g11 => ?_)
    · simp only [Option.toList_some, Option.toList_none, List.drop_succ_cons, List.drop_zero, List.cons_append, List.nil_append]
      refine ze_if_ne kc_153_14 (by decide) (fun _ => ?_) (fun q => absurd q (by decide))
      obtain ⟨κ, rfl⟩ := Int.eq_ofNat_of_zero_le (show 0 ≤ i by omega)
      have hκ : κ < n := by omega
      refine ze_aload_n kc_153_19 rfl ?_
      refine ze_getR kc_153_20 rfl rfl rfl ?_
      refine ze_iload_n kc_153_23 rfl ?_
      refine ze_iald kc_153_24 rfl (by omega) ?_
      rw [Int.toNat_natCast, mc κ hκ]
      refine ze_istore_n kc_153_25 (Nat.le_of_ble_eq_true rfl) ?_
      simp only [zset1, zset2, zcut, zf0, zf1, zf2, zf3, List.set_cons_zero, List.set_cons_succ, List.getD_cons_zero, List.getD_cons_succ]
      refine ze_iconst kc_153_26 ?_
      refine ze_istore kc_153_27 (Nat.le_of_ble_eq_true rfl) ?_
      simp only [zset1, zset2, zcut, zf0, zf1, zf2, zf3, List.set_cons_zero, List.set_cons_succ, List.getD_cons_zero, List.getD_cons_succ]
      refine ze_bipush kc_153_29 ?_
      refine ze_istore kc_153_31 (Nat.le_of_ble_eq_true rfl) ?_
      simp only [zset1, zset2, zcut, zf0, zf1, zf2, zf3, List.set_cons_zero, List.set_cons_succ, List.getD_cons_zero, List.getD_cons_succ]
      refine ze_bipush kc_153_33 ?_
      refine ze_istore kc_153_35 (Nat.le_of_ble_eq_true rfl) ?_
      simp only [zset1, zset2, zcut, zf0, zf1, zf2, zf3, List.set_cons_zero, List.set_cons_succ, List.getD_cons_zero, List.getD_cons_succ]
      have loop37 : ∀ (μ : Nat) (k : Nat) (x p l u : Int) (Zc : zMem), k = μ → (k ≤ 30) → (x = k) → (p + zFn (zFb n c e ρ (N, a, b) κ) k = zFn (zFb n c e ρ (N, a, b) κ) 30) → (zLe (zFb n c e ρ (N, a, b) κ) 30 = if zLe (zFb n c e ρ (N, a, b) κ) k = -5 then l else zLe (zFb n c e ρ (N, a, b) κ) k) → (1 ≤ u ∧ u ≤ 60) → (zMo n (zupd c κ u) e ρ Zc) → ((∀ i, i ≠ 63 → i ≠ 64 → i ≠ 74 → Zc i = Z i) ∧ (∀ j, j ≠ 18 → j ≠ 19 → j ≠ 22 → j ≠ 23 → Zc 63 j = Z 63 j) ∧ (∀ x, x ≠ κ → Zc 64 x = Z 64 x)) → zE 153 37 [some (zR 63), some (zI (κ : Nat)), some (zI w), some (zI (c κ)), some (zI p), some (zI l), some (zI x)] [] Zc Q := by
        refine zind ?_
        intro μ ih k x p l u Zc hm hk hx hp hl hu hMt hf
        subst hx
        have hni := zFn_in (zFb n c e ρ (N, a, b) κ) k
        have hli := zLe_in (zFb n c e ρ (N, a, b) κ) k
        have hn30 := zFn_in (zFb n c e ρ (N, a, b) κ) 30
        refine ze_iload kc_153_37 rfl ?_
        refine ze_if_le kc_153_39 (by omega) (fun h39 => ?_) (fun h39 => ?_)
        · skip
          have ek : k = 0 := by omega
          subst ek
          refine ze_aload_n kc_153_77 rfl ?_
          refine ze_getR kc_153_78 rfl rfl rfl ?_
          refine ze_iload_n kc_153_81 rfl ?_
          refine ze_iload_n kc_153_82 rfl ?_
          refine ze_iast kc_153_83 rfl (by omega) ?_
          rw [Int.toNat_natCast]
          refine ze_iload_n kc_153_84 rfl ?_
          refine ze_if_ne kc_153_85 (by omega) (fun h85 => ?_) (fun h85 => ?_)
          · skip
            refine ze_iload kc_153_93 rfl ?_
            refine ze_ireturn kc_153_95 (Or.inl rfl) ?_
            have hen : p = zFn (zFb n c e ρ (N, a, b) κ) 30 := by have : zFn (zFb n c e ρ (N, a, b) κ) 0 = 0 := rfl; omega
            have hel : l = zLe (zFb n c e ρ (N, a, b) κ) 30 := by rw [hl]; rfl
            have hfq : zFq Z (zup Zc 64 κ (c κ)) := by
              refine ⟨fun i a b d e g => ?_, fun j a b d e g => ?_, fun q => ?_, fun q => ?_⟩
              · by_cases z : i = 64
                · subst z
                  funext x
                  by_cases z2 : x = κ
                  · rw [z2, zup_s]; exact (mc κ hκ).symm
                  · rw [zup_o z2]; exact hf.2.2 x z2
                · rw [zup_ne' z]; exact hf.1 i b z e
              · rw [zup_ne' (by decide)]; exact hf.2.1 j a b d e
              · rw [zup_ne' (by decide), hf.1 11 (by decide) (by decide) (by decide)]; exact q
              · rw [zup_ne' (by decide), hf.1 16 (by decide) (by decide) (by decide)]; exact q
            first
              | (rw [show oFits n c e ρ (N, a, b) κ w = zFn (zFb n c e ρ (N, a, b) κ) 30 from (if_neg (by omega)).trans (if_pos (by omega))] at q1
                 rw [hen]
                 exact q1 _ hfq)
              | (rw [show oFits n c e ρ (N, a, b) κ w = zLe (zFb n c e ρ (N, a, b) κ) 30 from (if_neg (by omega)).trans (if_neg (by omega))] at q1
                 rw [hel]
                 exact q1 _ hfq)
          · skip
            refine ze_iload kc_153_88 rfl ?_
            refine ze_goto kc_153_90 ?_
            refine ze_ireturn kc_153_95 (Or.inl rfl) ?_
            have hen : p = zFn (zFb n c e ρ (N, a, b) κ) 30 := by have : zFn (zFb n c e ρ (N, a, b) κ) 0 = 0 := rfl; omega
            have hel : l = zLe (zFb n c e ρ (N, a, b) κ) 30 := by rw [hl]; rfl
            have hfq : zFq Z (zup Zc 64 κ (c κ)) := by
              refine ⟨fun i a b d e g => ?_, fun j a b d e g => ?_, fun q => ?_, fun q => ?_⟩
              · by_cases z : i = 64
                · subst z
                  funext x
                  by_cases z2 : x = κ
                  · rw [z2, zup_s]; exact (mc κ hκ).symm
                  · rw [zup_o z2]; exact hf.2.2 x z2
                · rw [zup_ne' z]; exact hf.1 i b z e
              · rw [zup_ne' (by decide)]; exact hf.2.1 j a b d e
              · rw [zup_ne' (by decide), hf.1 11 (by decide) (by decide) (by decide)]; exact q
              · rw [zup_ne' (by decide), hf.1 16 (by decide) (by decide) (by decide)]; exact q
            first
              | (rw [show oFits n c e ρ (N, a, b) κ w = zFn (zFb n c e ρ (N, a, b) κ) 30 from (if_neg (by omega)).trans (if_pos (by omega))] at q1
                 rw [hen]
                 exact q1 _ hfq)
              | (rw [show oFits n c e ρ (N, a, b) κ w = zLe (zFb n c e ρ (N, a, b) κ) 30 from (if_neg (by omega)).trans (if_neg (by omega))] at q1
                 rw [hel]
                 exact q1 _ hfq)
        · skip
          obtain ⟨k, rfl⟩ : ∃ z, k = z + 1 := ⟨k - 1, by omega⟩
          have hM3 : zMo n (zupd c κ (((k + 1 : Nat) : Int))) e ρ (zup Zc 64 κ (((k + 1 : Nat) : Int))) := by
            rw [← zupd_zupd (u := u)]
            exact zMo_upd hMt (by omega)
          have hW3 : zRwM 4 65 66 5 (N, a, b) (zup Zc 64 κ (((k + 1 : Nat) : Int))) := zRwM_same hW (by rw [zup_ne' (by decide)]; exact hf.2.1 4 (by decide) (by decide) (by decide) (by decide)) (by rw [zup_ne' (by decide)]; exact hf.1 65 (by decide) (by decide) (by decide)) (by rw [zup_ne' (by decide)]; exact hf.1 66 (by decide) (by decide) (by decide))
          have hf3 : (∀ i, i ≠ 63 → i ≠ 64 → i ≠ 74 → zup Zc 64 κ (((k + 1 : Nat) : Int)) i = Z i) ∧ (∀ j, j ≠ 18 → j ≠ 19 → j ≠ 22 → j ≠ 23 → zup Zc 64 κ (((k + 1 : Nat) : Int)) 63 j = Z 63 j) ∧ (∀ x, x ≠ κ → zup Zc 64 κ (((k + 1 : Nat) : Int)) 64 x = Z 64 x) := ⟨fun i a b d => by rw [zup_ne' b]; exact hf.1 i a b d, fun j a b d e => by rw [zup_ne' (by decide)]; exact hf.2.1 j a b d e, fun x hx => by rw [zup_o hx]; exact hf.2.2 x hx⟩
          refine ze_aload_n kc_153_42 rfl ?_
          refine ze_getR kc_153_43 rfl rfl rfl ?_
          refine ze_iload_n kc_153_46 rfl ?_
          refine ze_iload kc_153_47 rfl ?_
          refine ze_iast kc_153_49 rfl (by omega) ?_
          rw [Int.toNat_natCast]
          refine ze_aload_n kc_153_50 rfl ?_
          refine zE_callv 1 kc_153_51 rfl rfl (Nat.le_of_ble_eq_true rfl) (Nat.le_of_ble_eq_true rfl) (Nat.le_of_ble_eq_true rfl) rfl (by decide +kernel) rfl ?_
          refine m_readyM hM3 (fun g51 => ?_) (fun g51 => ?_)
          · simp only [Option.toList_some, Option.toList_none, List.drop_succ_cons, List.drop_zero, List.cons_append, List.nil_append]
            refine ze_if_eq kc_153_54 (by decide) (fun q => absurd q (by decide)) (fun _ => ?_)
            refine ze_aload_n kc_153_57 rfl ?_
            refine zE_callv 1 kc_153_58 rfl rfl (Nat.le_of_ble_eq_true rfl) (Nat.le_of_ble_eq_true rfl) (Nat.le_of_ble_eq_true rfl) rfl (by decide +kernel) rfl ?_
            refine m_isSeen hM3 hW3 hk0 g51.2 (fun g58 Z4 f1 => ?_) (fun g58 Z4 f1 => ?_)
            · simp only [Option.toList_some, Option.toList_none, List.drop_succ_cons, List.drop_zero, List.cons_append, List.nil_append]
              refine ze_if_eq kc_153_61 (by decide) (fun q => absurd q (by decide)) (fun _ => ?_)
              refine ze_iinc kc_153_64 rfl ?_
              simp only [zset1, zset2, zcut, zf0, zf1, zf2, zf3, List.set_cons_zero, List.set_cons_succ, List.getD_cons_zero, List.getD_cons_succ]
              refine ze_iload kc_153_67 rfl ?_
              refine ze_istore kc_153_69 (Nat.le_of_ble_eq_true rfl) ?_
              simp only [zset1, zset2, zcut, zf0, zf1, zf2, zf3, List.set_cons_zero, List.set_cons_succ, List.getD_cons_zero, List.getD_cons_succ]
              refine ze_iinc kc_153_71 rfl ?_
              simp only [zset1, zset2, zcut, zf0, zf1, zf2, zf3, List.set_cons_zero, List.set_cons_succ, List.getD_cons_zero, List.getD_cons_succ]
              refine ze_goto kc_153_74 ?_
              refine ih _ (by omega) k _ _ _ (((k + 1 : Nat) : Int)) _ rfl (by omega) (by omega) ?_ ?_ (by omega) (by first | exact zMo_fm hM3 f1 | exact hM3) (by first | exact ⟨fun i a b d => (f1.1 i a d).trans (hf3.1 i a b d), fun j a b d e => (f1.2 j a b d e).trans (hf3.2.1 j a b d e), fun x hx => by rw [f1.1 64 (by decide) (by decide)]; exact hf3.2.2 x hx⟩ | exact hf3)
              · rw [← hp]
                show _ = p + (zFn (zFb n c e ρ (N, a, b) κ) k + (if (zFb n c e ρ (N, a, b) κ) ((k : Int) + 1) = true then 1 else 0))
                first
                  | (have hT : (zFb n c e ρ (N, a, b) κ) ((k : Int) + 1) = true := decide_eq_true ⟨g51, g58⟩
                     rw [if_pos hT]; omega)
                  | (have hT : ¬ (zFb n c e ρ (N, a, b) κ) ((k : Int) + 1) = true := fun q => by have := of_decide_eq_true q; exact g51 this.1
                     rw [if_neg hT]; omega)
                  | (have hT : ¬ (zFb n c e ρ (N, a, b) κ) ((k : Int) + 1) = true := fun q => by have := (of_decide_eq_true q).2; exact g58 this
                     rw [if_neg hT]; omega)
              · rw [hl]
                have hlk : zLe (zFb n c e ρ (N, a, b) κ) (k + 1) = (if zLe (zFb n c e ρ (N, a, b) κ) k = -5 then (if (zFb n c e ρ (N, a, b) κ) ((k : Int) + 1) = true then (k : Int) + 1 else -5) else zLe (zFb n c e ρ (N, a, b) κ) k) := rfl
                rw [hlk]
                first
                  | (have hT : (zFb n c e ρ (N, a, b) κ) ((k : Int) + 1) = true := decide_eq_true ⟨g51, g58⟩
                     rw [if_pos hT]
                     by_cases z : zLe (zFb n c e ρ (N, a, b) κ) k = -5
                     · rw [if_pos z, if_pos z, if_neg (by omega)]; omega
                     · simp only [if_neg z])
                  | (have hT : ¬ (zFb n c e ρ (N, a, b) κ) ((k : Int) + 1) = true := fun q => by have := of_decide_eq_true q; exact g51 this.1
                     rw [if_neg hT]
                     by_cases z : zLe (zFb n c e ρ (N, a, b) κ) k = -5
                     · rw [if_pos z, if_pos z, if_pos rfl]
                     · simp only [if_neg z])
                  | (have hT : ¬ (zFb n c e ρ (N, a, b) κ) ((k : Int) + 1) = true := fun q => by have := (of_decide_eq_true q).2; exact g58 this
                     rw [if_neg hT]
                     by_cases z : zLe (zFb n c e ρ (N, a, b) κ) k = -5
                     · rw [if_pos z, if_pos z, if_pos rfl]
                     · simp only [if_neg z])
            · simp only [Option.toList_some, Option.toList_none, List.drop_succ_cons, List.drop_zero, List.cons_append, List.nil_append]
              refine ze_if_eq kc_153_61 (by decide) (fun _ => ?_) (fun q => absurd q (by decide))
              refine ze_iinc kc_153_71 rfl ?_
              simp only [zset1, zset2, zcut, zf0, zf1, zf2, zf3, List.set_cons_zero, List.set_cons_succ, List.getD_cons_zero, List.getD_cons_succ]
              refine ze_goto kc_153_74 ?_
              refine ih _ (by omega) k _ _ _ (((k + 1 : Nat) : Int)) _ rfl (by omega) (by omega) ?_ ?_ (by omega) (by first | exact zMo_fm hM3 f1 | exact hM3) (by first | exact ⟨fun i a b d => (f1.1 i a d).trans (hf3.1 i a b d), fun j a b d e => (f1.2 j a b d e).trans (hf3.2.1 j a b d e), fun x hx => by rw [f1.1 64 (by decide) (by decide)]; exact hf3.2.2 x hx⟩ | exact hf3)
              · rw [← hp]
                show _ = p + (zFn (zFb n c e ρ (N, a, b) κ) k + (if (zFb n c e ρ (N, a, b) κ) ((k : Int) + 1) = true then 1 else 0))
                first
                  | (have hT : (zFb n c e ρ (N, a, b) κ) ((k : Int) + 1) = true := decide_eq_true ⟨g51, g58⟩
                     rw [if_pos hT]; omega)
                  | (have hT : ¬ (zFb n c e ρ (N, a, b) κ) ((k : Int) + 1) = true := fun q => by have := of_decide_eq_true q; exact g51 this.1
                     rw [if_neg hT]; omega)
                  | (have hT : ¬ (zFb n c e ρ (N, a, b) κ) ((k : Int) + 1) = true := fun q => by have := (of_decide_eq_true q).2; exact g58 this
                     rw [if_neg hT]; omega)
              · rw [hl]
                have hlk : zLe (zFb n c e ρ (N, a, b) κ) (k + 1) = (if zLe (zFb n c e ρ (N, a, b) κ) k = -5 then (if (zFb n c e ρ (N, a, b) κ) ((k : Int) + 1) = true then (k : Int) + 1 else -5) else zLe (zFb n c e ρ (N, a, b) κ) k) := rfl
                rw [hlk]
                first
                  | (have hT : (zFb n c e ρ (N, a, b) κ) ((k : Int) + 1) = true := decide_eq_true ⟨g51, g58⟩
                     rw [if_pos hT]
                     by_cases z : zLe (zFb n c e ρ (N, a, b) κ) k = -5
                     · rw [if_pos z, if_pos z, if_neg (by omega)]; omega
                     · simp only [if_neg z])
                  | (have hT : ¬ (zFb n c e ρ (N, a, b) κ) ((k : Int) + 1) = true := fun q => by have := of_decide_eq_true q; exact g51 this.1
                     rw [if_neg hT]
                     by_cases z : zLe (zFb n c e ρ (N, a, b) κ) k = -5
                     · rw [if_pos z, if_pos z, if_pos rfl]
                     · simp only [if_neg z])
                  | (have hT : ¬ (zFb n c e ρ (N, a, b) κ) ((k : Int) + 1) = true := fun q => by have := (of_decide_eq_true q).2; exact g58 this
                     rw [if_neg hT]
                     by_cases z : zLe (zFb n c e ρ (N, a, b) κ) k = -5
                     · rw [if_pos z, if_pos z, if_pos rfl]
                     · simp only [if_neg z])
          · simp only [Option.toList_some, Option.toList_none, List.drop_succ_cons, List.drop_zero, List.cons_append, List.nil_append]
            refine ze_if_eq kc_153_54 (by decide) (fun _ => ?_) (fun q => absurd q (by decide))
            refine ze_iinc kc_153_71 rfl ?_
            simp only [zset1, zset2, zcut, zf0, zf1, zf2, zf3, List.set_cons_zero, List.set_cons_succ, List.getD_cons_zero, List.getD_cons_succ]
            refine ze_goto kc_153_74 ?_
            refine ih _ (by omega) k _ _ _ (((k + 1 : Nat) : Int)) _ rfl (by omega) (by omega) ?_ ?_ (by omega) (by first | exact zMo_fm hM3 f1 | exact hM3) (by first | exact ⟨fun i a b d => (f1.1 i a d).trans (hf3.1 i a b d), fun j a b d e => (f1.2 j a b d e).trans (hf3.2.1 j a b d e), fun x hx => by rw [f1.1 64 (by decide) (by decide)]; exact hf3.2.2 x hx⟩ | exact hf3)
            · rw [← hp]
              show _ = p + (zFn (zFb n c e ρ (N, a, b) κ) k + (if (zFb n c e ρ (N, a, b) κ) ((k : Int) + 1) = true then 1 else 0))
              first
                | (have hT : (zFb n c e ρ (N, a, b) κ) ((k : Int) + 1) = true := decide_eq_true ⟨g51, g58⟩
                   rw [if_pos hT]; omega)
                | (have hT : ¬ (zFb n c e ρ (N, a, b) κ) ((k : Int) + 1) = true := fun q => by have := of_decide_eq_true q; exact g51 this.1
                   rw [if_neg hT]; omega)
                | (have hT : ¬ (zFb n c e ρ (N, a, b) κ) ((k : Int) + 1) = true := fun q => by have := (of_decide_eq_true q).2; exact g58 this
                   rw [if_neg hT]; omega)
            · rw [hl]
              have hlk : zLe (zFb n c e ρ (N, a, b) κ) (k + 1) = (if zLe (zFb n c e ρ (N, a, b) κ) k = -5 then (if (zFb n c e ρ (N, a, b) κ) ((k : Int) + 1) = true then (k : Int) + 1 else -5) else zLe (zFb n c e ρ (N, a, b) κ) k) := rfl
              rw [hlk]
              first
                | (have hT : (zFb n c e ρ (N, a, b) κ) ((k : Int) + 1) = true := decide_eq_true ⟨g51, g58⟩
                   rw [if_pos hT]
                   by_cases z : zLe (zFb n c e ρ (N, a, b) κ) k = -5
                   · rw [if_pos z, if_pos z, if_neg (by omega)]; omega
                   · simp only [if_neg z])
                | (have hT : ¬ (zFb n c e ρ (N, a, b) κ) ((k : Int) + 1) = true := fun q => by have := of_decide_eq_true q; exact g51 this.1
                   rw [if_neg hT]
                   by_cases z : zLe (zFb n c e ρ (N, a, b) κ) k = -5
                   · rw [if_pos z, if_pos z, if_pos rfl]
                   · simp only [if_neg z])
                | (have hT : ¬ (zFb n c e ρ (N, a, b) κ) ((k : Int) + 1) = true := fun q => by have := (of_decide_eq_true q).2; exact g58 this
                   rw [if_neg hT]
                   by_cases z : zLe (zFb n c e ρ (N, a, b) κ) k = -5
                   · rw [if_pos z, if_pos z, if_pos rfl]
                   · simp only [if_neg z])
      refine loop37 _ 30 30 0 (-5) (c κ) _ rfl (by omega) rfl (by omega) (by split <;> omega) (mr κ hκ) (by rw [zupd_self]; exact hM0) ⟨fun _ _ _ _ => rfl, fun _ _ _ _ _ => rfl, fun _ _ => rfl⟩
    · simp only [Option.toList_some, Option.toList_none, List.drop_succ_cons, List.drop_zero, List.cons_append, List.nil_append]
      refine ze_if_ne kc_153_14 (by decide) (fun q => absurd q (by decide)) (fun _ => ?_)
      refine ze_iconst kc_153_17 ?_
      refine ze_ireturn kc_153_18 (Or.inl rfl) ?_
      rw [show oFits n c e ρ (N, a, b) i w = -1 from if_pos (by omega)] at q1
      exact q1 _ zFq_refl
  · simp only [Option.toList_some, Option.toList_none, List.drop_succ_cons, List.drop_zero, List.cons_append, List.nil_append]
    refine ze_if_eq kc_153_5 (by decide) (fun _ => ?_) (fun q => absurd q (by decide))
    refine ze_iconst kc_153_17 ?_
    refine ze_ireturn kc_153_18 (Or.inl rfl) ?_
    rw [show oFits n c e ρ (N, a, b) i w = -1 from if_pos (by omega)] at q1
    exact q1 _ zFq_refl
