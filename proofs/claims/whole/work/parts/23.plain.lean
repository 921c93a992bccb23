/-! THE PLAIN FORM -/
def zMo (n : Nat) (c : Nat → Int) (e ρ : Int) (Z : zMem) : Prop := Z 63 0 = n ∧ n ≤ 6 ∧ (∀ i, i < n → Z 64 i = c i) ∧ (∀ i, i < n → 1 ≤ c i ∧ c i ≤ 60) ∧ Z 63 2 = e ∧ Z 63 3 = ρ ∧ (0 ≤ e ∧ e ≤ 360) ∧ (0 ≤ ρ ∧ ρ ≤ 5)
/-- of the plain form only what awards write has changed -/
def zFm (Z Z' : zMem) : Prop := (∀ k, k ≠ 63 → k ≠ 74 → Z' k = Z k) ∧ (∀ j, j ≠ 18 → j ≠ 19 → j ≠ 22 → j ≠ 23 → Z' 63 j = Z 63 j)
theorem zFm_refl {Z : zMem} : zFm Z Z := ⟨fun _ _ _ => rfl, fun _ _ _ _ _ => rfl⟩
theorem zFm_trans {Z Z' Z'' : zMem} (h : zFm Z Z') (h' : zFm Z' Z'') : zFm Z Z'' := ⟨fun k a b => (h'.1 k a b).trans (h.1 k a b), fun j a b c d => (h'.2 j a b c d).trans (h.2 j a b c d)⟩
theorem zFm_up {Z Z' : zMem} {j : Nat} {v : Int} (h : zFm Z Z') (hj : j = 18 ∨ j = 19 ∨ j = 22 ∨ j = 23) : zFm Z (zup Z' 63 j v) := ⟨fun k a b => by rw [zup_ne' a]; exact h.1 k a b, fun i a b c d => by rw [zup_o (by omega)]; exact h.2 i a b c d⟩
theorem zFm_full {Z Z' : zMem} {j : Nat} {v : Int} (h : zFm Z Z') : zFm Z (zup Z' 74 j v) := ⟨fun k a b => by rw [zup_ne' b]; exact h.1 k a b, fun i a b c d => by rw [zup_ne' (by decide)]; exact h.2 i a b c d⟩
theorem zMo_fm {n : Nat} {c : Nat → Int} {e ρ : Int} {Z Z' : zMem} (h : zMo n c e ρ Z) (hf : zFm Z Z') : zMo n c e ρ Z' := by
  unfold zMo at h ⊢
  rw [hf.1 64 (by decide) (by decide), hf.2 0 (by decide) (by decide) (by decide) (by decide), hf.2 2 (by decide) (by decide) (by decide) (by decide), hf.2 3 (by decide) (by decide) (by decide) (by decide)]
  exact h
theorem zsub_upd {n S p : Nat} {f g : Nat → Int} (hp : p < n) (hS : S.testBit p = true) (h : ∀ k, k < n → k ≠ p → g k = f k) : zsub n g S = zsub n f S + (g p - f p) := by
  unfold zsub
  induction n with
  | zero => omega
  | succ n ih =>
    rw [zsum_succ, zsum_succ]
    by_cases q : p = n
    · subst q
      rw [zsum_congr (g := fun i => if S.testBit i = true then f i else 0) (fun i hi => by rw [h i (by omega) (by omega)]), if_pos hS, if_pos hS]
      omega
    · rw [ih (by omega) (fun k a b => h k (by omega) b), h n (by omega) (by omega)]
      omega
theorem zsub_congr {n S : Nat} {f g : Nat → Int} (h : ∀ k, k < n → S.testBit k = true → f k = g k) : zsub n f S = zsub n g S := zsum_congr (fun i hi => by
  by_cases q : S.testBit i = true
  · rw [if_pos q, if_pos q]; exact h i hi q
  · rw [if_neg q, if_neg q])
theorem zsub_add (n S : Nat) (f g : Nat → Int) : zsub n (fun k => f k + g k) S = zsub n f S + zsub n g S := by
  unfold zsub
  rw [← zsum_add]
  exact zsum_congr (fun i _ => by split <;> rfl)
theorem zsub_mul (n S : Nat) (f : Nat → Int) (x : Int) : zsub n (fun k => f k * x) S = zsub n f S * x := by
  unfold zsub
  rw [← zsum_mul]
  exact zsum_congr (fun i _ => by split <;> simp)
theorem zsub_zero {n S : Nat} {f : Nat → Int} (h : ∀ k, k < n → S.testBit k = true → f k = 0) : zsub n f S = 0 := by
  have e : zsub n f S = zsum n (fun _ => 0) := zsum_congr (fun i hi => by
    by_cases q : S.testBit i = true
    · rw [if_pos q]; exact h i hi q
    · rw [if_neg q])
  rw [e, zsum_const, Int.mul_zero]
theorem zsub_le {n S : Nat} {f g : Nat → Int} (h : ∀ k, k < n → S.testBit k = true → f k ≤ g k) : zsub n f S ≤ zsub n g S := zsum_le (fun i hi => by
  by_cases q : S.testBit i = true
  · rw [if_pos q, if_pos q]; exact h i hi q
  · rw [if_neg q, if_neg q]; exact Int.le_refl _)
theorem zsub_one {n S p : Nat} {f : Nat → Int} (hp : p < n) (hS : S.testBit p = true) (h : ∀ k, k < n → S.testBit k = true → 0 ≤ f k) : f p ≤ zsub n f S := by
  have e := zsub_upd (n := n) (S := S) (p := p) (f := fun k => if k = p then 0 else f k) (g := f) hp hS (fun k a b => (if_neg b).symm)
  rw [e, if_pos rfl]
  have := zsub_le (n := n) (S := S) (f := fun _ => 0) (g := fun k => if k = p then 0 else f k) (fun k a b => by have := h k a b; split <;> omega)
  rw [zsub_zero (fun _ _ _ => rfl)] at this
  omega
theorem zpc_sub : ∀ n, n < 7 → ∀ S, S < 2 ^ n → ((zpc S : Nat) : Int) = zsub n (fun _ => 1) S := by decide +kernel
theorem zmask_b : ∀ A, A < 64 → ∀ S, S < 64 → ((Int32.ofInt ((A : Nat) : Int) &&& Int32.ofInt (Int32.ofInt ((S : Nat) : Int) ^^^ Int32.ofInt (-1)).toInt).toInt = 0 ↔ A &&& S = A) := by decide +kernel
theorem zmask_in (A S : Nat) : -2147483648 ≤ (Int32.ofInt (A : Int) &&& Int32.ofInt (Int32.ofInt (S : Int) ^^^ Int32.ofInt (-1)).toInt).toInt ∧ (Int32.ofInt (A : Int) &&& Int32.ofInt (Int32.ofInt (S : Int) ^^^ Int32.ofInt (-1)).toInt).toInt ≤ 2147483647 := z32_in' _
theorem zfac_s : ∀ k, k < 7 → 1 ≤ k → zfac k = zfac (k - 1) * k := by decide +kernel
def zLsp (n S : Nat) (c : Nat → Int) (Z : zMem) (r : Int) : Prop := (r = -1 ∧ ∀ k, k < n → S.testBit k = true → ¬ Z 74 k = 0) ∨ ∃ p : Nat, p < n ∧ r = p ∧ S.testBit p = true ∧ Z 74 p = 0 ∧ ∀ k, k < n → S.testBit k = true → Z 74 k = 0 → c p ≤ c k
/-- the members of a set, counted out -/
def zEn (n S m : Nat) (σ : Nat → Nat) (c : Nat → Int) (i i' : Nat) : Prop :=
  S < 2 ^ n ∧ m = zpc S ∧ m ≤ 6 ∧ i' < m ∧ σ i' = i ∧ i < n ∧ S.testBit i = true ∧ (∀ k, k < m → σ k < n) ∧ (∀ f : Nat → Int, zsub n f S = zsum m (fun k => f (σ k))) ∧
  (∀ g : Nat → Int → Int, zsum (2 ^ n) (fun A => if A &&& S = A ∧ A.testBit i = false then g (zpc A) (zsub n c A) else 0) = zsum (2 ^ m) (fun B => if B.testBit i' = false then g (zpc B) (zsub m (fun k => c (σ k)) B) else 0))
theorem zbit_full : ∀ n, n < 7 → ∀ A, A < 2 ^ n → A &&& (2 ^ n - 1) = A := by decide +kernel
theorem zpc_full : ∀ n, n < 7 → zpc (2 ^ n - 1) = n := by decide +kernel
theorem zEn_all {n i : Nat} {c : Nat → Int} (hn : n ≤ 6) (hi : i < n) : zEn n (2 ^ n - 1) n (fun k => k) c i i := by
  have hp := zpow6 hn
  refine ⟨by omega, (zpc_full n (by omega)).symm, hn, hi, rfl, hi, ?_, fun k hk => hk, fun f => zsub_full f, fun g => ?_⟩
  · rw [Nat.testBit_two_pow_sub_one]
    exact decide_eq_true hi
  · refine zsum_congr (fun A hA => ?_)
    rw [zbit_full n (by omega) A hA]
    by_cases q : A.testBit i = false
    · rw [if_pos ⟨rfl, q⟩, if_pos q]
    · rw [if_neg (fun h => q h.2), if_neg q]
theorem zsum_two {N b : Nat} {h : Nat → Int} (hb : 0 < b) (hN : b < N) : zsum N (fun A => if A = 0 ∨ A = b then h A else 0) = h 0 + h b := by
  induction N with
  | zero => omega
  | succ N ih =>
    rw [zsum_succ]
    by_cases q : b = N
    · subst q
      rw [if_pos (Or.inr rfl)]
      have e : ∀ M, 1 ≤ M → M ≤ b → zsum M (fun A => if A = 0 ∨ A = b then h A else 0) = h 0 := by
        intro M
        induction M with
        | zero => intro a; omega
        | succ M ih2 =>
          intro _ hM
          rw [zsum_succ]
          by_cases q2 : M = 0
          · subst q2
            rw [if_pos (Or.inl rfl)]
            show 0 + h 0 = h 0
            omega
          · rw [ih2 (by omega) (by omega), if_neg (by omega), Int.add_zero]
      rw [e b hb (Nat.le_refl _)]
    · rw [ih (by omega), if_neg (by omega), Int.add_zero]
theorem zpair_1 : ∀ n, n < 7 → ∀ i, i < n → ∀ j, j < n → i ≠ j → 2 ^ i ||| 2 ^ j < 2 ^ n := by decide +kernel
theorem zpair_2 : ∀ n, n < 7 → ∀ i, i < n → ∀ j, j < n → i ≠ j → zpc (2 ^ i ||| 2 ^ j) = 2 := by decide +kernel
theorem zpair_3 : ∀ n, n < 7 → ∀ i, i < n → ∀ j, j < n → ∀ k, k < n → (2 ^ i ||| 2 ^ j).testBit k = decide (k = i ∨ k = j) := by decide +kernel
theorem zpair_4 : ∀ n, n < 7 → ∀ i, i < n → ∀ j, j < n → i ≠ j → ∀ A, A < 2 ^ n → (decide (A &&& (2 ^ i ||| 2 ^ j) = A) && !A.testBit i) = decide (A = 0 ∨ A = 2 ^ j) := by decide +kernel
theorem zpow_b : ∀ n, n < 7 → ∀ j, j < n → 0 < 2 ^ j ∧ 2 ^ j < 2 ^ n ∧ zpc (2 ^ j) = 1 ∧ zpc 0 = 0 ∧ ∀ k, k < n → (2 ^ j).testBit k = decide (k = j) := by decide +kernel
theorem zsum_pick {n j : Nat} {f : Nat → Int} (hj : j < n) : zsum n (fun k => if k = j then f k else 0) = f j := by
  induction n with
  | zero => omega
  | succ n ih =>
    rw [zsum_succ]
    by_cases q : j = n
    · subst q
      rw [if_pos rfl, zsum_congr (g := fun _ => 0) (fun i hi => if_neg (by omega)), zsum_const]
      omega
    · rw [ih (by omega), if_neg (by omega), Int.add_zero]
def zpr (i j : Nat) (k : Nat) : Nat := if k = 0 then i else j
theorem zEn_pair {n i j : Nat} {c : Nat → Int} (hn : n ≤ 6) (hi : i < n) (hj : j < n) (hij : i ≠ j) : zEn n (2 ^ i ||| 2 ^ j) 2 (zpr i j) c i 0 := by
  have h1 := zpair_1 n (by omega) i hi j hj hij
  have h2 := zpair_2 n (by omega) i hi j hj hij
  have h4 := zpair_3 n (by omega) i hi j hj
  have h3 : (2 ^ i ||| 2 ^ j).testBit i = true := by rw [h4 i hi]; exact decide_eq_true (Or.inl rfl)
  have h5 : ∀ A, A < 2 ^ n → ((A &&& (2 ^ i ||| 2 ^ j) = A ∧ A.testBit i = false) ↔ (A = 0 ∨ A = 2 ^ j)) := by
    intro A hA
    have := zpair_4 n (by omega) i hi j hj hij A hA
    by_cases a : A &&& (2 ^ i ||| 2 ^ j) = A
    · by_cases b : A.testBit i = false
      · rw [decide_eq_true a, b] at this
        exact ⟨fun _ => of_decide_eq_true this.symm, fun _ => ⟨a, b⟩⟩
      · have b2 : A.testBit i = true := by simpa using b
        rw [decide_eq_true a, b2] at this
        exact ⟨fun h => absurd h.2 b, fun h => absurd h (of_decide_eq_false this.symm)⟩
    · rw [decide_eq_false a, Bool.false_and] at this
      exact ⟨fun h => absurd h.1 a, fun h => absurd h (of_decide_eq_false this.symm)⟩
  obtain ⟨p1, p2, p3, p4, p5⟩ := zpow_b n (by omega) j hj
  refine ⟨h1, h2.symm, by decide, by decide, rfl, hi, h3, fun k _ => by unfold zpr; split <;> omega, fun f => ?_, fun g => ?_⟩
  · unfold zsub
    have e : zsum n (fun k => if (2 ^ i ||| 2 ^ j).testBit k = true then f k else 0) = zsum n (fun k => (if k = i then f k else 0) + (if k = j then f k else 0)) := zsum_congr (fun k hk => by
      rw [h4 k hk]
      by_cases a : k = i
      · rw [if_pos (decide_eq_true (Or.inl a)), if_pos a, if_neg (by omega), Int.add_zero]
      · by_cases b : k = j
        · rw [if_pos (decide_eq_true (Or.inr b)), if_neg a, if_pos b, Int.zero_add]
        · rw [if_neg (by rw [decide_eq_true_iff]; omega), if_neg a, if_neg b, Int.add_zero])
    rw [e, zsum_add, zsum_pick hi, zsum_pick hj]
    show f i + f j = 0 + f i + f j
    omega
  · have e : zsum (2 ^ n) (fun A => if A &&& (2 ^ i ||| 2 ^ j) = A ∧ A.testBit i = false then g (zpc A) (zsub n c A) else 0) = zsum (2 ^ n) (fun A => if A = 0 ∨ A = 2 ^ j then g (zpc A) (zsub n c A) else 0) := zsum_congr (fun A hA => by
      by_cases q : A = 0 ∨ A = 2 ^ j
      · rw [if_pos q, if_pos ((h5 A hA).mpr q)]
      · rw [if_neg q, if_neg (fun h => q ((h5 A hA).mp h))])
    have z0 : zsub n c 0 = 0 := zsub_zero (fun k _ hk => by rw [Nat.zero_testBit] at hk; exact absurd hk (by decide))
    have z1 : zsub n c (2 ^ j) = c j := by
      unfold zsub
      have : zsum n (fun k => if (2 ^ j).testBit k = true then c k else 0) = zsum n (fun k => if k = j then c k else 0) := zsum_congr (fun k hk => by
        rw [p5 k hk]
        by_cases b : k = j
        · rw [if_pos (decide_eq_true b), if_pos b]
        · rw [if_neg (by rw [decide_eq_true_iff]; exact b), if_neg b])
      rw [this, zsum_pick hj]
    rw [e, zsum_two (h := fun A => g (zpc A) (zsub n c A)) p1 p2]
    skip
    rw [z0, z1, p3, p4]
    have w0 : zsub 2 (fun k => c (zpr i j k)) 0 = 0 := rfl
    have w2 : zsub 2 (fun k => c (zpr i j k)) 2 = c j := by show 0 + 0 + c j = c j; omega
    show g 0 0 + g 1 (c j) = 0 + g (zpc 0) (zsub 2 (fun k => c (zpr i j k)) 0) + 0 + g (zpc 2) (zsub 2 (fun k => c (zpr i j k)) 2) + 0
    rw [w0, w2, show zpc 0 = 0 from rfl, show zpc 2 = 1 from rfl]
    omega
