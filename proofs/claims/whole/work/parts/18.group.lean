/-! SUMS, AND WHAT A GROUP HOLDS -/
def zsum : Nat → (Nat → Int) → Int
  | 0, _ => 0
  | n + 1, f => zsum n f + f n
theorem zsum_succ (n : Nat) (f : Nat → Int) : zsum (n + 1) f = zsum n f + f n := rfl
theorem zsum_congr {n : Nat} {f g : Nat → Int} (h : ∀ i, i < n → f i = g i) : zsum n f = zsum n g := by
  induction n with
  | zero => rfl
  | succ n ih =>
    unfold zsum
    rw [ih (fun i hi => h i (by omega)), h n (by omega)]
theorem zsum_le {n : Nat} {f g : Nat → Int} (h : ∀ i, i < n → f i ≤ g i) : zsum n f ≤ zsum n g := by
  induction n with
  | zero => exact Int.le_refl _
  | succ n ih =>
    unfold zsum
    have h1 := ih (fun i hi => h i (by omega))
    have h2 := h n (by omega)
    omega
theorem zsum_const (n : Nat) (c : Int) : zsum n (fun _ => c) = n * c := by
  induction n with
  | zero => simp [zsum]
  | succ n ih =>
    unfold zsum
    rw [ih, Int.natCast_succ, Int.add_mul, Int.one_mul]
theorem zsum_lo {n : Nat} {f : Nat → Int} {c : Int} (h : ∀ i, i < n → c ≤ f i) : n * c ≤ zsum n f := by
  rw [← zsum_const]
  exact zsum_le h
theorem zsum_hi {n : Nat} {f : Nat → Int} {c : Int} (h : ∀ i, i < n → f i ≤ c) : zsum n f ≤ n * c := by
  rw [← zsum_const]
  exact zsum_le h
theorem zsum_mul (n : Nat) (f : Nat → Int) (c : Int) : zsum n (fun i => f i * c) = zsum n f * c := by
  induction n with
  | zero => simp [zsum]
  | succ n ih =>
    unfold zsum
    rw [ih, Int.add_mul]
theorem zsum_add (n : Nat) (f g : Nat → Int) : zsum n (fun i => f i + g i) = zsum n f + zsum n g := by
  induction n with
  | zero => rfl
  | succ n ih =>
    rw [zsum_succ, zsum_succ, zsum_succ, ih]
    omega
/-- a number put in at a place -/
theorem zsum_ins {n p : Nat} (f : Nat → Int) (x : Int) (hp : p ≤ n) : zsum (n + 1) (fun j => if j < p then f j else if j = p then x else f (j - 1)) = zsum n f + x := by
  induction n with
  | zero =>
    have e : p = 0 := by omega
    subst e
    simp [zsum]
  | succ n ih =>
    by_cases h : p = n + 1
    · subst h
      have e : zsum (n + 1) (fun j => if j < n + 1 then f j else if j = n + 1 then x else f (j - 1)) = zsum (n + 1) f := zsum_congr (fun i hi => if_pos hi)
      rw [zsum_succ (n + 1), e]
      rw [if_neg (by omega), if_pos rfl]
    · rw [zsum_succ (n + 1), ih (by omega), zsum_succ n f]
      rw [if_neg (by omega), if_neg (by omega), Nat.add_sub_cancel]
      omega
/-- the numbers of a set -/
def zsub (n : Nat) (c : Nat → Int) (S : Nat) : Int := zsum n (fun i => if S.testBit i = true then c i else 0)
def zext (c : Nat → Int) (n : Nat) (v : Int) : Nat → Int := fun i => if i = n then v else c i
theorem zext_lt {c : Nat → Int} {n i : Nat} {v : Int} (h : i < n) : zext c n v i = c i := if_neg (by omega)
theorem zsub_full {n : Nat} (c : Nat → Int) : zsub n c (2 ^ n - 1) = zsum n c := by
  unfold zsub
  refine zsum_congr (fun i hi => ?_)
  rw [Nat.testBit_two_pow_sub_one, decide_eq_true hi, if_pos rfl]
theorem zsub_lo {n S : Nat} {c : Nat → Int} {v : Int} (h : S < 2 ^ n) : zsub (n + 1) (zext c n v) S = zsub n c S := by
  unfold zsub
  rw [zsum_succ]
  rw [Nat.testBit_lt_two_pow h, if_neg (by decide), Int.add_zero]
  exact zsum_congr (fun i hi => by rw [zext_lt hi])
theorem zsub_hi {n S : Nat} {c : Nat → Int} {v : Int} (h : S < 2 ^ n) : zsub (n + 1) (zext c n v) (2 ^ n + S) = zsub n c S + v := by
  unfold zsub
  rw [zsum_succ]
  rw [Nat.testBit_two_pow_add_eq, Nat.testBit_lt_two_pow h]
  rw [if_pos (by rfl), show zext c n v n = v from if_pos rfl]
  refine congrArg (· + v) (zsum_congr (fun i hi => ?_))
  rw [Nat.testBit_two_pow_add_gt hi, zext_lt hi]
theorem zsub_range {n S : Nat} {c : Nat → Int} (h : ∀ i, i < n → 1 ≤ c i ∧ c i ≤ 60) : 0 ≤ zsub n c S ∧ zsub n c S ≤ zsum n c := by
  unfold zsub
  constructor
  · have := zsum_lo (n := n) (f := fun i => if S.testBit i = true then c i else 0) (c := 0) (fun i hi => by have := h i hi; split <;> omega)
    omega
  · exact zsum_le (fun i hi => by have := h i hi; split <;> omega)
theorem zsum_range {n : Nat} {c : Nat → Int} (h : ∀ i, i < n → 1 ≤ c i ∧ c i ≤ 60) : (n : Int) ≤ zsum n c ∧ zsum n c ≤ 60 * n := by
  have h1 := zsum_lo (n := n) (f := c) (c := 1) (fun i hi => (h i hi).1)
  have h2 := zsum_hi (n := n) (f := c) (c := 60) (fun i hi => (h i hi).2)
  omega
/-- a group at g: its facts in the layout -/
def zgF (g : Nat) : Prop := zTT[g]? = some (0, 0) ∧ zTT[g + 1]? = some (10, 6) ∧ zTT[g + 2]? = some (10, 6) ∧ zTT[g + 3]? = some (10, 64) ∧ zrd zRR g 0 = some (g + 1) ∧ zrd zRR g 1 = some (g + 2) ∧ zrd zRR g 2 = some (g + 3)
theorem zgF_2 : zgF 2 := ⟨rfl, rfl, rfl, rfl, rfl, rfl, rfl⟩
theorem zgF_8 : zgF 8 := ⟨rfl, rfl, rfl, rfl, rfl, rfl, rfl⟩
theorem zgF_13 : zgF 13 := ⟨rfl, rfl, rfl, rfl, rfl, rfl, rfl⟩
theorem zgF_37 : zgF 37 := ⟨rfl, rfl, rfl, rfl, rfl, rfl, rfl⟩
/-- what a group of n claims c holds -/
def zG (g n : Nat) (c : Nat → Int) (Z : zMem) : Prop :=
  n ≤ 6 ∧ Z g 3 = n ∧ (∀ i, i < n → Z (g + 1) i = c i) ∧ (∀ i, i < n → 1 ≤ c i ∧ c i ≤ 60) ∧ (∀ i j, i ≤ j → j < n → Z (g + 2) i ≤ Z (g + 2) j) ∧ (∀ i, i < n → 1 ≤ Z (g + 2) i ∧ Z (g + 2) i ≤ 60) ∧
  (∀ φ : Int → Int, zsum n (fun i => φ (Z (g + 2) i)) = zsum n (fun i => φ (c i))) ∧ (∀ S, S < 2 ^ n → Z (g + 3) S = zsub n c S)
theorem zG_congr {g n : Nat} {c c' : Nat → Int} {Z : zMem} (h : zG g n c Z) (hc : ∀ i, i < n → c i = c' i) : zG g n c' Z := by
  obtain ⟨h1, h2, h3, h4, h5, h6, h7, h8⟩ := h
  refine ⟨h1, h2, fun i hi => (h3 i hi).trans (hc i hi), fun i hi => by rw [← hc i hi]; exact h4 i hi, h5, h6, fun φ => (h7 φ).trans (zsum_congr (fun i hi => by rw [hc i hi])), fun S hS => (h8 S hS).trans (zsum_congr (fun i hi => by rw [hc i hi]))⟩
theorem zG_same {g n : Nat} {c : Nat → Int} {Z Z' : zMem} (h : zG g n c Z) (he : ∀ k, g ≤ k → k ≤ g + 3 → Z' k = Z k) : zG g n c Z' := by
  obtain ⟨h1, h2, h3, h4, h5, h6, h7, h8⟩ := h
  unfold zG
  rw [he g (by omega) (by omega), he (g + 1) (by omega) (by omega), he (g + 2) (by omega) (by omega), he (g + 3) (by omega) (by omega)]
  exact ⟨h1, h2, h3, h4, h5, h6, h7, h8⟩
theorem zG_empty {g : Nat} {c : Nat → Int} {Z : zMem} (h0 : Z g 3 = 0) (h3 : Z (g + 3) 0 = 0) : zG g 0 c Z :=
  ⟨by omega, h0, fun i hi => by omega, fun i hi => by omega, fun i j _ hj => by omega, fun i hi => by omega, fun φ => rfl, fun S hS => by
    have e : S = 0 := by simpa using hS
    subst e
    exact h3⟩
theorem zup_ne' {Z : zMem} {k i j : Nat} {v : Int} (h : j ≠ k) : zup Z k i v j = Z j := funext fun x => zup_ne j h x
theorem zup_s {Z : zMem} {k i : Nat} {v : Int} : zup Z k i v k i = v := by rw [zup_self, if_pos rfl]
theorem zup_o {Z : zMem} {k i x : Nat} {v : Int} (h : x ≠ i) : zup Z k i v k x = Z k x := by rw [zup_self, if_neg h]
theorem zG_add {g n p : Nat} {c : Nat → Int} {v : Int} {Z Z' : zMem} (h : zG g n c Z) (hn : n < 6) (hv : 1 ≤ v ∧ v ≤ 60) (hp : p ≤ n) (e0 : Z' g 3 = ((n + 1 : Nat) : Int)) (e1 : Z' (g + 1) n = v) (e2 : ∀ j, j ≠ n → Z' (g + 1) j = Z (g + 1) j)
    (a1 : ∀ j, j < p → Z' (g + 2) j = Z (g + 2) j) (a2 : Z' (g + 2) p = v) (a3 : ∀ j, p < j → j ≤ n → Z' (g + 2) j = Z (g + 2) (j - 1)) (l1 : ∀ j, j < p → Z (g + 2) j ≤ v) (l2 : ∀ j, p ≤ j → j < n → v ≤ Z (g + 2) j)
    (t1 : ∀ S, S < 2 ^ n → Z' (g + 3) S = Z (g + 3) S) (t2 : ∀ S, S < 2 ^ n → Z' (g + 3) (2 ^ n + S) = Z (g + 3) S + v) : zG g (n + 1) (zext c n v) Z' := by
  obtain ⟨h1, h2, h3, h4, h5, h6, h7, h8⟩ := h
  have hA : ∀ j, j < n + 1 → Z' (g + 2) j = if j < p then Z (g + 2) j else if j = p then v else Z (g + 2) (j - 1) := by
    intro j hj
    by_cases q : j < p
    · rw [if_pos q]; exact a1 j q
    · by_cases q2 : j = p
      · rw [if_neg q, if_pos q2, q2]; exact a2
      · rw [if_neg q, if_neg q2]; exact a3 j (by omega) (by omega)
  refine ⟨by omega, e0, fun i hi => ?_, fun i hi => ?_, fun i j hij hj => ?_, fun i hi => ?_, fun φ => ?_, fun S hS => ?_⟩
  · by_cases q : i = n
    · rw [q, e1]; exact (if_pos rfl).symm
    · rw [e2 i q, h3 i (by omega)]; exact (if_neg q).symm
  · unfold zext
    split
    · exact hv
    · exact h4 i (by omega)
  · rw [hA i (by omega), hA j hj]
    by_cases q1 : i < p
    · rw [if_pos q1]
      by_cases q2 : j < p
      · rw [if_pos q2]; exact h5 i j hij (by omega)
      · rw [if_neg q2]
        by_cases q3 : j = p
        · rw [if_pos q3]; exact l1 i q1
        · rw [if_neg q3]; exact h5 i (j - 1) (by omega) (by omega)
    · rw [if_neg q1, if_neg (by omega : ¬ j < p)]
      by_cases q2 : i = p
      · rw [if_pos q2]
        by_cases q3 : j = p
        · rw [if_pos q3]; exact Int.le_refl _
        · rw [if_neg q3]; exact l2 (j - 1) (by omega) (by omega)
      · rw [if_neg q2, if_neg (by omega : ¬ j = p)]; exact h5 (i - 1) (j - 1) (by omega) (by omega)
  · rw [hA i hi]
    split
    · exact h6 i (by omega)
    · split
      · exact hv
      · exact h6 (i - 1) (by omega)
  · have e : zsum (n + 1) (fun i => φ (Z' (g + 2) i)) = zsum (n + 1) (fun j => if j < p then φ (Z (g + 2) j) else if j = p then φ v else φ (Z (g + 2) (j - 1))) := zsum_congr (fun i hi => by
      rw [hA i hi]
      split
      · rfl
      · split <;> rfl)
    rw [e, zsum_ins (fun j => φ (Z (g + 2) j)) (φ v) hp, h7 φ]
    show _ = zsum n _ + φ (zext c n v n)
    rw [show zext c n v n = v from if_pos rfl]
    exact congrArg (· + φ v) (zsum_congr (fun i hi => by rw [zext_lt hi]))
  · rcases Nat.lt_or_ge S (2 ^ n) with q | q
    · rw [t1 S q, h8 S q, zsub_lo q]
    · have hS' : S < 2 ^ n + 2 ^ n := by rw [Nat.pow_succ] at hS; omega
      have e : S = 2 ^ n + (S - 2 ^ n) := by omega
      rw [e, t2 _ (by omega), h8 _ (by omega), zsub_hi (by omega)]
theorem zshl_b : ∀ n, n < 32 → ((Int32.ofInt 1 <<< (Int32.ofInt ((n : Nat) : Int) &&& 31)).toInt = if n = 31 then -2147483648 else ((2 ^ n : Nat) : Int)) := by decide +kernel
theorem zshl1 {n : Nat} (h : n ≤ 6) : (Int32.ofInt 1 <<< (Int32.ofInt (n : Int) &&& 31)).toInt = ((2 ^ n : Nat) : Int) := by
  rw [zshl_b n (by omega), if_neg (by omega)]
theorem zpow6 {n : Nat} (h : n ≤ 6) : 1 ≤ 2 ^ n ∧ 2 ^ n ≤ 64 := by
  rcases (show n = 0 ∨ n = 1 ∨ n = 2 ∨ n = 3 ∨ n = 4 ∨ n = 5 ∨ n = 6 by omega) with rfl | rfl | rfl | rfl | rfl | rfl | rfl <;> decide
