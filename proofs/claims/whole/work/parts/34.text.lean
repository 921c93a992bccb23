/-! TEXTS -/
def zTxX (L : Nat) (t : Nat → Int) (Z : zMem) : Prop := Z 29 1 = L ∧ L ≤ 100 ∧ (∀ i, i < L → Z 30 i = t i) ∧ (∀ i, i < L → 0 ≤ t i ∧ t i ≤ 127)
def zTxM (L : Nat) (t : Nat → Int) (Z : zMem) : Prop := Z 63 14 = L ∧ L ≤ 100 ∧ (∀ i, i < L → Z 71 i = t i) ∧ (∀ i, i < L → 0 ≤ t i ∧ t i ≤ 127)
def zxDg (L : Nat) (t : Nat → Int) (p : Nat) : Bool := decide (p < L ∧ 48 ≤ t p ∧ t p ≤ 57)
def zxNum (L : Nat) (t : Nat → Int) : Nat → Nat → Int → Nat × Int
  | 0, p, v => (p, v)
  | m + 1, p, v => if zxDg L t p = true then zxNum L t m (p + 1) (10 * v + t p - 48) else (p, v)
theorem zxNum_stop {L : Nat} {t : Nat → Int} {q : Nat} {v : Int} (h : zxDg L t q = false) (m : Nat) : zxNum L t m q v = (q, v) := by
  cases m with
  | zero => rfl
  | succ m => exact if_neg (by rw [h]; decide)
theorem zxNum_go {L : Nat} {t : Nat → Int} {q m : Nat} {v : Int} (h : zxDg L t q = true) (hm : 0 < m) : zxNum L t m q v = zxNum L t (m - 1) (q + 1) (10 * v + t q - 48) := by
  obtain ⟨k, rfl⟩ : ∃ k, m = k + 1 := ⟨m - 1, by omega⟩
  exact if_pos h
theorem zxNum_pl {L : Nat} {t : Nat → Int} (m : Nat) : ∀ (q : Nat) (v : Int), q ≤ L → q ≤ (zxNum L t m q v).1 ∧ (zxNum L t m q v).1 ≤ L := by
  induction m with
  | zero => intro q v h; exact ⟨Nat.le_refl _, h⟩
  | succ m ih =>
    intro q v h
    by_cases g : zxDg L t q = true
    · rw [zxNum_go g (by omega)]
      have hq : q < L := (of_decide_eq_true g).1
      have := ih (q + 1) (10 * v + t q - 48) (by omega)
      exact ⟨by have := this.1; simp only [Nat.add_sub_cancel]; omega, this.2⟩
    · have g2 : zxDg L t q = false := by simpa using g
      rw [zxNum_stop g2]
      exact ⟨Nat.le_refl _, h⟩
theorem zxNum_in {L : Nat} {t : Nat → Int} (m : Nat) : ∀ (q : Nat) (v B : Int), 0 ≤ v → v + 1 ≤ B → 0 ≤ (zxNum L t m q v).2 ∧ (zxNum L t m q v).2 + 1 ≤ B * 10 ^ m := by
  induction m with
  | zero => intro q v B h0 h1; exact ⟨h0, by show v + 1 ≤ B * 1; omega⟩
  | succ m ih =>
    intro q v B h0 h1
    by_cases g : zxDg L t q = true
    · rw [zxNum_go g (by omega)]
      obtain ⟨g1, g2, g3⟩ := of_decide_eq_true g
      have := ih (q + 1) (10 * v + t q - 48) (B * 10) (by omega) (by omega)
      rw [Nat.add_sub_cancel, Int.pow_succ, Int.mul_comm (10 ^ m) 10, ← Int.mul_assoc]
      exact this
    · have g2 : zxDg L t q = false := by simpa using g
      rw [zxNum_stop g2]
      refine ⟨h0, ?_⟩
      have h10 : (1 : Int) ≤ 10 ^ (m + 1) := by
        have h9 : (0 : Int) < 10 ^ (m + 1) := Int.pow_pos (by decide)
        exact h9
      have := Int.mul_le_mul_of_nonneg_left h10 (show 0 ≤ B by omega)
      show v + 1 ≤ B * 10 ^ (m + 1)
      omega
def zxMst (k : Int) : Nat := if k = 114 then 1 else if k = 101 then 3 else 2
def zxLt (k : Int) : Prop := k = 99 ∨ k = 110 ∨ k = 101 ∨ k = 114
def zxWho (L : Nat) (t : Nat → Int) (p : Nat) : Nat × Int := if t p = 110 then zxNum L t 1 (p + 1) 0 else (p + 1, 0)
def zxVal (L : Nat) (t : Nat → Int) (p : Nat) : Nat × Int := zxNum L t (zxMst (t p)) (zxWho L t p).1 0
/-- a clause begins so at p; there is its first number; there is its last one -/
def zxA (L : Nat) (t : Nat → Int) (p : Nat) : Prop := p < L ∧ zxLt (t p)
def zxB (L : Nat) (t : Nat → Int) (p : Nat) : Prop := t p = 110 → ¬ (zxWho L t p).1 = p + 1
def zxC (L : Nat) (t : Nat → Int) (p : Nat) : Prop := ¬ (zxVal L t p).1 = (zxWho L t p).1
noncomputable def zxEnd (L : Nat) (t : Nat → Int) (p : Nat) : Nat := @ite _ (zxA L t p) (Classical.propDecidable _) (@ite _ (zxB L t p) (Classical.propDecidable _) (zxVal L t p).1 (p + 1)) p
def zxOk (L : Nat) (t : Nat → Int) (p : Nat) : Prop := zxA L t p ∧ zxB L t p ∧ zxC L t p
theorem zxEnd_a {L : Nat} {t : Nat → Int} {p : Nat} (h : ¬ zxA L t p) : zxEnd L t p = p := if_neg h
theorem zxEnd_b {L : Nat} {t : Nat → Int} {p : Nat} (h : zxA L t p) (h2 : ¬ zxB L t p) : zxEnd L t p = p + 1 := (if_pos h).trans (if_neg h2)
theorem zxEnd_c {L : Nat} {t : Nat → Int} {p : Nat} (h : zxA L t p) (h2 : zxB L t p) : zxEnd L t p = (zxVal L t p).1 := (if_pos h).trans (if_pos h2)
theorem zxWho_pl {L : Nat} {t : Nat → Int} {p : Nat} (h : p < L) : p + 1 ≤ (zxWho L t p).1 ∧ (zxWho L t p).1 ≤ L := by
  unfold zxWho
  split
  · exact zxNum_pl 1 (p + 1) 0 (by omega)
  · exact ⟨Nat.le_refl _, h⟩
theorem zxWho_in {L : Nat} {t : Nat → Int} {p : Nat} : 0 ≤ (zxWho L t p).2 ∧ (zxWho L t p).2 ≤ 9 := by
  unfold zxWho
  split
  · have := zxNum_in (L := L) (t := t) 1 (p + 1) 0 1 (by omega) (by omega)
    omega
  · exact ⟨Int.le_refl _, (by decide : (0 : Int) ≤ 9)⟩
theorem zxVal_in {L : Nat} {t : Nat → Int} {p : Nat} : 0 ≤ (zxVal L t p).2 ∧ (zxVal L t p).2 ≤ 999 := by
  unfold zxVal zxMst
  split
  · have := zxNum_in (L := L) (t := t) 1 (zxWho L t p).1 0 1 (by omega) (by omega)
    omega
  · split
    · have := zxNum_in (L := L) (t := t) 3 (zxWho L t p).1 0 1 (by omega) (by omega)
      omega
    · have := zxNum_in (L := L) (t := t) 2 (zxWho L t p).1 0 1 (by omega) (by omega)
      omega
theorem zxVal_pl {L : Nat} {t : Nat → Int} {p : Nat} (h : p < L) : p + 1 ≤ (zxVal L t p).1 ∧ (zxVal L t p).1 ≤ L := by
  have h1 := zxWho_pl (t := t) h
  have h2 := zxNum_pl (L := L) (t := t) (zxMst (t p)) (zxWho L t p).1 0 h1.2
  unfold zxVal
  omega
theorem zxEnd_pl {L : Nat} {t : Nat → Int} {p : Nat} (h : p ≤ L) : p ≤ zxEnd L t p ∧ zxEnd L t p ≤ L := by
  by_cases a : zxA L t p
  · have h3 := zxVal_pl (t := t) a.1
    have h4 := a.1
    by_cases b : zxB L t p
    · rw [zxEnd_c a b]; omega
    · rw [zxEnd_b a b]; omega
  · rw [zxEnd_a a]; omega
/-- where the clauses begin -/
noncomputable def zxPl (L : Nat) (t : Nat → Int) : Nat → Nat
  | 0 => 0
  | k + 1 => zxEnd L t (zxPl L t k) + 1
/-- the fault (-1: none), and how many clauses there are -/
noncomputable def zxPr (L : Nat) (t : Nat → Int) : Nat → Nat → Int × Nat
  | 0, _ => (0, 0)
  | m + 1, k => @ite _ (zxOk L t (zxPl L t k)) (Classical.propDecidable _) (if L ≤ zxEnd L t (zxPl L t k) then (-1, k + 1) else if m = 0 ∨ ¬ t (zxEnd L t (zxPl L t k)) = 59 then ((zxEnd L t (zxPl L t k) : Int), 0) else zxPr L t m (k + 1)) ((zxEnd L t (zxPl L t k) : Int), 0)
theorem zxPr_bad {L : Nat} {t : Nat → Int} {m k : Nat} (hm : 0 < m) (h : ¬ zxOk L t (zxPl L t k)) : zxPr L t m k = ((zxEnd L t (zxPl L t k) : Int), 0) := by
  obtain ⟨j, rfl⟩ : ∃ j, m = j + 1 := ⟨m - 1, by omega⟩
  exact if_neg h
theorem zxPr_end {L : Nat} {t : Nat → Int} {m k : Nat} (hm : 0 < m) (h : zxOk L t (zxPl L t k)) (hL : L ≤ zxEnd L t (zxPl L t k)) : zxPr L t m k = (-1, k + 1) := by
  obtain ⟨j, rfl⟩ : ∃ j, m = j + 1 := ⟨m - 1, by omega⟩
  exact (if_pos h).trans (if_pos hL)
theorem zxPr_semi {L : Nat} {t : Nat → Int} {m k : Nat} (hm : 0 < m) (h : zxOk L t (zxPl L t k)) (hL : ¬ L ≤ zxEnd L t (zxPl L t k)) (hs : m = 1 ∨ ¬ t (zxEnd L t (zxPl L t k)) = 59) : zxPr L t m k = ((zxEnd L t (zxPl L t k) : Int), 0) := by
  obtain ⟨j, rfl⟩ : ∃ j, m = j + 1 := ⟨m - 1, by omega⟩
  exact (if_pos h).trans ((if_neg hL).trans (if_pos (by omega)))
theorem zxPr_next {L : Nat} {t : Nat → Int} {m k : Nat} (hm : 1 < m) (h : zxOk L t (zxPl L t k)) (hL : ¬ L ≤ zxEnd L t (zxPl L t k)) (hs : t (zxEnd L t (zxPl L t k)) = 59) : zxPr L t m k = zxPr L t (m - 1) (k + 1) := by
  obtain ⟨j, rfl⟩ : ∃ j, m = j + 1 := ⟨m - 1, by omega⟩
  exact (if_pos h).trans ((if_neg hL).trans (if_neg (by omega)))
/-- what is left to be seen ahead of clause k, a ; still to come -/
noncomputable def zxRs (L : Nat) (t : Nat → Int) (k : Nat) : Int × Nat := if k = 0 then zxPr L t 12 0 else if k = 12 ∨ ¬ t (zxEnd L t (zxPl L t (k - 1))) = 59 then ((zxEnd L t (zxPl L t (k - 1)) : Int), 0) else zxPr L t (12 - k) k
theorem zxRs_s {L : Nat} {t : Nat → Int} {k : Nat} (hk : k < 12) (h : zxOk L t (zxPl L t k)) (hL : ¬ L ≤ zxEnd L t (zxPl L t k)) : zxPr L t (12 - k) k = zxRs L t (k + 1) := by
  unfold zxRs
  rw [if_neg (by omega), Nat.add_sub_cancel]
  by_cases q : k + 1 = 12 ∨ ¬ t (zxEnd L t (zxPl L t k)) = 59
  · rw [if_pos q]
    exact zxPr_semi (by omega) h hL (by omega)
  · rw [if_neg q, zxPr_next (by omega) h hL (by omega), show 12 - k - 1 = 12 - (k + 1) by omega]
noncomputable def sPerf (S : zS4) (k w v : Int) : zS4 := if k = 99 then sClaim S v else if k = 110 then sRenew S w v else if k = 101 then sEstate S v else sRule S v
noncomputable def oPerf (S : zS4) (k w v : Int) : Int := if k = 99 then oClaim S v else if k = 110 then oRenew S w v else if k = 101 then oEstate S v else oRule S v
noncomputable def zxS (L : Nat) (t : Nat → Int) (S : zS4) : Nat → zS4
  | 0 => S
  | k + 1 => sPerf (zxS L t S k) (t (zxPl L t k)) (zxWho L t (zxPl L t k)).2 (zxVal L t (zxPl L t k)).2
noncomputable def zxD (L : Nat) (t : Nat → Int) (S : zS4) : Nat → Int
  | 0 => 0
  | k + 1 => zxD L t S k + (if 0 ≤ oPerf (zxS L t S k) (t (zxPl L t k)) (zxWho L t (zxPl L t k)).2 (zxVal L t (zxPl L t k)).2 then 1 else 0)
noncomputable def sRead (L : Nat) (t : Nat → Int) (S : zS4) : zS4 := if (zxPr L t 12 0).1 < 0 then zxS L t S (zxPr L t 12 0).2 else S
noncomputable def oRead (L : Nat) (t : Nat → Int) (S : zS4) : Int := if (zxPr L t 12 0).1 < 0 then zxD L t S (zxPr L t 12 0).2 else -10 - (zxPr L t 12 0).1
theorem zxD_in {L : Nat} {t : Nat → Int} {S : zS4} (k : Nat) : 0 ≤ zxD L t S k ∧ zxD L t S k ≤ k := by
  induction k with
  | zero => exact ⟨Int.le_refl _, Int.le_refl _⟩
  | succ k ih =>
    unfold zxD
    split <;> omega
/-- the end of the clauses that are there: a fault's place, or how many -/
theorem zxPr_in {L : Nat} {t : Nat → Int} (m : Nat) : ∀ k, 0 < m → m + k = 12 → zxPl L t k ≤ L → (0 ≤ (zxPr L t m k).1 ∧ (zxPr L t m k).1 ≤ L) ∨ ((zxPr L t m k).1 = -1 ∧ k + 1 ≤ (zxPr L t m k).2 ∧ (zxPr L t m k).2 ≤ 12 ∧ ∀ j, k ≤ j → j < (zxPr L t m k).2 → zxOk L t (zxPl L t j) ∧ zxPl L t j ≤ L ∧ (j + 1 = (zxPr L t m k).2 → L ≤ zxEnd L t (zxPl L t j)) ∧ (j + 1 < (zxPr L t m k).2 → ¬ L ≤ zxEnd L t (zxPl L t j) ∧ t (zxEnd L t (zxPl L t j)) = 59)) := by
  induction m with
  | zero => intro k h; omega
  | succ m ih =>
    intro k _ hmk hp
    have he := zxEnd_pl (t := t) hp
    by_cases ok : zxOk L t (zxPl L t k)
    · by_cases hL : L ≤ zxEnd L t (zxPl L t k)
      · rw [zxPr_end (by omega) ok hL]
        refine Or.inr ⟨rfl, Nat.le_refl _, by show k + 1 ≤ 12; omega, fun j a b => ?_⟩
        replace b : j < k + 1 := b
        have e : j = k := by omega
        subst e
        exact ⟨ok, hp, fun _ => hL, fun q => absurd q (Nat.lt_irrefl _)⟩
      · by_cases hs : m = 0 ∨ ¬ t (zxEnd L t (zxPl L t k)) = 59
        · rw [zxPr_semi (by omega) ok hL (by omega)]
          exact Or.inl ⟨Int.natCast_nonneg _, by show ((zxEnd L t (zxPl L t k) : Nat) : Int) ≤ L; omega⟩
        · rw [zxPr_next (by omega) ok hL (by omega), Nat.add_sub_cancel]
          rcases ih (k + 1) (by omega) (by omega) (by show zxEnd L t (zxPl L t k) + 1 ≤ L; omega) with h | ⟨h1, h2, h3, h4⟩
          · exact Or.inl h
          · refine Or.inr ⟨h1, by omega, h3, fun j a b => ?_⟩
            by_cases e : j = k
            · subst e
              exact ⟨ok, hp, fun q => by omega, fun _ => ⟨hL, by omega⟩⟩
            · exact h4 j (by omega) b
    · rw [zxPr_bad (by omega) ok]
      exact Or.inl ⟨Int.natCast_nonneg _, by show ((zxEnd L t (zxPl L t k) : Nat) : Int) ≤ L; omega⟩
def zF29 (Z Z' : zMem) : Prop := (∀ k, k ≠ 29 → Z' k = Z k) ∧ (∀ j, j ≠ 6 → Z' 29 j = Z 29 j)
theorem zF29_refl {Z : zMem} : zF29 Z Z := ⟨fun _ _ => rfl, fun _ _ => rfl⟩
theorem zF29_trans {Z Z' Z'' : zMem} (h : zF29 Z Z') (h' : zF29 Z' Z'') : zF29 Z Z'' := ⟨fun k a => (h'.1 k a).trans (h.1 k a), fun j a => (h'.2 j a).trans (h.2 j a)⟩
theorem zF29_up {Z Z' : zMem} {v : Int} (h : zF29 Z Z') : zF29 Z (zup Z' 29 6 v) := ⟨fun k a => by rw [zup_ne' a]; exact h.1 k a, fun j a => by rw [zup_o a]; exact h.2 j a⟩
theorem zTxX_f {L : Nat} {t : Nat → Int} {Z Z' : zMem} (h : zTxX L t Z) (hf : zF29 Z Z') : zTxX L t Z' := by
  unfold zTxX at h ⊢
  rw [hf.2 1 (by decide), hf.1 30 (by decide)]
  exact h
def zFat (Z Z' : zMem) : Prop := (∀ k, k ≠ 63 → Z' k = Z k) ∧ (∀ j, j ≠ 20 → j ≠ 21 → Z' 63 j = Z 63 j)
theorem zFat_refl {Z : zMem} : zFat Z Z := ⟨fun _ _ => rfl, fun _ _ _ => rfl⟩
theorem zFat_trans {Z Z' Z'' : zMem} (h : zFat Z Z') (h' : zFat Z' Z'') : zFat Z Z'' := ⟨fun k a => (h'.1 k a).trans (h.1 k a), fun j a b => (h'.2 j a b).trans (h.2 j a b)⟩
theorem zFat_up {Z Z' : zMem} {j : Nat} {v : Int} (h : zFat Z Z') (hj : j = 20 ∨ j = 21) : zFat Z (zup Z' 63 j v) := ⟨fun k a => by rw [zup_ne' a]; exact h.1 k a, fun i a b => by rw [zup_o (by omega)]; exact h.2 i a b⟩
theorem zTxM_f {L : Nat} {t : Nat → Int} {Z Z' : zMem} (h : zTxM L t Z) (hf : zFat Z Z') : zTxM L t Z' := by
  unfold zTxM at h ⊢
  rw [hf.2 14 (by decide) (by decide), hf.1 71 (by decide)]
  exact h
def oFeed (L : Nat) (v : Int) : Int := if 0 ≤ v ∧ v ≤ 127 then (if L < 100 then ((L + 1 : Nat) : Int) else -4) else -2
theorem zi8_b : ∀ n, n < 128 → (Int32.ofInt ((n : Nat) : Int)).toInt8.toInt = ((n : Nat) : Int) := by decide +kernel
theorem zi8 {v : Int} (h : 0 ≤ v ∧ v ≤ 127) : (Int32.ofInt v).toInt8.toInt = v := by
  obtain ⟨n, rfl⟩ := Int.eq_ofNat_of_zero_le h.1
  exact zi8_b n (by omega)

set_option maxHeartbeats 4000000 in
theorem m_feedX {Z : zMem} {Q : Option zAV → zMem → Prop} {L : Nat} {t : Nat → Int} (hT : zTxX L t Z) {v : Int} (hv : -2147483648 ≤ v ∧ v ≤ 2147483647) (q1 : ∀ (Z' : zMem), zTxX (if (0 ≤ v ∧ v ≤ 127) ∧ L < 100 then L + 1 else L) (zext t L v) Z' → (∀ k, k ≠ 29 → k ≠ 30 → Z' k = Z k) → Q (some (zI (oFeed L v))) Z') : zE 48 0 (zent 48 [zR 0, zI v]) [] Z Q := by
  show zE 48 0 [some (zR 0), some (zI v)] [] Z Q
  have hT0 := hT
  obtain ⟨t1, t2, t3, t4⟩ := hT
  refine ze_iload_n kc_48_0 rfl ?_
  refine ze_if_lt kc_48_1 (by omega) (fun h1 => ?_) (fun h1 => ?_)
  · skip
    refine ze_bipush kc_48_10 ?_
    refine ze_ireturn kc_48_12 (Or.inl rfl) ?_
    rw [show oFeed L v = -2 by unfold oFeed; rw [if_neg (by omega)], show (if (0 ≤ v ∧ v ≤ 127) ∧ L < 100 then L + 1 else L) = L from if_neg (by omega)] at q1
    refine q1 _ ⟨t1, t2, fun i hi => ?_, fun i hi => ?_⟩ (fun _ _ _ => rfl)
    · rw [zext_lt hi]; exact t3 i hi
    · rw [zext_lt hi]; exact t4 i hi
  · skip
    refine ze_iload_n kc_48_4 rfl ?_
    refine ze_bipush kc_48_5 ?_
    refine ze_icmp_le kc_48_7 (by omega) (by omega) (fun h7 => ?_) (fun h7 => ?_)
    · skip
      refine ze_aload_n kc_48_13 rfl ?_
      refine ze_getR kc_48_14 rfl rfl rfl ?_
      refine ze_getI kc_48_17 rfl (by decide) ?_
      rw [t1]
      refine ze_bipush kc_48_20 ?_
      refine ze_icmp_lt kc_48_22 (by omega) (by omega) (fun h22 => ?_) (fun h22 => ?_)
      · skip
        refine ze_aload_n kc_48_28 rfl ?_
        refine ze_getR kc_48_29 rfl rfl rfl ?_
        refine ze_getR kc_48_32 rfl rfl rfl ?_
        refine ze_aload_n kc_48_35 rfl ?_
        refine ze_getR kc_48_36 rfl rfl rfl ?_
        refine ze_getI kc_48_39 rfl (by decide) ?_
        rw [t1]
        refine ze_iload_n kc_48_42 rfl ?_
        refine ze_i2b kc_48_43 ?_
        have hi8 := zi8 (v := v) (by omega)
        rw [hi8]
        refine ze_bast kc_48_44 rfl (by omega) (by omega) ?_
        rw [Int.toNat_natCast]
        try rw [← hi8]
        refine ze_aload_n kc_48_45 rfl ?_
        refine ze_getR kc_48_46 rfl rfl rfl ?_
        refine ze_dup kc_48_49 rfl ?_
        refine ze_getI kc_48_50 rfl (by decide) ?_
        rw [zup_ne' (by decide), t1]
        refine ze_iconst kc_48_53 ?_
        refine ze_iadd kc_48_54 ?_
        refine ze_putI kc_48_55 rfl rfl ?_
        refine ze_aload_n kc_48_58 rfl ?_
        refine ze_getR kc_48_59 rfl rfl rfl ?_
        refine ze_getI kc_48_62 rfl (by decide) ?_
        rw [zup_s]
        refine ze_ireturn kc_48_65 (Or.inl rfl) ?_
        rw [show oFeed L v = ((L + 1 : Nat) : Int) by unfold oFeed; rw [if_pos (by omega), if_pos (by omega)], show (if (0 ≤ v ∧ v ≤ 127) ∧ L < 100 then L + 1 else L) = L + 1 from if_pos (by omega)] at q1
        rw [show (L : Int) + 1 = ((L + 1 : Nat) : Int) by omega]
        refine q1 _ ⟨by rw [zup_s], by omega, fun i hi => ?_, fun i hi => ?_⟩ (fun k a b => by rw [zup_ne' a, zup_ne' b])
        · rw [zup_ne' (by decide)]
          by_cases q : i = L
          · rw [q, zup_s]; exact hi8.trans (if_pos rfl).symm
          · rw [zup_o q, zext_lt (by omega)]; exact t3 i (by omega)
        · unfold zext
          split
          · omega
          · exact t4 i (by omega)
      · skip
        refine ze_bipush kc_48_25 ?_
        refine ze_ireturn kc_48_27 (Or.inl rfl) ?_
        rw [show oFeed L v = -4 by unfold oFeed; rw [if_pos (by omega), if_neg (by omega)], show (if (0 ≤ v ∧ v ≤ 127) ∧ L < 100 then L + 1 else L) = L from if_neg (by omega)] at q1
        refine q1 _ ⟨t1, t2, fun i hi => ?_, fun i hi => ?_⟩ (fun _ _ _ => rfl)
        · rw [zext_lt hi]; exact t3 i hi
        · rw [zext_lt hi]; exact t4 i hi
    · skip
      refine ze_bipush kc_48_10 ?_
      refine ze_ireturn kc_48_12 (Or.inl rfl) ?_
      rw [show oFeed L v = -2 by unfold oFeed; rw [if_neg (by omega)], show (if (0 ≤ v ∧ v ≤ 127) ∧ L < 100 then L + 1 else L) = L from if_neg (by omega)] at q1
      refine q1 _ ⟨t1, t2, fun i hi => ?_, fun i hi => ?_⟩ (fun _ _ _ => rfl)
      · rw [zext_lt hi]; exact t3 i hi
      · rw [zext_lt hi]; exact t4 i hi

set_option maxHeartbeats 4000000 in
theorem m_feedM {Z : zMem} {Q : Option zAV → zMem → Prop} {L : Nat} {t : Nat → Int} (hT : zTxM L t Z) {v : Int} (hv : -2147483648 ≤ v ∧ v ≤ 2147483647) (q1 : ∀ (Z' : zMem), zTxM (if (0 ≤ v ∧ v ≤ 127) ∧ L < 100 then L + 1 else L) (zext t L v) Z' → ((∀ k, k ≠ 63 → k ≠ 71 → Z' k = Z k) ∧ ∀ j, j ≠ 14 → Z' 63 j = Z 63 j) → Q (some (zI (oFeed L v))) Z') : zE 112 0 (zent 112 [zR 63, zI v]) [] Z Q := by
  show zE 112 0 [some (zR 63), some (zI v)] [] Z Q
  have hT0 := hT
  obtain ⟨t1, t2, t3, t4⟩ := hT
  refine ze_iload_n kc_112_0 rfl ?_
  refine ze_iconst kc_112_1 ?_
  refine ze_bipush kc_112_2 ?_
  refine zE_calls 3 kc_112_4 rfl rfl (Nat.le_of_ble_eq_true rfl) (Nat.le_of_ble_eq_true rfl) (Nat.le_of_ble_eq_true rfl) rfl ?_
  refine m_in (by omega) (by omega) (by omega) (fun g4 => ?_) (fun g4 => ?_)
  · simp only [Option.toList_some, Option.toList_none, List.drop_succ_cons, List.drop_zero, List.cons_append, List.nil_append]
    refine ze_if_ne kc_112_7 (by decide) (fun _ => ?_) (fun q => absurd q (by decide))
    refine ze_aload_n kc_112_13 rfl ?_
    refine ze_getI kc_112_14 rfl (by decide) ?_
    rw [t1]
    refine ze_bipush kc_112_17 ?_
    refine ze_icmp_ne kc_112_19 (by omega) (by omega) (fun h19 => ?_) (fun h19 => ?_)
    · skip
      refine ze_aload_n kc_112_25 rfl ?_
      refine ze_getR kc_112_26 rfl rfl rfl ?_
      refine ze_aload_n kc_112_29 rfl ?_
      refine ze_getI kc_112_30 rfl (by decide) ?_
      rw [t1]
      refine ze_iload_n kc_112_33 rfl ?_
      refine ze_iast kc_112_34 rfl (by omega) ?_
      rw [Int.toNat_natCast]
      refine ze_aload_n kc_112_35 rfl ?_
      refine ze_dup kc_112_36 rfl ?_
      refine ze_getI kc_112_37 rfl (by decide) ?_
      rw [zup_ne' (by decide), t1]
      refine ze_iconst kc_112_40 ?_
      refine ze_iadd kc_112_41 ?_
      refine ze_putI kc_112_42 rfl rfl ?_
      refine ze_aload_n kc_112_45 rfl ?_
      refine ze_getI kc_112_46 rfl (by decide) ?_
      rw [zup_s]
      refine ze_ireturn kc_112_49 (Or.inl rfl) ?_
      rw [show oFeed L v = ((L + 1 : Nat) : Int) by unfold oFeed; rw [if_pos (by omega), if_pos (by omega)], show (if (0 ≤ v ∧ v ≤ 127) ∧ L < 100 then L + 1 else L) = L + 1 from if_pos (by omega)] at q1
      rw [show (L : Int) + 1 = ((L + 1 : Nat) : Int) by omega]
      refine q1 _ ⟨by rw [zup_s], by omega, fun i hi => ?_, fun i hi => ?_⟩ ⟨fun k a b => by rw [zup_ne' a, zup_ne' b], fun j a => by rw [zup_o a, zup_ne' (by decide)]⟩
      · rw [zup_ne' (by decide)]
        by_cases q : i = L
        · rw [q, zup_s]; exact (if_pos rfl).symm
        · rw [zup_o q, zext_lt (by omega)]; exact t3 i (by omega)
      · unfold zext
        split
        · omega
        · exact t4 i (by omega)
    · skip
      refine ze_bipush kc_112_22 ?_
      refine ze_ireturn kc_112_24 (Or.inl rfl) ?_
      rw [show oFeed L v = -4 by unfold oFeed; rw [if_pos (by omega), if_neg (by omega)], show (if (0 ≤ v ∧ v ≤ 127) ∧ L < 100 then L + 1 else L) = L from if_neg (by omega)] at q1
      refine q1 _ ⟨t1, t2, fun i hi => ?_, fun i hi => ?_⟩ ⟨fun _ _ _ => rfl, fun _ _ => rfl⟩
      · rw [zext_lt hi]; exact t3 i hi
      · rw [zext_lt hi]; exact t4 i hi
  · simp only [Option.toList_some, Option.toList_none, List.drop_succ_cons, List.drop_zero, List.cons_append, List.nil_append]
    refine ze_if_ne kc_112_7 (by decide) (fun q => absurd q (by decide)) (fun _ => ?_)
    refine ze_bipush kc_112_10 ?_
    refine ze_ireturn kc_112_12 (Or.inl rfl) ?_
    rw [show oFeed L v = -2 by unfold oFeed; rw [if_neg (by omega)], show (if (0 ≤ v ∧ v ≤ 127) ∧ L < 100 then L + 1 else L) = L from if_neg (by omega)] at q1
    refine q1 _ ⟨t1, t2, fun i hi => ?_, fun i hi => ?_⟩ ⟨fun _ _ _ => rfl, fun _ _ => rfl⟩
    · rw [zext_lt hi]; exact t3 i hi
    · rw [zext_lt hi]; exact t4 i hi

set_option maxHeartbeats 4000000 in
theorem m_number {Z : zMem} {Q : Option zAV → zMem → Prop} {L : Nat} {t : Nat → Int} (hT : zTxX L t Z) {m p : Nat} {w : Int} (hw : w = m) (hm : m ≤ 3) (hp : p ≤ L) (h6 : Z 29 6 = p) (q1 : ∀ (Z' : zMem) (r : Nat × Int), r = zxNum L t m p 0 → zF29 Z Z' → Z' 29 6 = (r.1 : Nat) → Q (some (zI (if r.1 = p then -1 else r.2))) Z') : zE 34 0 (zent 34 [zR 29, zI w]) [] Z Q := by
  show zE 34 0 [some (zR 29), some (zI w), none, none, none] [] Z Q
  subst hw
  have hT0 := hT
  obtain ⟨t1, t2, t3, t4⟩ := hT
  refine ze_iconst kc_34_0 ?_
  refine ze_istore_n kc_34_1 (Nat.le_of_ble_eq_true rfl) ?_
  simp only [zset1, zset2, zcut, zf0, zf1, zf2, zf3, List.set_cons_zero, List.set_cons_succ, List.getD_cons_zero, List.getD_cons_succ]
  refine ze_iconst kc_34_2 ?_
  refine ze_istore_n kc_34_3 (Nat.le_of_ble_eq_true rfl) ?_
  simp only [zset1, zset2, zcut, zf0, zf1, zf2, zf3, List.set_cons_zero, List.set_cons_succ, List.getD_cons_zero, List.getD_cons_succ]
  have loop4 : ∀ (μ : Nat) (k q : Nat) (y x v : Int) (Zc : zMem) (o1 : Option zAV), m - k = μ → (k ≤ m) → (y = k) → (q = p + k ∧ q ≤ L) → (Zc 29 6 = q) → (zF29 Z Zc) → ((k = 0 → x = -1 ∧ v = 0) ∧ (0 < k → x = v)) → (zxNum L t (m - k) q v = (zxNum L t m p 0)) → zE 34 4 [some (zR 29), some (zI (m : Nat)), some (zI x), some (zI y), o1] [] Zc Q := by
    refine zind ?_
    intro μ ih k q y x v Zc o1 hm hk hy hq hpl hf hx hR
    subst hy
    have hlen : Zc 29 1 = L := by rw [hf.2 1 (by decide)]; exact t1
    have hsg : ∀ i, i < L → Zc 30 i = t i := fun i hi => by rw [hf.1 30 (by decide)]; exact t3 i hi
    refine ze_iload_n kc_34_4 rfl ?_
    refine ze_iload_n kc_34_5 rfl ?_
    refine ze_icmp_ge kc_34_6 (by omega) (by omega) (fun h6 => ?_) (fun h6 => ?_)
    · skip
      refine ze_iload_n kc_34_81 rfl ?_
      refine ze_ireturn kc_34_82 (Or.inl rfl) ?_
      have e : zxNum L t (m - k) q v = (q, v) := by
        first
          | (rw [show m - k = 0 by omega]; rfl)
          | exact zxNum_stop (decide_eq_false (by omega)) _
      have g := q1 Zc (q, v) (e.symm.trans hR) hf hpl
      rw [show (if (q, v).1 = p then (-1 : Int) else (q, v).2) = x by show (if q = p then (-1 : Int) else v) = x; split <;> omega] at g
      exact g
    · skip
      refine ze_aload_n kc_34_9 rfl ?_
      refine ze_getI kc_34_10 rfl (by decide) ?_
      rw [hpl]
      refine ze_aload_n kc_34_13 rfl ?_
      refine ze_getI kc_34_14 rfl (by decide) ?_
      rw [hlen]
      refine ze_icmp_ge kc_34_17 (by omega) (by omega) (fun h17 => ?_) (fun h17 => ?_)
      · skip
        refine ze_iload_n kc_34_81 rfl ?_
        refine ze_ireturn kc_34_82 (Or.inl rfl) ?_
        have e : zxNum L t (m - k) q v = (q, v) := by
          first
            | (rw [show m - k = 0 by omega]; rfl)
            | exact zxNum_stop (decide_eq_false (by omega)) _
        have g := q1 Zc (q, v) (e.symm.trans hR) hf hpl
        rw [show (if (q, v).1 = p then (-1 : Int) else (q, v).2) = x by show (if q = p then (-1 : Int) else v) = x; split <;> omega] at g
        exact g
      · skip
        refine ze_aload_n kc_34_20 rfl ?_
        refine ze_getR kc_34_21 rfl rfl rfl ?_
        refine ze_aload_n kc_34_24 rfl ?_
        refine ze_getI kc_34_25 rfl (by decide) ?_
        rw [hpl]
        refine ze_bald kc_34_28 rfl (by omega) ?_
        rw [Int.toNat_natCast, hsg q (by omega)]
        have htq := t4 q (by omega)
        refine ze_bipush kc_34_29 ?_
        refine ze_isub kc_34_31 ?_
        refine ze_istore kc_34_32 (Nat.le_of_ble_eq_true rfl) ?_
        simp only [zset1, zset2, zcut, zf0, zf1, zf2, zf3, List.set_cons_zero, List.set_cons_succ, List.getD_cons_zero, List.getD_cons_succ]
        refine ze_iload kc_34_34 rfl ?_
        refine ze_if_lt kc_34_36 (by omega) (fun h36 => ?_) (fun h36 => ?_)
        · skip
          refine ze_iload_n kc_34_46 rfl ?_
          refine ze_ireturn kc_34_47 (Or.inl rfl) ?_
          have e := zxNum_stop (L := L) (t := t) (q := q) (v := v) (decide_eq_false (by omega)) (m - k)
          have g := q1 Zc (q, v) (e.symm.trans hR) hf hpl
          rw [show (if (q, v).1 = p then (-1 : Int) else (q, v).2) = x by show (if q = p then (-1 : Int) else v) = x; split <;> omega] at g
          exact g
        · skip
          refine ze_iload kc_34_39 rfl ?_
          refine ze_bipush kc_34_41 ?_
          refine ze_icmp_le kc_34_43 (by omega) (by omega) (fun h43 => ?_) (fun h43 => ?_)
          · skip
            refine ze_iload_n kc_34_48 rfl ?_
            refine ze_if_ne kc_34_49 (by omega) (fun h49 => ?_) (fun h49 => ?_)
            · skip
              refine ze_bipush kc_34_57 ?_
              refine ze_iload_n kc_34_59 rfl ?_
              refine ze_imul kc_34_60 ?_
              refine ze_iload kc_34_61 rfl ?_
              refine ze_iadd kc_34_63 ?_
              refine ze_istore_n kc_34_64 (Nat.le_of_ble_eq_true rfl) ?_
              simp only [zset1, zset2, zcut, zf0, zf1, zf2, zf3, List.set_cons_zero, List.set_cons_succ, List.getD_cons_zero, List.getD_cons_succ]
              refine ze_aload_n kc_34_65 rfl ?_
              refine ze_dup kc_34_66 rfl ?_
              refine ze_getI kc_34_67 rfl (by decide) ?_
              rw [hpl]
              refine ze_iconst kc_34_70 ?_
              refine ze_iadd kc_34_71 ?_
              refine ze_putI kc_34_72 rfl rfl ?_
              refine ze_iinc kc_34_75 rfl ?_
              simp only [zset1, zset2, zcut, zf0, zf1, zf2, zf3, List.set_cons_zero, List.set_cons_succ, List.getD_cons_zero, List.getD_cons_succ]
              refine ze_goto kc_34_78 ?_
              refine ih _ (by omega) (k + 1) (q + 1) _ _ (10 * v + t q - 48) _ _ rfl (by omega) (by omega) (by omega) (by rw [zup_s]; omega) (zF29_up hf) ⟨fun q => absurd q (by omega), fun _ => by omega⟩ ?_
              rw [← hR, zxNum_go (q := q) (m := m - k) (v := v) (decide_eq_true (by omega)) (by omega), show m - (k + 1) = m - k - 1 by omega]
            · skip
              refine ze_iload kc_34_52 rfl ?_
              refine ze_goto kc_34_54 ?_
              refine ze_istore_n kc_34_64 (Nat.le_of_ble_eq_true rfl) ?_
              simp only [zset1, zset2, zcut, zf0, zf1, zf2, zf3, List.set_cons_zero, List.set_cons_succ, List.getD_cons_zero, List.getD_cons_succ]
              refine ze_aload_n kc_34_65 rfl ?_
              refine ze_dup kc_34_66 rfl ?_
              refine ze_getI kc_34_67 rfl (by decide) ?_
              rw [hpl]
              refine ze_iconst kc_34_70 ?_
              refine ze_iadd kc_34_71 ?_
              refine ze_putI kc_34_72 rfl rfl ?_
              refine ze_iinc kc_34_75 rfl ?_
              simp only [zset1, zset2, zcut, zf0, zf1, zf2, zf3, List.set_cons_zero, List.set_cons_succ, List.getD_cons_zero, List.getD_cons_succ]
              refine ze_goto kc_34_78 ?_
              refine ih _ (by omega) (k + 1) (q + 1) _ _ (10 * v + t q - 48) _ _ rfl (by omega) (by omega) (by omega) (by rw [zup_s]; omega) (zF29_up hf) ⟨fun q => absurd q (by omega), fun _ => by omega⟩ ?_
              rw [← hR, zxNum_go (q := q) (m := m - k) (v := v) (decide_eq_true (by omega)) (by omega), show m - (k + 1) = m - k - 1 by omega]
          · skip
            refine ze_iload_n kc_34_46 rfl ?_
            refine ze_ireturn kc_34_47 (Or.inl rfl) ?_
            have e := zxNum_stop (L := L) (t := t) (q := q) (v := v) (decide_eq_false (by omega)) (m - k)
            have g := q1 Zc (q, v) (e.symm.trans hR) hf hpl
            rw [show (if (q, v).1 = p then (-1 : Int) else (q, v).2) = x by show (if q = p then (-1 : Int) else v) = x; split <;> omega] at g
            exact g
  refine loop4 _ 0 p 0 (-1) 0 Z none rfl (by omega) rfl (by omega) h6 zF29_refl ⟨fun _ => ⟨rfl, rfl⟩, fun q => absurd q (by decide)⟩ rfl

set_option maxHeartbeats 4000000 in
theorem m_takes {Z : zMem} {Q : Option zAV → zMem → Prop} {L : Nat} {t : Nat → Int} (hT : zTxX L t Z) {p : Nat} (hp : p ≤ L) (h6 : Z 29 6 = p) (q1 : p < L ∧ t p = 59 → ∀ (Z' : zMem), zF29 Z Z' → Z' 29 6 = ((p + 1 : Nat) : Int) → Q (some (zI 1)) Z') (q2 : ¬ (p < L ∧ t p = 59) → Q (some (zI 0)) Z) : zE 32 0 (zent 32 [zR 29, zI 59]) [] Z Q := by
  show zE 32 0 [some (zR 29), some (zI 59)] [] Z Q
  have hT0 := hT
  obtain ⟨t1, t2, t3, t4⟩ := hT
  refine ze_aload_n kc_32_0 rfl ?_
  refine ze_getI kc_32_1 rfl (by decide) ?_
  rw [h6]
  refine ze_aload_n kc_32_4 rfl ?_
  refine ze_getI kc_32_5 rfl (by decide) ?_
  rw [t1]
  refine ze_icmp_ge kc_32_8 (by omega) (by omega) (fun h8 => ?_) (fun h8 => ?_)
  · skip
    refine ze_iconst kc_32_24 ?_
    refine ze_ireturn kc_32_25 (by decide) ?_
    exact q2 (by omega)
  · skip
    refine ze_aload_n kc_32_11 rfl ?_
    refine ze_getR kc_32_12 rfl rfl rfl ?_
    refine ze_aload_n kc_32_15 rfl ?_
    refine ze_getI kc_32_16 rfl (by decide) ?_
    rw [h6]
    refine ze_bald kc_32_19 rfl (by omega) ?_
    rw [Int.toNat_natCast, t3 p (by omega)]
    have htp := t4 p (by omega)
    refine ze_iload_n kc_32_20 rfl ?_
    refine ze_icmp_eq kc_32_21 (by omega) (by omega) (fun h21 => ?_) (fun h21 => ?_)
    · skip
      refine ze_aload_n kc_32_26 rfl ?_
      refine ze_dup kc_32_27 rfl ?_
      refine ze_getI kc_32_28 rfl (by decide) ?_
      rw [h6]
      refine ze_iconst kc_32_31 ?_
      refine ze_iadd kc_32_32 ?_
      refine ze_putI kc_32_33 rfl rfl ?_
      refine ze_iconst kc_32_36 ?_
      refine ze_ireturn kc_32_37 (by decide) ?_
      exact q1 (by omega) _ (zF29_up zF29_refl) (by rw [zup_s]; omega)
    · skip
      refine ze_iconst kc_32_24 ?_
      refine ze_ireturn kc_32_25 (by decide) ?_
      exact q2 (by omega)

set_option maxHeartbeats 8000000 in
theorem m_takesClause_b {Z Zc : zMem} {Q : Option zAV → zMem → Prop} {L : Nat} {t : Nat → Int} (hT : zTxX L t Z) {k p : Nat} {w : Int} {o4 : Option zAV} (hk : k < 12) (hA : zxA L t p) (hF : zF29 Z Zc) (hP : Zc 29 6 = ((zxWho L t p).1 : Nat)) (hw : w = if t p = 110 ∧ (zxWho L t p).1 = p + 1 then -1 else (zxWho L t p).2) (q1 : zxOk L t p → ∀ (Z' : zMem), (∀ i, i ≠ 29 → i ≠ 31 → i ≠ 32 → i ≠ 33 → Z' i = Z i) → (∀ j, j ≠ 6 → Z' 29 j = Z 29 j) → Z' 29 6 = (zxEnd L t p : Nat) → (Z' 31 k = t p ∧ Z' 32 k = (zxWho L t p).2 ∧ Z' 33 k = (zxVal L t p).2 ∧ ∀ i, i ≠ k → Z' 31 i = Z 31 i ∧ Z' 32 i = Z 32 i ∧ Z' 33 i = Z 33 i) → Q (some (zI 1)) Z') (q2 : ¬ zxOk L t p → ∀ (Z' : zMem), zF29 Z Z' → Z' 29 6 = (zxEnd L t p : Nat) → Q (some (zI 0)) Z') : zE 33 77 [some (zR 29), some (zI (k : Nat)), some (zI (t p)), some (zI w), o4] [] Zc Q := by
  have hwi := zxWho_in (L := L) (t := t) (p := p)
  have hwp := zxWho_pl (t := t) hA.1
  have htp := hT.2.2.2 p hA.1
  have hwr : -1 ≤ w ∧ w ≤ 9 := by
    rw [hw]
    split <;> omega
  refine ze_iload_n kc_33_77 rfl ?_
  refine ze_if_ge kc_33_78 (by omega) (fun h78 => ?_) (fun h78 => ?_)
  · skip
    have hB : zxB L t p := fun q q2 => by
      rw [if_pos ⟨q, q2⟩] at hw
      omega
    have hwv : w = (zxWho L t p).2 := by
      rw [hw]
      exact if_neg (fun q => hB q.1 q.2)
    refine ze_aload_n kc_33_83 rfl ?_
    refine ze_iload_n kc_33_84 rfl ?_
    refine ze_bipush kc_33_85 ?_
    refine ze_icmp_ne kc_33_87 (by omega) (by omega) (fun h87 => ?_) (fun h87 => ?_)
    · skip
      refine ze_iload_n kc_33_94 rfl ?_
      refine ze_bipush kc_33_95 ?_
      refine ze_icmp_ne kc_33_97 (by omega) (by omega) (fun h97 => ?_) (fun h97 => ?_)
      · skip
        refine ze_iconst kc_33_104 ?_
        refine zE_callv 2 kc_33_105 rfl rfl (Nat.le_of_ble_eq_true rfl) (Nat.le_of_ble_eq_true rfl) (Nat.le_of_ble_eq_true rfl) rfl (by decide +kernel) rfl ?_
        refine (m_number (zTxX_f hT hF) (m := zxMst (t p)) (p := (zxWho L t p).1) (by unfold zxMst; split <;> (try split) <;> omega) (by unfold zxMst; split <;> (try split) <;> omega) hwp.2 hP (fun Z3 r hr f3 f4 => ?_))
        simp only [Option.toList_some, Option.toList_none, List.drop_succ_cons, List.drop_zero, List.cons_append, List.nil_append]
        have hr2 : r = zxVal L t p := hr
        have hvi := zxVal_in (L := L) (t := t) (p := p)
        have hrr : -1 ≤ (if r.1 = (zxWho L t p).1 then (-1 : Int) else r.2) ∧ (if r.1 = (zxWho L t p).1 then (-1 : Int) else r.2) ≤ 999 := by
          rw [hr2]
          split <;> omega
        refine ze_istore kc_33_108 (Nat.le_of_ble_eq_true rfl) ?_
        simp only [zset1, zset2, zcut, zf0, zf1, zf2, zf3, List.set_cons_zero, List.set_cons_succ, List.getD_cons_zero, List.getD_cons_succ]
        refine ze_iload kc_33_110 rfl ?_
        refine ze_if_ge kc_33_112 (by omega) (fun h112 => ?_) (fun h112 => ?_)
        · skip
          refine ze_aload_n kc_33_117 rfl ?_
          refine ze_getR kc_33_118 rfl rfl rfl ?_
          refine ze_iload_n kc_33_121 rfl ?_
          refine ze_iload_n kc_33_122 rfl ?_
          refine ze_iast kc_33_123 rfl (by omega) ?_
          rw [Int.toNat_natCast]
          refine ze_aload_n kc_33_124 rfl ?_
          refine ze_getR kc_33_125 rfl rfl rfl ?_
          refine ze_iload_n kc_33_128 rfl ?_
          refine ze_iload_n kc_33_129 rfl ?_
          refine ze_iast kc_33_130 rfl (by omega) ?_
          rw [Int.toNat_natCast]
          refine ze_aload_n kc_33_131 rfl ?_
          refine ze_getR kc_33_132 rfl rfl rfl ?_
          refine ze_iload_n kc_33_135 rfl ?_
          refine ze_iload kc_33_136 rfl ?_
          refine ze_iast kc_33_138 rfl (by omega) ?_
          rw [Int.toNat_natCast]
          refine ze_iconst kc_33_139 ?_
          refine ze_ireturn kc_33_140 (by decide) ?_
          have hC : zxC L t p := fun q => by
            rw [hr2, if_pos q] at h112
            omega
          rw [hr2, if_neg hC]
          refine q1 ⟨hA, hB, hC⟩ _ (fun i a b d e => ?_) (fun j a => ?_) ?_ ⟨?_, ?_, ?_, fun i a => ⟨?_, ?_, ?_⟩⟩
          · rw [zup_ne' e, zup_ne' d, zup_ne' b]; exact (zF29_trans hF f3).1 i a
          · rw [zup_ne' (by decide), zup_ne' (by decide), zup_ne' (by decide)]; exact (zF29_trans hF f3).2 j a
          · rw [zup_ne' (by decide), zup_ne' (by decide), zup_ne' (by decide), zxEnd_c hA hB, f4, hr2]
          · rw [zup_ne' (by decide), zup_ne' (by decide), zup_s]
          · rw [zup_ne' (by decide), zup_s, hwv]
          · rw [zup_s]
          · rw [zup_ne' (by decide), zup_ne' (by decide), zup_o a, (zF29_trans hF f3).1 31 (by decide)]
          · rw [zup_ne' (by decide), zup_o a, zup_ne' (by decide), (zF29_trans hF f3).1 32 (by decide)]
          · rw [zup_o a, zup_ne' (by decide), zup_ne' (by decide), (zF29_trans hF f3).1 33 (by decide)]
        · skip
          refine ze_iconst kc_33_115 ?_
          refine ze_ireturn kc_33_116 (by decide) ?_
          have hC : ¬ zxC L t p := fun q => by
            rw [hr2, if_neg q] at h112
            omega
          exact q2 (fun q => hC q.2.2) _ (zF29_trans hF f3) (by rw [zxEnd_c hA hB, f4, hr2])
      · skip
        refine ze_iconst kc_33_100 ?_
        refine ze_goto kc_33_101 ?_
        refine zE_callv 2 kc_33_105 rfl rfl (Nat.le_of_ble_eq_true rfl) (Nat.le_of_ble_eq_true rfl) (Nat.le_of_ble_eq_true rfl) rfl (by decide +kernel) rfl ?_
        refine (m_number (zTxX_f hT hF) (m := zxMst (t p)) (p := (zxWho L t p).1) (by unfold zxMst; split <;> (try split) <;> omega) (by unfold zxMst; split <;> (try split) <;> omega) hwp.2 hP (fun Z3 r hr f3 f4 => ?_))
        simp only [Option.toList_some, Option.toList_none, List.drop_succ_cons, List.drop_zero, List.cons_append, List.nil_append]
        have hr2 : r = zxVal L t p := hr
        have hvi := zxVal_in (L := L) (t := t) (p := p)
        have hrr : -1 ≤ (if r.1 = (zxWho L t p).1 then (-1 : Int) else r.2) ∧ (if r.1 = (zxWho L t p).1 then (-1 : Int) else r.2) ≤ 999 := by
          rw [hr2]
          split <;> omega
        refine ze_istore kc_33_108 (Nat.le_of_ble_eq_true rfl) ?_
        simp only [zset1, zset2, zcut, zf0, zf1, zf2, zf3, List.set_cons_zero, List.set_cons_succ, List.getD_cons_zero, List.getD_cons_succ]
        refine ze_iload kc_33_110 rfl ?_
        refine ze_if_ge kc_33_112 (by omega) (fun h112 => ?_) (fun h112 => ?_)
        · skip
          refine ze_aload_n kc_33_117 rfl ?_
          refine ze_getR kc_33_118 rfl rfl rfl ?_
          refine ze_iload_n kc_33_121 rfl ?_
          refine ze_iload_n kc_33_122 rfl ?_
          refine ze_iast kc_33_123 rfl (by omega) ?_
          rw [Int.toNat_natCast]
          refine ze_aload_n kc_33_124 rfl ?_
          refine ze_getR kc_33_125 rfl rfl rfl ?_
          refine ze_iload_n kc_33_128 rfl ?_
          refine ze_iload_n kc_33_129 rfl ?_
          refine ze_iast kc_33_130 rfl (by omega) ?_
          rw [Int.toNat_natCast]
          refine ze_aload_n kc_33_131 rfl ?_
          refine ze_getR kc_33_132 rfl rfl rfl ?_
          refine ze_iload_n kc_33_135 rfl ?_
          refine ze_iload kc_33_136 rfl ?_
          refine ze_iast kc_33_138 rfl (by omega) ?_
          rw [Int.toNat_natCast]
          refine ze_iconst kc_33_139 ?_
          refine ze_ireturn kc_33_140 (by decide) ?_
          have hC : zxC L t p := fun q => by
            rw [hr2, if_pos q] at h112
            omega
          rw [hr2, if_neg hC]
          refine q1 ⟨hA, hB, hC⟩ _ (fun i a b d e => ?_) (fun j a => ?_) ?_ ⟨?_, ?_, ?_, fun i a => ⟨?_, ?_, ?_⟩⟩
          · rw [zup_ne' e, zup_ne' d, zup_ne' b]; exact (zF29_trans hF f3).1 i a
          · rw [zup_ne' (by decide), zup_ne' (by decide), zup_ne' (by decide)]; exact (zF29_trans hF f3).2 j a
          · rw [zup_ne' (by decide), zup_ne' (by decide), zup_ne' (by decide), zxEnd_c hA hB, f4, hr2]
          · rw [zup_ne' (by decide), zup_ne' (by decide), zup_s]
          · rw [zup_ne' (by decide), zup_s, hwv]
          · rw [zup_s]
          · rw [zup_ne' (by decide), zup_ne' (by decide), zup_o a, (zF29_trans hF f3).1 31 (by decide)]
          · rw [zup_ne' (by decide), zup_o a, zup_ne' (by decide), (zF29_trans hF f3).1 32 (by decide)]
          · rw [zup_o a, zup_ne' (by decide), zup_ne' (by decide), (zF29_trans hF f3).1 33 (by decide)]
        · skip
          refine ze_iconst kc_33_115 ?_
          refine ze_ireturn kc_33_116 (by decide) ?_
          have hC : ¬ zxC L t p := fun q => by
            rw [hr2, if_neg q] at h112
            omega
          exact q2 (fun q => hC q.2.2) _ (zF29_trans hF f3) (by rw [zxEnd_c hA hB, f4, hr2])
    · skip
      refine ze_iconst kc_33_90 ?_
      refine ze_goto kc_33_91 ?_
      refine zE_callv 2 kc_33_105 rfl rfl (Nat.le_of_ble_eq_true rfl) (Nat.le_of_ble_eq_true rfl) (Nat.le_of_ble_eq_true rfl) rfl (by decide +kernel) rfl ?_
      refine (m_number (zTxX_f hT hF) (m := zxMst (t p)) (p := (zxWho L t p).1) (by unfold zxMst; split <;> (try split) <;> omega) (by unfold zxMst; split <;> (try split) <;> omega) hwp.2 hP (fun Z3 r hr f3 f4 => ?_))
      simp only [Option.toList_some, Option.toList_none, List.drop_succ_cons, List.drop_zero, List.cons_append, List.nil_append]
      have hr2 : r = zxVal L t p := hr
      have hvi := zxVal_in (L := L) (t := t) (p := p)
      have hrr : -1 ≤ (if r.1 = (zxWho L t p).1 then (-1 : Int) else r.2) ∧ (if r.1 = (zxWho L t p).1 then (-1 : Int) else r.2) ≤ 999 := by
        rw [hr2]
        split <;> omega
      refine ze_istore kc_33_108 (Nat.le_of_ble_eq_true rfl) ?_
      simp only [zset1, zset2, zcut, zf0, zf1, zf2, zf3, List.set_cons_zero, List.set_cons_succ, List.getD_cons_zero, List.getD_cons_succ]
      refine ze_iload kc_33_110 rfl ?_
      refine ze_if_ge kc_33_112 (by omega) (fun h112 => ?_) (fun h112 => ?_)
      · skip
        refine ze_aload_n kc_33_117 rfl ?_
        refine ze_getR kc_33_118 rfl rfl rfl ?_
        refine ze_iload_n kc_33_121 rfl ?_
        refine ze_iload_n kc_33_122 rfl ?_
        refine ze_iast kc_33_123 rfl (by omega) ?_
        rw [Int.toNat_natCast]
        refine ze_aload_n kc_33_124 rfl ?_
        refine ze_getR kc_33_125 rfl rfl rfl ?_
        refine ze_iload_n kc_33_128 rfl ?_
        refine ze_iload_n kc_33_129 rfl ?_
        refine ze_iast kc_33_130 rfl (by omega) ?_
        rw [Int.toNat_natCast]
        refine ze_aload_n kc_33_131 rfl ?_
        refine ze_getR kc_33_132 rfl rfl rfl ?_
        refine ze_iload_n kc_33_135 rfl ?_
        refine ze_iload kc_33_136 rfl ?_
        refine ze_iast kc_33_138 rfl (by omega) ?_
        rw [Int.toNat_natCast]
        refine ze_iconst kc_33_139 ?_
        refine ze_ireturn kc_33_140 (by decide) ?_
        have hC : zxC L t p := fun q => by
          rw [hr2, if_pos q] at h112
          omega
        rw [hr2, if_neg hC]
        refine q1 ⟨hA, hB, hC⟩ _ (fun i a b d e => ?_) (fun j a => ?_) ?_ ⟨?_, ?_, ?_, fun i a => ⟨?_, ?_, ?_⟩⟩
        · rw [zup_ne' e, zup_ne' d, zup_ne' b]; exact (zF29_trans hF f3).1 i a
        · rw [zup_ne' (by decide), zup_ne' (by decide), zup_ne' (by decide)]; exact (zF29_trans hF f3).2 j a
        · rw [zup_ne' (by decide), zup_ne' (by decide), zup_ne' (by decide), zxEnd_c hA hB, f4, hr2]
        · rw [zup_ne' (by decide), zup_ne' (by decide), zup_s]
        · rw [zup_ne' (by decide), zup_s, hwv]
        · rw [zup_s]
        · rw [zup_ne' (by decide), zup_ne' (by decide), zup_o a, (zF29_trans hF f3).1 31 (by decide)]
        · rw [zup_ne' (by decide), zup_o a, zup_ne' (by decide), (zF29_trans hF f3).1 32 (by decide)]
        · rw [zup_o a, zup_ne' (by decide), zup_ne' (by decide), (zF29_trans hF f3).1 33 (by decide)]
      · skip
        refine ze_iconst kc_33_115 ?_
        refine ze_ireturn kc_33_116 (by decide) ?_
        have hC : ¬ zxC L t p := fun q => by
          rw [hr2, if_neg q] at h112
          omega
        exact q2 (fun q => hC q.2.2) _ (zF29_trans hF f3) (by rw [zxEnd_c hA hB, f4, hr2])
  · skip
    have hz : t p = 110 ∧ (zxWho L t p).1 = p + 1 := by
      by_cases z : t p = 110 ∧ (zxWho L t p).1 = p + 1
      · exact z
      · rw [if_neg z] at hw
        omega
    have hB : ¬ zxB L t p := fun q => q hz.1 hz.2
    refine ze_iconst kc_33_81 ?_
    refine ze_ireturn kc_33_82 (by decide) ?_
    exact q2 (fun q => hB q.2.1) _ hF (by rw [zxEnd_b hA hB, hP, hz.2])

set_option maxHeartbeats 8000000 in
theorem m_takesClause {Z : zMem} {Q : Option zAV → zMem → Prop} {L : Nat} {t : Nat → Int} (hT : zTxX L t Z) {k p : Nat} (hk : k < 12) (hp : p ≤ L) (h6 : Z 29 6 = p) (q1 : zxOk L t p → ∀ (Z' : zMem), (∀ i, i ≠ 29 → i ≠ 31 → i ≠ 32 → i ≠ 33 → Z' i = Z i) → (∀ j, j ≠ 6 → Z' 29 j = Z 29 j) → Z' 29 6 = (zxEnd L t p : Nat) → (Z' 31 k = t p ∧ Z' 32 k = (zxWho L t p).2 ∧ Z' 33 k = (zxVal L t p).2 ∧ ∀ i, i ≠ k → Z' 31 i = Z 31 i ∧ Z' 32 i = Z 32 i ∧ Z' 33 i = Z 33 i) → Q (some (zI 1)) Z') (q2 : ¬ zxOk L t p → ∀ (Z' : zMem), zF29 Z Z' → Z' 29 6 = (zxEnd L t p : Nat) → Q (some (zI 0)) Z') : zE 33 0 (zent 33 [zR 29, zI (k : Nat)]) [] Z Q := by
  show zE 33 0 [some (zR 29), some (zI (k : Nat)), none, none, none] [] Z Q
  have hT0 := hT
  obtain ⟨t1, t2, t3, t4⟩ := hT
  refine ze_aload_n kc_33_0 rfl ?_
  refine ze_getI kc_33_1 rfl (by decide) ?_
  rw [h6]
  refine ze_aload_n kc_33_4 rfl ?_
  refine ze_getI kc_33_5 rfl (by decide) ?_
  rw [t1]
  refine ze_icmp_ge kc_33_8 (by omega) (by omega) (fun h8 => ?_) (fun h8 => ?_)
  · skip
    refine ze_iconst kc_33_23 ?_
    refine ze_istore_n kc_33_24 (Nat.le_of_ble_eq_true rfl) ?_
    simp only [zset1, zset2, zcut, zf0, zf1, zf2, zf3, List.set_cons_zero, List.set_cons_succ, List.getD_cons_zero, List.getD_cons_succ]
    refine ze_iload_n kc_33_25 rfl ?_
    refine ze_bipush kc_33_26 ?_
    refine ze_icmp_eq kc_33_28 (by decide) (by decide) (fun q => absurd q (by decide)) (fun _ => ?_)
    refine ze_iload_n kc_33_31 rfl ?_
    refine ze_bipush kc_33_32 ?_
    refine ze_icmp_eq kc_33_34 (by decide) (by decide) (fun q => absurd q (by decide)) (fun _ => ?_)
    refine ze_iload_n kc_33_37 rfl ?_
    refine ze_bipush kc_33_38 ?_
    refine ze_icmp_eq kc_33_40 (by decide) (by decide) (fun q => absurd q (by decide)) (fun _ => ?_)
    refine ze_iload_n kc_33_43 rfl ?_
    refine ze_bipush kc_33_44 ?_
    refine ze_icmp_eq kc_33_46 (by decide) (by decide) (fun q => absurd q (by decide)) (fun _ => ?_)
    refine ze_iconst kc_33_49 ?_
    refine ze_ireturn kc_33_50 (by decide) ?_
    have hA : ¬ zxA L t p := fun q => by
      have q1 := q.1
      have q2 := q.2
      unfold zxLt at q2
      omega
    exact q2 (fun q => hA q.1) _ zF29_refl (by rw [zxEnd_a hA]; exact h6)
  · skip
    refine ze_aload_n kc_33_11 rfl ?_
    refine ze_getR kc_33_12 rfl rfl rfl ?_
    refine ze_aload_n kc_33_15 rfl ?_
    refine ze_getI kc_33_16 rfl (by decide) ?_
    rw [h6]
    refine ze_bald kc_33_19 rfl (by omega) ?_
    rw [Int.toNat_natCast, t3 p (by omega)]
    have htp := t4 p (by omega)
    refine ze_goto kc_33_20 ?_
    refine ze_istore_n kc_33_24 (Nat.le_of_ble_eq_true rfl) ?_
    simp only [zset1, zset2, zcut, zf0, zf1, zf2, zf3, List.set_cons_zero, List.set_cons_succ, List.getD_cons_zero, List.getD_cons_succ]
    refine ze_iload_n kc_33_25 rfl ?_
    refine ze_bipush kc_33_26 ?_
    refine ze_icmp_eq kc_33_28 (by omega) (by omega) (fun h28 => ?_) (fun h28 => ?_)
    · skip
      have hA : zxA L t p := ⟨by omega, by unfold zxLt; omega⟩
      refine ze_aload_n kc_33_51 rfl ?_
      refine ze_dup kc_33_52 rfl ?_
      refine ze_getI kc_33_53 rfl (by decide) ?_
      rw [h6]
      refine ze_iconst kc_33_56 ?_
      refine ze_iadd kc_33_57 ?_
      refine ze_putI kc_33_58 rfl rfl ?_
      rw [show (p : Int) + 1 = ((p + 1 : Nat) : Int) by omega]
      refine ze_iload_n kc_33_61 rfl ?_
      refine ze_bipush kc_33_62 ?_
      refine ze_icmp_ne kc_33_64 (by omega) (by omega) (fun h64 => ?_) (fun h64 => ?_)
      · skip
        refine ze_iconst kc_33_75 ?_
        refine ze_istore_n kc_33_76 (Nat.le_of_ble_eq_true rfl) ?_
        simp only [zset1, zset2, zcut, zf0, zf1, zf2, zf3, List.set_cons_zero, List.set_cons_succ, List.getD_cons_zero, List.getD_cons_succ]
        first
          | (have e : zxWho L t p = zxNum L t 1 (p + 1) 0 := if_pos (by omega)
             rw [← hr] at e
             exact m_takesClause_b hT0 hk hA (zF29_trans (zF29_up zF29_refl) f3) (by rw [e]; exact f4) (by
               rw [e]
               by_cases z : r.1 = p + 1
               · rw [if_pos z, if_pos ⟨by omega, z⟩]
               · rw [if_neg z, if_neg (fun q => z q.2)]) q1 q2)
          | (have e : zxWho L t p = (p + 1, 0) := if_neg (by omega)
             exact m_takesClause_b hT0 hk hA (zF29_up zF29_refl) (by rw [e]; exact zup_s) (by
               rw [e]
               exact (if_neg (fun q => by omega)).symm) q1 q2)
          | (exfalso; omega)
      · skip
        refine ze_aload_n kc_33_67 rfl ?_
        refine ze_iconst kc_33_68 ?_
        refine zE_callv 2 kc_33_69 rfl rfl (Nat.le_of_ble_eq_true rfl) (Nat.le_of_ble_eq_true rfl) (Nat.le_of_ble_eq_true rfl) rfl (by decide +kernel) rfl ?_
        refine m_number (zTxX_f hT0 (zF29_up zF29_refl)) (m := 1) (p := p + 1) rfl (by decide) hA.1 zup_s (fun Z3 r hr f3 f4 => ?_)
        simp only [Option.toList_some, Option.toList_none, List.drop_succ_cons, List.drop_zero, List.cons_append, List.nil_append]
        refine ze_goto kc_33_72 ?_
        refine ze_istore_n kc_33_76 (Nat.le_of_ble_eq_true rfl) ?_
        simp only [zset1, zset2, zcut, zf0, zf1, zf2, zf3, List.set_cons_zero, List.set_cons_succ, List.getD_cons_zero, List.getD_cons_succ]
        first
          | (have e : zxWho L t p = zxNum L t 1 (p + 1) 0 := if_pos (by omega)
             rw [← hr] at e
             exact m_takesClause_b hT0 hk hA (zF29_trans (zF29_up zF29_refl) f3) (by rw [e]; exact f4) (by
               rw [e]
               by_cases z : r.1 = p + 1
               · rw [if_pos z, if_pos ⟨by omega, z⟩]
               · rw [if_neg z, if_neg (fun q => z q.2)]) q1 q2)
          | (have e : zxWho L t p = (p + 1, 0) := if_neg (by omega)
             exact m_takesClause_b hT0 hk hA (zF29_up zF29_refl) (by rw [e]; exact zup_s) (by
               rw [e]
               exact (if_neg (fun q => by omega)).symm) q1 q2)
          | (exfalso; omega)
    · skip
      refine ze_iload_n kc_33_31 rfl ?_
      refine ze_bipush kc_33_32 ?_
      refine ze_icmp_eq kc_33_34 (by omega) (by omega) (fun h34 => ?_) (fun h34 => ?_)
      · skip
        have hA : zxA L t p := ⟨by omega, by unfold zxLt; omega⟩
        refine ze_aload_n kc_33_51 rfl ?_
        refine ze_dup kc_33_52 rfl ?_
        refine ze_getI kc_33_53 rfl (by decide) ?_
        rw [h6]
        refine ze_iconst kc_33_56 ?_
        refine ze_iadd kc_33_57 ?_
        refine ze_putI kc_33_58 rfl rfl ?_
        rw [show (p : Int) + 1 = ((p + 1 : Nat) : Int) by omega]
        refine ze_iload_n kc_33_61 rfl ?_
        refine ze_bipush kc_33_62 ?_
        refine ze_icmp_ne kc_33_64 (by omega) (by omega) (fun h64 => ?_) (fun h64 => ?_)
        · skip
          refine ze_iconst kc_33_75 ?_
          refine ze_istore_n kc_33_76 (Nat.le_of_ble_eq_true rfl) ?_
          simp only [zset1, zset2, zcut, zf0, zf1, zf2, zf3, List.set_cons_zero, List.set_cons_succ, List.getD_cons_zero, List.getD_cons_succ]
          first
            | (have e : zxWho L t p = zxNum L t 1 (p + 1) 0 := if_pos (by omega)
               rw [← hr] at e
               exact m_takesClause_b hT0 hk hA (zF29_trans (zF29_up zF29_refl) f3) (by rw [e]; exact f4) (by
                 rw [e]
                 by_cases z : r.1 = p + 1
                 · rw [if_pos z, if_pos ⟨by omega, z⟩]
                 · rw [if_neg z, if_neg (fun q => z q.2)]) q1 q2)
            | (have e : zxWho L t p = (p + 1, 0) := if_neg (by omega)
               exact m_takesClause_b hT0 hk hA (zF29_up zF29_refl) (by rw [e]; exact zup_s) (by
                 rw [e]
                 exact (if_neg (fun q => by omega)).symm) q1 q2)
            | (exfalso; omega)
        · skip
          refine ze_aload_n kc_33_67 rfl ?_
          refine ze_iconst kc_33_68 ?_
          refine zE_callv 2 kc_33_69 rfl rfl (Nat.le_of_ble_eq_true rfl) (Nat.le_of_ble_eq_true rfl) (Nat.le_of_ble_eq_true rfl) rfl (by decide +kernel) rfl ?_
          refine m_number (zTxX_f hT0 (zF29_up zF29_refl)) (m := 1) (p := p + 1) rfl (by decide) hA.1 zup_s (fun Z3 r hr f3 f4 => ?_)
          simp only [Option.toList_some, Option.toList_none, List.drop_succ_cons, List.drop_zero, List.cons_append, List.nil_append]
          refine ze_goto kc_33_72 ?_
          refine ze_istore_n kc_33_76 (Nat.le_of_ble_eq_true rfl) ?_
          simp only [zset1, zset2, zcut, zf0, zf1, zf2, zf3, List.set_cons_zero, List.set_cons_succ, List.getD_cons_zero, List.getD_cons_succ]
          first
            | (have e : zxWho L t p = zxNum L t 1 (p + 1) 0 := if_pos (by omega)
               rw [← hr] at e
               exact m_takesClause_b hT0 hk hA (zF29_trans (zF29_up zF29_refl) f3) (by rw [e]; exact f4) (by
                 rw [e]
                 by_cases z : r.1 = p + 1
                 · rw [if_pos z, if_pos ⟨by omega, z⟩]
                 · rw [if_neg z, if_neg (fun q => z q.2)]) q1 q2)
            | (have e : zxWho L t p = (p + 1, 0) := if_neg (by omega)
               exact m_takesClause_b hT0 hk hA (zF29_up zF29_refl) (by rw [e]; exact zup_s) (by
                 rw [e]
                 exact (if_neg (fun q => by omega)).symm) q1 q2)
            | (exfalso; omega)
      · skip
        refine ze_iload_n kc_33_37 rfl ?_
        refine ze_bipush kc_33_38 ?_
        refine ze_icmp_eq kc_33_40 (by omega) (by omega) (fun h40 => ?_) (fun h40 => ?_)
        · skip
          have hA : zxA L t p := ⟨by omega, by unfold zxLt; omega⟩
          refine ze_aload_n kc_33_51 rfl ?_
          refine ze_dup kc_33_52 rfl ?_
          refine ze_getI kc_33_53 rfl (by decide) ?_
          rw [h6]
          refine ze_iconst kc_33_56 ?_
          refine ze_iadd kc_33_57 ?_
          refine ze_putI kc_33_58 rfl rfl ?_
          rw [show (p : Int) + 1 = ((p + 1 : Nat) : Int) by omega]
          refine ze_iload_n kc_33_61 rfl ?_
          refine ze_bipush kc_33_62 ?_
          refine ze_icmp_ne kc_33_64 (by omega) (by omega) (fun h64 => ?_) (fun h64 => ?_)
          · skip
            refine ze_iconst kc_33_75 ?_
            refine ze_istore_n kc_33_76 (Nat.le_of_ble_eq_true rfl) ?_
            simp only [zset1, zset2, zcut, zf0, zf1, zf2, zf3, List.set_cons_zero, List.set_cons_succ, List.getD_cons_zero, List.getD_cons_succ]
            first
              | (have e : zxWho L t p = zxNum L t 1 (p + 1) 0 := if_pos (by omega)
                 rw [← hr] at e
                 exact m_takesClause_b hT0 hk hA (zF29_trans (zF29_up zF29_refl) f3) (by rw [e]; exact f4) (by
                   rw [e]
                   by_cases z : r.1 = p + 1
                   · rw [if_pos z, if_pos ⟨by omega, z⟩]
                   · rw [if_neg z, if_neg (fun q => z q.2)]) q1 q2)
              | (have e : zxWho L t p = (p + 1, 0) := if_neg (by omega)
                 exact m_takesClause_b hT0 hk hA (zF29_up zF29_refl) (by rw [e]; exact zup_s) (by
                   rw [e]
                   exact (if_neg (fun q => by omega)).symm) q1 q2)
              | (exfalso; omega)
          · skip
            refine ze_aload_n kc_33_67 rfl ?_
            refine ze_iconst kc_33_68 ?_
            refine zE_callv 2 kc_33_69 rfl rfl (Nat.le_of_ble_eq_true rfl) (Nat.le_of_ble_eq_true rfl) (Nat.le_of_ble_eq_true rfl) rfl (by decide +kernel) rfl ?_
            refine m_number (zTxX_f hT0 (zF29_up zF29_refl)) (m := 1) (p := p + 1) rfl (by decide) hA.1 zup_s (fun Z3 r hr f3 f4 => ?_)
            simp only [Option.toList_some, Option.toList_none, List.drop_succ_cons, List.drop_zero, List.cons_append, List.nil_append]
            refine ze_goto kc_33_72 ?_
            refine ze_istore_n kc_33_76 (Nat.le_of_ble_eq_true rfl) ?_
            simp only [zset1, zset2, zcut, zf0, zf1, zf2, zf3, List.set_cons_zero, List.set_cons_succ, List.getD_cons_zero, List.getD_cons_succ]
            first
              | (have e : zxWho L t p = zxNum L t 1 (p + 1) 0 := if_pos (by omega)
                 rw [← hr] at e
                 exact m_takesClause_b hT0 hk hA (zF29_trans (zF29_up zF29_refl) f3) (by rw [e]; exact f4) (by
                   rw [e]
                   by_cases z : r.1 = p + 1
                   · rw [if_pos z, if_pos ⟨by omega, z⟩]
                   · rw [if_neg z, if_neg (fun q => z q.2)]) q1 q2)
              | (have e : zxWho L t p = (p + 1, 0) := if_neg (by omega)
                 exact m_takesClause_b hT0 hk hA (zF29_up zF29_refl) (by rw [e]; exact zup_s) (by
                   rw [e]
                   exact (if_neg (fun q => by omega)).symm) q1 q2)
              | (exfalso; omega)
        · skip
          refine ze_iload_n kc_33_43 rfl ?_
          refine ze_bipush kc_33_44 ?_
          refine ze_icmp_eq kc_33_46 (by omega) (by omega) (fun h46 => ?_) (fun h46 => ?_)
          · skip
            have hA : zxA L t p := ⟨by omega, by unfold zxLt; omega⟩
            refine ze_aload_n kc_33_51 rfl ?_
            refine ze_dup kc_33_52 rfl ?_
            refine ze_getI kc_33_53 rfl (by decide) ?_
            rw [h6]
            refine ze_iconst kc_33_56 ?_
            refine ze_iadd kc_33_57 ?_
            refine ze_putI kc_33_58 rfl rfl ?_
            rw [show (p : Int) + 1 = ((p + 1 : Nat) : Int) by omega]
            refine ze_iload_n kc_33_61 rfl ?_
            refine ze_bipush kc_33_62 ?_
            refine ze_icmp_ne kc_33_64 (by omega) (by omega) (fun h64 => ?_) (fun h64 => ?_)
            · skip
              refine ze_iconst kc_33_75 ?_
              refine ze_istore_n kc_33_76 (Nat.le_of_ble_eq_true rfl) ?_
              simp only [zset1, zset2, zcut, zf0, zf1, zf2, zf3, List.set_cons_zero, List.set_cons_succ, List.getD_cons_zero, List.getD_cons_succ]
              first
                | (have e : zxWho L t p = zxNum L t 1 (p + 1) 0 := if_pos (by omega)
                   rw [← hr] at e
                   exact m_takesClause_b hT0 hk hA (zF29_trans (zF29_up zF29_refl) f3) (by rw [e]; exact f4) (by
                     rw [e]
                     by_cases z : r.1 = p + 1
                     · rw [if_pos z, if_pos ⟨by omega, z⟩]
                     · rw [if_neg z, if_neg (fun q => z q.2)]) q1 q2)
                | (have e : zxWho L t p = (p + 1, 0) := if_neg (by omega)
                   exact m_takesClause_b hT0 hk hA (zF29_up zF29_refl) (by rw [e]; exact zup_s) (by
                     rw [e]
                     exact (if_neg (fun q => by omega)).symm) q1 q2)
                | (exfalso; omega)
            · skip
              refine ze_aload_n kc_33_67 rfl ?_
              refine ze_iconst kc_33_68 ?_
              refine zE_callv 2 kc_33_69 rfl rfl (Nat.le_of_ble_eq_true rfl) (Nat.le_of_ble_eq_true rfl) (Nat.le_of_ble_eq_true rfl) rfl (by decide +kernel) rfl ?_
              refine m_number (zTxX_f hT0 (zF29_up zF29_refl)) (m := 1) (p := p + 1) rfl (by decide) hA.1 zup_s (fun Z3 r hr f3 f4 => ?_)
              simp only [Option.toList_some, Option.toList_none, List.drop_succ_cons, List.drop_zero, List.cons_append, List.nil_append]
              refine ze_goto kc_33_72 ?_
              refine ze_istore_n kc_33_76 (Nat.le_of_ble_eq_true rfl) ?_
              simp only [zset1, zset2, zcut, zf0, zf1, zf2, zf3, List.set_cons_zero, List.set_cons_succ, List.getD_cons_zero, List.getD_cons_succ]
              first
                | (have e : zxWho L t p = zxNum L t 1 (p + 1) 0 := if_pos (by omega)
                   rw [← hr] at e
                   exact m_takesClause_b hT0 hk hA (zF29_trans (zF29_up zF29_refl) f3) (by rw [e]; exact f4) (by
                     rw [e]
                     by_cases z : r.1 = p + 1
                     · rw [if_pos z, if_pos ⟨by omega, z⟩]
                     · rw [if_neg z, if_neg (fun q => z q.2)]) q1 q2)
                | (have e : zxWho L t p = (p + 1, 0) := if_neg (by omega)
                   exact m_takesClause_b hT0 hk hA (zF29_up zF29_refl) (by rw [e]; exact zup_s) (by
                     rw [e]
                     exact (if_neg (fun q => by omega)).symm) q1 q2)
                | (exfalso; omega)
          · skip
            refine ze_iconst kc_33_49 ?_
            refine ze_ireturn kc_33_50 (by decide) ?_
            have hA : ¬ zxA L t p := fun q => by
              have q1 := q.1
              have q2 := q.2
              unfold zxLt at q2
              omega
            exact q2 (fun q => hA q.1) _ zF29_refl (by rw [zxEnd_a hA]; exact h6)

set_option maxHeartbeats 8000000 in
theorem m_parse {Z : zMem} {Q : Option zAV → zMem → Prop} {L : Nat} {t : Nat → Int} (hT : zTxX L t Z) (q1 : ∀ (Z' : zMem) (f : Int), f = (zxPr L t 12 0).1 → (∀ i, i ≠ 29 → i ≠ 31 → i ≠ 32 → i ≠ 33 → Z' i = Z i) → zTxX L t Z' → (f = -1 → Z' 29 5 = ((zxPr L t 12 0).2 : Nat) ∧ (∀ j, j < (zxPr L t 12 0).2 → Z' 31 j = t (zxPl L t j) ∧ Z' 32 j = (zxWho L t (zxPl L t j)).2 ∧ Z' 33 j = (zxVal L t (zxPl L t j)).2)) → Q (some (zI f)) Z') : zE 31 0 (zent 31 [zR 29]) [] Z Q := by
  show zE 31 0 [some (zR 29), none] [] Z Q
  have hT0 := hT
  obtain ⟨t1, t2, t3, t4⟩ := hT
  refine ze_aload_n kc_31_0 rfl ?_
  refine ze_iconst kc_31_1 ?_
  refine ze_putI kc_31_2 rfl rfl ?_
  refine ze_aload_n kc_31_5 rfl ?_
  refine ze_iconst kc_31_6 ?_
  refine ze_putI kc_31_7 rfl rfl ?_
  refine ze_iconst kc_31_10 ?_
  refine ze_istore_n kc_31_11 (Nat.le_of_ble_eq_true rfl) ?_
  simp only [zset1, zset2, zcut, zf0, zf1, zf2, zf3, List.set_cons_zero, List.set_cons_succ, List.getD_cons_zero, List.getD_cons_succ]
  have loop12 : ∀ (μ : Nat) (k : Nat) (x : Int) (Zc : zMem), 12 - k = μ → (k ≤ 12) → (x = k) → ((∀ i, i ≠ 29 → i ≠ 31 → i ≠ 32 → i ≠ 33 → Zc i = Z i)) → (zTxX L t Zc) → (Zc 29 6 = ((if k = 0 then 0 else zxEnd L t (zxPl L t (k - 1))) : Nat)) → ((if k = 0 then 0 else zxEnd L t (zxPl L t (k - 1))) ≤ L ∧ (0 < k → (if k = 0 then 0 else zxEnd L t (zxPl L t (k - 1))) < L)) → (zxRs L t k = (zxPr L t 12 0)) → ((∀ j, j < k → Zc 31 j = t (zxPl L t j) ∧ Zc 32 j = (zxWho L t (zxPl L t j)).2 ∧ Zc 33 j = (zxVal L t (zxPl L t j)).2)) → zE 31 12 [some (zR 29), some (zI x)] [] Zc Q := by
    refine zind ?_
    intro μ ih k x Zc hm hk hx hF hTc hpl hpL hR hAr
    subst hx
    refine ze_iload_n kc_31_12 rfl ?_
    refine ze_bipush kc_31_13 ?_
    refine ze_icmp_ge kc_31_15 (by omega) (by omega) (fun h15 => ?_) (fun h15 => ?_)
    · skip
      refine ze_aload_n kc_31_75 rfl ?_
      refine ze_getI kc_31_76 rfl (by decide) ?_
      rw [hpl]
      refine ze_ireturn kc_31_79 (Or.inl rfl) ?_
      have hpe : (if k = 0 then 0 else zxEnd L t (zxPl L t (k - 1))) = zxEnd L t (zxPl L t (k - 1)) := if_neg (by omega)
      rw [hpe]
      have hz : zxRs L t k = ((zxEnd L t (zxPl L t (k - 1)) : Int), 0) := by
        unfold zxRs
        rw [if_neg (by omega), if_pos (by omega)]
      rw [hR] at hz
      exact q1 Zc _ (by rw [hz]) hF hTc (fun q => by omega)
    · skip
      refine ze_iload_n kc_31_18 rfl ?_
      refine ze_if_le kc_31_19 (by omega) (fun h19 => ?_) (fun h19 => ?_)
      · skip
        have hk0 : k = 0 := by omega
        have hT2 : zTxX L t Zc := hTc
        have hF2 := hF
        have hA2 := hAr
        have hp2 : Zc 29 6 = (zxPl L t k : Nat) := by rw [hpl, if_pos hk0, hk0]; rfl
        have hpl2 : zxPl L t k ≤ L := by rw [hk0]; exact Nat.zero_le _
        have hS : zxPr L t (12 - k) k = zxPr L t 12 0 := by rw [← hR, hk0]; rfl
        refine ze_aload_n kc_31_36 rfl ?_
        refine ze_iload_n kc_31_37 rfl ?_
        refine zE_callv 2 kc_31_38 rfl rfl (Nat.le_of_ble_eq_true rfl) (Nat.le_of_ble_eq_true rfl) (Nat.le_of_ble_eq_true rfl) rfl (by decide +kernel) rfl ?_
        refine m_takesClause hT2 (by omega) hpl2 hp2 (fun g38 Z4 k1 k2 k3 k4 => ?_) (fun g38 Z4 k2 k3 => ?_)
        · simp only [Option.toList_some, Option.toList_none, List.drop_succ_cons, List.drop_zero, List.cons_append, List.nil_append]
          have hep := (zxEnd_pl (t := t) hpl2).2
          refine ze_if_ne kc_31_41 (by decide) (fun _ => ?_) (fun q => absurd q (by decide))
          refine ze_aload_n kc_31_49 rfl ?_
          refine ze_getI kc_31_50 rfl (by decide) ?_
          rw [k3]
          refine ze_aload_n kc_31_53 rfl ?_
          refine ze_getI kc_31_54 rfl (by decide) ?_
          rw [show Z4 29 1 = L by rw [k2 1 (by decide)]; exact hT2.1]
          refine ze_icmp_lt kc_31_57 (by omega) (by omega) (fun h57 => ?_) (fun h57 => ?_)
          · skip
            refine ze_iinc kc_31_69 rfl ?_
            simp only [zset1, zset2, zcut, zf0, zf1, zf2, zf3, List.set_cons_zero, List.set_cons_succ, List.getD_cons_zero, List.getD_cons_succ]
            refine ze_goto kc_31_72 ?_
            refine ih _ (by omega) (k + 1) _ _ rfl (by omega) (by omega) (fun i a b d e => (k1 i a b d e).trans (hF2 i a b d e)) ⟨by rw [k2 1 (by decide)]; exact hT2.1, hT2.2.1, by rw [k1 30 (by decide) (by decide) (by decide) (by decide)]; exact hT2.2.2.1, hT2.2.2.2⟩ (by rw [if_neg (by omega), Nat.add_sub_cancel]; exact k3) (by rw [if_neg (by omega), Nat.add_sub_cancel]; omega) ((zxRs_s (by omega) g38 (by omega)).symm.trans hS) (fun j hj => ?_)
            by_cases e : j = k
            · rw [e]; exact ⟨k4.1, k4.2.1, k4.2.2.1⟩
            · obtain ⟨m1, m2, m3⟩ := k4.2.2.2 j e
              rw [m1, m2, m3]
              exact hA2 j (by omega)
          · skip
            refine ze_aload_n kc_31_60 rfl ?_
            refine ze_iload_n kc_31_61 rfl ?_
            refine ze_iconst kc_31_62 ?_
            refine ze_iadd kc_31_63 ?_
            refine ze_putI kc_31_64 rfl rfl ?_
            refine ze_iconst kc_31_67 ?_
            refine ze_ireturn kc_31_68 (Or.inl rfl) ?_
            rw [zxPr_end (by omega) g38 (by omega)] at hS
            refine q1 _ _ (by rw [← hS]) (fun i a b d e => ?_) ⟨?_, hT2.2.1, ?_, hT2.2.2.2⟩ (fun _ => ⟨?_, fun j hj => ?_⟩)
            · rw [zup_ne' a]; exact (k1 i a b d e).trans (hF2 i a b d e)
            · rw [zup_o (by decide), k2 1 (by decide)]; exact hT2.1
            · rw [zup_ne' (by decide), k1 30 (by decide) (by decide) (by decide) (by decide)]; exact hT2.2.2.1
            · rw [zup_s, ← hS]; show (k : Int) + 1 = ((k + 1 : Nat) : Int); omega
            · rw [zup_ne' (by decide), zup_ne' (by decide), zup_ne' (by decide)]
              rw [← hS] at hj
              replace hj : j < k + 1 := hj
              by_cases e : j = k
              · rw [e]; exact ⟨k4.1, k4.2.1, k4.2.2.1⟩
              · obtain ⟨m1, m2, m3⟩ := k4.2.2.2 j e
                rw [m1, m2, m3]
                exact hA2 j (by omega)
        · simp only [Option.toList_some, Option.toList_none, List.drop_succ_cons, List.drop_zero, List.cons_append, List.nil_append]
          have hep := (zxEnd_pl (t := t) hpl2).2
          refine ze_if_ne kc_31_41 (by decide) (fun q => absurd q (by decide)) (fun _ => ?_)
          refine ze_aload_n kc_31_44 rfl ?_
          refine ze_getI kc_31_45 rfl (by decide) ?_
          rw [k3]
          refine ze_ireturn kc_31_48 (Or.inl rfl) ?_
          rw [zxPr_bad (by omega) g38] at hS
          exact q1 Z4 _ (by rw [← hS]) (fun i a b d e => (k2.1 i a).trans (hF2 i a b d e)) (zTxX_f hT2 k2) (fun q => by omega)
      · skip
        have hpe : (if k = 0 then 0 else zxEnd L t (zxPl L t (k - 1))) = zxEnd L t (zxPl L t (k - 1)) := if_neg (by omega)
        refine ze_aload_n kc_31_22 rfl ?_
        refine ze_bipush kc_31_23 ?_
        refine zE_callv 2 kc_31_25 rfl rfl (Nat.le_of_ble_eq_true rfl) (Nat.le_of_ble_eq_true rfl) (Nat.le_of_ble_eq_true rfl) rfl (by decide +kernel) rfl ?_
        refine m_takes hTc hpL.1 hpl (fun g25 Z3 f1 f2 => ?_) (fun g25 => ?_)
        · simp only [Option.toList_some, Option.toList_none, List.drop_succ_cons, List.drop_zero, List.cons_append, List.nil_append]
          have hT2 : zTxX L t Z3 := zTxX_f hTc f1
          have hF2 : ∀ i, i ≠ 29 → i ≠ 31 → i ≠ 32 → i ≠ 33 → Z3 i = Z i := fun i a b d e => (f1.1 i a).trans (hF i a b d e)
          have hA2 : ∀ j, j < k → Z3 31 j = t (zxPl L t j) ∧ Z3 32 j = (zxWho L t (zxPl L t j)).2 ∧ Z3 33 j = (zxVal L t (zxPl L t j)).2 := fun j hj => by rw [f1.1 31 (by decide), f1.1 32 (by decide), f1.1 33 (by decide)]; exact hAr j hj
          have hkk : zxPl L t k = zxEnd L t (zxPl L t (k - 1)) + 1 := by
            obtain ⟨z, rfl⟩ : ∃ z, k = z + 1 := ⟨k - 1, by omega⟩
            rfl
          rw [hpe] at f2 g25
          have hp2 : Z3 29 6 = (zxPl L t k : Nat) := by rw [hkk]; exact f2
          have hpl2 : zxPl L t k ≤ L := by rw [hkk]; exact g25.1
          have hS : zxPr L t (12 - k) k = zxPr L t 12 0 := by
            rw [← hR]
            unfold zxRs
            rw [if_neg (by omega), if_neg (by omega)]
          refine ze_if_ne kc_31_28 (by decide) (fun _ => ?_) (fun q => absurd q (by decide))
          refine ze_aload_n kc_31_36 rfl ?_
          refine ze_iload_n kc_31_37 rfl ?_
          refine zE_callv 2 kc_31_38 rfl rfl (Nat.le_of_ble_eq_true rfl) (Nat.le_of_ble_eq_true rfl) (Nat.le_of_ble_eq_true rfl) rfl (by decide +kernel) rfl ?_
          refine m_takesClause hT2 (by omega) hpl2 hp2 (fun g38 Z4 k1 k2 k3 k4 => ?_) (fun g38 Z4 k2 k3 => ?_)
          · simp only [Option.toList_some, Option.toList_none, List.drop_succ_cons, List.drop_zero, List.cons_append, List.nil_append]
            have hep := (zxEnd_pl (t := t) hpl2).2
            refine ze_if_ne kc_31_41 (by decide) (fun _ => ?_) (fun q => absurd q (by decide))
            refine ze_aload_n kc_31_49 rfl ?_
            refine ze_getI kc_31_50 rfl (by decide) ?_
            rw [k3]
            refine ze_aload_n kc_31_53 rfl ?_
            refine ze_getI kc_31_54 rfl (by decide) ?_
            rw [show Z4 29 1 = L by rw [k2 1 (by decide)]; exact hT2.1]
            refine ze_icmp_lt kc_31_57 (by omega) (by omega) (fun h57 => ?_) (fun h57 => ?_)
            · skip
              refine ze_iinc kc_31_69 rfl ?_
              simp only [zset1, zset2, zcut, zf0, zf1, zf2, zf3, List.set_cons_zero, List.set_cons_succ, List.getD_cons_zero, List.getD_cons_succ]
              refine ze_goto kc_31_72 ?_
              refine ih _ (by omega) (k + 1) _ _ rfl (by omega) (by omega) (fun i a b d e => (k1 i a b d e).trans (hF2 i a b d e)) ⟨by rw [k2 1 (by decide)]; exact hT2.1, hT2.2.1, by rw [k1 30 (by decide) (by decide) (by decide) (by decide)]; exact hT2.2.2.1, hT2.2.2.2⟩ (by rw [if_neg (by omega), Nat.add_sub_cancel]; exact k3) (by rw [if_neg (by omega), Nat.add_sub_cancel]; omega) ((zxRs_s (by omega) g38 (by omega)).symm.trans hS) (fun j hj => ?_)
              by_cases e : j = k
              · rw [e]; exact ⟨k4.1, k4.2.1, k4.2.2.1⟩
              · obtain ⟨m1, m2, m3⟩ := k4.2.2.2 j e
                rw [m1, m2, m3]
                exact hA2 j (by omega)
            · skip
              refine ze_aload_n kc_31_60 rfl ?_
              refine ze_iload_n kc_31_61 rfl ?_
              refine ze_iconst kc_31_62 ?_
              refine ze_iadd kc_31_63 ?_
              refine ze_putI kc_31_64 rfl rfl ?_
              refine ze_iconst kc_31_67 ?_
              refine ze_ireturn kc_31_68 (Or.inl rfl) ?_
              rw [zxPr_end (by omega) g38 (by omega)] at hS
              refine q1 _ _ (by rw [← hS]) (fun i a b d e => ?_) ⟨?_, hT2.2.1, ?_, hT2.2.2.2⟩ (fun _ => ⟨?_, fun j hj => ?_⟩)
              · rw [zup_ne' a]; exact (k1 i a b d e).trans (hF2 i a b d e)
              · rw [zup_o (by decide), k2 1 (by decide)]; exact hT2.1
              · rw [zup_ne' (by decide), k1 30 (by decide) (by decide) (by decide) (by decide)]; exact hT2.2.2.1
              · rw [zup_s, ← hS]; show (k : Int) + 1 = ((k + 1 : Nat) : Int); omega
              · rw [zup_ne' (by decide), zup_ne' (by decide), zup_ne' (by decide)]
                rw [← hS] at hj
                replace hj : j < k + 1 := hj
                by_cases e : j = k
                · rw [e]; exact ⟨k4.1, k4.2.1, k4.2.2.1⟩
                · obtain ⟨m1, m2, m3⟩ := k4.2.2.2 j e
                  rw [m1, m2, m3]
                  exact hA2 j (by omega)
          · simp only [Option.toList_some, Option.toList_none, List.drop_succ_cons, List.drop_zero, List.cons_append, List.nil_append]
            have hep := (zxEnd_pl (t := t) hpl2).2
            refine ze_if_ne kc_31_41 (by decide) (fun q => absurd q (by decide)) (fun _ => ?_)
            refine ze_aload_n kc_31_44 rfl ?_
            refine ze_getI kc_31_45 rfl (by decide) ?_
            rw [k3]
            refine ze_ireturn kc_31_48 (Or.inl rfl) ?_
            rw [zxPr_bad (by omega) g38] at hS
            exact q1 Z4 _ (by rw [← hS]) (fun i a b d e => (k2.1 i a).trans (hF2 i a b d e)) (zTxX_f hT2 k2) (fun q => by omega)
        · simp only [Option.toList_some, Option.toList_none, List.drop_succ_cons, List.drop_zero, List.cons_append, List.nil_append]
          refine ze_if_ne kc_31_28 (by decide) (fun q => absurd q (by decide)) (fun _ => ?_)
          refine ze_aload_n kc_31_31 rfl ?_
          refine ze_getI kc_31_32 rfl (by decide) ?_
          rw [hpl]
          refine ze_ireturn kc_31_35 (Or.inl rfl) ?_
          rw [hpe] at g25 hpL ⊢
          have hz : zxRs L t k = ((zxEnd L t (zxPl L t (k - 1)) : Int), 0) := by
            unfold zxRs
            rw [if_neg (by omega), if_pos (by omega)]
          rw [hR] at hz
          exact q1 Zc _ (by rw [hz]) hF hTc (fun q => by omega)
  refine loop12 _ 0 0 _ rfl (by omega) rfl (fun i a b d e => by rw [zup_ne' a, zup_ne' a]) ⟨by rw [zup_o (by decide), zup_o (by decide)]; exact t1, t2, fun i hi => by rw [zup_ne' (by decide), zup_ne' (by decide)]; exact t3 i hi, t4⟩ (by rw [zup_o (by decide), zup_s]; rfl) ⟨by rw [if_pos rfl]; omega, fun q => absurd q (by decide)⟩ rfl (fun j hj => absurd hj (by omega))

set_option maxHeartbeats 4000000 in
theorem m_perform {Z : zMem} {Q : Option zAV → zMem → Prop} {n : Nat} {c : Nat → Int} {e ρ : Int} (hC : zCl n c e ρ Z) {k w v : Int} (hk : -2147483648 ≤ k ∧ k ≤ 2147483647) (hw : -2147483648 ≤ w ∧ w ≤ 2147483647) (hv : -2147483648 ≤ v ∧ v ≤ 2147483647)(q1 : ∀ (Z' : zMem), zClS (sPerf (n, c, e, ρ) k w v) Z' → zFS Z Z' → Q (some (zI (oPerf (n, c, e, ρ) k w v))) Z') : zE 50 0 (zent 50 [zR 0, zI k, zI w, zI v]) [] Z Q := by
  show zE 50 0 [some (zR 0), some (zI k), some (zI w), some (zI v)] [] Z Q
  refine ze_iload_n kc_50_0 rfl ?_
  by_cases hs99 : k = 99
  · refine ze_lookup (o := 35) kc_50_1 (by omega) (by rw [hs99]; rfl) rfl ?_
    refine ze_aload_n kc_50_36 rfl ?_
    refine ze_iload_n kc_50_37 rfl ?_
    refine zE_callv 2 kc_50_38 rfl rfl (Nat.le_of_ble_eq_true rfl) (Nat.le_of_ble_eq_true rfl) (Nat.le_of_ble_eq_true rfl) rfl (by decide +kernel) rfl ?_
    refine m_claimX hC (by omega) (fun Z2 f1 f2 => ?_)
    simp only [Option.toList_some, Option.toList_none, List.drop_succ_cons, List.drop_zero, List.cons_append, List.nil_append]
    refine ze_ireturn kc_50_41 (Or.inl rfl) ?_
    first
      | (rw [show sPerf (n, c, e, ρ) k w v = _ from if_pos (by omega), show oPerf (n, c, e, ρ) k w v = _ from if_pos (by omega)] at q1; exact q1 _ f1 f2)
      | (rw [show sPerf (n, c, e, ρ) k w v = _ from (if_neg (by omega)).trans (if_pos (by omega)), show oPerf (n, c, e, ρ) k w v = _ from (if_neg (by omega)).trans (if_pos (by omega))] at q1; exact q1 _ f1 f2)
      | (rw [show sPerf (n, c, e, ρ) k w v = _ from (if_neg (by omega)).trans ((if_neg (by omega)).trans (if_pos (by omega))), show oPerf (n, c, e, ρ) k w v = _ from (if_neg (by omega)).trans ((if_neg (by omega)).trans (if_pos (by omega)))] at q1; exact q1 _ f1 f2)
      | (rw [show sPerf (n, c, e, ρ) k w v = _ from (if_neg (by omega)).trans ((if_neg (by omega)).trans (if_neg (by omega))), show oPerf (n, c, e, ρ) k w v = _ from (if_neg (by omega)).trans ((if_neg (by omega)).trans (if_neg (by omega)))] at q1; exact q1 _ f1 f2)
  by_cases hs101 : k = 101
  · refine ze_lookup (o := 48) kc_50_1 (by omega) (by rw [hs101]; rfl) rfl ?_
    refine ze_aload_n kc_50_49 rfl ?_
    refine ze_iload_n kc_50_50 rfl ?_
    refine zE_callv 2 kc_50_51 rfl rfl (Nat.le_of_ble_eq_true rfl) (Nat.le_of_ble_eq_true rfl) (Nat.le_of_ble_eq_true rfl) rfl (by decide +kernel) rfl ?_
    refine m_estateX hC (by omega) (fun Z2 f1 f2 => ?_)
    simp only [Option.toList_some, Option.toList_none, List.drop_succ_cons, List.drop_zero, List.cons_append, List.nil_append]
    refine ze_ireturn kc_50_54 (Or.inl rfl) ?_
    first
      | (rw [show sPerf (n, c, e, ρ) k w v = _ from if_pos (by omega), show oPerf (n, c, e, ρ) k w v = _ from if_pos (by omega)] at q1; exact q1 _ f1 f2)
      | (rw [show sPerf (n, c, e, ρ) k w v = _ from (if_neg (by omega)).trans (if_pos (by omega)), show oPerf (n, c, e, ρ) k w v = _ from (if_neg (by omega)).trans (if_pos (by omega))] at q1; exact q1 _ f1 f2)
      | (rw [show sPerf (n, c, e, ρ) k w v = _ from (if_neg (by omega)).trans ((if_neg (by omega)).trans (if_pos (by omega))), show oPerf (n, c, e, ρ) k w v = _ from (if_neg (by omega)).trans ((if_neg (by omega)).trans (if_pos (by omega)))] at q1; exact q1 _ f1 f2)
      | (rw [show sPerf (n, c, e, ρ) k w v = _ from (if_neg (by omega)).trans ((if_neg (by omega)).trans (if_neg (by omega))), show oPerf (n, c, e, ρ) k w v = _ from (if_neg (by omega)).trans ((if_neg (by omega)).trans (if_neg (by omega)))] at q1; exact q1 _ f1 f2)
  by_cases hs110 : k = 110
  · refine ze_lookup (o := 41) kc_50_1 (by omega) (by rw [hs110]; rfl) rfl ?_
    refine ze_aload_n kc_50_42 rfl ?_
    refine ze_iload_n kc_50_43 rfl ?_
    refine ze_iload_n kc_50_44 rfl ?_
    refine zE_callv 3 kc_50_45 rfl rfl (Nat.le_of_ble_eq_true rfl) (Nat.le_of_ble_eq_true rfl) (Nat.le_of_ble_eq_true rfl) rfl (by decide +kernel) rfl ?_
    refine m_renewX hC (by omega) (by omega) (fun Z2 f1 f2 => ?_)
    simp only [Option.toList_some, Option.toList_none, List.drop_succ_cons, List.drop_zero, List.cons_append, List.nil_append]
    refine ze_ireturn kc_50_48 (Or.inl rfl) ?_
    first
      | (rw [show sPerf (n, c, e, ρ) k w v = _ from if_pos (by omega), show oPerf (n, c, e, ρ) k w v = _ from if_pos (by omega)] at q1; exact q1 _ f1 f2)
      | (rw [show sPerf (n, c, e, ρ) k w v = _ from (if_neg (by omega)).trans (if_pos (by omega)), show oPerf (n, c, e, ρ) k w v = _ from (if_neg (by omega)).trans (if_pos (by omega))] at q1; exact q1 _ f1 f2)
      | (rw [show sPerf (n, c, e, ρ) k w v = _ from (if_neg (by omega)).trans ((if_neg (by omega)).trans (if_pos (by omega))), show oPerf (n, c, e, ρ) k w v = _ from (if_neg (by omega)).trans ((if_neg (by omega)).trans (if_pos (by omega)))] at q1; exact q1 _ f1 f2)
      | (rw [show sPerf (n, c, e, ρ) k w v = _ from (if_neg (by omega)).trans ((if_neg (by omega)).trans (if_neg (by omega))), show oPerf (n, c, e, ρ) k w v = _ from (if_neg (by omega)).trans ((if_neg (by omega)).trans (if_neg (by omega)))] at q1; exact q1 _ f1 f2)
  refine ze_lookup (o := 54) kc_50_1 (by omega) (by simp only [Op.lookupswitch.offset, if_neg (Ne.symm hs99), if_neg (Ne.symm hs101), if_neg (Ne.symm hs110)]) rfl ?_
  refine ze_aload_n kc_50_55 rfl ?_
  refine ze_iload_n kc_50_56 rfl ?_
  refine zE_callv 2 kc_50_57 rfl rfl (Nat.le_of_ble_eq_true rfl) (Nat.le_of_ble_eq_true rfl) (Nat.le_of_ble_eq_true rfl) rfl (by decide +kernel) rfl ?_
  refine m_ruleX hC (by omega) (fun Z2 f1 f2 => ?_)
  simp only [Option.toList_some, Option.toList_none, List.drop_succ_cons, List.drop_zero, List.cons_append, List.nil_append]
  refine ze_ireturn kc_50_60 (Or.inl rfl) ?_
  first
    | (rw [show sPerf (n, c, e, ρ) k w v = _ from if_pos (by omega), show oPerf (n, c, e, ρ) k w v = _ from if_pos (by omega)] at q1; exact q1 _ f1 f2)
    | (rw [show sPerf (n, c, e, ρ) k w v = _ from (if_neg (by omega)).trans (if_pos (by omega)), show oPerf (n, c, e, ρ) k w v = _ from (if_neg (by omega)).trans (if_pos (by omega))] at q1; exact q1 _ f1 f2)
    | (rw [show sPerf (n, c, e, ρ) k w v = _ from (if_neg (by omega)).trans ((if_neg (by omega)).trans (if_pos (by omega))), show oPerf (n, c, e, ρ) k w v = _ from (if_neg (by omega)).trans ((if_neg (by omega)).trans (if_pos (by omega)))] at q1; exact q1 _ f1 f2)
    | (rw [show sPerf (n, c, e, ρ) k w v = _ from (if_neg (by omega)).trans ((if_neg (by omega)).trans (if_neg (by omega))), show oPerf (n, c, e, ρ) k w v = _ from (if_neg (by omega)).trans ((if_neg (by omega)).trans (if_neg (by omega)))] at q1; exact q1 _ f1 f2)

theorem m_performS {Z : zMem} {Q : Option zAV → zMem → Prop} {S : zS4} (hC : zClS S Z) {k w v : Int} (hk : -2147483648 ≤ k ∧ k ≤ 2147483647) (hw : -2147483648 ≤ w ∧ w ≤ 2147483647) (hv : -2147483648 ≤ v ∧ v ≤ 2147483647) (q1 : ∀ (Z' : zMem), zClS (sPerf S k w v) Z' → zFS Z Z' → Q (some (zI (oPerf S k w v))) Z') : zE 50 0 (zent 50 [zR 0, zI k, zI w, zI v]) [] Z Q := m_perform (n := S.1) (c := S.2.1) (e := S.2.2.1) (ρ := S.2.2.2) hC hk hw hv q1

theorem oPerf_in {S : zS4} {Z : zMem} {k w v : Int} (h : zClS S Z) : -4 ≤ oPerf S k w v ∧ oPerf S k w v ≤ 360 := by
  obtain ⟨hU0, hG0, n6, n0, cc, cr, ce, cρ, ceR, cρR, c11, c16⟩ := zCl_o h
  unfold oPerf oClaim oRenew oEstate oRule
  repeat' split
  all_goals first
    | omega
    | (have := cr w.toNat (by omega); omega)
set_option maxHeartbeats 8000000 in
theorem m_readX {Z : zMem} {Q : Option zAV → zMem → Prop} {n : Nat} {c : Nat → Int} {e ρ : Int} (hC : zCl n c e ρ Z) {L : Nat} {t : Nat → Int} (hT : zTxX L t Z) (q1 : ∀ (Z' : zMem), zClS (sRead L t (n, c, e, ρ)) Z' → zTxX 0 t Z' → (∀ i, i < 1 ∨ 5 < i → i ≠ 29 → i ≠ 31 → i ≠ 32 → i ≠ 33 → Z' i = Z i) → Q (some (zI (oRead L t (n, c, e, ρ)))) Z') : zE 49 0 (zent 49 [zR 0]) [] Z Q := by
  show zE 49 0 [some (zR 0), none, none, none] [] Z Q
  have hpi := zxPr_in (L := L) (t := t) 12 0 (by decide) rfl (Nat.zero_le _)
  refine ze_aload_n kc_49_0 rfl ?_
  refine ze_getR kc_49_1 rfl rfl rfl ?_
  refine zE_callv 1 kc_49_4 rfl rfl (Nat.le_of_ble_eq_true rfl) (Nat.le_of_ble_eq_true rfl) (Nat.le_of_ble_eq_true rfl) rfl (by decide +kernel) rfl ?_
  refine m_parse hT (fun Z2 f hf p1 p2 p3 => ?_)
  simp only [Option.toList_some, Option.toList_none, List.drop_succ_cons, List.drop_zero, List.cons_append, List.nil_append]
  have hfr : -1 ≤ f ∧ f ≤ 100 := by
    have := hT.2.1
    omega
  refine ze_istore_n kc_49_7 (Nat.le_of_ble_eq_true rfl) ?_
  simp only [zset1, zset2, zcut, zf0, zf1, zf2, zf3, List.set_cons_zero, List.set_cons_succ, List.getD_cons_zero, List.getD_cons_succ]
  refine ze_aload_n kc_49_8 rfl ?_
  refine ze_getR kc_49_9 rfl rfl rfl ?_
  refine ze_iconst kc_49_12 ?_
  refine ze_putI kc_49_13 rfl rfl ?_
  refine ze_iload_n kc_49_16 rfl ?_
  refine ze_if_lt kc_49_17 (by omega) (fun h17 => ?_) (fun h17 => ?_)
  · skip
    have hf1 : f = -1 := by omega
    have hpk := hpi.resolve_left (by omega)
    obtain ⟨h5', hAr'⟩ := p3 hf1
    refine ze_iconst kc_49_25 ?_
    refine ze_istore_n kc_49_26 (Nat.le_of_ble_eq_true rfl) ?_
    simp only [zset1, zset2, zcut, zf0, zf1, zf2, zf3, List.set_cons_zero, List.set_cons_succ, List.getD_cons_zero, List.getD_cons_succ]
    refine ze_iconst kc_49_27 ?_
    refine ze_istore_n kc_49_28 (Nat.le_of_ble_eq_true rfl) ?_
    simp only [zset1, zset2, zcut, zf0, zf1, zf2, zf3, List.set_cons_zero, List.set_cons_succ, List.getD_cons_zero, List.getD_cons_succ]
    have loop29 : ∀ (μ : Nat) (j : Nat) (x d : Int) (Zc : zMem), (zxPr L t 12 0).2 - j = μ → (j ≤ (zxPr L t 12 0).2) → (x = j) → (d = zxD L t (n, c, e, ρ) j) → (zClS (zxS L t (n, c, e, ρ) j) Zc) → ((∀ i, i < 1 ∨ 5 < i → i ≠ 29 → i ≠ 31 → i ≠ 32 → i ≠ 33 → Zc i = Z i)) → (Zc 29 5 = ((zxPr L t 12 0).2 : Nat)) → (Zc 29 1 = 0) → ((∀ j, j < (zxPr L t 12 0).2 → Zc 31 j = t (zxPl L t j) ∧ Zc 32 j = (zxWho L t (zxPl L t j)).2 ∧ Zc 33 j = (zxVal L t (zxPl L t j)).2)) → zE 49 29 [some (zR 0), some (zI f), some (zI d), some (zI x)] [] Zc Q := by
      refine zind ?_
      intro μ ih j x d Zc hm hj hx hd hCj hZ h5 h1 hAr
      subst hx
      refine ze_iload_n kc_49_29 rfl ?_
      refine ze_aload_n kc_49_30 rfl ?_
      refine ze_getR kc_49_31 rfl rfl rfl ?_
      refine ze_getI kc_49_34 rfl (by decide) ?_
      rw [h5]
      refine ze_icmp_ge kc_49_37 (by omega) (by omega) (fun h37 => ?_) (fun h37 => ?_)
      · skip
        refine ze_iload_n kc_49_83 rfl ?_
        refine ze_ireturn kc_49_84 (Or.inl rfl) ?_
        have ej : j = (zxPr L t 12 0).2 := by omega
        rw [show oRead L t (n, c, e, ρ) = zxD L t (n, c, e, ρ) (zxPr L t 12 0).2 from if_pos (by omega), show sRead L t (n, c, e, ρ) = zxS L t (n, c, e, ρ) (zxPr L t 12 0).2 from if_pos (by omega), ← ej, ← hd] at q1
        exact q1 _ hCj ⟨h1, Nat.zero_le _, fun i hi => absurd hi (Nat.not_lt_zero _), fun i hi => absurd hi (Nat.not_lt_zero _)⟩ hZ
      · skip
        refine ze_aload_n kc_49_40 rfl ?_
        refine ze_aload_n kc_49_41 rfl ?_
        refine ze_getR kc_49_42 rfl rfl rfl ?_
        refine ze_getR kc_49_45 rfl rfl rfl ?_
        refine ze_iload_n kc_49_48 rfl ?_
        refine ze_iald kc_49_49 rfl (by omega) ?_
        rw [Int.toNat_natCast, (hAr j (by omega)).1]
        refine ze_aload_n kc_49_50 rfl ?_
        refine ze_getR kc_49_51 rfl rfl rfl ?_
        refine ze_getR kc_49_54 rfl rfl rfl ?_
        refine ze_iload_n kc_49_57 rfl ?_
        refine ze_iald kc_49_58 rfl (by omega) ?_
        rw [Int.toNat_natCast, (hAr j (by omega)).2.1]
        refine ze_aload_n kc_49_59 rfl ?_
        refine ze_getR kc_49_60 rfl rfl rfl ?_
        refine ze_getR kc_49_63 rfl rfl rfl ?_
        refine ze_iload_n kc_49_66 rfl ?_
        refine ze_iald kc_49_67 rfl (by omega) ?_
        rw [Int.toNat_natCast, (hAr j (by omega)).2.2]
        have hwi := zxWho_in (L := L) (t := t) (p := zxPl L t j)
        have hvi := zxVal_in (L := L) (t := t) (p := zxPl L t j)
        have hok := (hpk.2.2.2 j (Nat.zero_le _) (by omega)).1
        have hti := hT.2.2.2 _ hok.1.1
        refine zE_callv 4 kc_49_68 rfl rfl (Nat.le_of_ble_eq_true rfl) (Nat.le_of_ble_eq_true rfl) (Nat.le_of_ble_eq_true rfl) rfl (by decide +kernel) rfl ?_
        refine m_performS hCj (by omega) (by omega) (by omega) (fun Z3 s1 s2 => ?_)
        simp only [Option.toList_some, Option.toList_none, List.drop_succ_cons, List.drop_zero, List.cons_append, List.nil_append]
        have hoi := oPerf_in (k := t (zxPl L t j)) (w := (zxWho L t (zxPl L t j)).2) (v := (zxVal L t (zxPl L t j)).2) hCj
        refine ze_if_lt kc_49_71 (by omega) (fun h71 => ?_) (fun h71 => ?_)
        · skip
          refine ze_iinc kc_49_77 rfl ?_
          simp only [zset1, zset2, zcut, zf0, zf1, zf2, zf3, List.set_cons_zero, List.set_cons_succ, List.getD_cons_zero, List.getD_cons_succ]
          refine ze_goto kc_49_80 ?_
          refine ih _ (by omega) (j + 1) _ _ _ rfl (by omega) (by omega) ?_ s1 (fun i a b d e g => by rw [s2 i a]; exact hZ i a b d e g) (by rw [s2 29 (by decide)]; exact h5) (by rw [s2 29 (by decide)]; exact h1) (fun i hi => by rw [s2 31 (by decide), s2 32 (by decide), s2 33 (by decide)]; exact hAr i hi)
          show _ = zxD L t (n, c, e, ρ) j + _
          rw [hd]
          first
            | rw [if_pos (by omega)]
            | (rw [if_neg (by omega), Int.add_zero])
        · skip
          refine ze_iinc kc_49_74 rfl ?_
          simp only [zset1, zset2, zcut, zf0, zf1, zf2, zf3, List.set_cons_zero, List.set_cons_succ, List.getD_cons_zero, List.getD_cons_succ]
          refine ze_iinc kc_49_77 rfl ?_
          simp only [zset1, zset2, zcut, zf0, zf1, zf2, zf3, List.set_cons_zero, List.set_cons_succ, List.getD_cons_zero, List.getD_cons_succ]
          refine ze_goto kc_49_80 ?_
          refine ih _ (by omega) (j + 1) _ _ _ rfl (by omega) (by omega) ?_ s1 (fun i a b d e g => by rw [s2 i a]; exact hZ i a b d e g) (by rw [s2 29 (by decide)]; exact h5) (by rw [s2 29 (by decide)]; exact h1) (fun i hi => by rw [s2 31 (by decide), s2 32 (by decide), s2 33 (by decide)]; exact hAr i hi)
          show _ = zxD L t (n, c, e, ρ) j + _
          rw [hd]
          first
            | rw [if_pos (by omega)]
            | (rw [if_neg (by omega), Int.add_zero])
    refine loop29 _ 0 0 0 _ rfl (Nat.zero_le _) rfl rfl ⟨zSU_same hC.1 (fun i a b => by rw [zup_ne' (by omega)]; exact p1 i (by omega) (by omega) (by omega) (by omega)), by rw [zup_ne' (by decide), p1 11 (by decide) (by decide) (by decide) (by decide)]; exact hC.2.1, by rw [zup_ne' (by decide), p1 16 (by decide) (by decide) (by decide) (by decide)]; exact hC.2.2⟩ (fun i a b d e g => by rw [zup_ne' b]; exact p1 i b d e g) (by rw [zup_o (by decide)]; exact h5') zup_s (fun j hj => by rw [zup_ne' (by decide), zup_ne' (by decide), zup_ne' (by decide)]; exact hAr' j hj)
  · skip
    refine ze_bipush kc_49_20 ?_
    refine ze_iload_n kc_49_22 rfl ?_
    refine ze_isub kc_49_23 ?_
    refine ze_ireturn kc_49_24 (Or.inl rfl) ?_
    rw [show oRead L t (n, c, e, ρ) = -10 - (zxPr L t 12 0).1 from if_neg (by omega), show sRead L t (n, c, e, ρ) = (n, c, e, ρ) from if_neg (by omega)] at q1
    rw [hf]
    refine q1 _ ⟨zSU_same hC.1 (fun i a b => ?_), ?_, ?_⟩ ⟨zup_s, Nat.zero_le _, fun i hi => absurd hi (Nat.not_lt_zero _), fun i hi => absurd hi (Nat.not_lt_zero _)⟩ (fun i a b d e g => ?_)
    · rw [zup_ne' (by omega)]; exact p1 i (by omega) (by omega) (by omega) (by omega)
    · rw [zup_ne' (by decide), p1 11 (by decide) (by decide) (by decide) (by decide)]; exact hC.2.1
    · rw [zup_ne' (by decide), p1 16 (by decide) (by decide) (by decide) (by decide)]; exact hC.2.2
    · rw [zup_ne' b]; exact p1 i b d e g
