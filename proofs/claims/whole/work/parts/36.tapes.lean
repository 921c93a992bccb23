/-! TAPES -/
abbrev zTps : Type := (Nat → Int) × (Nat → Nat) × (Nat → Nat → Int)
def zTpO (so : Nat → Int) (le : Nat → Nat) (it : Nat → Nat → Int) : Prop := ∀ t, t < 6 → (-1 ≤ so t ∧ so t ≤ 4) ∧ le t ≤ 60 ∧ (so t = -1 → le t = 0) ∧ ∀ i, i < le t → -9223372036854775808 ≤ it t i ∧ it t i ≤ 9223372036854775807
def zTpX (P : zTps) (Z : zMem) : Prop := (∀ t, t < 6 → Z (51 + 2 * t) 1 = P.1 t ∧ Z (51 + 2 * t) 2 = (P.2.1 t : Nat) ∧ ∀ i, i < P.2.1 t → Z (52 + 2 * t) i = P.2.2 t i) ∧ zTpO P.1 P.2.1 P.2.2
def zTpM (P : zTps) (Z : zMem) : Prop := (∀ t, t < 6 → Z 76 t = P.1 t ∧ Z 77 t = (P.2.1 t : Nat) ∧ ∀ i, i < P.2.1 t → Z 78 (60 * t + i) = P.2.2 t i) ∧ zTpO P.1 P.2.1 P.2.2
theorem zTpX_same {P : zTps} {Z Z' : zMem} (h : zTpX P Z) (hf : ∀ k, 51 ≤ k → k ≤ 62 → Z' k = Z k) : zTpX P Z' := ⟨fun t ht => by rw [hf (51 + 2 * t) (by omega) (by omega), hf (52 + 2 * t) (by omega) (by omega)]; exact h.1 t ht, h.2⟩
theorem zTpM_same {P : zTps} {Z Z' : zMem} (h : zTpM P Z) (h1 : Z' 76 = Z 76) (h2 : Z' 77 = Z 77) (h3 : Z' 78 = Z 78) : zTpM P Z' := by
  unfold zTpM at h ⊢
  rw [h1, h2, h3]
  exact h
theorem ztp_r : ∀ t, t < 6 → zrd zRR 34 t = some (51 + 2 * t) := by decide +kernel
theorem ztp_T : ∀ t, t < 6 → zTT[51 + 2 * t]? = some (4, 0) := by decide +kernel
theorem ztp_0 : ∀ t, t < 6 → zrd zRR (51 + 2 * t) 0 = some (52 + 2 * t) := by decide +kernel
theorem ztp_W : ∀ t, t < 6 → zTT[52 + 2 * t]? = some (11, 60) := by decide +kernel
def zwI (x : Int) : Int := if -2147483648 ≤ x ∧ x ≤ 2147483647 then x else (Int32.ofInt x).toInt
theorem zwI_in (x : Int) : -2147483648 ≤ zwI x ∧ zwI x ≤ 2147483647 := by
  unfold zwI
  split
  · assumption
  · exact z32_in' _
def zFit (s v : Int) : Int := if s = 0 then zwI ((Int32.ofInt v).toInt8.toInt) else if s = 1 then zwI ((Int32.ofInt v).toInt16.toInt) else if s = 2 then zwI v else if s = 3 then v else if v = 0 then 0 else 1
theorem zFit_in {s v : Int} (h : -9223372036854775808 ≤ v ∧ v ≤ 9223372036854775807) : -9223372036854775808 ≤ zFit s v ∧ zFit s v ≤ 9223372036854775807 := by
  have h1 := zwI_in ((Int32.ofInt v).toInt8.toInt)
  have h2 := zwI_in ((Int32.ofInt v).toInt16.toInt)
  have h3 := zwI_in v
  unfold zFit
  repeat' split
  all_goals omega
def zTpA (P : zTps) (t s : Int) (n : Int) : zTps := (fun k => if k = t.toNat then s else P.1 k, fun k => if k = t.toNat then n.toNat else P.2.1 k, fun k i => if k = t.toNat then 0 else P.2.2 k i)
def sTape (P : zTps) (t s n : Int) : zTps := if (0 ≤ t ∧ t < 6) ∧ s = -1 then zTpA P t (-1) 0 else if (0 ≤ t ∧ t < 6) ∧ (0 ≤ s ∧ s ≤ 4) ∧ (0 ≤ n ∧ n ≤ 60) then zTpA P t s n else P
def oTape (t s n : Int) : Int := if ¬ (0 ≤ t ∧ t < 6) then -1 else if s = -1 then 1 else if ¬ ((0 ≤ s ∧ s ≤ 4) ∧ n ≤ 60) then -2 else if n < 0 then -14 else 1
def zItA (P : zTps) (t i v : Int) : zTps := (P.1, P.2.1, fun k x => if k = t.toNat ∧ x = i.toNat then zFit (P.1 t.toNat) v else P.2.2 k x)
def sItem (P : zTps) (t i v : Int) : zTps := if (0 ≤ t ∧ t < 6) ∧ ¬ P.1 t.toNat = -1 ∧ (0 ≤ i ∧ i < (P.2.1 t.toNat : Nat)) then zItA P t i v else P
def oItem (P : zTps) (t i : Int) : Int := if ¬ (0 ≤ t ∧ t < 6) then -1 else if P.1 t.toNat = -1 then -11 else if ¬ (0 ≤ i ∧ i < (P.2.1 t.toNat : Nat)) then -13 else 1
def oPeek (P : zTps) (t i : Int) : Int := if (0 ≤ t ∧ t < 6) ∧ (0 ≤ i ∧ i < (P.2.1 t.toNat : Nat)) then P.2.2 t.toNat i.toNat else -9223372036854775808
def zShO (P : zTps) (t i o j n : Int) : Prop := (0 ≤ n ∧ 0 ≤ i ∧ 0 ≤ j) ∧ i + n ≤ (P.2.1 t.toNat : Nat) ∧ j + n ≤ (P.2.1 o.toNat : Nat)
def zShA (P : zTps) (t i o j n : Int) : zTps := (P.1, P.2.1, fun k x => if k = o.toNat ∧ j.toNat ≤ x ∧ x < j.toNat + n.toNat then P.2.2 t.toNat (i.toNat + (x - j.toNat)) else P.2.2 k x)
noncomputable def sShift (P : zTps) (t i o j n : Int) : zTps := @ite _ (((0 ≤ t ∧ t < 6) ∧ (0 ≤ o ∧ o < 6)) ∧ (¬ P.1 t.toNat = -1 ∧ ¬ P.1 o.toNat = -1) ∧ P.1 t.toNat = P.1 o.toNat ∧ zShO P t i o j n) (Classical.propDecidable _) (zShA P t i o j n) P
noncomputable def oShift (P : zTps) (t i o j n : Int) : Int := if ¬ ((0 ≤ t ∧ t < 6) ∧ (0 ≤ o ∧ o < 6)) then -1 else if P.1 t.toNat = -1 ∨ P.1 o.toNat = -1 then -11 else if ¬ P.1 t.toNat = P.1 o.toNat then -12 else @ite _ (zShO P t i o j n) (Classical.propDecidable _) n (-13)
noncomputable def zJg (le : Nat) (it wh : Nat → Int) (i : Nat) : Nat → Nat → Int
  | 0, _ => -5
  | m + 1, k => if le ≤ i + k then 100 + k else if it (i + k) = wh k then zJg le it wh i m (k + 1) else k
noncomputable def oJudge (n : Nat) (c : Nat → Int) (e ρ : Int) (P : zTps) (t i : Int) : Int := if ¬ (0 ≤ t ∧ t < 6) then -1 else if ¬ (1 ≤ n ∧ e ≤ zsum n c) then -3 else if ¬ P.1 t.toNat = 3 ∧ ¬ P.1 t.toNat = -1 then -12 else if P.1 t.toNat = -1 ∨ i < 0 then 100 else zJg (P.2.1 t.toNat) (P.2.2 t.toNat) (fun k => zwI (zWh ρ n c e k)) i.toNat n 0
theorem zJg_out {le : Nat} {it wh : Nat → Int} {i m k : Nat} (hm : 0 < m) (h : le ≤ i + k) : zJg le it wh i m k = 100 + k := by
  obtain ⟨j, rfl⟩ : ∃ j, m = j + 1 := ⟨m - 1, by omega⟩
  exact if_pos h
theorem zJg_no {le : Nat} {it wh : Nat → Int} {i m k : Nat} (hm : 0 < m) (h : ¬ le ≤ i + k) (h2 : ¬ it (i + k) = wh k) : zJg le it wh i m k = k := by
  obtain ⟨j, rfl⟩ : ∃ j, m = j + 1 := ⟨m - 1, by omega⟩
  exact (if_neg h).trans (if_neg h2)
theorem zJg_next {le : Nat} {it wh : Nat → Int} {i m k : Nat} (hm : 0 < m) (h : ¬ le ≤ i + k) (h2 : it (i + k) = wh k) : zJg le it wh i m k = zJg le it wh i (m - 1) (k + 1) := by
  obtain ⟨j, rfl⟩ : ∃ j, m = j + 1 := ⟨m - 1, by omega⟩
  exact (if_neg h).trans (if_pos h2)
/-- a tape made anew, an item written, items come over: seen in the class's cells -/
theorem zTpO_A {P : zTps} {t s n : Int} (h : zTpO P.1 P.2.1 P.2.2) (hs : s = -1 ∧ n = 0 ∨ (0 ≤ s ∧ s ≤ 4) ∧ (0 ≤ n ∧ n ≤ 60)) : zTpO (zTpA P t s n).1 (zTpA P t s n).2.1 (zTpA P t s n).2.2 := by
  intro k hk
  obtain ⟨h1, h2, h3, h4⟩ := h k hk
  by_cases q : k = t.toNat
  · have e1 : (zTpA P t s n).1 k = s := if_pos q
    have e2 : (zTpA P t s n).2.1 k = n.toNat := if_pos q
    have e3 : ∀ i, (zTpA P t s n).2.2 k i = 0 := fun i => if_pos q
    rw [e1, e2]
    refine ⟨by omega, by omega, fun a => by omega, fun i _ => by rw [e3]; decide⟩
  · have e1 : (zTpA P t s n).1 k = P.1 k := if_neg q
    have e2 : (zTpA P t s n).2.1 k = P.2.1 k := if_neg q
    have e3 : ∀ i, (zTpA P t s n).2.2 k i = P.2.2 k i := fun i => if_neg q
    rw [e1, e2]
    exact ⟨h1, h2, h3, fun i hi => by rw [e3]; exact h4 i hi⟩
theorem zTpO_I {P : zTps} {t i v : Int} (h : zTpO P.1 P.2.1 P.2.2) (hv : -9223372036854775808 ≤ v ∧ v ≤ 9223372036854775807) : zTpO (zItA P t i v).1 (zItA P t i v).2.1 (zItA P t i v).2.2 := by
  intro k hk
  obtain ⟨h1, h2, h3, h4⟩ := h k hk
  refine ⟨h1, h2, h3, fun x hx => ?_⟩
  show -9223372036854775808 ≤ (if k = t.toNat ∧ x = i.toNat then zFit (P.1 t.toNat) v else P.2.2 k x) ∧ (if k = t.toNat ∧ x = i.toNat then zFit (P.1 t.toNat) v else P.2.2 k x) ≤ 9223372036854775807
  split
  · exact zFit_in hv
  · exact h4 x hx
theorem zTpO_S {P : zTps} {t i o j n : Int} (h : zTpO P.1 P.2.1 P.2.2) (ht : 0 ≤ t ∧ t < 6) (hs : zShO P t i o j n) : zTpO (zShA P t i o j n).1 (zShA P t i o j n).2.1 (zShA P t i o j n).2.2 := by
  intro k hk
  obtain ⟨h1, h2, h3, h4⟩ := h k hk
  obtain ⟨⟨s1, s2, s3⟩, s4, s5⟩ := hs
  refine ⟨h1, h2, h3, fun x hx => ?_⟩
  show -9223372036854775808 ≤ (if k = o.toNat ∧ j.toNat ≤ x ∧ x < j.toNat + n.toNat then P.2.2 t.toNat (i.toNat + (x - j.toNat)) else P.2.2 k x) ∧ (if k = o.toNat ∧ j.toNat ≤ x ∧ x < j.toNat + n.toNat then P.2.2 t.toNat (i.toNat + (x - j.toNat)) else P.2.2 k x) ≤ 9223372036854775807
  split
  · exact (h t.toNat (by omega)).2.2.2 _ (by omega)
  · exact h4 x hx
theorem zTpX_A {P : zTps} {Z Z' : zMem} {κ : Nat} {s n : Int} (h : zTpX P Z) (hk : κ < 6) (hs : s = -1 ∧ n = 0 ∨ (0 ≤ s ∧ s ≤ 4) ∧ (0 ≤ n ∧ n ≤ 60)) (f : ∀ k, k ≠ 51 + 2 * κ → k ≠ 52 + 2 * κ → Z' k = Z k) (e1 : Z' (51 + 2 * κ) 1 = s) (e2 : Z' (51 + 2 * κ) 2 = n) (e3 : ∀ i, i < 60 → Z' (52 + 2 * κ) i = 0) : zTpX (zTpA P κ s n) Z' := by
  refine ⟨fun k hk => ?_, zTpO_A h.2 hs⟩
  by_cases q : k = κ
  · subst q
    have a1 : (zTpA P (k : Nat) s n).1 k = s := if_pos (Int.toNat_natCast k).symm
    have a2 : (zTpA P (k : Nat) s n).2.1 k = n.toNat := if_pos (Int.toNat_natCast k).symm
    have a3 : ∀ i, (zTpA P (k : Nat) s n).2.2 k i = 0 := fun i => if_pos (Int.toNat_natCast k).symm
    rw [a1, a2]
    exact ⟨e1, by omega, fun i hi => by rw [a3]; exact e3 i (by omega)⟩
  · have q2 : ¬ k = (κ : Int).toNat := by rw [Int.toNat_natCast]; exact q
    have a1 : (zTpA P κ s n).1 k = P.1 k := if_neg q2
    have a2 : (zTpA P κ s n).2.1 k = P.2.1 k := if_neg q2
    have a3 : ∀ i, (zTpA P κ s n).2.2 k i = P.2.2 k i := fun i => if_neg q2
    rw [a1, a2, f (51 + 2 * k) (by omega) (by omega), f (52 + 2 * k) (by omega) (by omega)]
    exact ⟨(h.1 k hk).1, (h.1 k hk).2.1, fun i hi => by rw [a3]; exact (h.1 k hk).2.2 i hi⟩
theorem zTpM_A {P : zTps} {Z Z' : zMem} {κ : Nat} {s n : Int} (h : zTpM P Z) (hk : κ < 6) (hs : s = -1 ∧ n = 0 ∨ (0 ≤ s ∧ s ≤ 4) ∧ (0 ≤ n ∧ n ≤ 60)) (f1 : ∀ j, j ≠ κ → Z' 76 j = Z 76 j) (e1 : Z' 76 κ = s) (f2 : ∀ j, j ≠ κ → Z' 77 j = Z 77 j) (e2 : Z' 77 κ = n) (e3 : ∀ i, i < 60 → Z' 78 (60 * κ + i) = 0) (f3 : ∀ j, j < 60 * κ ∨ 60 * κ + 60 ≤ j → Z' 78 j = Z 78 j) : zTpM (zTpA P κ s n) Z' := by
  refine ⟨fun k hk => ?_, zTpO_A h.2 hs⟩
  by_cases q : k = κ
  · subst q
    have a1 : (zTpA P (k : Nat) s n).1 k = s := if_pos (Int.toNat_natCast k).symm
    have a2 : (zTpA P (k : Nat) s n).2.1 k = n.toNat := if_pos (Int.toNat_natCast k).symm
    have a3 : ∀ i, (zTpA P (k : Nat) s n).2.2 k i = 0 := fun i => if_pos (Int.toNat_natCast k).symm
    rw [a1, a2]
    exact ⟨e1, by omega, fun i hi => by rw [a3]; exact e3 i (by omega)⟩
  · have q2 : ¬ k = (κ : Int).toNat := by rw [Int.toNat_natCast]; exact q
    have a1 : (zTpA P κ s n).1 k = P.1 k := if_neg q2
    have a2 : (zTpA P κ s n).2.1 k = P.2.1 k := if_neg q2
    have a3 : ∀ i, (zTpA P κ s n).2.2 k i = P.2.2 k i := fun i => if_neg q2
    have hl := (h.2 k hk).2.1
    rw [a1, a2, f1 k q, f2 k q]
    exact ⟨(h.1 k hk).1, (h.1 k hk).2.1, fun i hi => by rw [a3, f3 _ (by omega)]; exact (h.1 k hk).2.2 i hi⟩
theorem zTpX_I {P : zTps} {Z : zMem} {κ ν : Nat} {v : Int} (h : zTpX P Z) (hk : κ < 6) (hv : -9223372036854775808 ≤ v ∧ v ≤ 9223372036854775807) : zTpX (zItA P κ ν v) (zup Z (52 + 2 * κ) ν (zFit (P.1 κ) v)) := by
  refine ⟨fun k hk2 => ?_, zTpO_I h.2 hv⟩
  obtain ⟨h1, h2, h3⟩ := h.1 k hk2
  refine ⟨?_, ?_, fun i hi => ?_⟩
  · rw [zup_ne' (by omega)]; exact h1
  · rw [zup_ne' (by omega)]; exact h2
  · show _ = (if k = (κ : Int).toNat ∧ i = (ν : Int).toNat then zFit (P.1 (κ : Int).toNat) v else P.2.2 k i)
    rw [Int.toNat_natCast, Int.toNat_natCast]
    by_cases q : k = κ
    · subst q
      by_cases q2 : i = ν
      · subst q2
        rw [zup_s, if_pos ⟨rfl, rfl⟩]
      · rw [zup_o q2, if_neg (fun a => q2 a.2)]
        exact h3 i hi
    · rw [zup_ne' (by omega), if_neg (fun a => q a.1)]
      exact h3 i hi
theorem zTpM_I {P : zTps} {Z : zMem} {κ ν : Nat} {v : Int} (h : zTpM P Z) (hk : κ < 6) (hν : ν < 60) (hv : -9223372036854775808 ≤ v ∧ v ≤ 9223372036854775807) : zTpM (zItA P κ ν v) (zup Z 78 (60 * κ + ν) (zFit (P.1 κ) v)) := by
  refine ⟨fun k hk2 => ?_, zTpO_I h.2 hv⟩
  obtain ⟨h1, h2, h3⟩ := h.1 k hk2
  have hl := (h.2 k hk2).2.1
  refine ⟨?_, ?_, fun i hi => ?_⟩
  · rw [zup_ne' (by omega)]; exact h1
  · rw [zup_ne' (by omega)]; exact h2
  · replace hi : i < P.2.1 k := hi
    show _ = (if k = (κ : Int).toNat ∧ i = (ν : Int).toNat then zFit (P.1 (κ : Int).toNat) v else P.2.2 k i)
    rw [Int.toNat_natCast, Int.toNat_natCast]
    by_cases q : k = κ ∧ i = ν
    · obtain ⟨rfl, rfl⟩ := q
      rw [zup_s, if_pos ⟨rfl, rfl⟩]
    · rw [zup_o (by omega), if_neg q]
      exact h3 i hi
theorem zTpX_S {P : zTps} {Z : zMem} {κ ο ι ν μ : Nat} (h : zTpX P Z) (hk : κ < 6) (ho : ο < 6) (hs : zShO P κ ι ο ν μ) : zTpX (zShA P κ ι ο ν μ) (zcpy Z (52 + 2 * κ) ι (52 + 2 * ο) ν μ) := by
  refine ⟨fun k hk2 => ?_, zTpO_S h.2 (by omega) hs⟩
  obtain ⟨⟨s1, s2, s3⟩, s4, s5⟩ := hs
  rw [Int.toNat_natCast] at s4 s5
  obtain ⟨h1, h2, h3⟩ := h.1 k hk2
  refine ⟨?_, ?_, fun i hi => ?_⟩
  · show (if 51 + 2 * k = 52 + 2 * ο then _ else Z (51 + 2 * k) 1) = _
    rw [if_neg (by omega)]; exact h1
  · show (if 51 + 2 * k = 52 + 2 * ο then _ else Z (51 + 2 * k) 2) = _
    rw [if_neg (by omega)]; exact h2
  · show (if 52 + 2 * k = 52 + 2 * ο then (if ν ≤ i ∧ i < ν + μ then Z (52 + 2 * κ) (ι + (i - ν)) else Z (52 + 2 * k) i) else Z (52 + 2 * k) i) = (if k = (ο : Int).toNat ∧ (ν : Int).toNat ≤ i ∧ i < (ν : Int).toNat + (μ : Int).toNat then P.2.2 (κ : Int).toNat ((ι : Int).toNat + (i - (ν : Int).toNat)) else P.2.2 k i)
    simp only [Int.toNat_natCast]
    by_cases q : k = ο
    · rw [if_pos (by omega)]
      by_cases q2 : ν ≤ i ∧ i < ν + μ
      · rw [if_pos q2, if_pos ⟨q, q2⟩]
        exact (h.1 κ hk).2.2 _ (by omega)
      · rw [if_neg q2, if_neg (fun a => q2 a.2)]
        exact h3 i hi
    · rw [if_neg (by omega), if_neg (fun a => q a.1)]
      exact h3 i hi
theorem zTpM_S {P : zTps} {Z Z' : zMem} {κ ο ι ν μ : Nat} (h : zTpM P Z) (hk : κ < 6) (ho : ο < 6) (hs : zShO P κ ι ο ν μ) (e76 : Z' 76 = Z 76) (e77 : Z' 77 = Z 77) (f3 : ∀ y, y < μ → Z' 78 (60 * ο + ν + y) = Z 78 (60 * κ + ι + y)) (f4 : ∀ y, y < 60 * ο + ν ∨ 60 * ο + ν + μ ≤ y → Z' 78 y = Z 78 y) : zTpM (zShA P κ ι ο ν μ) Z' := by
  refine ⟨fun k hk2 => ?_, zTpO_S h.2 (by omega) hs⟩
  obtain ⟨⟨s1, s2, s3⟩, s4, s5⟩ := hs
  rw [Int.toNat_natCast] at s4 s5
  obtain ⟨h1, h2, h3⟩ := h.1 k hk2
  have hl := (h.2 k hk2).2.1
  have hl2 := (h.2 ο ho).2.1
  rw [e76, e77]
  refine ⟨h1, h2, fun i hi => ?_⟩
  replace hi : i < P.2.1 k := hi
  show _ = (if k = (ο : Int).toNat ∧ (ν : Int).toNat ≤ i ∧ i < (ν : Int).toNat + (μ : Int).toNat then P.2.2 (κ : Int).toNat ((ι : Int).toNat + (i - (ν : Int).toNat)) else P.2.2 k i)
  simp only [Int.toNat_natCast]
  by_cases q : k = ο ∧ ν ≤ i ∧ i < ν + μ
  · obtain ⟨q1, q2, q3⟩ := q
    rw [if_pos ⟨q1, q2, q3⟩, show 60 * k + i = 60 * ο + ν + (i - ν) by omega, f3 _ (by omega), Nat.add_assoc]
    exact (h.1 κ hk).2.2 _ (by omega)
  · rw [if_neg q, f4 _ (by omega)]
    exact h3 i hi
set_option maxHeartbeats 4000000 in
theorem m_become {Z : zMem} {Q : Option zAV → zMem → Prop} {o w : Nat} (hT : zTT[o]? = some (4, 0)) (hr : zrd zRR o 0 = some w) (hw : zTT[w]? = some (11, 60)) {s n : Int} (how : o ≠ w) (q1 : ∀ (Z' : zMem), (∀ k, k ≠ o → k ≠ w → Z' k = Z k) → Z' o 1 = s → Z' o 2 = n → (∀ i, i < 60 → Z' w i = 0) → Q none Z') : zE 26 0 (zent 26 [zR o, zI s, zI n]) [] Z Q := by
  show zE 26 0 [some (zR o), some (zI s), some (zI n)] [] Z Q
  refine ze_aload_n kc_26_0 rfl ?_
  refine ze_iload_n kc_26_1 rfl ?_
  refine ze_putI kc_26_2 (by first | assumption | rfl) rfl ?_
  refine ze_aload_n kc_26_5 rfl ?_
  refine ze_iload_n kc_26_6 rfl ?_
  refine ze_putI kc_26_7 (by first | assumption | rfl) rfl ?_
  refine ze_aload_n kc_26_10 rfl ?_
  refine ze_getR kc_26_11 (by first | assumption | rfl) rfl (by first | assumption | rfl) ?_
  refine ze_lconst0 kc_26_14 ?_
  refine zE_calls 2 kc_26_15 rfl rfl (Nat.le_of_ble_eq_true rfl) (Nat.le_of_ble_eq_true rfl) (Nat.le_of_ble_eq_true rfl) rfl ?_
  refine m_fill hw (by decide) (fun Z2 r1 r2 => ?_)
  simp only [Option.toList_some, Option.toList_none, List.drop_succ_cons, List.drop_zero, List.cons_append, List.nil_append]
  refine ze_return kc_26_18 ?_
  exact q1 _ (fun k a b => by rw [r1 k b, zup_ne' a, zup_ne' a]) (by rw [r1 o how, zup_o (by decide), zup_s]) (by rw [r1 o how, zup_s]) r2

set_option maxHeartbeats 4000000 in
theorem m_hasT {Z : zMem} {Q : Option zAV → zMem → Prop} {o l : Nat} (hT : zTT[o]? = some (4, 0)) {i : Int} (hi : -2147483648 ≤ i ∧ i ≤ 2147483647) (hl : Z o 2 = l) (hl2 : l ≤ 60) (q1 : 0 ≤ i ∧ i < l → Q (some (zI 1)) Z) (q2 : ¬ (0 ≤ i ∧ i < l) → Q (some (zI 0)) Z) : zE 27 0 (zent 27 [zR o, zI i]) [] Z Q := by
  show zE 27 0 [some (zR o), some (zI i)] [] Z Q
  refine ze_iload_n kc_27_0 rfl ?_
  refine ze_if_lt kc_27_1 (by omega) (fun h1 => ?_) (fun h1 => ?_)
  · skip
    refine ze_iconst kc_27_16 ?_
    refine ze_ireturn kc_27_17 (by decide) ?_
    first | exact q1 (by omega) | exact q2 (by omega) | exact q3 (by omega) | exact q4 (by omega)
  · skip
    refine ze_iload_n kc_27_4 rfl ?_
    refine ze_aload_n kc_27_5 rfl ?_
    refine ze_getI kc_27_6 (by first | assumption | rfl) (by decide) ?_
    rw [hl]
    refine ze_icmp_ge kc_27_9 (by omega) (by omega) (fun h9 => ?_) (fun h9 => ?_)
    · skip
      refine ze_iconst kc_27_16 ?_
      refine ze_ireturn kc_27_17 (by decide) ?_
      first | exact q1 (by omega) | exact q2 (by omega) | exact q3 (by omega) | exact q4 (by omega)
    · skip
      refine ze_iconst kc_27_12 ?_
      refine ze_goto kc_27_13 ?_
      refine ze_ireturn kc_27_17 (by decide) ?_
      first | exact q1 (by omega) | exact q2 (by omega) | exact q3 (by omega) | exact q4 (by omega)

set_option maxHeartbeats 4000000 in
theorem m_hasAll {Z : zMem} {Q : Option zAV → zMem → Prop} {o l : Nat} (hT : zTT[o]? = some (4, 0)) {i n : Int} (hi : -2147483648 ≤ i ∧ i ≤ 2147483647) (hn : -2147483648 ≤ n ∧ n ≤ 2147483647) (hl : Z o 2 = l) (hl2 : l ≤ 60) (q1 : (0 ≤ n ∧ 0 ≤ i) ∧ i + n ≤ l → Q (some (zI 1)) Z) (q2 : ¬ ((0 ≤ n ∧ 0 ≤ i) ∧ i + n ≤ l) → Q (some (zI 0)) Z) : zE 28 0 (zent 28 [zR o, zI i, zI n]) [] Z Q := by
  show zE 28 0 [some (zR o), some (zI i), some (zI n)] [] Z Q
  refine ze_iload_n kc_28_0 rfl ?_
  refine ze_if_lt kc_28_1 (by omega) (fun h1 => ?_) (fun h1 => ?_)
  · skip
    refine ze_iconst kc_28_30 ?_
    refine ze_ireturn kc_28_31 (by decide) ?_
    first | exact q1 (by omega) | exact q2 (by omega) | exact q3 (by omega) | exact q4 (by omega)
  · skip
    refine ze_iload_n kc_28_4 rfl ?_
    refine ze_if_lt kc_28_5 (by omega) (fun h5 => ?_) (fun h5 => ?_)
    · skip
      refine ze_iconst kc_28_30 ?_
      refine ze_ireturn kc_28_31 (by decide) ?_
      first | exact q1 (by omega) | exact q2 (by omega) | exact q3 (by omega) | exact q4 (by omega)
    · skip
      refine ze_iload_n kc_28_8 rfl ?_
      refine ze_aload_n kc_28_9 rfl ?_
      refine ze_getI kc_28_10 (by first | assumption | rfl) (by decide) ?_
      rw [hl]
      refine ze_icmp_gt kc_28_13 (by omega) (by omega) (fun h13 => ?_) (fun h13 => ?_)
      · skip
        refine ze_iconst kc_28_30 ?_
        refine ze_ireturn kc_28_31 (by decide) ?_
        first | exact q1 (by omega) | exact q2 (by omega) | exact q3 (by omega) | exact q4 (by omega)
      · skip
        refine ze_iload_n kc_28_16 rfl ?_
        refine ze_aload_n kc_28_17 rfl ?_
        refine ze_getI kc_28_18 (by first | assumption | rfl) (by decide) ?_
        rw [hl]
        refine ze_iload_n kc_28_21 rfl ?_
        refine ze_isub kc_28_22 ?_
        refine ze_icmp_gt kc_28_23 (by omega) (by omega) (fun h23 => ?_) (fun h23 => ?_)
        · skip
          refine ze_iconst kc_28_30 ?_
          refine ze_ireturn kc_28_31 (by decide) ?_
          first | exact q1 (by omega) | exact q2 (by omega) | exact q3 (by omega) | exact q4 (by omega)
        · skip
          refine ze_iconst kc_28_26 ?_
          refine ze_goto kc_28_27 ?_
          refine ze_ireturn kc_28_31 (by decide) ?_
          first | exact q1 (by omega) | exact q2 (by omega) | exact q3 (by omega) | exact q4 (by omega)

set_option maxHeartbeats 4000000 in
theorem m_fitted {Z : zMem} {Q : Option zAV → zMem → Prop} {o : Nat} (hT : zTT[o]? = some (4, 0)) {s v : Int} (hv : -9223372036854775808 ≤ v ∧ v ≤ 9223372036854775807) (hs : Z o 1 = s) (hsr : -1 ≤ s ∧ s ≤ 4) (q1 : Q (some (zL (zFit s v))) Z) : zE 29 0 (zent 29 [zR o, zL v]) [] Z Q := by
  show zE 29 0 [some (zR o), some (zL v), none] [] Z Q
  refine ze_aload_n kc_29_0 rfl ?_
  refine ze_getI kc_29_1 (by first | assumption | rfl) (by decide) ?_
  rw [hs]
  by_cases hs0 : s = 0
  · refine ze_tableIn 0 kc_29_4 hs0 (by decide) (by decide) rfl rfl ?_
    refine ze_lload_n kc_29_36 rfl ?_
    refine ze_l2i kc_29_37 ?_
    refine ze_i2b kc_29_38 ?_
    refine ze_i2lw kc_29_39 ?_
    refine ze_lreturn kc_29_40 ?_
    rw [show zFit s v = zwI ((Int32.ofInt v).toInt8.toInt) from if_pos (by omega)] at q1
    exact q1
  by_cases hs1 : s = 1
  · refine ze_tableIn 1 kc_29_4 hs1 (by decide) (by decide) rfl rfl ?_
    refine ze_lload_n kc_29_41 rfl ?_
    refine ze_l2i kc_29_42 ?_
    refine ze_i2s kc_29_43 ?_
    refine ze_i2lw kc_29_44 ?_
    refine ze_lreturn kc_29_45 ?_
    rw [show zFit s v = zwI ((Int32.ofInt v).toInt16.toInt) from (if_neg (by omega)).trans (if_pos (by omega))] at q1
    exact q1
  by_cases hs2 : s = 2
  · refine ze_tableIn 2 kc_29_4 hs2 (by decide) (by decide) rfl rfl ?_
    refine ze_lload_n kc_29_46 rfl ?_
    refine ze_l2i kc_29_47 ?_
    refine ze_i2lw kc_29_48 ?_
    refine ze_lreturn kc_29_49 ?_
    rw [show zFit s v = zwI v from (if_neg (by omega)).trans ((if_neg (by omega)).trans (if_pos (by omega)))] at q1
    exact q1
  by_cases hs3 : s = 3
  · refine ze_tableIn 3 kc_29_4 hs3 (by decide) (by decide) rfl rfl ?_
    refine ze_lload_n kc_29_50 rfl ?_
    refine ze_lreturn kc_29_51 ?_
    rw [show zFit s v = v from (if_neg (by omega)).trans ((if_neg (by omega)).trans ((if_neg (by omega)).trans (if_pos (by omega))))] at q1
    exact q1
  refine ze_tableOut kc_29_4 (by omega) (by omega) rfl ?_
  refine ze_lload_n kc_29_52 rfl ?_
  refine ze_lconst0 kc_29_53 ?_
  refine ze_lcmp_eq kc_29_54 kc_29_55 (by omega) (by omega) (fun h54 => ?_) (fun h54 => ?_)
  · skip
    refine ze_lconst0 kc_29_62 ?_
    refine ze_lreturn kc_29_63 ?_
    have e : zFit s v = if v = 0 then 0 else 1 := (if_neg (by omega)).trans ((if_neg (by omega)).trans ((if_neg (by omega)).trans (if_neg (by omega))))
    rw [e] at q1
    first
      | (rw [if_pos (by omega)] at q1; exact q1)
      | (rw [if_neg (by omega)] at q1; exact q1)
  · skip
    refine ze_lconst1 kc_29_58 ?_
    refine ze_goto kc_29_59 ?_
    refine ze_lreturn kc_29_63 ?_
    have e : zFit s v = if v = 0 then 0 else 1 := (if_neg (by omega)).trans ((if_neg (by omega)).trans ((if_neg (by omega)).trans (if_neg (by omega))))
    rw [e] at q1
    first
      | (rw [if_pos (by omega)] at q1; exact q1)
      | (rw [if_neg (by omega)] at q1; exact q1)

set_option maxHeartbeats 4000000 in
theorem m_narrowed {Z : zMem} {Q : Option zAV → zMem → Prop} {s v : Int} (hv : -9223372036854775808 ≤ v ∧ v ≤ 9223372036854775807) (hsr : -1 ≤ s ∧ s ≤ 4) (q1 : Q (some (zL (zFit s v))) Z) : zE 169 0 (zent 169 [zI s, zL v]) [] Z Q := by
  show zE 169 0 [some (zI s), some (zL v), none] [] Z Q
  refine ze_iload_n kc_169_0 rfl ?_
  by_cases hs0 : s = 0
  · refine ze_tableIn 0 kc_169_1 hs0 (by decide) (by decide) rfl rfl ?_
    refine ze_lload_n kc_169_32 rfl ?_
    refine ze_l2i kc_169_33 ?_
    refine ze_i2b kc_169_34 ?_
    refine ze_i2lw kc_169_35 ?_
    refine ze_lreturn kc_169_36 ?_
    rw [show zFit s v = zwI ((Int32.ofInt v).toInt8.toInt) from if_pos (by omega)] at q1
    exact q1
  by_cases hs1 : s = 1
  · refine ze_tableIn 1 kc_169_1 hs1 (by decide) (by decide) rfl rfl ?_
    refine ze_lload_n kc_169_37 rfl ?_
    refine ze_l2i kc_169_38 ?_
    refine ze_i2s kc_169_39 ?_
    refine ze_i2lw kc_169_40 ?_
    refine ze_lreturn kc_169_41 ?_
    rw [show zFit s v = zwI ((Int32.ofInt v).toInt16.toInt) from (if_neg (by omega)).trans (if_pos (by omega))] at q1
    exact q1
  by_cases hs2 : s = 2
  · refine ze_tableIn 2 kc_169_1 hs2 (by decide) (by decide) rfl rfl ?_
    refine ze_lload_n kc_169_42 rfl ?_
    refine ze_l2i kc_169_43 ?_
    refine ze_i2lw kc_169_44 ?_
    refine ze_lreturn kc_169_45 ?_
    rw [show zFit s v = zwI v from (if_neg (by omega)).trans ((if_neg (by omega)).trans (if_pos (by omega)))] at q1
    exact q1
  by_cases hs3 : s = 3
  · refine ze_tableIn 3 kc_169_1 hs3 (by decide) (by decide) rfl rfl ?_
    refine ze_lload_n kc_169_46 rfl ?_
    refine ze_lreturn kc_169_47 ?_
    rw [show zFit s v = v from (if_neg (by omega)).trans ((if_neg (by omega)).trans ((if_neg (by omega)).trans (if_pos (by omega))))] at q1
    exact q1
  refine ze_tableOut kc_169_1 (by omega) (by omega) rfl ?_
  refine ze_lload_n kc_169_48 rfl ?_
  refine ze_lconst0 kc_169_49 ?_
  refine ze_lcmp_eq kc_169_50 kc_169_51 (by omega) (by omega) (fun h50 => ?_) (fun h50 => ?_)
  · skip
    refine ze_lconst0 kc_169_58 ?_
    refine ze_lreturn kc_169_59 ?_
    have e : zFit s v = if v = 0 then 0 else 1 := (if_neg (by omega)).trans ((if_neg (by omega)).trans ((if_neg (by omega)).trans (if_neg (by omega))))
    rw [e] at q1
    first
      | (rw [if_pos (by omega)] at q1; exact q1)
      | (rw [if_neg (by omega)] at q1; exact q1)
  · skip
    refine ze_lconst1 kc_169_54 ?_
    refine ze_goto kc_169_55 ?_
    refine ze_lreturn kc_169_59 ?_
    have e : zFit s v = if v = 0 then 0 else 1 := (if_neg (by omega)).trans ((if_neg (by omega)).trans ((if_neg (by omega)).trans (if_neg (by omega))))
    rw [e] at q1
    first
      | (rw [if_pos (by omega)] at q1; exact q1)
      | (rw [if_neg (by omega)] at q1; exact q1)

set_option maxHeartbeats 4000000 in
theorem m_isTapeM {Z : zMem} {Q : Option zAV → zMem → Prop} {v : Int} (hv : -2147483648 ≤ v ∧ v ≤ 2147483647) (q1 : 0 ≤ v ∧ v < 6 → Q (some (zI 1)) Z) (q2 : ¬ (0 ≤ v ∧ v < 6) → Q (some (zI 0)) Z) : zE 166 0 (zent 166 [zI v]) [] Z Q := by
  show zE 166 0 [some (zI v)] [] Z Q
  refine ze_iload_n kc_166_0 rfl ?_
  refine ze_iconst kc_166_1 ?_
  refine ze_iconst kc_166_2 ?_
  refine zE_calls 3 kc_166_3 rfl rfl (Nat.le_of_ble_eq_true rfl) (Nat.le_of_ble_eq_true rfl) (Nat.le_of_ble_eq_true rfl) rfl ?_
  refine m_in (by omega) (by omega) (by omega) (fun g3 => ?_) (fun g3 => ?_)
  · simp only [Option.toList_some, Option.toList_none, List.drop_succ_cons, List.drop_zero, List.cons_append, List.nil_append]
    refine ze_ireturn kc_166_6 (by decide) ?_
    first | exact q1 (by omega) | exact q2 (by omega) | exact q3 (by omega) | exact q4 (by omega)
  · simp only [Option.toList_some, Option.toList_none, List.drop_succ_cons, List.drop_zero, List.cons_append, List.nil_append]
    refine ze_ireturn kc_166_6 (by decide) ?_
    first | exact q1 (by omega) | exact q2 (by omega) | exact q3 (by omega) | exact q4 (by omega)

set_option maxHeartbeats 4000000 in
theorem m_tapeX {Z : zMem} {Q : Option zAV → zMem → Prop} {P : zTps} (hP : zTpX P Z) {t s n : Int} (ht : -2147483648 ≤ t ∧ t ≤ 2147483647) (hs : -2147483648 ≤ s ∧ s ≤ 2147483647) (hn : -2147483648 ≤ n ∧ n ≤ 2147483647) (q1 : ∀ (Z' : zMem), zTpX (sTape P t s n) Z' → (∀ k, k < 51 ∨ 62 < k → Z' k = Z k) → Q (some (zI (oTape t s n))) Z') : zE 80 0 (zent 80 [zR 0, zI t, zI s, zI n]) [] Z Q := by
  show zE 80 0 [some (zR 0), some (zI t), some (zI s), some (zI n)] [] Z Q
  refine ze_iload_n kc_80_0 rfl ?_
  refine zE_calls 1 kc_80_1 rfl rfl (Nat.le_of_ble_eq_true rfl) (Nat.le_of_ble_eq_true rfl) (Nat.le_of_ble_eq_true rfl) rfl ?_
  refine m_isTape (by omega) (fun g1 => ?_) (fun g1 => ?_)
  · simp only [Option.toList_some, Option.toList_none, List.drop_succ_cons, List.drop_zero, List.cons_append, List.nil_append]
    refine ze_if_ne kc_80_4 (by decide) (fun _ => ?_) (fun q => absurd q (by decide))
    obtain ⟨κ, rfl⟩ := Int.eq_ofNat_of_zero_le (show 0 ≤ t by omega)
    have hκ : κ < 6 := by omega
    have hTκ := ztp_T κ hκ
    have hIκ := ztp_0 κ hκ
    have hWκ := ztp_W κ hκ
    obtain ⟨x1κ, x2κ, x3κ⟩ := hP.1 κ hκ
    obtain ⟨y1κ, y2κ, y3κ, y4κ⟩ := hP.2 κ hκ
    refine ze_iload_n kc_80_9 rfl ?_
    refine ze_iconst kc_80_10 ?_
    refine ze_icmp_ne kc_80_11 (by omega) (by omega) (fun h11 => ?_) (fun h11 => ?_)
    · skip
      refine ze_iload_n kc_80_27 rfl ?_
      refine ze_if_lt kc_80_28 (by omega) (fun h28 => ?_) (fun h28 => ?_)
      · skip
        refine ze_bipush kc_80_42 ?_
        refine ze_ireturn kc_80_44 (Or.inl rfl) ?_
        rw [show sTape P κ s n = P from (if_neg (by omega)).trans (if_neg (by omega)), show oTape κ s n = -2 from (if_neg (by omega)).trans ((if_neg (by omega)).trans (if_pos (by omega)))] at q1
        exact q1 _ hP (fun _ _ => rfl)
      · skip
        refine ze_iload_n kc_80_31 rfl ?_
        refine ze_iconst kc_80_32 ?_
        refine ze_icmp_ge kc_80_33 (by omega) (by omega) (fun h33 => ?_) (fun h33 => ?_)
        · skip
          refine ze_bipush kc_80_42 ?_
          refine ze_ireturn kc_80_44 (Or.inl rfl) ?_
          rw [show sTape P κ s n = P from (if_neg (by omega)).trans (if_neg (by omega)), show oTape κ s n = -2 from (if_neg (by omega)).trans ((if_neg (by omega)).trans (if_pos (by omega)))] at q1
          exact q1 _ hP (fun _ _ => rfl)
        · skip
          refine ze_iload_n kc_80_36 rfl ?_
          refine ze_bipush kc_80_37 ?_
          refine ze_icmp_le kc_80_39 (by omega) (by omega) (fun h39 => ?_) (fun h39 => ?_)
          · skip
            refine ze_iload_n kc_80_45 rfl ?_
            refine ze_if_ge kc_80_46 (by omega) (fun h46 => ?_) (fun h46 => ?_)
            · skip
              refine ze_aload_n kc_80_52 rfl ?_
              refine ze_getR kc_80_53 (by first | assumption | rfl) rfl (by first | assumption | rfl) ?_
              refine ze_iload_n kc_80_56 rfl ?_
              refine ze_aald kc_80_57 rfl (by omega) (ztp_r κ hκ) ?_
              refine ze_iload_n kc_80_58 rfl ?_
              refine ze_iload_n kc_80_59 rfl ?_
              refine zE_callv 3 kc_80_60 rfl rfl (Nat.le_of_ble_eq_true rfl) (Nat.le_of_ble_eq_true rfl) (Nat.le_of_ble_eq_true rfl) (by first | assumption | rfl) (by decide +kernel) rfl ?_
              refine m_become hTκ hIκ hWκ (by omega) (fun Z2 r1 r2 r3 r4 => ?_)
              simp only [Option.toList_some, Option.toList_none, List.drop_succ_cons, List.drop_zero, List.cons_append, List.nil_append]
              refine ze_iconst kc_80_63 ?_
              refine ze_ireturn kc_80_64 (Or.inl rfl) ?_
              rw [show sTape P κ s n = zTpA P κ s n from (if_neg (by omega)).trans (if_pos (by omega)), show oTape κ s n = 1 from (if_neg (by omega)).trans ((if_neg (by omega)).trans ((if_neg (by omega)).trans (if_neg (by omega))))] at q1
              exact q1 _ (zTpX_A hP hκ (by omega) r1 r2 r3 r4) (fun k a => r1 k (by omega) (by omega))
            · skip
              refine ze_bipush kc_80_49 ?_
              refine ze_ireturn kc_80_51 (Or.inl rfl) ?_
              rw [show sTape P κ s n = P from (if_neg (by omega)).trans (if_neg (by omega)), show oTape κ s n = -14 from (if_neg (by omega)).trans ((if_neg (by omega)).trans ((if_neg (by omega)).trans (if_pos (by omega))))] at q1
              exact q1 _ hP (fun _ _ => rfl)
          · skip
            refine ze_bipush kc_80_42 ?_
            refine ze_ireturn kc_80_44 (Or.inl rfl) ?_
            rw [show sTape P κ s n = P from (if_neg (by omega)).trans (if_neg (by omega)), show oTape κ s n = -2 from (if_neg (by omega)).trans ((if_neg (by omega)).trans (if_pos (by omega)))] at q1
            exact q1 _ hP (fun _ _ => rfl)
    · skip
      refine ze_aload_n kc_80_14 rfl ?_
      refine ze_getR kc_80_15 (by first | assumption | rfl) rfl (by first | assumption | rfl) ?_
      refine ze_iload_n kc_80_18 rfl ?_
      refine ze_aald kc_80_19 rfl (by omega) (ztp_r κ hκ) ?_
      refine ze_iconst kc_80_20 ?_
      refine ze_iconst kc_80_21 ?_
      refine zE_callv 3 kc_80_22 rfl rfl (Nat.le_of_ble_eq_true rfl) (Nat.le_of_ble_eq_true rfl) (Nat.le_of_ble_eq_true rfl) (by first | assumption | rfl) (by decide +kernel) rfl ?_
      refine m_become hTκ hIκ hWκ (by omega) (fun Z2 r1 r2 r3 r4 => ?_)
      simp only [Option.toList_some, Option.toList_none, List.drop_succ_cons, List.drop_zero, List.cons_append, List.nil_append]
      refine ze_iconst kc_80_25 ?_
      refine ze_ireturn kc_80_26 (Or.inl rfl) ?_
      rw [show sTape P κ s n = zTpA P κ (-1) 0 from if_pos (by omega), show oTape κ s n = 1 from (if_neg (by omega)).trans (if_pos (by omega))] at q1
      exact q1 _ (zTpX_A hP hκ (by omega) r1 r2 r3 r4) (fun k a => r1 k (by omega) (by omega))
  · simp only [Option.toList_some, Option.toList_none, List.drop_succ_cons, List.drop_zero, List.cons_append, List.nil_append]
    refine ze_if_ne kc_80_4 (by decide) (fun q => absurd q (by decide)) (fun _ => ?_)
    refine ze_iconst kc_80_7 ?_
    refine ze_ireturn kc_80_8 (Or.inl rfl) ?_
    rw [show sTape P t s n = P from (if_neg (by omega)).trans (if_neg (by omega)), show oTape t s n = -1 from if_pos (by omega)] at q1
    exact q1 _ hP (fun _ _ => rfl)

set_option maxHeartbeats 4000000 in
theorem m_tapeM {Z : zMem} {Q : Option zAV → zMem → Prop} {P : zTps} (hP : zTpM P Z) {t s n : Int} (ht : -2147483648 ≤ t ∧ t ≤ 2147483647) (hs : -2147483648 ≤ s ∧ s ≤ 2147483647) (hn : -2147483648 ≤ n ∧ n ≤ 2147483647) (q1 : ∀ (Z' : zMem), zTpM (sTape P t s n) Z' → (∀ k, k ≠ 76 → k ≠ 77 → k ≠ 78 → k ≠ 79 → Z' k = Z k) → Q (some (zI (oTape t s n))) Z') : zE 168 0 (zent 168 [zR 63, zI t, zI s, zI n]) [] Z Q := by
  show zE 168 0 [some (zR 63), some (zI t), some (zI s), some (zI n), none] [] Z Q
  refine ze_iload_n kc_168_0 rfl ?_
  refine zE_calls 1 kc_168_1 rfl rfl (Nat.le_of_ble_eq_true rfl) (Nat.le_of_ble_eq_true rfl) (Nat.le_of_ble_eq_true rfl) rfl ?_
  refine m_isTapeM (by omega) (fun g1 => ?_) (fun g1 => ?_)
  · simp only [Option.toList_some, Option.toList_none, List.drop_succ_cons, List.drop_zero, List.cons_append, List.nil_append]
    refine ze_if_ne kc_168_4 (by decide) (fun _ => ?_) (fun q => absurd q (by decide))
    obtain ⟨κ, rfl⟩ := Int.eq_ofNat_of_zero_le (show 0 ≤ t by omega)
    have hκ : κ < 6 := by omega
    have hTκ := ztp_T κ hκ
    have hIκ := ztp_0 κ hκ
    have hWκ := ztp_W κ hκ
    obtain ⟨x1κ, x2κ, x3κ⟩ := hP.1 κ hκ
    obtain ⟨y1κ, y2κ, y3κ, y4κ⟩ := hP.2 κ hκ
    refine ze_iload_n kc_168_9 rfl ?_
    refine ze_iconst kc_168_10 ?_
    refine ze_iconst kc_168_11 ?_
    refine zE_calls 3 kc_168_12 rfl rfl (Nat.le_of_ble_eq_true rfl) (Nat.le_of_ble_eq_true rfl) (Nat.le_of_ble_eq_true rfl) rfl ?_
    refine m_in (by omega) (by omega) (by omega) (fun g12 => ?_) (fun g12 => ?_)
    · simp only [Option.toList_some, Option.toList_none, List.drop_succ_cons, List.drop_zero, List.cons_append, List.nil_append]
      refine ze_if_eq kc_168_15 (by decide) (fun q => absurd q (by decide)) (fun _ => ?_)
      refine ze_iload_n kc_168_18 rfl ?_
      refine ze_if_lt kc_168_19 (by omega) (fun h19 => ?_) (fun h19 => ?_)
      · skip
        refine ze_iload_n kc_168_31 rfl ?_
        refine ze_if_lt kc_168_32 (by omega) (fun h32 => ?_) (fun h32 => ?_)
        · skip
          refine ze_aload_n kc_168_42 rfl ?_
          refine ze_getR kc_168_43 rfl rfl rfl ?_
          refine ze_iload_n kc_168_46 rfl ?_
          refine ze_iload_n kc_168_47 rfl ?_
          refine ze_iast kc_168_48 rfl (by omega) ?_
          rw [Int.toNat_natCast]
          refine ze_aload_n kc_168_49 rfl ?_
          refine ze_getR kc_168_50 rfl rfl rfl ?_
          refine ze_iload_n kc_168_53 rfl ?_
          refine ze_iload_n kc_168_54 rfl ?_
          refine ze_if_ge kc_168_55 (by omega) (fun h55 => ?_) (fun h55 => ?_)
          · skip
            refine ze_iload_n kc_168_62 rfl ?_
            refine ze_iast kc_168_63 rfl (by omega) ?_
            rw [Int.toNat_natCast]
            refine ze_iconst kc_168_64 ?_
            refine ze_istore kc_168_65 (Nat.le_of_ble_eq_true rfl) ?_
            simp only [zset1, zset2, zcut, zf0, zf1, zf2, zf3, List.set_cons_zero, List.set_cons_succ, List.getD_cons_zero, List.getD_cons_succ]
            have loop67 : ∀ (μ : Nat) (k : Nat) (x : Int) (Zc : zMem), 60 - k = μ → (k ≤ 60) → (x = k) → (∀ i, i ≠ 76 → i ≠ 77 → i ≠ 78 → Zc i = Z i) → ((∀ j, j ≠ κ → Zc 76 j = Z 76 j) ∧ Zc 76 κ = s ∧ (∀ j, j ≠ κ → Zc 77 j = Z 77 j) ∧ Zc 77 κ = (if s < 0 then 0 else n)) → (∀ i, i < k → Zc 78 (60 * κ + i) = 0) → (∀ j, j < 60 * κ ∨ 60 * κ + 60 ≤ j → Zc 78 j = Z 78 j) → zE 168 67 [some (zR 63), some (zI (κ : Nat)), some (zI s), some (zI n), some (zI x)] [] Zc Q := by
              refine zind ?_
              intro μ ih k x Zc hm hk hx f1 f2 f3 f4
              subst hx
              refine ze_iload kc_168_67 rfl ?_
              refine ze_bipush kc_168_69 ?_
              refine ze_icmp_ge kc_168_71 (by omega) (by omega) (fun h71 => ?_) (fun h71 => ?_)
              · skip
                refine ze_iconst kc_168_93 ?_
                refine ze_ireturn kc_168_94 (Or.inl rfl) ?_
                obtain ⟨g1, g2, g3, g4⟩ := f2
                by_cases hs : s = -1
                · subst hs
                  rw [show sTape P κ (-1) n = zTpA P κ (-1) 0 from if_pos (by omega), show oTape κ (-1) n = 1 from (if_neg (by omega)).trans (if_pos (by omega))] at q1
                  exact q1 _ (zTpM_A hP hκ (by omega) g1 g2 g3 g4 (fun i hi => f3 i (by omega)) f4) (fun i a b d _ => f1 i a b d)
                · rw [if_neg (by omega)] at g4
                  rw [show sTape P κ s n = zTpA P κ s n from (if_neg (by omega)).trans (if_pos (by omega)), show oTape κ s n = 1 from (if_neg (by omega)).trans ((if_neg (by omega)).trans ((if_neg (by omega)).trans (if_neg (by omega))))] at q1
                  exact q1 _ (zTpM_A hP hκ (by omega) g1 g2 g3 g4 (fun i hi => f3 i (by omega)) f4) (fun i a b d _ => f1 i a b d)
              · skip
                refine ze_aload_n kc_168_74 rfl ?_
                refine ze_getR kc_168_75 rfl rfl rfl ?_
                refine ze_bipush kc_168_78 ?_
                refine ze_iload_n kc_168_80 rfl ?_
                refine ze_imul kc_168_81 ?_
                refine ze_iload kc_168_82 rfl ?_
                refine ze_iadd kc_168_84 ?_
                rw [show 60 * (κ : Int) + (k : Int) = ((60 * κ + k : Nat) : Int) by omega]
                refine ze_lconst0 kc_168_85 ?_
                refine ze_last kc_168_86 rfl (by omega) ?_
                rw [Int.toNat_natCast]
                refine ze_iinc kc_168_87 rfl ?_
                simp only [zset1, zset2, zcut, zf0, zf1, zf2, zf3, List.set_cons_zero, List.set_cons_succ, List.getD_cons_zero, List.getD_cons_succ]
                refine ze_goto kc_168_90 ?_
                refine ih _ (by omega) (k + 1) _ _ rfl (by omega) (by omega) (fun i a b d => by rw [zup_ne' d]; exact f1 i a b d) (by rw [zup_ne' (by decide), zup_ne' (by decide)]; exact f2) (fun i hi => if q : i = k then (by rw [q, zup_s]) else (by rw [zup_o (by omega)]; exact f3 i (by omega))) (fun j a => by rw [zup_o (by omega)]; exact f4 j a)
            refine loop67 _ 0 0 _ rfl (by omega) rfl (fun i a b d => by rw [zup_ne' b, zup_ne' a]) ⟨fun j a => by rw [zup_ne' (by decide), zup_o a], by rw [zup_ne' (by decide), zup_s], fun j a => by rw [zup_o a, zup_ne' (by decide)], by rw [zup_s]; first | exact (if_pos (by omega)).symm | exact (if_neg (by omega)).symm⟩ (fun i hi => absurd hi (by omega)) (fun j a => by rw [zup_ne' (by decide), zup_ne' (by decide)])
          · skip
            refine ze_iconst kc_168_58 ?_
            refine ze_goto kc_168_59 ?_
            refine ze_iast kc_168_63 rfl (by omega) ?_
            rw [Int.toNat_natCast]
            refine ze_iconst kc_168_64 ?_
            refine ze_istore kc_168_65 (Nat.le_of_ble_eq_true rfl) ?_
            simp only [zset1, zset2, zcut, zf0, zf1, zf2, zf3, List.set_cons_zero, List.set_cons_succ, List.getD_cons_zero, List.getD_cons_succ]
            have loop67 : ∀ (μ : Nat) (k : Nat) (x : Int) (Zc : zMem), 60 - k = μ → (k ≤ 60) → (x = k) → (∀ i, i ≠ 76 → i ≠ 77 → i ≠ 78 → Zc i = Z i) → ((∀ j, j ≠ κ → Zc 76 j = Z 76 j) ∧ Zc 76 κ = s ∧ (∀ j, j ≠ κ → Zc 77 j = Z 77 j) ∧ Zc 77 κ = (if s < 0 then 0 else n)) → (∀ i, i < k → Zc 78 (60 * κ + i) = 0) → (∀ j, j < 60 * κ ∨ 60 * κ + 60 ≤ j → Zc 78 j = Z 78 j) → zE 168 67 [some (zR 63), some (zI (κ : Nat)), some (zI s), some (zI n), some (zI x)] [] Zc Q := by
              refine zind ?_
              intro μ ih k x Zc hm hk hx f1 f2 f3 f4
              subst hx
              refine ze_iload kc_168_67 rfl ?_
              refine ze_bipush kc_168_69 ?_
              refine ze_icmp_ge kc_168_71 (by omega) (by omega) (fun h71 => ?_) (fun h71 => ?_)
              · skip
                refine ze_iconst kc_168_93 ?_
                refine ze_ireturn kc_168_94 (Or.inl rfl) ?_
                obtain ⟨g1, g2, g3, g4⟩ := f2
                by_cases hs : s = -1
                · subst hs
                  rw [show sTape P κ (-1) n = zTpA P κ (-1) 0 from if_pos (by omega), show oTape κ (-1) n = 1 from (if_neg (by omega)).trans (if_pos (by omega))] at q1
                  exact q1 _ (zTpM_A hP hκ (by omega) g1 g2 g3 g4 (fun i hi => f3 i (by omega)) f4) (fun i a b d _ => f1 i a b d)
                · rw [if_neg (by omega)] at g4
                  rw [show sTape P κ s n = zTpA P κ s n from (if_neg (by omega)).trans (if_pos (by omega)), show oTape κ s n = 1 from (if_neg (by omega)).trans ((if_neg (by omega)).trans ((if_neg (by omega)).trans (if_neg (by omega))))] at q1
                  exact q1 _ (zTpM_A hP hκ (by omega) g1 g2 g3 g4 (fun i hi => f3 i (by omega)) f4) (fun i a b d _ => f1 i a b d)
              · skip
                refine ze_aload_n kc_168_74 rfl ?_
                refine ze_getR kc_168_75 rfl rfl rfl ?_
                refine ze_bipush kc_168_78 ?_
                refine ze_iload_n kc_168_80 rfl ?_
                refine ze_imul kc_168_81 ?_
                refine ze_iload kc_168_82 rfl ?_
                refine ze_iadd kc_168_84 ?_
                rw [show 60 * (κ : Int) + (k : Int) = ((60 * κ + k : Nat) : Int) by omega]
                refine ze_lconst0 kc_168_85 ?_
                refine ze_last kc_168_86 rfl (by omega) ?_
                rw [Int.toNat_natCast]
                refine ze_iinc kc_168_87 rfl ?_
                simp only [zset1, zset2, zcut, zf0, zf1, zf2, zf3, List.set_cons_zero, List.set_cons_succ, List.getD_cons_zero, List.getD_cons_succ]
                refine ze_goto kc_168_90 ?_
                refine ih _ (by omega) (k + 1) _ _ rfl (by omega) (by omega) (fun i a b d => by rw [zup_ne' d]; exact f1 i a b d) (by rw [zup_ne' (by decide), zup_ne' (by decide)]; exact f2) (fun i hi => if q : i = k then (by rw [q, zup_s]) else (by rw [zup_o (by omega)]; exact f3 i (by omega))) (fun j a => by rw [zup_o (by omega)]; exact f4 j a)
            refine loop67 _ 0 0 _ rfl (by omega) rfl (fun i a b d => by rw [zup_ne' b, zup_ne' a]) ⟨fun j a => by rw [zup_ne' (by decide), zup_o a], by rw [zup_ne' (by decide), zup_s], fun j a => by rw [zup_o a, zup_ne' (by decide)], by rw [zup_s]; first | exact (if_pos (by omega)).symm | exact (if_neg (by omega)).symm⟩ (fun i hi => absurd hi (by omega)) (fun j a => by rw [zup_ne' (by decide), zup_ne' (by decide)])
        · skip
          refine ze_iload_n kc_168_35 rfl ?_
          refine ze_if_ge kc_168_36 (by omega) (fun h36 => ?_) (fun h36 => ?_)
          · skip
            refine ze_aload_n kc_168_42 rfl ?_
            refine ze_getR kc_168_43 rfl rfl rfl ?_
            refine ze_iload_n kc_168_46 rfl ?_
            refine ze_iload_n kc_168_47 rfl ?_
            refine ze_iast kc_168_48 rfl (by omega) ?_
            rw [Int.toNat_natCast]
            refine ze_aload_n kc_168_49 rfl ?_
            refine ze_getR kc_168_50 rfl rfl rfl ?_
            refine ze_iload_n kc_168_53 rfl ?_
            refine ze_iload_n kc_168_54 rfl ?_
            refine ze_if_ge kc_168_55 (by omega) (fun h55 => ?_) (fun h55 => ?_)
            · skip
              refine ze_iload_n kc_168_62 rfl ?_
              refine ze_iast kc_168_63 rfl (by omega) ?_
              rw [Int.toNat_natCast]
              refine ze_iconst kc_168_64 ?_
              refine ze_istore kc_168_65 (Nat.le_of_ble_eq_true rfl) ?_
              simp only [zset1, zset2, zcut, zf0, zf1, zf2, zf3, List.set_cons_zero, List.set_cons_succ, List.getD_cons_zero, List.getD_cons_succ]
              have loop67 : ∀ (μ : Nat) (k : Nat) (x : Int) (Zc : zMem), 60 - k = μ → (k ≤ 60) → (x = k) → (∀ i, i ≠ 76 → i ≠ 77 → i ≠ 78 → Zc i = Z i) → ((∀ j, j ≠ κ → Zc 76 j = Z 76 j) ∧ Zc 76 κ = s ∧ (∀ j, j ≠ κ → Zc 77 j = Z 77 j) ∧ Zc 77 κ = (if s < 0 then 0 else n)) → (∀ i, i < k → Zc 78 (60 * κ + i) = 0) → (∀ j, j < 60 * κ ∨ 60 * κ + 60 ≤ j → Zc 78 j = Z 78 j) → zE 168 67 [some (zR 63), some (zI (κ : Nat)), some (zI s), some (zI n), some (zI x)] [] Zc Q := by
                refine zind ?_
                intro μ ih k x Zc hm hk hx f1 f2 f3 f4
                subst hx
                refine ze_iload kc_168_67 rfl ?_
                refine ze_bipush kc_168_69 ?_
                refine ze_icmp_ge kc_168_71 (by omega) (by omega) (fun h71 => ?_) (fun h71 => ?_)
                · skip
                  refine ze_iconst kc_168_93 ?_
                  refine ze_ireturn kc_168_94 (Or.inl rfl) ?_
                  obtain ⟨g1, g2, g3, g4⟩ := f2
                  by_cases hs : s = -1
                  · subst hs
                    rw [show sTape P κ (-1) n = zTpA P κ (-1) 0 from if_pos (by omega), show oTape κ (-1) n = 1 from (if_neg (by omega)).trans (if_pos (by omega))] at q1
                    exact q1 _ (zTpM_A hP hκ (by omega) g1 g2 g3 g4 (fun i hi => f3 i (by omega)) f4) (fun i a b d _ => f1 i a b d)
                  · rw [if_neg (by omega)] at g4
                    rw [show sTape P κ s n = zTpA P κ s n from (if_neg (by omega)).trans (if_pos (by omega)), show oTape κ s n = 1 from (if_neg (by omega)).trans ((if_neg (by omega)).trans ((if_neg (by omega)).trans (if_neg (by omega))))] at q1
                    exact q1 _ (zTpM_A hP hκ (by omega) g1 g2 g3 g4 (fun i hi => f3 i (by omega)) f4) (fun i a b d _ => f1 i a b d)
                · skip
                  refine ze_aload_n kc_168_74 rfl ?_
                  refine ze_getR kc_168_75 rfl rfl rfl ?_
                  refine ze_bipush kc_168_78 ?_
                  refine ze_iload_n kc_168_80 rfl ?_
                  refine ze_imul kc_168_81 ?_
                  refine ze_iload kc_168_82 rfl ?_
                  refine ze_iadd kc_168_84 ?_
                  rw [show 60 * (κ : Int) + (k : Int) = ((60 * κ + k : Nat) : Int) by omega]
                  refine ze_lconst0 kc_168_85 ?_
                  refine ze_last kc_168_86 rfl (by omega) ?_
                  rw [Int.toNat_natCast]
                  refine ze_iinc kc_168_87 rfl ?_
                  simp only [zset1, zset2, zcut, zf0, zf1, zf2, zf3, List.set_cons_zero, List.set_cons_succ, List.getD_cons_zero, List.getD_cons_succ]
                  refine ze_goto kc_168_90 ?_
                  refine ih _ (by omega) (k + 1) _ _ rfl (by omega) (by omega) (fun i a b d => by rw [zup_ne' d]; exact f1 i a b d) (by rw [zup_ne' (by decide), zup_ne' (by decide)]; exact f2) (fun i hi => if q : i = k then (by rw [q, zup_s]) else (by rw [zup_o (by omega)]; exact f3 i (by omega))) (fun j a => by rw [zup_o (by omega)]; exact f4 j a)
              refine loop67 _ 0 0 _ rfl (by omega) rfl (fun i a b d => by rw [zup_ne' b, zup_ne' a]) ⟨fun j a => by rw [zup_ne' (by decide), zup_o a], by rw [zup_ne' (by decide), zup_s], fun j a => by rw [zup_o a, zup_ne' (by decide)], by rw [zup_s]; first | exact (if_pos (by omega)).symm | exact (if_neg (by omega)).symm⟩ (fun i hi => absurd hi (by omega)) (fun j a => by rw [zup_ne' (by decide), zup_ne' (by decide)])
            · skip
              refine ze_iconst kc_168_58 ?_
              refine ze_goto kc_168_59 ?_
              refine ze_iast kc_168_63 rfl (by omega) ?_
              rw [Int.toNat_natCast]
              refine ze_iconst kc_168_64 ?_
              refine ze_istore kc_168_65 (Nat.le_of_ble_eq_true rfl) ?_
              simp only [zset1, zset2, zcut, zf0, zf1, zf2, zf3, List.set_cons_zero, List.set_cons_succ, List.getD_cons_zero, List.getD_cons_succ]
              have loop67 : ∀ (μ : Nat) (k : Nat) (x : Int) (Zc : zMem), 60 - k = μ → (k ≤ 60) → (x = k) → (∀ i, i ≠ 76 → i ≠ 77 → i ≠ 78 → Zc i = Z i) → ((∀ j, j ≠ κ → Zc 76 j = Z 76 j) ∧ Zc 76 κ = s ∧ (∀ j, j ≠ κ → Zc 77 j = Z 77 j) ∧ Zc 77 κ = (if s < 0 then 0 else n)) → (∀ i, i < k → Zc 78 (60 * κ + i) = 0) → (∀ j, j < 60 * κ ∨ 60 * κ + 60 ≤ j → Zc 78 j = Z 78 j) → zE 168 67 [some (zR 63), some (zI (κ : Nat)), some (zI s), some (zI n), some (zI x)] [] Zc Q := by
                refine zind ?_
                intro μ ih k x Zc hm hk hx f1 f2 f3 f4
                subst hx
                refine ze_iload kc_168_67 rfl ?_
                refine ze_bipush kc_168_69 ?_
                refine ze_icmp_ge kc_168_71 (by omega) (by omega) (fun h71 => ?_) (fun h71 => ?_)
                · skip
                  refine ze_iconst kc_168_93 ?_
                  refine ze_ireturn kc_168_94 (Or.inl rfl) ?_
                  obtain ⟨g1, g2, g3, g4⟩ := f2
                  by_cases hs : s = -1
                  · subst hs
                    rw [show sTape P κ (-1) n = zTpA P κ (-1) 0 from if_pos (by omega), show oTape κ (-1) n = 1 from (if_neg (by omega)).trans (if_pos (by omega))] at q1
                    exact q1 _ (zTpM_A hP hκ (by omega) g1 g2 g3 g4 (fun i hi => f3 i (by omega)) f4) (fun i a b d _ => f1 i a b d)
                  · rw [if_neg (by omega)] at g4
                    rw [show sTape P κ s n = zTpA P κ s n from (if_neg (by omega)).trans (if_pos (by omega)), show oTape κ s n = 1 from (if_neg (by omega)).trans ((if_neg (by omega)).trans ((if_neg (by omega)).trans (if_neg (by omega))))] at q1
                    exact q1 _ (zTpM_A hP hκ (by omega) g1 g2 g3 g4 (fun i hi => f3 i (by omega)) f4) (fun i a b d _ => f1 i a b d)
                · skip
                  refine ze_aload_n kc_168_74 rfl ?_
                  refine ze_getR kc_168_75 rfl rfl rfl ?_
                  refine ze_bipush kc_168_78 ?_
                  refine ze_iload_n kc_168_80 rfl ?_
                  refine ze_imul kc_168_81 ?_
                  refine ze_iload kc_168_82 rfl ?_
                  refine ze_iadd kc_168_84 ?_
                  rw [show 60 * (κ : Int) + (k : Int) = ((60 * κ + k : Nat) : Int) by omega]
                  refine ze_lconst0 kc_168_85 ?_
                  refine ze_last kc_168_86 rfl (by omega) ?_
                  rw [Int.toNat_natCast]
                  refine ze_iinc kc_168_87 rfl ?_
                  simp only [zset1, zset2, zcut, zf0, zf1, zf2, zf3, List.set_cons_zero, List.set_cons_succ, List.getD_cons_zero, List.getD_cons_succ]
                  refine ze_goto kc_168_90 ?_
                  refine ih _ (by omega) (k + 1) _ _ rfl (by omega) (by omega) (fun i a b d => by rw [zup_ne' d]; exact f1 i a b d) (by rw [zup_ne' (by decide), zup_ne' (by decide)]; exact f2) (fun i hi => if q : i = k then (by rw [q, zup_s]) else (by rw [zup_o (by omega)]; exact f3 i (by omega))) (fun j a => by rw [zup_o (by omega)]; exact f4 j a)
              refine loop67 _ 0 0 _ rfl (by omega) rfl (fun i a b d => by rw [zup_ne' b, zup_ne' a]) ⟨fun j a => by rw [zup_ne' (by decide), zup_o a], by rw [zup_ne' (by decide), zup_s], fun j a => by rw [zup_o a, zup_ne' (by decide)], by rw [zup_s]; first | exact (if_pos (by omega)).symm | exact (if_neg (by omega)).symm⟩ (fun i hi => absurd hi (by omega)) (fun j a => by rw [zup_ne' (by decide), zup_ne' (by decide)])
          · skip
            refine ze_bipush kc_168_39 ?_
            refine ze_ireturn kc_168_41 (Or.inl rfl) ?_
            rw [show sTape P κ s n = P from (if_neg (by omega)).trans (if_neg (by omega)), show oTape κ s n = -14 from (if_neg (by omega)).trans ((if_neg (by omega)).trans ((if_neg (by omega)).trans (if_pos (by omega))))] at q1
            exact q1 _ hP (fun _ _ _ _ _ => rfl)
      · skip
        refine ze_iload_n kc_168_22 rfl ?_
        refine ze_bipush kc_168_23 ?_
        refine ze_icmp_le kc_168_25 (by omega) (by omega) (fun h25 => ?_) (fun h25 => ?_)
        · skip
          refine ze_iload_n kc_168_31 rfl ?_
          refine ze_if_lt kc_168_32 (by omega) (fun h32 => ?_) (fun h32 => ?_)
          · skip
            refine ze_aload_n kc_168_42 rfl ?_
            refine ze_getR kc_168_43 rfl rfl rfl ?_
            refine ze_iload_n kc_168_46 rfl ?_
            refine ze_iload_n kc_168_47 rfl ?_
            refine ze_iast kc_168_48 rfl (by omega) ?_
            rw [Int.toNat_natCast]
            refine ze_aload_n kc_168_49 rfl ?_
            refine ze_getR kc_168_50 rfl rfl rfl ?_
            refine ze_iload_n kc_168_53 rfl ?_
            refine ze_iload_n kc_168_54 rfl ?_
            refine ze_if_ge kc_168_55 (by omega) (fun h55 => ?_) (fun h55 => ?_)
            · skip
              refine ze_iload_n kc_168_62 rfl ?_
              refine ze_iast kc_168_63 rfl (by omega) ?_
              rw [Int.toNat_natCast]
              refine ze_iconst kc_168_64 ?_
              refine ze_istore kc_168_65 (Nat.le_of_ble_eq_true rfl) ?_
              simp only [zset1, zset2, zcut, zf0, zf1, zf2, zf3, List.set_cons_zero, List.set_cons_succ, List.getD_cons_zero, List.getD_cons_succ]
              have loop67 : ∀ (μ : Nat) (k : Nat) (x : Int) (Zc : zMem), 60 - k = μ → (k ≤ 60) → (x = k) → (∀ i, i ≠ 76 → i ≠ 77 → i ≠ 78 → Zc i = Z i) → ((∀ j, j ≠ κ → Zc 76 j = Z 76 j) ∧ Zc 76 κ = s ∧ (∀ j, j ≠ κ → Zc 77 j = Z 77 j) ∧ Zc 77 κ = (if s < 0 then 0 else n)) → (∀ i, i < k → Zc 78 (60 * κ + i) = 0) → (∀ j, j < 60 * κ ∨ 60 * κ + 60 ≤ j → Zc 78 j = Z 78 j) → zE 168 67 [some (zR 63), some (zI (κ : Nat)), some (zI s), some (zI n), some (zI x)] [] Zc Q := by
                refine zind ?_
                intro μ ih k x Zc hm hk hx f1 f2 f3 f4
                subst hx
                refine ze_iload kc_168_67 rfl ?_
                refine ze_bipush kc_168_69 ?_
                refine ze_icmp_ge kc_168_71 (by omega) (by omega) (fun h71 => ?_) (fun h71 => ?_)
                · skip
                  refine ze_iconst kc_168_93 ?_
                  refine ze_ireturn kc_168_94 (Or.inl rfl) ?_
                  obtain ⟨g1, g2, g3, g4⟩ := f2
                  by_cases hs : s = -1
                  · subst hs
                    rw [show sTape P κ (-1) n = zTpA P κ (-1) 0 from if_pos (by omega), show oTape κ (-1) n = 1 from (if_neg (by omega)).trans (if_pos (by omega))] at q1
                    exact q1 _ (zTpM_A hP hκ (by omega) g1 g2 g3 g4 (fun i hi => f3 i (by omega)) f4) (fun i a b d _ => f1 i a b d)
                  · rw [if_neg (by omega)] at g4
                    rw [show sTape P κ s n = zTpA P κ s n from (if_neg (by omega)).trans (if_pos (by omega)), show oTape κ s n = 1 from (if_neg (by omega)).trans ((if_neg (by omega)).trans ((if_neg (by omega)).trans (if_neg (by omega))))] at q1
                    exact q1 _ (zTpM_A hP hκ (by omega) g1 g2 g3 g4 (fun i hi => f3 i (by omega)) f4) (fun i a b d _ => f1 i a b d)
                · skip
                  refine ze_aload_n kc_168_74 rfl ?_
                  refine ze_getR kc_168_75 rfl rfl rfl ?_
                  refine ze_bipush kc_168_78 ?_
                  refine ze_iload_n kc_168_80 rfl ?_
                  refine ze_imul kc_168_81 ?_
                  refine ze_iload kc_168_82 rfl ?_
                  refine ze_iadd kc_168_84 ?_
                  rw [show 60 * (κ : Int) + (k : Int) = ((60 * κ + k : Nat) : Int) by omega]
                  refine ze_lconst0 kc_168_85 ?_
                  refine ze_last kc_168_86 rfl (by omega) ?_
                  rw [Int.toNat_natCast]
                  refine ze_iinc kc_168_87 rfl ?_
                  simp only [zset1, zset2, zcut, zf0, zf1, zf2, zf3, List.set_cons_zero, List.set_cons_succ, List.getD_cons_zero, List.getD_cons_succ]
                  refine ze_goto kc_168_90 ?_
                  refine ih _ (by omega) (k + 1) _ _ rfl (by omega) (by omega) (fun i a b d => by rw [zup_ne' d]; exact f1 i a b d) (by rw [zup_ne' (by decide), zup_ne' (by decide)]; exact f2) (fun i hi => if q : i = k then (by rw [q, zup_s]) else (by rw [zup_o (by omega)]; exact f3 i (by omega))) (fun j a => by rw [zup_o (by omega)]; exact f4 j a)
              refine loop67 _ 0 0 _ rfl (by omega) rfl (fun i a b d => by rw [zup_ne' b, zup_ne' a]) ⟨fun j a => by rw [zup_ne' (by decide), zup_o a], by rw [zup_ne' (by decide), zup_s], fun j a => by rw [zup_o a, zup_ne' (by decide)], by rw [zup_s]; first | exact (if_pos (by omega)).symm | exact (if_neg (by omega)).symm⟩ (fun i hi => absurd hi (by omega)) (fun j a => by rw [zup_ne' (by decide), zup_ne' (by decide)])
            · skip
              refine ze_iconst kc_168_58 ?_
              refine ze_goto kc_168_59 ?_
              refine ze_iast kc_168_63 rfl (by omega) ?_
              rw [Int.toNat_natCast]
              refine ze_iconst kc_168_64 ?_
              refine ze_istore kc_168_65 (Nat.le_of_ble_eq_true rfl) ?_
              simp only [zset1, zset2, zcut, zf0, zf1, zf2, zf3, List.set_cons_zero, List.set_cons_succ, List.getD_cons_zero, List.getD_cons_succ]
              have loop67 : ∀ (μ : Nat) (k : Nat) (x : Int) (Zc : zMem), 60 - k = μ → (k ≤ 60) → (x = k) → (∀ i, i ≠ 76 → i ≠ 77 → i ≠ 78 → Zc i = Z i) → ((∀ j, j ≠ κ → Zc 76 j = Z 76 j) ∧ Zc 76 κ = s ∧ (∀ j, j ≠ κ → Zc 77 j = Z 77 j) ∧ Zc 77 κ = (if s < 0 then 0 else n)) → (∀ i, i < k → Zc 78 (60 * κ + i) = 0) → (∀ j, j < 60 * κ ∨ 60 * κ + 60 ≤ j → Zc 78 j = Z 78 j) → zE 168 67 [some (zR 63), some (zI (κ : Nat)), some (zI s), some (zI n), some (zI x)] [] Zc Q := by
                refine zind ?_
                intro μ ih k x Zc hm hk hx f1 f2 f3 f4
                subst hx
                refine ze_iload kc_168_67 rfl ?_
                refine ze_bipush kc_168_69 ?_
                refine ze_icmp_ge kc_168_71 (by omega) (by omega) (fun h71 => ?_) (fun h71 => ?_)
                · skip
                  refine ze_iconst kc_168_93 ?_
                  refine ze_ireturn kc_168_94 (Or.inl rfl) ?_
                  obtain ⟨g1, g2, g3, g4⟩ := f2
                  by_cases hs : s = -1
                  · subst hs
                    rw [show sTape P κ (-1) n = zTpA P κ (-1) 0 from if_pos (by omega), show oTape κ (-1) n = 1 from (if_neg (by omega)).trans (if_pos (by omega))] at q1
                    exact q1 _ (zTpM_A hP hκ (by omega) g1 g2 g3 g4 (fun i hi => f3 i (by omega)) f4) (fun i a b d _ => f1 i a b d)
                  · rw [if_neg (by omega)] at g4
                    rw [show sTape P κ s n = zTpA P κ s n from (if_neg (by omega)).trans (if_pos (by omega)), show oTape κ s n = 1 from (if_neg (by omega)).trans ((if_neg (by omega)).trans ((if_neg (by omega)).trans (if_neg (by omega))))] at q1
                    exact q1 _ (zTpM_A hP hκ (by omega) g1 g2 g3 g4 (fun i hi => f3 i (by omega)) f4) (fun i a b d _ => f1 i a b d)
                · skip
                  refine ze_aload_n kc_168_74 rfl ?_
                  refine ze_getR kc_168_75 rfl rfl rfl ?_
                  refine ze_bipush kc_168_78 ?_
                  refine ze_iload_n kc_168_80 rfl ?_
                  refine ze_imul kc_168_81 ?_
                  refine ze_iload kc_168_82 rfl ?_
                  refine ze_iadd kc_168_84 ?_
                  rw [show 60 * (κ : Int) + (k : Int) = ((60 * κ + k : Nat) : Int) by omega]
                  refine ze_lconst0 kc_168_85 ?_
                  refine ze_last kc_168_86 rfl (by omega) ?_
                  rw [Int.toNat_natCast]
                  refine ze_iinc kc_168_87 rfl ?_
                  simp only [zset1, zset2, zcut, zf0, zf1, zf2, zf3, List.set_cons_zero, List.set_cons_succ, List.getD_cons_zero, List.getD_cons_succ]
                  refine ze_goto kc_168_90 ?_
                  refine ih _ (by omega) (k + 1) _ _ rfl (by omega) (by omega) (fun i a b d => by rw [zup_ne' d]; exact f1 i a b d) (by rw [zup_ne' (by decide), zup_ne' (by decide)]; exact f2) (fun i hi => if q : i = k then (by rw [q, zup_s]) else (by rw [zup_o (by omega)]; exact f3 i (by omega))) (fun j a => by rw [zup_o (by omega)]; exact f4 j a)
              refine loop67 _ 0 0 _ rfl (by omega) rfl (fun i a b d => by rw [zup_ne' b, zup_ne' a]) ⟨fun j a => by rw [zup_ne' (by decide), zup_o a], by rw [zup_ne' (by decide), zup_s], fun j a => by rw [zup_o a, zup_ne' (by decide)], by rw [zup_s]; first | exact (if_pos (by omega)).symm | exact (if_neg (by omega)).symm⟩ (fun i hi => absurd hi (by omega)) (fun j a => by rw [zup_ne' (by decide), zup_ne' (by decide)])
          · skip
            refine ze_iload_n kc_168_35 rfl ?_
            refine ze_if_ge kc_168_36 (by omega) (fun h36 => ?_) (fun h36 => ?_)
            · skip
              refine ze_aload_n kc_168_42 rfl ?_
              refine ze_getR kc_168_43 rfl rfl rfl ?_
              refine ze_iload_n kc_168_46 rfl ?_
              refine ze_iload_n kc_168_47 rfl ?_
              refine ze_iast kc_168_48 rfl (by omega) ?_
              rw [Int.toNat_natCast]
              refine ze_aload_n kc_168_49 rfl ?_
              refine ze_getR kc_168_50 rfl rfl rfl ?_
              refine ze_iload_n kc_168_53 rfl ?_
              refine ze_iload_n kc_168_54 rfl ?_
              refine ze_if_ge kc_168_55 (by omega) (fun h55 => ?_) (fun h55 => ?_)
              · skip
                refine ze_iload_n kc_168_62 rfl ?_
                refine ze_iast kc_168_63 rfl (by omega) ?_
                rw [Int.toNat_natCast]
                refine ze_iconst kc_168_64 ?_
                refine ze_istore kc_168_65 (Nat.le_of_ble_eq_true rfl) ?_
                simp only [zset1, zset2, zcut, zf0, zf1, zf2, zf3, List.set_cons_zero, List.set_cons_succ, List.getD_cons_zero, List.getD_cons_succ]
                have loop67 : ∀ (μ : Nat) (k : Nat) (x : Int) (Zc : zMem), 60 - k = μ → (k ≤ 60) → (x = k) → (∀ i, i ≠ 76 → i ≠ 77 → i ≠ 78 → Zc i = Z i) → ((∀ j, j ≠ κ → Zc 76 j = Z 76 j) ∧ Zc 76 κ = s ∧ (∀ j, j ≠ κ → Zc 77 j = Z 77 j) ∧ Zc 77 κ = (if s < 0 then 0 else n)) → (∀ i, i < k → Zc 78 (60 * κ + i) = 0) → (∀ j, j < 60 * κ ∨ 60 * κ + 60 ≤ j → Zc 78 j = Z 78 j) → zE 168 67 [some (zR 63), some (zI (κ : Nat)), some (zI s), some (zI n), some (zI x)] [] Zc Q := by
                  refine zind ?_
                  intro μ ih k x Zc hm hk hx f1 f2 f3 f4
                  subst hx
                  refine ze_iload kc_168_67 rfl ?_
                  refine ze_bipush kc_168_69 ?_
                  refine ze_icmp_ge kc_168_71 (by omega) (by omega) (fun h71 => ?_) (fun h71 => ?_)
                  · skip
                    refine ze_iconst kc_168_93 ?_
                    refine ze_ireturn kc_168_94 (Or.inl rfl) ?_
                    obtain ⟨g1, g2, g3, g4⟩ := f2
                    by_cases hs : s = -1
                    · subst hs
                      rw [show sTape P κ (-1) n = zTpA P κ (-1) 0 from if_pos (by omega), show oTape κ (-1) n = 1 from (if_neg (by omega)).trans (if_pos (by omega))] at q1
                      exact q1 _ (zTpM_A hP hκ (by omega) g1 g2 g3 g4 (fun i hi => f3 i (by omega)) f4) (fun i a b d _ => f1 i a b d)
                    · rw [if_neg (by omega)] at g4
                      rw [show sTape P κ s n = zTpA P κ s n from (if_neg (by omega)).trans (if_pos (by omega)), show oTape κ s n = 1 from (if_neg (by omega)).trans ((if_neg (by omega)).trans ((if_neg (by omega)).trans (if_neg (by omega))))] at q1
                      exact q1 _ (zTpM_A hP hκ (by omega) g1 g2 g3 g4 (fun i hi => f3 i (by omega)) f4) (fun i a b d _ => f1 i a b d)
                  · skip
                    refine ze_aload_n kc_168_74 rfl ?_
                    refine ze_getR kc_168_75 rfl rfl rfl ?_
                    refine ze_bipush kc_168_78 ?_
                    refine ze_iload_n kc_168_80 rfl ?_
                    refine ze_imul kc_168_81 ?_
                    refine ze_iload kc_168_82 rfl ?_
                    refine ze_iadd kc_168_84 ?_
                    rw [show 60 * (κ : Int) + (k : Int) = ((60 * κ + k : Nat) : Int) by omega]
                    refine ze_lconst0 kc_168_85 ?_
                    refine ze_last kc_168_86 rfl (by omega) ?_
                    rw [Int.toNat_natCast]
                    refine ze_iinc kc_168_87 rfl ?_
                    simp only [zset1, zset2, zcut, zf0, zf1, zf2, zf3, List.set_cons_zero, List.set_cons_succ, List.getD_cons_zero, List.getD_cons_succ]
                    refine ze_goto kc_168_90 ?_
                    refine ih _ (by omega) (k + 1) _ _ rfl (by omega) (by omega) (fun i a b d => by rw [zup_ne' d]; exact f1 i a b d) (by rw [zup_ne' (by decide), zup_ne' (by decide)]; exact f2) (fun i hi => if q : i = k then (by rw [q, zup_s]) else (by rw [zup_o (by omega)]; exact f3 i (by omega))) (fun j a => by rw [zup_o (by omega)]; exact f4 j a)
                refine loop67 _ 0 0 _ rfl (by omega) rfl (fun i a b d => by rw [zup_ne' b, zup_ne' a]) ⟨fun j a => by rw [zup_ne' (by decide), zup_o a], by rw [zup_ne' (by decide), zup_s], fun j a => by rw [zup_o a, zup_ne' (by decide)], by rw [zup_s]; first | exact (if_pos (by omega)).symm | exact (if_neg (by omega)).symm⟩ (fun i hi => absurd hi (by omega)) (fun j a => by rw [zup_ne' (by decide), zup_ne' (by decide)])
              · skip
                refine ze_iconst kc_168_58 ?_
                refine ze_goto kc_168_59 ?_
                refine ze_iast kc_168_63 rfl (by omega) ?_
                rw [Int.toNat_natCast]
                refine ze_iconst kc_168_64 ?_
                refine ze_istore kc_168_65 (Nat.le_of_ble_eq_true rfl) ?_
                simp only [zset1, zset2, zcut, zf0, zf1, zf2, zf3, List.set_cons_zero, List.set_cons_succ, List.getD_cons_zero, List.getD_cons_succ]
                have loop67 : ∀ (μ : Nat) (k : Nat) (x : Int) (Zc : zMem), 60 - k = μ → (k ≤ 60) → (x = k) → (∀ i, i ≠ 76 → i ≠ 77 → i ≠ 78 → Zc i = Z i) → ((∀ j, j ≠ κ → Zc 76 j = Z 76 j) ∧ Zc 76 κ = s ∧ (∀ j, j ≠ κ → Zc 77 j = Z 77 j) ∧ Zc 77 κ = (if s < 0 then 0 else n)) → (∀ i, i < k → Zc 78 (60 * κ + i) = 0) → (∀ j, j < 60 * κ ∨ 60 * κ + 60 ≤ j → Zc 78 j = Z 78 j) → zE 168 67 [some (zR 63), some (zI (κ : Nat)), some (zI s), some (zI n), some (zI x)] [] Zc Q := by
                  refine zind ?_
                  intro μ ih k x Zc hm hk hx f1 f2 f3 f4
                  subst hx
                  refine ze_iload kc_168_67 rfl ?_
                  refine ze_bipush kc_168_69 ?_
                  refine ze_icmp_ge kc_168_71 (by omega) (by omega) (fun h71 => ?_) (fun h71 => ?_)
                  · skip
                    refine ze_iconst kc_168_93 ?_
                    refine ze_ireturn kc_168_94 (Or.inl rfl) ?_
                    obtain ⟨g1, g2, g3, g4⟩ := f2
                    by_cases hs : s = -1
                    · subst hs
                      rw [show sTape P κ (-1) n = zTpA P κ (-1) 0 from if_pos (by omega), show oTape κ (-1) n = 1 from (if_neg (by omega)).trans (if_pos (by omega))] at q1
                      exact q1 _ (zTpM_A hP hκ (by omega) g1 g2 g3 g4 (fun i hi => f3 i (by omega)) f4) (fun i a b d _ => f1 i a b d)
                    · rw [if_neg (by omega)] at g4
                      rw [show sTape P κ s n = zTpA P κ s n from (if_neg (by omega)).trans (if_pos (by omega)), show oTape κ s n = 1 from (if_neg (by omega)).trans ((if_neg (by omega)).trans ((if_neg (by omega)).trans (if_neg (by omega))))] at q1
                      exact q1 _ (zTpM_A hP hκ (by omega) g1 g2 g3 g4 (fun i hi => f3 i (by omega)) f4) (fun i a b d _ => f1 i a b d)
                  · skip
                    refine ze_aload_n kc_168_74 rfl ?_
                    refine ze_getR kc_168_75 rfl rfl rfl ?_
                    refine ze_bipush kc_168_78 ?_
                    refine ze_iload_n kc_168_80 rfl ?_
                    refine ze_imul kc_168_81 ?_
                    refine ze_iload kc_168_82 rfl ?_
                    refine ze_iadd kc_168_84 ?_
                    rw [show 60 * (κ : Int) + (k : Int) = ((60 * κ + k : Nat) : Int) by omega]
                    refine ze_lconst0 kc_168_85 ?_
                    refine ze_last kc_168_86 rfl (by omega) ?_
                    rw [Int.toNat_natCast]
                    refine ze_iinc kc_168_87 rfl ?_
                    simp only [zset1, zset2, zcut, zf0, zf1, zf2, zf3, List.set_cons_zero, List.set_cons_succ, List.getD_cons_zero, List.getD_cons_succ]
                    refine ze_goto kc_168_90 ?_
                    refine ih _ (by omega) (k + 1) _ _ rfl (by omega) (by omega) (fun i a b d => by rw [zup_ne' d]; exact f1 i a b d) (by rw [zup_ne' (by decide), zup_ne' (by decide)]; exact f2) (fun i hi => if q : i = k then (by rw [q, zup_s]) else (by rw [zup_o (by omega)]; exact f3 i (by omega))) (fun j a => by rw [zup_o (by omega)]; exact f4 j a)
                refine loop67 _ 0 0 _ rfl (by omega) rfl (fun i a b d => by rw [zup_ne' b, zup_ne' a]) ⟨fun j a => by rw [zup_ne' (by decide), zup_o a], by rw [zup_ne' (by decide), zup_s], fun j a => by rw [zup_o a, zup_ne' (by decide)], by rw [zup_s]; first | exact (if_pos (by omega)).symm | exact (if_neg (by omega)).symm⟩ (fun i hi => absurd hi (by omega)) (fun j a => by rw [zup_ne' (by decide), zup_ne' (by decide)])
            · skip
              refine ze_bipush kc_168_39 ?_
              refine ze_ireturn kc_168_41 (Or.inl rfl) ?_
              rw [show sTape P κ s n = P from (if_neg (by omega)).trans (if_neg (by omega)), show oTape κ s n = -14 from (if_neg (by omega)).trans ((if_neg (by omega)).trans ((if_neg (by omega)).trans (if_pos (by omega))))] at q1
              exact q1 _ hP (fun _ _ _ _ _ => rfl)
        · skip
          refine ze_bipush kc_168_28 ?_
          refine ze_ireturn kc_168_30 (Or.inl rfl) ?_
          rw [show sTape P κ s n = P from (if_neg (by omega)).trans (if_neg (by omega)), show oTape κ s n = -2 from (if_neg (by omega)).trans ((if_neg (by omega)).trans (if_pos (by omega)))] at q1
          exact q1 _ hP (fun _ _ _ _ _ => rfl)
    · simp only [Option.toList_some, Option.toList_none, List.drop_succ_cons, List.drop_zero, List.cons_append, List.nil_append]
      refine ze_if_eq kc_168_15 (by decide) (fun _ => ?_) (fun q => absurd q (by decide))
      refine ze_bipush kc_168_28 ?_
      refine ze_ireturn kc_168_30 (Or.inl rfl) ?_
      rw [show sTape P κ s n = P from (if_neg (by omega)).trans (if_neg (by omega)), show oTape κ s n = -2 from (if_neg (by omega)).trans ((if_neg (by omega)).trans (if_pos (by omega)))] at q1
      exact q1 _ hP (fun _ _ _ _ _ => rfl)
  · simp only [Option.toList_some, Option.toList_none, List.drop_succ_cons, List.drop_zero, List.cons_append, List.nil_append]
    refine ze_if_ne kc_168_4 (by decide) (fun q => absurd q (by decide)) (fun _ => ?_)
    refine ze_iconst kc_168_7 ?_
    refine ze_ireturn kc_168_8 (Or.inl rfl) ?_
    rw [show sTape P t s n = P from (if_neg (by omega)).trans (if_neg (by omega)), show oTape t s n = -1 from if_pos (by omega)] at q1
    exact q1 _ hP (fun _ _ _ _ _ => rfl)

set_option maxHeartbeats 4000000 in
theorem m_itemX {Z : zMem} {Q : Option zAV → zMem → Prop} {P : zTps} (hP : zTpX P Z) {t i : Int} (ht : -2147483648 ≤ t ∧ t ≤ 2147483647) (hi : -2147483648 ≤ i ∧ i ≤ 2147483647) {v : Int} (hv : -9223372036854775808 ≤ v ∧ v ≤ 9223372036854775807) (q1 : ∀ (Z' : zMem), zTpX (sItem P t i v) Z' → (∀ k, k < 51 ∨ 62 < k → Z' k = Z k) → Q (some (zI (oItem P t i))) Z') : zE 81 0 (zent 81 [zR 0, zI t, zI i, zL v]) [] Z Q := by
  show zE 81 0 [some (zR 0), some (zI t), some (zI i), some (zL v), none, none] [] Z Q
  refine ze_iload_n kc_81_0 rfl ?_
  refine zE_calls 1 kc_81_1 rfl rfl (Nat.le_of_ble_eq_true rfl) (Nat.le_of_ble_eq_true rfl) (Nat.le_of_ble_eq_true rfl) rfl ?_
  refine m_isTape (by omega) (fun g1 => ?_) (fun g1 => ?_)
  · simp only [Option.toList_some, Option.toList_none, List.drop_succ_cons, List.drop_zero, List.cons_append, List.nil_append]
    refine ze_if_ne kc_81_4 (by decide) (fun _ => ?_) (fun q => absurd q (by decide))
    obtain ⟨κ, rfl⟩ := Int.eq_ofNat_of_zero_le (show 0 ≤ t by omega)
    have hκ : κ < 6 := by omega
    have hTκ := ztp_T κ hκ
    have hIκ := ztp_0 κ hκ
    have hWκ := ztp_W κ hκ
    obtain ⟨x1κ, x2κ, x3κ⟩ := hP.1 κ hκ
    obtain ⟨y1κ, y2κ, y3κ, y4κ⟩ := hP.2 κ hκ
    refine ze_aload_n kc_81_9 rfl ?_
    refine ze_getR kc_81_10 (by first | assumption | rfl) rfl (by first | assumption | rfl) ?_
    refine ze_iload_n kc_81_13 rfl ?_
    refine ze_aald kc_81_14 rfl (by omega) (ztp_r κ hκ) ?_
    refine ze_astore kc_81_15 (Nat.le_of_ble_eq_true rfl) ?_
    simp only [zset1, zset2, zcut, zf0, zf1, zf2, zf3, List.set_cons_zero, List.set_cons_succ, List.getD_cons_zero, List.getD_cons_succ]
    refine ze_aload kc_81_17 rfl ?_
    refine ze_getI kc_81_19 (by first | assumption | rfl) (by decide) ?_
    rw [x1κ]
    refine ze_iconst kc_81_22 ?_
    refine ze_icmp_ne kc_81_23 (by omega) (by omega) (fun h23 => ?_) (fun h23 => ?_)
    · skip
      refine ze_aload kc_81_29 rfl ?_
      refine ze_iload_n kc_81_31 rfl ?_
      refine zE_callv 2 kc_81_32 rfl rfl (Nat.le_of_ble_eq_true rfl) (Nat.le_of_ble_eq_true rfl) (Nat.le_of_ble_eq_true rfl) (by first | assumption | rfl) (by decide +kernel) rfl ?_
      refine m_hasT hTκ (by omega) x2κ y2κ (fun g32 => ?_) (fun g32 => ?_)
      · simp only [Option.toList_some, Option.toList_none, List.drop_succ_cons, List.drop_zero, List.cons_append, List.nil_append]
        refine ze_if_ne kc_81_35 (by decide) (fun _ => ?_) (fun q => absurd q (by decide))
        obtain ⟨ν, rfl⟩ := Int.eq_ofNat_of_zero_le (show 0 ≤ i by omega)
        refine ze_aload kc_81_41 rfl ?_
        refine ze_getR kc_81_43 (by first | assumption | rfl) rfl (by first | assumption | rfl) ?_
        refine ze_iload_n kc_81_46 rfl ?_
        refine ze_aload kc_81_47 rfl ?_
        refine ze_lload_n kc_81_49 rfl ?_
        refine zE_callv 2 kc_81_50 rfl rfl (Nat.le_of_ble_eq_true rfl) (Nat.le_of_ble_eq_true rfl) (Nat.le_of_ble_eq_true rfl) (by first | assumption | rfl) (by decide +kernel) rfl ?_
        refine m_fitted hTκ (by omega) x1κ y1κ ?_
        simp only [Option.toList_some, Option.toList_none, List.drop_succ_cons, List.drop_zero, List.cons_append, List.nil_append]
        refine ze_last kc_81_53 (by first | assumption | rfl) (by omega) ?_
        rw [Int.toNat_natCast]
        refine ze_iconst kc_81_54 ?_
        refine ze_ireturn kc_81_55 (Or.inl rfl) ?_
        have z : ¬ P.1 κ = -1 := by omega
        have z2 : 0 ≤ (ν : Int) ∧ (ν : Int) < (P.2.1 κ : Nat) := by omega
        rw [show sItem P κ ν v = zItA P κ ν v from if_pos ⟨by omega, z, z2⟩, show oItem P κ ν = 1 from (if_neg (by omega)).trans ((if_neg z).trans (if_neg (fun q => q z2)))] at q1
        exact q1 _ (zTpX_I hP hκ (by omega)) (fun k a => zup_ne' (by omega))
      · simp only [Option.toList_some, Option.toList_none, List.drop_succ_cons, List.drop_zero, List.cons_append, List.nil_append]
        refine ze_if_ne kc_81_35 (by decide) (fun q => absurd q (by decide)) (fun _ => ?_)
        refine ze_bipush kc_81_38 ?_
        refine ze_ireturn kc_81_40 (Or.inl rfl) ?_
        have z : ¬ P.1 κ = -1 := by omega
        have z2 : ¬ (0 ≤ i ∧ i < (P.2.1 κ : Nat)) := by omega
        rw [show sItem P κ i v = P from if_neg (fun q => z2 q.2.2), show oItem P κ i = -13 from (if_neg (by omega)).trans ((if_neg z).trans (if_pos z2))] at q1
        exact q1 _ hP (fun _ _ => rfl)
    · skip
      refine ze_bipush kc_81_26 ?_
      refine ze_ireturn kc_81_28 (Or.inl rfl) ?_
      have z : P.1 κ = -1 := by omega
      rw [show sItem P κ i v = P from if_neg (fun q => q.2.1 z), show oItem P κ i = -11 from (if_neg (by omega)).trans (if_pos z)] at q1
      exact q1 _ hP (fun _ _ => rfl)
  · simp only [Option.toList_some, Option.toList_none, List.drop_succ_cons, List.drop_zero, List.cons_append, List.nil_append]
    refine ze_if_ne kc_81_4 (by decide) (fun q => absurd q (by decide)) (fun _ => ?_)
    refine ze_iconst kc_81_7 ?_
    refine ze_ireturn kc_81_8 (Or.inl rfl) ?_
    rw [show sItem P t i v = P from if_neg (fun q => by omega), show oItem P t i = -1 from if_pos (by omega)] at q1
    exact q1 _ hP (fun _ _ => rfl)

set_option maxHeartbeats 4000000 in
theorem m_itemM {Z : zMem} {Q : Option zAV → zMem → Prop} {P : zTps} (hP : zTpM P Z) {t i : Int} (ht : -2147483648 ≤ t ∧ t ≤ 2147483647) (hi : -2147483648 ≤ i ∧ i ≤ 2147483647) {v : Int} (hv : -9223372036854775808 ≤ v ∧ v ≤ 9223372036854775807) (q1 : ∀ (Z' : zMem), zTpM (sItem P t i v) Z' → (∀ k, k ≠ 76 → k ≠ 77 → k ≠ 78 → k ≠ 79 → Z' k = Z k) → Q (some (zI (oItem P t i))) Z') : zE 170 0 (zent 170 [zR 63, zI t, zI i, zL v]) [] Z Q := by
  show zE 170 0 [some (zR 63), some (zI t), some (zI i), some (zL v), none] [] Z Q
  refine ze_iload_n kc_170_0 rfl ?_
  refine zE_calls 1 kc_170_1 rfl rfl (Nat.le_of_ble_eq_true rfl) (Nat.le_of_ble_eq_true rfl) (Nat.le_of_ble_eq_true rfl) rfl ?_
  refine m_isTapeM (by omega) (fun g1 => ?_) (fun g1 => ?_)
  · simp only [Option.toList_some, Option.toList_none, List.drop_succ_cons, List.drop_zero, List.cons_append, List.nil_append]
    refine ze_if_ne kc_170_4 (by decide) (fun _ => ?_) (fun q => absurd q (by decide))
    obtain ⟨κ, rfl⟩ := Int.eq_ofNat_of_zero_le (show 0 ≤ t by omega)
    have hκ : κ < 6 := by omega
    have hTκ := ztp_T κ hκ
    have hIκ := ztp_0 κ hκ
    have hWκ := ztp_W κ hκ
    obtain ⟨x1κ, x2κ, x3κ⟩ := hP.1 κ hκ
    obtain ⟨y1κ, y2κ, y3κ, y4κ⟩ := hP.2 κ hκ
    refine ze_aload_n kc_170_9 rfl ?_
    refine ze_getR kc_170_10 rfl rfl rfl ?_
    refine ze_iload_n kc_170_13 rfl ?_
    refine ze_iald kc_170_14 rfl (by omega) ?_
    rw [Int.toNat_natCast, x1κ]
    refine ze_if_ge kc_170_15 (by omega) (fun h15 => ?_) (fun h15 => ?_)
    · skip
      refine ze_iload_n kc_170_21 rfl ?_
      refine ze_iconst kc_170_22 ?_
      refine ze_aload_n kc_170_23 rfl ?_
      refine ze_getR kc_170_24 rfl rfl rfl ?_
      refine ze_iload_n kc_170_27 rfl ?_
      refine ze_iald kc_170_28 rfl (by omega) ?_
      rw [Int.toNat_natCast, x2κ]
      refine ze_iconst kc_170_29 ?_
      refine ze_isub kc_170_30 ?_
      refine zE_calls 3 kc_170_31 rfl rfl (Nat.le_of_ble_eq_true rfl) (Nat.le_of_ble_eq_true rfl) (Nat.le_of_ble_eq_true rfl) rfl ?_
      refine m_in (by omega) (by omega) (by omega) (fun g31 => ?_) (fun g31 => ?_)
      · simp only [Option.toList_some, Option.toList_none, List.drop_succ_cons, List.drop_zero, List.cons_append, List.nil_append]
        refine ze_if_ne kc_170_34 (by decide) (fun _ => ?_) (fun q => absurd q (by decide))
        obtain ⟨ν, rfl⟩ := Int.eq_ofNat_of_zero_le (show 0 ≤ i by omega)
        refine ze_aload_n kc_170_40 rfl ?_
        refine ze_getR kc_170_41 rfl rfl rfl ?_
        refine ze_bipush kc_170_44 ?_
        refine ze_iload_n kc_170_46 rfl ?_
        refine ze_imul kc_170_47 ?_
        refine ze_iload_n kc_170_48 rfl ?_
        refine ze_iadd kc_170_49 ?_
        rw [show 60 * (κ : Int) + (ν : Int) = ((60 * κ + ν : Nat) : Int) by omega]
        refine ze_aload_n kc_170_50 rfl ?_
        refine ze_getR kc_170_51 rfl rfl rfl ?_
        refine ze_iload_n kc_170_54 rfl ?_
        refine ze_iald kc_170_55 rfl (by omega) ?_
        rw [Int.toNat_natCast, x1κ]
        refine ze_lload_n kc_170_56 rfl ?_
        refine zE_calls 2 kc_170_57 rfl rfl (Nat.le_of_ble_eq_true rfl) (Nat.le_of_ble_eq_true rfl) (Nat.le_of_ble_eq_true rfl) rfl ?_
        refine m_narrowed (by omega) y1κ ?_
        simp only [Option.toList_some, Option.toList_none, List.drop_succ_cons, List.drop_zero, List.cons_append, List.nil_append]
        refine ze_last kc_170_60 rfl (by omega) ?_
        rw [Int.toNat_natCast]
        refine ze_iconst kc_170_61 ?_
        refine ze_ireturn kc_170_62 (Or.inl rfl) ?_
        have z : ¬ P.1 κ = -1 := by omega
        have z2 : 0 ≤ (ν : Int) ∧ (ν : Int) < (P.2.1 κ : Nat) := by omega
        rw [show sItem P κ ν v = zItA P κ ν v from if_pos ⟨by omega, z, z2⟩, show oItem P κ ν = 1 from (if_neg (by omega)).trans ((if_neg z).trans (if_neg (fun q => q z2)))] at q1
        exact q1 _ (zTpM_I hP hκ (by omega) (by omega)) (fun k a b d e => zup_ne' d)
      · simp only [Option.toList_some, Option.toList_none, List.drop_succ_cons, List.drop_zero, List.cons_append, List.nil_append]
        refine ze_if_ne kc_170_34 (by decide) (fun q => absurd q (by decide)) (fun _ => ?_)
        refine ze_bipush kc_170_37 ?_
        refine ze_ireturn kc_170_39 (Or.inl rfl) ?_
        have z : ¬ P.1 κ = -1 := by omega
        have z2 : ¬ (0 ≤ i ∧ i < (P.2.1 κ : Nat)) := by omega
        rw [show sItem P κ i v = P from if_neg (fun q => z2 q.2.2), show oItem P κ i = -13 from (if_neg (by omega)).trans ((if_neg z).trans (if_pos z2))] at q1
        exact q1 _ hP (fun _ _ _ _ _ => rfl)
    · skip
      refine ze_bipush kc_170_18 ?_
      refine ze_ireturn kc_170_20 (Or.inl rfl) ?_
      have z : P.1 κ = -1 := by omega
      rw [show sItem P κ i v = P from if_neg (fun q => q.2.1 z), show oItem P κ i = -11 from (if_neg (by omega)).trans (if_pos z)] at q1
      exact q1 _ hP (fun _ _ _ _ _ => rfl)
  · simp only [Option.toList_some, Option.toList_none, List.drop_succ_cons, List.drop_zero, List.cons_append, List.nil_append]
    refine ze_if_ne kc_170_4 (by decide) (fun q => absurd q (by decide)) (fun _ => ?_)
    refine ze_iconst kc_170_7 ?_
    refine ze_ireturn kc_170_8 (Or.inl rfl) ?_
    rw [show sItem P t i v = P from if_neg (fun q => by omega), show oItem P t i = -1 from if_pos (by omega)] at q1
    exact q1 _ hP (fun _ _ _ _ _ => rfl)

set_option maxHeartbeats 4000000 in
theorem m_peekX {Z : zMem} {Q : Option zAV → zMem → Prop} {P : zTps} (hP : zTpX P Z) {t i : Int} (ht : -2147483648 ≤ t ∧ t ≤ 2147483647) (hi : -2147483648 ≤ i ∧ i ≤ 2147483647) (q1 : Q (some (zL (oPeek P t i))) Z) : zE 82 0 (zent 82 [zR 0, zI t, zI i]) [] Z Q := by
  show zE 82 0 [some (zR 0), some (zI t), some (zI i)] [] Z Q
  refine ze_iload_n kc_82_0 rfl ?_
  refine zE_calls 1 kc_82_1 rfl rfl (Nat.le_of_ble_eq_true rfl) (Nat.le_of_ble_eq_true rfl) (Nat.le_of_ble_eq_true rfl) rfl ?_
  refine m_isTape (by omega) (fun g1 => ?_) (fun g1 => ?_)
  · simp only [Option.toList_some, Option.toList_none, List.drop_succ_cons, List.drop_zero, List.cons_append, List.nil_append]
    refine ze_if_eq kc_82_4 (by decide) (fun q => absurd q (by decide)) (fun _ => ?_)
    obtain ⟨κ, rfl⟩ := Int.eq_ofNat_of_zero_le (show 0 ≤ t by omega)
    have hκ : κ < 6 := by omega
    have hTκ := ztp_T κ hκ
    have hIκ := ztp_0 κ hκ
    have hWκ := ztp_W κ hκ
    obtain ⟨x1κ, x2κ, x3κ⟩ := hP.1 κ hκ
    obtain ⟨y1κ, y2κ, y3κ, y4κ⟩ := hP.2 κ hκ
    refine ze_aload_n kc_82_7 rfl ?_
    refine ze_getR kc_82_8 (by first | assumption | rfl) rfl (by first | assumption | rfl) ?_
    refine ze_iload_n kc_82_11 rfl ?_
    refine ze_aald kc_82_12 rfl (by omega) (ztp_r κ hκ) ?_
    refine ze_iload_n kc_82_13 rfl ?_
    refine zE_callv 2 kc_82_14 rfl rfl (Nat.le_of_ble_eq_true rfl) (Nat.le_of_ble_eq_true rfl) (Nat.le_of_ble_eq_true rfl) (by first | assumption | rfl) (by decide +kernel) rfl ?_
    refine m_hasT hTκ (by omega) x2κ y2κ (fun g14 => ?_) (fun g14 => ?_)
    · simp only [Option.toList_some, Option.toList_none, List.drop_succ_cons, List.drop_zero, List.cons_append, List.nil_append]
      refine ze_if_eq kc_82_17 (by decide) (fun q => absurd q (by decide)) (fun _ => ?_)
      obtain ⟨ν, rfl⟩ := Int.eq_ofNat_of_zero_le (show 0 ≤ i by omega)
      refine ze_aload_n kc_82_20 rfl ?_
      refine ze_getR kc_82_21 (by first | assumption | rfl) rfl (by first | assumption | rfl) ?_
      refine ze_iload_n kc_82_24 rfl ?_
      refine ze_aald kc_82_25 rfl (by omega) (ztp_r κ hκ) ?_
      refine ze_getR kc_82_26 (by first | assumption | rfl) rfl (by first | assumption | rfl) ?_
      refine ze_iload_n kc_82_29 rfl ?_
      refine ze_lald kc_82_30 (by first | assumption | rfl) (by omega) ?_
      rw [Int.toNat_natCast, x3κ ν (by omega)]
      refine ze_goto kc_82_31 ?_
      refine ze_lreturn kc_82_37 ?_
      first
        | (have z : 0 ≤ (ν : Int) ∧ (ν : Int) < (P.2.1 κ : Nat) := by omega
           rw [show oPeek P κ ν = P.2.2 κ ν from if_pos ⟨by omega, z⟩] at q1
           exact q1)
        | (rw [show oPeek P t i = -9223372036854775808 from if_neg (fun q => by omega)] at q1; exact q1)
        | (rw [show oPeek P κ i = -9223372036854775808 from if_neg (fun q => by have q2 : 0 ≤ i ∧ i < (P.2.1 κ : Nat) := q.2; omega)] at q1; exact q1)
    · simp only [Option.toList_some, Option.toList_none, List.drop_succ_cons, List.drop_zero, List.cons_append, List.nil_append]
      refine ze_if_eq kc_82_17 (by decide) (fun _ => ?_) (fun q => absurd q (by decide))
      refine ze_ldc2L kc_82_34 ?_
      refine ze_lreturn kc_82_37 ?_
      first
        | (have z : 0 ≤ (ν : Int) ∧ (ν : Int) < (P.2.1 κ : Nat) := by omega
           rw [show oPeek P κ ν = P.2.2 κ ν from if_pos ⟨by omega, z⟩] at q1
           exact q1)
        | (rw [show oPeek P t i = -9223372036854775808 from if_neg (fun q => by omega)] at q1; exact q1)
        | (rw [show oPeek P κ i = -9223372036854775808 from if_neg (fun q => by have q2 : 0 ≤ i ∧ i < (P.2.1 κ : Nat) := q.2; omega)] at q1; exact q1)
  · simp only [Option.toList_some, Option.toList_none, List.drop_succ_cons, List.drop_zero, List.cons_append, List.nil_append]
    refine ze_if_eq kc_82_4 (by decide) (fun _ => ?_) (fun q => absurd q (by decide))
    refine ze_ldc2L kc_82_34 ?_
    refine ze_lreturn kc_82_37 ?_
    first
      | (have z : 0 ≤ (ν : Int) ∧ (ν : Int) < (P.2.1 κ : Nat) := by omega
         rw [show oPeek P κ ν = P.2.2 κ ν from if_pos ⟨by omega, z⟩] at q1
         exact q1)
      | (rw [show oPeek P t i = -9223372036854775808 from if_neg (fun q => by omega)] at q1; exact q1)
      | (rw [show oPeek P κ i = -9223372036854775808 from if_neg (fun q => by have q2 : 0 ≤ i ∧ i < (P.2.1 κ : Nat) := q.2; omega)] at q1; exact q1)

set_option maxHeartbeats 4000000 in
theorem m_peekM {Z : zMem} {Q : Option zAV → zMem → Prop} {P : zTps} (hP : zTpM P Z) {t i : Int} (ht : -2147483648 ≤ t ∧ t ≤ 2147483647) (hi : -2147483648 ≤ i ∧ i ≤ 2147483647) (q1 : Q (some (zL (oPeek P t i))) Z) : zE 171 0 (zent 171 [zR 63, zI t, zI i]) [] Z Q := by
  show zE 171 0 [some (zR 63), some (zI t), some (zI i)] [] Z Q
  refine ze_iload_n kc_171_0 rfl ?_
  refine zE_calls 1 kc_171_1 rfl rfl (Nat.le_of_ble_eq_true rfl) (Nat.le_of_ble_eq_true rfl) (Nat.le_of_ble_eq_true rfl) rfl ?_
  refine m_isTapeM (by omega) (fun g1 => ?_) (fun g1 => ?_)
  · simp only [Option.toList_some, Option.toList_none, List.drop_succ_cons, List.drop_zero, List.cons_append, List.nil_append]
    refine ze_if_eq kc_171_4 (by decide) (fun q => absurd q (by decide)) (fun _ => ?_)
    obtain ⟨κ, rfl⟩ := Int.eq_ofNat_of_zero_le (show 0 ≤ t by omega)
    have hκ : κ < 6 := by omega
    have hTκ := ztp_T κ hκ
    have hIκ := ztp_0 κ hκ
    have hWκ := ztp_W κ hκ
    obtain ⟨x1κ, x2κ, x3κ⟩ := hP.1 κ hκ
    obtain ⟨y1κ, y2κ, y3κ, y4κ⟩ := hP.2 κ hκ
    refine ze_iload_n kc_171_7 rfl ?_
    refine ze_iconst kc_171_8 ?_
    refine ze_aload_n kc_171_9 rfl ?_
    refine ze_getR kc_171_10 rfl rfl rfl ?_
    refine ze_iload_n kc_171_13 rfl ?_
    refine ze_iald kc_171_14 rfl (by omega) ?_
    rw [Int.toNat_natCast, x2κ]
    refine ze_iconst kc_171_15 ?_
    refine ze_isub kc_171_16 ?_
    refine zE_calls 3 kc_171_17 rfl rfl (Nat.le_of_ble_eq_true rfl) (Nat.le_of_ble_eq_true rfl) (Nat.le_of_ble_eq_true rfl) rfl ?_
    refine m_in (by omega) (by omega) (by omega) (fun g17 => ?_) (fun g17 => ?_)
    · simp only [Option.toList_some, Option.toList_none, List.drop_succ_cons, List.drop_zero, List.cons_append, List.nil_append]
      refine ze_if_eq kc_171_20 (by decide) (fun q => absurd q (by decide)) (fun _ => ?_)
      obtain ⟨ν, rfl⟩ := Int.eq_ofNat_of_zero_le (show 0 ≤ i by omega)
      refine ze_aload_n kc_171_23 rfl ?_
      refine ze_getR kc_171_24 rfl rfl rfl ?_
      refine ze_bipush kc_171_27 ?_
      refine ze_iload_n kc_171_29 rfl ?_
      refine ze_imul kc_171_30 ?_
      refine ze_iload_n kc_171_31 rfl ?_
      refine ze_iadd kc_171_32 ?_
      rw [show 60 * (κ : Int) + (ν : Int) = ((60 * κ + ν : Nat) : Int) by omega]
      refine ze_lald kc_171_33 rfl (by omega) ?_
      rw [Int.toNat_natCast, x3κ ν (by omega)]
      refine ze_goto kc_171_34 ?_
      refine ze_lreturn kc_171_40 ?_
      first
        | (have z : 0 ≤ (ν : Int) ∧ (ν : Int) < (P.2.1 κ : Nat) := by omega
           rw [show oPeek P κ ν = P.2.2 κ ν from if_pos ⟨by omega, z⟩] at q1
           exact q1)
        | (rw [show oPeek P t i = -9223372036854775808 from if_neg (fun q => by omega)] at q1; exact q1)
        | (rw [show oPeek P κ i = -9223372036854775808 from if_neg (fun q => by have q2 : 0 ≤ i ∧ i < (P.2.1 κ : Nat) := q.2; omega)] at q1; exact q1)
    · simp only [Option.toList_some, Option.toList_none, List.drop_succ_cons, List.drop_zero, List.cons_append, List.nil_append]
      refine ze_if_eq kc_171_20 (by decide) (fun _ => ?_) (fun q => absurd q (by decide))
      refine ze_ldc2L kc_171_37 ?_
      refine ze_lreturn kc_171_40 ?_
      first
        | (have z : 0 ≤ (ν : Int) ∧ (ν : Int) < (P.2.1 κ : Nat) := by omega
           rw [show oPeek P κ ν = P.2.2 κ ν from if_pos ⟨by omega, z⟩] at q1
           exact q1)
        | (rw [show oPeek P t i = -9223372036854775808 from if_neg (fun q => by omega)] at q1; exact q1)
        | (rw [show oPeek P κ i = -9223372036854775808 from if_neg (fun q => by have q2 : 0 ≤ i ∧ i < (P.2.1 κ : Nat) := q.2; omega)] at q1; exact q1)
  · simp only [Option.toList_some, Option.toList_none, List.drop_succ_cons, List.drop_zero, List.cons_append, List.nil_append]
    refine ze_if_eq kc_171_4 (by decide) (fun _ => ?_) (fun q => absurd q (by decide))
    refine ze_ldc2L kc_171_37 ?_
    refine ze_lreturn kc_171_40 ?_
    first
      | (have z : 0 ≤ (ν : Int) ∧ (ν : Int) < (P.2.1 κ : Nat) := by omega
         rw [show oPeek P κ ν = P.2.2 κ ν from if_pos ⟨by omega, z⟩] at q1
         exact q1)
      | (rw [show oPeek P t i = -9223372036854775808 from if_neg (fun q => by omega)] at q1; exact q1)
      | (rw [show oPeek P κ i = -9223372036854775808 from if_neg (fun q => by have q2 : 0 ≤ i ∧ i < (P.2.1 κ : Nat) := q.2; omega)] at q1; exact q1)

set_option maxHeartbeats 4000000 in
theorem m_shiftX {Z : zMem} {Q : Option zAV → zMem → Prop} {P : zTps} (hP : zTpX P Z) {t i o j n : Int} (ht : -2147483648 ≤ t ∧ t ≤ 2147483647) (hi : -2147483648 ≤ i ∧ i ≤ 2147483647) (ho : -2147483648 ≤ o ∧ o ≤ 2147483647) (hj : -2147483648 ≤ j ∧ j ≤ 2147483647) (hn : -2147483648 ≤ n ∧ n ≤ 2147483647) (q1 : ∀ (Z' : zMem), zTpX (sShift P t i o j n) Z' → (∀ k, k < 51 ∨ 62 < k → Z' k = Z k) → Q (some (zI (oShift P t i o j n))) Z') : zE 83 0 (zent 83 [zR 0, zI t, zI i, zI o, zI j, zI n]) [] Z Q := by
  show zE 83 0 [some (zR 0), some (zI t), some (zI i), some (zI o), some (zI j), some (zI n), none, none] [] Z Q
  refine ze_iload_n kc_83_0 rfl ?_
  refine zE_calls 1 kc_83_1 rfl rfl (Nat.le_of_ble_eq_true rfl) (Nat.le_of_ble_eq_true rfl) (Nat.le_of_ble_eq_true rfl) rfl ?_
  refine m_isTape (by omega) (fun g1 => ?_) (fun g1 => ?_)
  · simp only [Option.toList_some, Option.toList_none, List.drop_succ_cons, List.drop_zero, List.cons_append, List.nil_append]
    refine ze_if_eq kc_83_4 (by decide) (fun q => absurd q (by decide)) (fun _ => ?_)
    refine ze_iload_n kc_83_7 rfl ?_
    refine zE_calls 1 kc_83_8 rfl rfl (Nat.le_of_ble_eq_true rfl) (Nat.le_of_ble_eq_true rfl) (Nat.le_of_ble_eq_true rfl) rfl ?_
    refine m_isTape (by omega) (fun g8 => ?_) (fun g8 => ?_)
    · simp only [Option.toList_some, Option.toList_none, List.drop_succ_cons, List.drop_zero, List.cons_append, List.nil_append]
      refine ze_if_ne kc_83_11 (by decide) (fun _ => ?_) (fun q => absurd q (by decide))
      obtain ⟨κ, rfl⟩ := Int.eq_ofNat_of_zero_le (show 0 ≤ t by omega)
      have hκ : κ < 6 := by omega
      have hTκ := ztp_T κ hκ
      have hIκ := ztp_0 κ hκ
      have hWκ := ztp_W κ hκ
      obtain ⟨x1κ, x2κ, x3κ⟩ := hP.1 κ hκ
      obtain ⟨y1κ, y2κ, y3κ, y4κ⟩ := hP.2 κ hκ
      obtain ⟨ο, rfl⟩ := Int.eq_ofNat_of_zero_le (show 0 ≤ o by omega)
      have hο : ο < 6 := by omega
      have hTο := ztp_T ο hο
      have hIο := ztp_0 ο hο
      have hWο := ztp_W ο hο
      obtain ⟨x1ο, x2ο, x3ο⟩ := hP.1 ο hο
      obtain ⟨y1ο, y2ο, y3ο, y4ο⟩ := hP.2 ο hο
      refine ze_aload_n kc_83_16 rfl ?_
      refine ze_getR kc_83_17 (by first | assumption | rfl) rfl (by first | assumption | rfl) ?_
      refine ze_iload_n kc_83_20 rfl ?_
      refine ze_aald kc_83_21 rfl (by omega) (ztp_r κ hκ) ?_
      refine ze_astore kc_83_22 (Nat.le_of_ble_eq_true rfl) ?_
      simp only [zset1, zset2, zcut, zf0, zf1, zf2, zf3, List.set_cons_zero, List.set_cons_succ, List.getD_cons_zero, List.getD_cons_succ]
      refine ze_aload_n kc_83_24 rfl ?_
      refine ze_getR kc_83_25 (by first | assumption | rfl) rfl (by first | assumption | rfl) ?_
      refine ze_iload_n kc_83_28 rfl ?_
      refine ze_aald kc_83_29 rfl (by omega) (ztp_r ο hο) ?_
      refine ze_astore kc_83_30 (Nat.le_of_ble_eq_true rfl) ?_
      simp only [zset1, zset2, zcut, zf0, zf1, zf2, zf3, List.set_cons_zero, List.set_cons_succ, List.getD_cons_zero, List.getD_cons_succ]
      refine ze_aload kc_83_32 rfl ?_
      refine ze_getI kc_83_34 (by first | assumption | rfl) (by decide) ?_
      rw [x1κ]
      refine ze_iconst kc_83_37 ?_
      refine ze_icmp_eq kc_83_38 (by omega) (by omega) (fun h38 => ?_) (fun h38 => ?_)
      · skip
        refine ze_bipush kc_83_50 ?_
        refine ze_ireturn kc_83_52 (Or.inl rfl) ?_
        have z : P.1 κ = -1 ∨ P.1 ο = -1 := by omega
        rw [show sShift P κ i ο j n = P from if_neg (fun q => z.elim q.2.1.1 q.2.1.2), show oShift P κ i ο j n = -11 from (if_neg (by omega)).trans (if_pos z)] at q1
        exact q1 _ hP (fun _ _ => rfl)
      · skip
        refine ze_aload kc_83_41 rfl ?_
        refine ze_getI kc_83_43 (by first | assumption | rfl) (by decide) ?_
        rw [x1ο]
        refine ze_iconst kc_83_46 ?_
        refine ze_icmp_ne kc_83_47 (by omega) (by omega) (fun h47 => ?_) (fun h47 => ?_)
        · skip
          refine ze_aload kc_83_53 rfl ?_
          refine ze_getI kc_83_55 (by first | assumption | rfl) (by decide) ?_
          rw [x1κ]
          refine ze_aload kc_83_58 rfl ?_
          refine ze_getI kc_83_60 (by first | assumption | rfl) (by decide) ?_
          rw [x1ο]
          refine ze_icmp_eq kc_83_63 (by omega) (by omega) (fun h63 => ?_) (fun h63 => ?_)
          · skip
            refine ze_aload kc_83_69 rfl ?_
            refine ze_iload_n kc_83_71 rfl ?_
            refine ze_iload kc_83_72 rfl ?_
            refine zE_callv 3 kc_83_74 rfl rfl (Nat.le_of_ble_eq_true rfl) (Nat.le_of_ble_eq_true rfl) (Nat.le_of_ble_eq_true rfl) (by first | assumption | rfl) (by decide +kernel) rfl ?_
            refine m_hasAll hTκ (by omega) (by omega) x2κ y2κ (fun g74 => ?_) (fun g74 => ?_)
            · simp only [Option.toList_some, Option.toList_none, List.drop_succ_cons, List.drop_zero, List.cons_append, List.nil_append]
              refine ze_if_eq kc_83_77 (by decide) (fun q => absurd q (by decide)) (fun _ => ?_)
              refine ze_aload kc_83_80 rfl ?_
              refine ze_iload kc_83_82 rfl ?_
              refine ze_iload kc_83_84 rfl ?_
              refine zE_callv 3 kc_83_86 rfl rfl (Nat.le_of_ble_eq_true rfl) (Nat.le_of_ble_eq_true rfl) (Nat.le_of_ble_eq_true rfl) (by first | assumption | rfl) (by decide +kernel) rfl ?_
              refine m_hasAll hTο (by omega) (by omega) x2ο y2ο (fun g86 => ?_) (fun g86 => ?_)
              · simp only [Option.toList_some, Option.toList_none, List.drop_succ_cons, List.drop_zero, List.cons_append, List.nil_append]
                refine ze_if_ne kc_83_89 (by decide) (fun _ => ?_) (fun q => absurd q (by decide))
                obtain ⟨ι, rfl⟩ := Int.eq_ofNat_of_zero_le (show 0 ≤ i by omega)
                obtain ⟨ν, rfl⟩ := Int.eq_ofNat_of_zero_le (show 0 ≤ j by omega)
                obtain ⟨τ, rfl⟩ := Int.eq_ofNat_of_zero_le (show 0 ≤ n by omega)
                refine ze_aload kc_83_95 rfl ?_
                refine ze_getR kc_83_97 (by first | assumption | rfl) rfl (by first | assumption | rfl) ?_
                refine ze_iload_n kc_83_100 rfl ?_
                refine ze_aload kc_83_101 rfl ?_
                refine ze_getR kc_83_103 (by first | assumption | rfl) rfl (by first | assumption | rfl) ?_
                refine ze_iload kc_83_106 rfl ?_
                refine ze_iload kc_83_108 rfl ?_
                refine ze_copy kc_83_110 (Nat.le_of_ble_eq_true rfl) hWκ hWο (by omega) (by omega) (by omega) (by decide) (by decide) ?_
                refine ze_iload kc_83_113 rfl ?_
                refine ze_ireturn kc_83_115 (Or.inl rfl) ?_
                have z : ¬ (P.1 κ = -1 ∨ P.1 ο = -1) := by omega
                have z2 : P.1 κ = P.1 ο := by omega
                have z3 : zShO P κ ι ο ν τ := ⟨by omega, by rw [Int.toNat_natCast]; omega, by rw [Int.toNat_natCast]; omega⟩
                rw [show sShift P κ ι ο ν τ = zShA P κ ι ο ν τ from if_pos ⟨by omega, ⟨fun q => z (Or.inl q), fun q => z (Or.inr q)⟩, z2, z3⟩, show oShift P κ ι ο ν τ = τ from (if_neg (by omega)).trans ((if_neg z).trans ((if_neg (fun q => q z2)).trans (if_pos z3)))] at q1
                rw [Int.toNat_natCast, Int.toNat_natCast, Int.toNat_natCast]
                exact q1 _ (zTpX_S hP hκ hο z3) (fun k a => funext fun x => if_neg (by omega))
              · simp only [Option.toList_some, Option.toList_none, List.drop_succ_cons, List.drop_zero, List.cons_append, List.nil_append]
                refine ze_if_ne kc_83_89 (by decide) (fun q => absurd q (by decide)) (fun _ => ?_)
                refine ze_bipush kc_83_92 ?_
                refine ze_ireturn kc_83_94 (Or.inl rfl) ?_
                have z : ¬ (P.1 κ = -1 ∨ P.1 ο = -1) := by omega
                have z2 : P.1 κ = P.1 ο := by omega
                have z3 : ¬ zShO P κ i ο j n := fun q => by
                  obtain ⟨a1, a2, a3⟩ := q
                  rw [Int.toNat_natCast] at a2 a3
                  omega
                rw [show sShift P κ i ο j n = P from if_neg (fun q => z3 q.2.2.2), show oShift P κ i ο j n = -13 from (if_neg (by omega)).trans ((if_neg z).trans ((if_neg (fun q => q z2)).trans (if_neg z3)))] at q1
                exact q1 _ hP (fun _ _ => rfl)
            · simp only [Option.toList_some, Option.toList_none, List.drop_succ_cons, List.drop_zero, List.cons_append, List.nil_append]
              refine ze_if_eq kc_83_77 (by decide) (fun _ => ?_) (fun q => absurd q (by decide))
              refine ze_bipush kc_83_92 ?_
              refine ze_ireturn kc_83_94 (Or.inl rfl) ?_
              have z : ¬ (P.1 κ = -1 ∨ P.1 ο = -1) := by omega
              have z2 : P.1 κ = P.1 ο := by omega
              have z3 : ¬ zShO P κ i ο j n := fun q => by
                obtain ⟨a1, a2, a3⟩ := q
                rw [Int.toNat_natCast] at a2 a3
                omega
              rw [show sShift P κ i ο j n = P from if_neg (fun q => z3 q.2.2.2), show oShift P κ i ο j n = -13 from (if_neg (by omega)).trans ((if_neg z).trans ((if_neg (fun q => q z2)).trans (if_neg z3)))] at q1
              exact q1 _ hP (fun _ _ => rfl)
          · skip
            refine ze_bipush kc_83_66 ?_
            refine ze_ireturn kc_83_68 (Or.inl rfl) ?_
            have z : ¬ (P.1 κ = -1 ∨ P.1 ο = -1) := by omega
            have z2 : ¬ P.1 κ = P.1 ο := by omega
            rw [show sShift P κ i ο j n = P from if_neg (fun q => z2 q.2.2.1), show oShift P κ i ο j n = -12 from (if_neg (by omega)).trans ((if_neg z).trans (if_pos z2))] at q1
            exact q1 _ hP (fun _ _ => rfl)
        · skip
          refine ze_bipush kc_83_50 ?_
          refine ze_ireturn kc_83_52 (Or.inl rfl) ?_
          have z : P.1 κ = -1 ∨ P.1 ο = -1 := by omega
          rw [show sShift P κ i ο j n = P from if_neg (fun q => z.elim q.2.1.1 q.2.1.2), show oShift P κ i ο j n = -11 from (if_neg (by omega)).trans (if_pos z)] at q1
          exact q1 _ hP (fun _ _ => rfl)
    · simp only [Option.toList_some, Option.toList_none, List.drop_succ_cons, List.drop_zero, List.cons_append, List.nil_append]
      refine ze_if_ne kc_83_11 (by decide) (fun q => absurd q (by decide)) (fun _ => ?_)
      refine ze_iconst kc_83_14 ?_
      refine ze_ireturn kc_83_15 (Or.inl rfl) ?_
      rw [show sShift P t i o j n = P from if_neg (fun q => by have := q.1; omega), show oShift P t i o j n = -1 from if_pos (by omega)] at q1
      exact q1 _ hP (fun _ _ => rfl)
  · simp only [Option.toList_some, Option.toList_none, List.drop_succ_cons, List.drop_zero, List.cons_append, List.nil_append]
    refine ze_if_eq kc_83_4 (by decide) (fun _ => ?_) (fun q => absurd q (by decide))
    refine ze_iconst kc_83_14 ?_
    refine ze_ireturn kc_83_15 (Or.inl rfl) ?_
    rw [show sShift P t i o j n = P from if_neg (fun q => by have := q.1; omega), show oShift P t i o j n = -1 from if_pos (by omega)] at q1
    exact q1 _ hP (fun _ _ => rfl)

set_option maxHeartbeats 8000000 in
theorem m_shiftM {Z : zMem} {Q : Option zAV → zMem → Prop} {P : zTps} (hP : zTpM P Z) {t i o j n : Int} (ht : -2147483648 ≤ t ∧ t ≤ 2147483647) (hi : -2147483648 ≤ i ∧ i ≤ 2147483647) (ho : -2147483648 ≤ o ∧ o ≤ 2147483647) (hj : -2147483648 ≤ j ∧ j ≤ 2147483647) (hn : -2147483648 ≤ n ∧ n ≤ 2147483647) (q1 : ∀ (Z' : zMem), zTpM (sShift P t i o j n) Z' → (∀ k, k ≠ 76 → k ≠ 77 → k ≠ 78 → k ≠ 79 → Z' k = Z k) → Q (some (zI (oShift P t i o j n))) Z') : zE 172 0 (zent 172 [zR 63, zI t, zI i, zI o, zI j, zI n]) [] Z Q := by
  show zE 172 0 [some (zR 63), some (zI t), some (zI i), some (zI o), some (zI j), some (zI n), none] [] Z Q
  refine ze_iload_n kc_172_0 rfl ?_
  refine zE_calls 1 kc_172_1 rfl rfl (Nat.le_of_ble_eq_true rfl) (Nat.le_of_ble_eq_true rfl) (Nat.le_of_ble_eq_true rfl) rfl ?_
  refine m_isTapeM (by omega) (fun g1 => ?_) (fun g1 => ?_)
  · simp only [Option.toList_some, Option.toList_none, List.drop_succ_cons, List.drop_zero, List.cons_append, List.nil_append]
    refine ze_if_eq kc_172_4 (by decide) (fun q => absurd q (by decide)) (fun _ => ?_)
    refine ze_iload_n kc_172_7 rfl ?_
    refine zE_calls 1 kc_172_8 rfl rfl (Nat.le_of_ble_eq_true rfl) (Nat.le_of_ble_eq_true rfl) (Nat.le_of_ble_eq_true rfl) rfl ?_
    refine m_isTapeM (by omega) (fun g8 => ?_) (fun g8 => ?_)
    · simp only [Option.toList_some, Option.toList_none, List.drop_succ_cons, List.drop_zero, List.cons_append, List.nil_append]
      refine ze_if_ne kc_172_11 (by decide) (fun _ => ?_) (fun q => absurd q (by decide))
      obtain ⟨κ, rfl⟩ := Int.eq_ofNat_of_zero_le (show 0 ≤ t by omega)
      have hκ : κ < 6 := by omega
      have hTκ := ztp_T κ hκ
      have hIκ := ztp_0 κ hκ
      have hWκ := ztp_W κ hκ
      obtain ⟨x1κ, x2κ, x3κ⟩ := hP.1 κ hκ
      obtain ⟨y1κ, y2κ, y3κ, y4κ⟩ := hP.2 κ hκ
      obtain ⟨ο, rfl⟩ := Int.eq_ofNat_of_zero_le (show 0 ≤ o by omega)
      have hο : ο < 6 := by omega
      have hTο := ztp_T ο hο
      have hIο := ztp_0 ο hο
      have hWο := ztp_W ο hο
      obtain ⟨x1ο, x2ο, x3ο⟩ := hP.1 ο hο
      obtain ⟨y1ο, y2ο, y3ο, y4ο⟩ := hP.2 ο hο
      refine ze_aload_n kc_172_16 rfl ?_
      refine ze_getR kc_172_17 rfl rfl rfl ?_
      refine ze_iload_n kc_172_20 rfl ?_
      refine ze_iald kc_172_21 rfl (by omega) ?_
      rw [Int.toNat_natCast, x1κ]
      refine ze_if_lt kc_172_22 (by omega) (fun h22 => ?_) (fun h22 => ?_)
      · skip
        refine ze_bipush kc_172_34 ?_
        refine ze_ireturn kc_172_36 (Or.inl rfl) ?_
        have z : P.1 κ = -1 ∨ P.1 ο = -1 := by omega
        rw [show sShift P κ i ο j n = P from if_neg (fun q => z.elim q.2.1.1 q.2.1.2), show oShift P κ i ο j n = -11 from (if_neg (by omega)).trans (if_pos z)] at q1
        exact q1 _ hP (fun _ _ _ _ _ => rfl)
      · skip
        refine ze_aload_n kc_172_25 rfl ?_
        refine ze_getR kc_172_26 rfl rfl rfl ?_
        refine ze_iload_n kc_172_29 rfl ?_
        refine ze_iald kc_172_30 rfl (by omega) ?_
        rw [Int.toNat_natCast, x1ο]
        refine ze_if_ge kc_172_31 (by omega) (fun h31 => ?_) (fun h31 => ?_)
        · skip
          refine ze_aload_n kc_172_37 rfl ?_
          refine ze_getR kc_172_38 rfl rfl rfl ?_
          refine ze_iload_n kc_172_41 rfl ?_
          refine ze_iald kc_172_42 rfl (by omega) ?_
          rw [Int.toNat_natCast, x1κ]
          refine ze_aload_n kc_172_43 rfl ?_
          refine ze_getR kc_172_44 rfl rfl rfl ?_
          refine ze_iload_n kc_172_47 rfl ?_
          refine ze_iald kc_172_48 rfl (by omega) ?_
          rw [Int.toNat_natCast, x1ο]
          refine ze_icmp_eq kc_172_49 (by omega) (by omega) (fun h49 => ?_) (fun h49 => ?_)
          · skip
            refine ze_iload kc_172_55 rfl ?_
            refine ze_if_lt kc_172_57 (by omega) (fun h57 => ?_) (fun h57 => ?_)
            · skip
              refine ze_bipush kc_172_104 ?_
              refine ze_ireturn kc_172_106 (Or.inl rfl) ?_
              have z : ¬ (P.1 κ = -1 ∨ P.1 ο = -1) := by omega
              have z2 : P.1 κ = P.1 ο := by omega
              have z3 : ¬ zShO P κ i ο j n := fun q => by
                obtain ⟨a1, a2, a3⟩ := q
                rw [Int.toNat_natCast] at a2 a3
                omega
              rw [show sShift P κ i ο j n = P from if_neg (fun q => z3 q.2.2.2), show oShift P κ i ο j n = -13 from (if_neg (by omega)).trans ((if_neg z).trans ((if_neg (fun q => q z2)).trans (if_neg z3)))] at q1
              exact q1 _ hP (fun _ _ _ _ _ => rfl)
            · skip
              refine ze_iload_n kc_172_60 rfl ?_
              refine ze_if_lt kc_172_61 (by omega) (fun h61 => ?_) (fun h61 => ?_)
              · skip
                refine ze_bipush kc_172_104 ?_
                refine ze_ireturn kc_172_106 (Or.inl rfl) ?_
                have z : ¬ (P.1 κ = -1 ∨ P.1 ο = -1) := by omega
                have z2 : P.1 κ = P.1 ο := by omega
                have z3 : ¬ zShO P κ i ο j n := fun q => by
                  obtain ⟨a1, a2, a3⟩ := q
                  rw [Int.toNat_natCast] at a2 a3
                  omega
                rw [show sShift P κ i ο j n = P from if_neg (fun q => z3 q.2.2.2), show oShift P κ i ο j n = -13 from (if_neg (by omega)).trans ((if_neg z).trans ((if_neg (fun q => q z2)).trans (if_neg z3)))] at q1
                exact q1 _ hP (fun _ _ _ _ _ => rfl)
              · skip
                refine ze_iload kc_172_64 rfl ?_
                refine ze_if_lt kc_172_66 (by omega) (fun h66 => ?_) (fun h66 => ?_)
                · skip
                  refine ze_bipush kc_172_104 ?_
                  refine ze_ireturn kc_172_106 (Or.inl rfl) ?_
                  have z : ¬ (P.1 κ = -1 ∨ P.1 ο = -1) := by omega
                  have z2 : P.1 κ = P.1 ο := by omega
                  have z3 : ¬ zShO P κ i ο j n := fun q => by
                    obtain ⟨a1, a2, a3⟩ := q
                    rw [Int.toNat_natCast] at a2 a3
                    omega
                  rw [show sShift P κ i ο j n = P from if_neg (fun q => z3 q.2.2.2), show oShift P κ i ο j n = -13 from (if_neg (by omega)).trans ((if_neg z).trans ((if_neg (fun q => q z2)).trans (if_neg z3)))] at q1
                  exact q1 _ hP (fun _ _ _ _ _ => rfl)
                · skip
                  refine ze_iload_n kc_172_69 rfl ?_
                  refine ze_i2l kc_172_70 (by omega) ?_
                  refine ze_iload kc_172_71 rfl ?_
                  refine ze_i2l kc_172_73 (by omega) ?_
                  refine ze_ladd kc_172_74 ?_
                  refine ze_aload_n kc_172_75 rfl ?_
                  refine ze_getR kc_172_76 rfl rfl rfl ?_
                  refine ze_iload_n kc_172_79 rfl ?_
                  refine ze_iald kc_172_80 rfl (by omega) ?_
                  rw [Int.toNat_natCast, x2κ]
                  refine ze_i2l kc_172_81 (by omega) ?_
                  refine ze_lcmp_gt kc_172_82 kc_172_83 (by omega) (by omega) (fun h82 => ?_) (fun h82 => ?_)
                  · skip
                    refine ze_bipush kc_172_104 ?_
                    refine ze_ireturn kc_172_106 (Or.inl rfl) ?_
                    have z : ¬ (P.1 κ = -1 ∨ P.1 ο = -1) := by omega
                    have z2 : P.1 κ = P.1 ο := by omega
                    have z3 : ¬ zShO P κ i ο j n := fun q => by
                      obtain ⟨a1, a2, a3⟩ := q
                      rw [Int.toNat_natCast] at a2 a3
                      omega
                    rw [show sShift P κ i ο j n = P from if_neg (fun q => z3 q.2.2.2), show oShift P κ i ο j n = -13 from (if_neg (by omega)).trans ((if_neg z).trans ((if_neg (fun q => q z2)).trans (if_neg z3)))] at q1
                    exact q1 _ hP (fun _ _ _ _ _ => rfl)
                  · skip
                    refine ze_iload kc_172_86 rfl ?_
                    refine ze_i2l kc_172_88 (by omega) ?_
                    refine ze_iload kc_172_89 rfl ?_
                    refine ze_i2l kc_172_91 (by omega) ?_
                    refine ze_ladd kc_172_92 ?_
                    refine ze_aload_n kc_172_93 rfl ?_
                    refine ze_getR kc_172_94 rfl rfl rfl ?_
                    refine ze_iload_n kc_172_97 rfl ?_
                    refine ze_iald kc_172_98 rfl (by omega) ?_
                    rw [Int.toNat_natCast, x2ο]
                    refine ze_i2l kc_172_99 (by omega) ?_
                    refine ze_lcmp_le kc_172_100 kc_172_101 (by omega) (by omega) (fun h100 => ?_) (fun h100 => ?_)
                    · skip
                      obtain ⟨ι, rfl⟩ := Int.eq_ofNat_of_zero_le (show 0 ≤ i by omega)
                      obtain ⟨ν, rfl⟩ := Int.eq_ofNat_of_zero_le (show 0 ≤ j by omega)
                      obtain ⟨τ, rfl⟩ := Int.eq_ofNat_of_zero_le (show 0 ≤ n by omega)
                      refine ze_iconst kc_172_107 ?_
                      refine ze_istore kc_172_108 (Nat.le_of_ble_eq_true rfl) ?_
                      simp only [zset1, zset2, zcut, zf0, zf1, zf2, zf3, List.set_cons_zero, List.set_cons_succ, List.getD_cons_zero, List.getD_cons_succ]
                      have loop110 : ∀ (μ : Nat) (k : Nat) (x : Int) (Zc : zMem), τ - k = μ → (k ≤ τ) → (x = k) → (∀ a, a ≠ 79 → Zc a = Z a) → (∀ y, y < k → Zc 79 y = Z 78 (60 * κ + ι + y)) → zE 172 110 [some (zR 63), some (zI (κ : Nat)), some (zI (ι : Nat)), some (zI (ο : Nat)), some (zI (ν : Nat)), some (zI (τ : Nat)), some (zI x)] [] Zc Q := by
                        refine zind ?_
                        intro μ1 ih1 k x Zc hm1 hk hx f1 f2
                        subst hx
                        refine ze_iload kc_172_110 rfl ?_
                        refine ze_iload kc_172_112 rfl ?_
                        refine ze_icmp_ge kc_172_114 (by omega) (by omega) (fun h114 => ?_) (fun h114 => ?_)
                        · skip
                          refine ze_iconst kc_172_144 ?_
                          refine ze_istore kc_172_145 (Nat.le_of_ble_eq_true rfl) ?_
                          simp only [zset1, zset2, zcut, zf0, zf1, zf2, zf3, List.set_cons_zero, List.set_cons_succ, List.getD_cons_zero, List.getD_cons_succ]
                          have loop147 : ∀ (μ : Nat) (k : Nat) (x : Int) (Zd : zMem), τ - k = μ → (k ≤ τ) → (x = k) → (∀ a, a ≠ 78 → Zd a = Zc a) → (∀ y, y < k → Zd 78 (60 * ο + ν + y) = Z 78 (60 * κ + ι + y)) → (∀ y, y < 60 * ο + ν ∨ 60 * ο + ν + k ≤ y → Zd 78 y = Z 78 y) → zE 172 147 [some (zR 63), some (zI (κ : Nat)), some (zI (ι : Nat)), some (zI (ο : Nat)), some (zI (ν : Nat)), some (zI (τ : Nat)), some (zI x)] [] Zd Q := by
                            refine zind ?_
                            intro μ2 ih2 k x Zd hm2 hk hx e1 f3 f4
                            subst hx
                            refine ze_iload kc_172_147 rfl ?_
                            refine ze_iload kc_172_149 rfl ?_
                            refine ze_icmp_ge kc_172_151 (by omega) (by omega) (fun h151 => ?_) (fun h151 => ?_)
                            · skip
                              have ek : k = τ := by omega
                              rw [ek] at f3 f4
                              refine ze_iload kc_172_182 rfl ?_
                              refine ze_ireturn kc_172_184 (Or.inl rfl) ?_
                              have z : ¬ (P.1 κ = -1 ∨ P.1 ο = -1) := by omega
                              have z2 : P.1 κ = P.1 ο := by omega
                              have z3 : zShO P κ ι ο ν τ := ⟨by omega, by rw [Int.toNat_natCast]; omega, by rw [Int.toNat_natCast]; omega⟩
                              rw [show sShift P κ ι ο ν τ = zShA P κ ι ο ν τ from if_pos ⟨by omega, ⟨fun q => z (Or.inl q), fun q => z (Or.inr q)⟩, z2, z3⟩, show oShift P κ ι ο ν τ = τ from (if_neg (by omega)).trans ((if_neg z).trans ((if_neg (fun q => q z2)).trans (if_pos z3)))] at q1
                              
                              exact q1 _ (zTpM_S hP hκ hο z3 ((e1 76 (by decide)).trans (f1 76 (by decide))) ((e1 77 (by decide)).trans (f1 77 (by decide))) f3 f4) (fun k a b d e => (e1 k d).trans (f1 k e))
                            · skip
                              refine ze_aload_n kc_172_154 rfl ?_
                              refine ze_getR kc_172_155 rfl rfl rfl ?_
                              refine ze_bipush kc_172_158 ?_
                              refine ze_iload_n kc_172_160 rfl ?_
                              refine ze_imul kc_172_161 ?_
                              refine ze_iload kc_172_162 rfl ?_
                              refine ze_iadd kc_172_164 ?_
                              refine ze_iload kc_172_165 rfl ?_
                              refine ze_iadd kc_172_167 ?_
                              rw [show 60 * (ο : Int) + (ν : Int) + (k : Int) = ((60 * ο + ν + k : Nat) : Int) by omega]
                              refine ze_aload_n kc_172_168 rfl ?_
                              refine ze_getR kc_172_169 rfl rfl rfl ?_
                              refine ze_iload kc_172_172 rfl ?_
                              refine ze_lald kc_172_174 rfl (by omega) ?_
                              rw [Int.toNat_natCast, e1 79 (by decide), f2 k (by omega)]
                              refine ze_last kc_172_175 rfl (by omega) ?_
                              rw [Int.toNat_natCast]
                              refine ze_iinc kc_172_176 rfl ?_
                              simp only [zset1, zset2, zcut, zf0, zf1, zf2, zf3, List.set_cons_zero, List.set_cons_succ, List.getD_cons_zero, List.getD_cons_succ]
                              refine ze_goto kc_172_179 ?_
                              refine ih2 _ (by omega) (k + 1) _ _ rfl (by omega) (by omega) (fun a b => by rw [zup_ne' b]; exact e1 a b) (fun y hy => if q : y = k then (by rw [q, zup_s]) else (by rw [zup_o (by omega)]; exact f3 y (by omega))) (fun y hy => by rw [zup_o (by omega)]; exact f4 y (by omega))
                          refine loop147 _ 0 0 Zc rfl (by omega) rfl (fun _ _ => rfl) (fun y hy => absurd hy (by omega)) (fun y _ => by rw [f1 78 (by decide)])
                        · skip
                          refine ze_aload_n kc_172_117 rfl ?_
                          refine ze_getR kc_172_118 rfl rfl rfl ?_
                          refine ze_iload kc_172_121 rfl ?_
                          refine ze_aload_n kc_172_123 rfl ?_
                          refine ze_getR kc_172_124 rfl rfl rfl ?_
                          refine ze_bipush kc_172_127 ?_
                          refine ze_iload_n kc_172_129 rfl ?_
                          refine ze_imul kc_172_130 ?_
                          refine ze_iload_n kc_172_131 rfl ?_
                          refine ze_iadd kc_172_132 ?_
                          refine ze_iload kc_172_133 rfl ?_
                          refine ze_iadd kc_172_135 ?_
                          rw [show 60 * (κ : Int) + (ι : Int) + (k : Int) = ((60 * κ + ι + k : Nat) : Int) by omega]
                          refine ze_lald kc_172_136 rfl (by omega) ?_
                          rw [Int.toNat_natCast, f1 78 (by decide)]
                          refine ze_last kc_172_137 rfl (by omega) ?_
                          rw [Int.toNat_natCast]
                          refine ze_iinc kc_172_138 rfl ?_
                          simp only [zset1, zset2, zcut, zf0, zf1, zf2, zf3, List.set_cons_zero, List.set_cons_succ, List.getD_cons_zero, List.getD_cons_succ]
                          refine ze_goto kc_172_141 ?_
                          refine ih1 _ (by omega) (k + 1) _ _ rfl (by omega) (by omega) (fun a b => by rw [zup_ne' b]; exact f1 a b) (fun y hy => if q : y = k then (by rw [q, zup_s]) else (by rw [zup_o q]; exact f2 y (by omega)))
                      refine loop110 _ 0 0 Z rfl (by omega) rfl (fun _ _ => rfl) (fun y hy => absurd hy (by omega))
                    · skip
                      refine ze_bipush kc_172_104 ?_
                      refine ze_ireturn kc_172_106 (Or.inl rfl) ?_
                      have z : ¬ (P.1 κ = -1 ∨ P.1 ο = -1) := by omega
                      have z2 : P.1 κ = P.1 ο := by omega
                      have z3 : ¬ zShO P κ i ο j n := fun q => by
                        obtain ⟨a1, a2, a3⟩ := q
                        rw [Int.toNat_natCast] at a2 a3
                        omega
                      rw [show sShift P κ i ο j n = P from if_neg (fun q => z3 q.2.2.2), show oShift P κ i ο j n = -13 from (if_neg (by omega)).trans ((if_neg z).trans ((if_neg (fun q => q z2)).trans (if_neg z3)))] at q1
                      exact q1 _ hP (fun _ _ _ _ _ => rfl)
          · skip
            refine ze_bipush kc_172_52 ?_
            refine ze_ireturn kc_172_54 (Or.inl rfl) ?_
            have z : ¬ (P.1 κ = -1 ∨ P.1 ο = -1) := by omega
            have z2 : ¬ P.1 κ = P.1 ο := by omega
            rw [show sShift P κ i ο j n = P from if_neg (fun q => z2 q.2.2.1), show oShift P κ i ο j n = -12 from (if_neg (by omega)).trans ((if_neg z).trans (if_pos z2))] at q1
            exact q1 _ hP (fun _ _ _ _ _ => rfl)
        · skip
          refine ze_bipush kc_172_34 ?_
          refine ze_ireturn kc_172_36 (Or.inl rfl) ?_
          have z : P.1 κ = -1 ∨ P.1 ο = -1 := by omega
          rw [show sShift P κ i ο j n = P from if_neg (fun q => z.elim q.2.1.1 q.2.1.2), show oShift P κ i ο j n = -11 from (if_neg (by omega)).trans (if_pos z)] at q1
          exact q1 _ hP (fun _ _ _ _ _ => rfl)
    · simp only [Option.toList_some, Option.toList_none, List.drop_succ_cons, List.drop_zero, List.cons_append, List.nil_append]
      refine ze_if_ne kc_172_11 (by decide) (fun q => absurd q (by decide)) (fun _ => ?_)
      refine ze_iconst kc_172_14 ?_
      refine ze_ireturn kc_172_15 (Or.inl rfl) ?_
      rw [show sShift P t i o j n = P from if_neg (fun q => by have := q.1; omega), show oShift P t i o j n = -1 from if_pos (by omega)] at q1
      exact q1 _ hP (fun _ _ _ _ _ => rfl)
  · simp only [Option.toList_some, Option.toList_none, List.drop_succ_cons, List.drop_zero, List.cons_append, List.nil_append]
    refine ze_if_eq kc_172_4 (by decide) (fun _ => ?_) (fun q => absurd q (by decide))
    refine ze_iconst kc_172_14 ?_
    refine ze_ireturn kc_172_15 (Or.inl rfl) ?_
    rw [show sShift P t i o j n = P from if_neg (fun q => by have := q.1; omega), show oShift P t i o j n = -1 from if_pos (by omega)] at q1
    exact q1 _ hP (fun _ _ _ _ _ => rfl)

set_option maxHeartbeats 4000000 in
theorem m_judgeX {Z : zMem} {Q : Option zAV → zMem → Prop} {n : Nat} {c : Nat → Int} {e ρ : Int} (hC : zCl n c e ρ Z) {P : zTps} (hP : zTpX P Z) {t i : Int} (ht : -2147483648 ≤ t ∧ t ≤ 2147483647) (hi : -2147483648 ≤ i ∧ i ≤ 2147483647) (q1 : ∀ (Z' : zMem), zFq Z Z' → Q (some (zI (oJudge n c e ρ P t i))) Z') : zE 76 0 (zent 76 [zR 0, zI t, zI i]) [] Z Q := by
  show zE 76 0 [some (zR 0), some (zI t), some (zI i), none, none] [] Z Q
  obtain ⟨hU0, hG0, n6, n0, cc, cr, ce, cρ, ceR, cρR, c11, c16⟩ := zCl_o hC
  have csr := zsum_range cr
  have hwi := fun k => zwI_in (zWh ρ n c e k)
  refine ze_iload_n kc_76_0 rfl ?_
  refine zE_calls 1 kc_76_1 rfl rfl (Nat.le_of_ble_eq_true rfl) (Nat.le_of_ble_eq_true rfl) (Nat.le_of_ble_eq_true rfl) rfl ?_
  refine m_isTape (by omega) (fun g1 => ?_) (fun g1 => ?_)
  · simp only [Option.toList_some, Option.toList_none, List.drop_succ_cons, List.drop_zero, List.cons_append, List.nil_append]
    refine ze_if_ne kc_76_4 (by decide) (fun _ => ?_) (fun q => absurd q (by decide))
    refine ze_aload_n kc_76_9 rfl ?_
    refine ze_getR kc_76_10 (by first | assumption | rfl) rfl (by first | assumption | rfl) ?_
    refine zE_callv 1 kc_76_13 rfl rfl (Nat.le_of_ble_eq_true rfl) (Nat.le_of_ble_eq_true rfl) (Nat.le_of_ble_eq_true rfl) (by first | assumption | rfl) (by decide +kernel) rfl ?_
    refine m_ready zsF_1 hU0 (fun g13 => ?_) (fun g13 => ?_)
    · simp only [Option.toList_some, Option.toList_none, List.drop_succ_cons, List.drop_zero, List.cons_append, List.nil_append]
      refine ze_if_ne kc_76_16 (by decide) (fun _ => ?_) (fun q => absurd q (by decide))
      obtain ⟨κ, rfl⟩ := Int.eq_ofNat_of_zero_le (show 0 ≤ t by omega)
      have hκ : κ < 6 := by omega
      have hTκ := ztp_T κ hκ
      have hIκ := ztp_0 κ hκ
      have hWκ := ztp_W κ hκ
      obtain ⟨x1κ, x2κ, x3κ⟩ := hP.1 κ hκ
      obtain ⟨y1κ, y2κ, y3κ, y4κ⟩ := hP.2 κ hκ
      refine ze_aload_n kc_76_22 rfl ?_
      refine ze_getR kc_76_23 (by first | assumption | rfl) rfl (by first | assumption | rfl) ?_
      refine ze_iload_n kc_76_26 rfl ?_
      refine ze_aald kc_76_27 rfl (by omega) (ztp_r κ hκ) ?_
      refine ze_astore_n kc_76_28 (Nat.le_of_ble_eq_true rfl) ?_
      simp only [zset1, zset2, zcut, zf0, zf1, zf2, zf3, List.set_cons_zero, List.set_cons_succ, List.getD_cons_zero, List.getD_cons_succ]
      refine ze_aload_n kc_76_29 rfl ?_
      refine ze_getI kc_76_30 (by first | assumption | rfl) (by decide) ?_
      rw [x1κ]
      refine ze_iconst kc_76_33 ?_
      refine ze_icmp_eq kc_76_34 (by omega) (by omega) (fun h34 => ?_) (fun h34 => ?_)
      · skip
        refine ze_aload_n kc_76_48 rfl ?_
        refine ze_getI kc_76_49 (by first | assumption | rfl) (by decide) ?_
        rw [x1κ]
        refine ze_iconst kc_76_52 ?_
        refine ze_icmp_eq kc_76_53 (by omega) (by omega) (fun h53 => ?_) (fun h53 => ?_)
        · skip
          refine ze_bipush kc_76_60 ?_
          refine ze_ireturn kc_76_62 (Or.inl rfl) ?_
          have z : ¬ (¬ P.1 κ = 3 ∧ ¬ P.1 κ = -1) := by omega
          have z2 : P.1 κ = -1 ∨ i < 0 := by omega
          rw [show oJudge n c e ρ P κ i = 100 from (if_neg (by omega)).trans ((if_neg (by omega)).trans ((if_neg z).trans (if_pos z2)))] at q1
          exact q1 _ zFq_refl
        · skip
          refine ze_iload_n kc_76_56 rfl ?_
          refine ze_if_ge kc_76_57 (by omega) (fun h57 => ?_) (fun h57 => ?_)
          · skip
            obtain ⟨ι, rfl⟩ := Int.eq_ofNat_of_zero_le (show 0 ≤ i by omega)
            have z : ¬ (¬ P.1 κ = 3 ∧ ¬ P.1 κ = -1) := by omega
            have z2 : ¬ (P.1 κ = -1 ∨ (ι : Int) < 0) := by omega
            rw [show oJudge n c e ρ P κ ι = (zJg (P.2.1 κ) (P.2.2 κ) (fun k => zwI (zWh ρ n c e k)) ι n 0) from (if_neg (by omega)).trans ((if_neg (by omega)).trans ((if_neg z).trans (if_neg z2)))] at q1
            refine ze_iconst kc_76_63 ?_
            refine ze_istore kc_76_64 (Nat.le_of_ble_eq_true rfl) ?_
            simp only [zset1, zset2, zcut, zf0, zf1, zf2, zf3, List.set_cons_zero, List.set_cons_succ, List.getD_cons_zero, List.getD_cons_succ]
            have loop66 : ∀ (μ : Nat) (k : Nat) (x : Int), n - k = μ → (k ≤ n) → (x = k) → (zJg (P.2.1 κ) (P.2.2 κ) (fun k => zwI (zWh ρ n c e k)) ι (n - k) k = (zJg (P.2.1 κ) (P.2.2 κ) (fun k => zwI (zWh ρ n c e k)) ι n 0)) → zE 76 66 [some (zR 0), some (zI (κ : Nat)), some (zI (ι : Nat)), some (zR (51 + 2 * κ)), some (zI x)] [] Z Q := by
              refine zind ?_
              intro μ ih k x hm hk hx hR
              subst hx
              refine ze_iload kc_76_66 rfl ?_
              refine ze_aload_n kc_76_68 rfl ?_
              refine ze_getR kc_76_69 (by first | assumption | rfl) rfl (by first | assumption | rfl) ?_
              refine ze_getR kc_76_72 (by first | assumption | rfl) rfl (by first | assumption | rfl) ?_
              refine ze_getI kc_76_75 (by first | assumption | rfl) (by decide) ?_
              rw [n0]
              refine ze_icmp_ge kc_76_78 (by omega) (by omega) (fun h78 => ?_) (fun h78 => ?_)
              · skip
                refine ze_bipush kc_76_137 ?_
                refine ze_ireturn kc_76_139 (Or.inl rfl) ?_
                rw [show n - k = 0 by omega] at hR
                rw [← hR] at q1
                exact q1 _ zFq_refl
              · skip
                refine ze_iload kc_76_81 rfl ?_
                refine ze_aload_n kc_76_83 rfl ?_
                refine ze_getI kc_76_84 (by first | assumption | rfl) (by decide) ?_
                rw [x2κ]
                refine ze_iload_n kc_76_87 rfl ?_
                refine ze_isub kc_76_88 ?_
                refine ze_icmp_lt kc_76_89 (by omega) (by omega) (fun h89 => ?_) (fun h89 => ?_)
                · skip
                  refine ze_aload_n kc_76_98 rfl ?_
                  refine ze_getR kc_76_99 (by first | assumption | rfl) rfl (by first | assumption | rfl) ?_
                  refine ze_iload_n kc_76_102 rfl ?_
                  refine ze_iload kc_76_103 rfl ?_
                  refine ze_iadd kc_76_105 ?_
                  rw [show (ι : Int) + (k : Int) = ((ι + k : Nat) : Int) by omega]
                  refine ze_lald kc_76_106 (by first | assumption | rfl) (by omega) ?_
                  rw [Int.toNat_natCast, x3κ (ι + k) (by omega)]
                  refine ze_aload_n kc_76_107 rfl ?_
                  refine ze_getR kc_76_108 (by first | assumption | rfl) rfl (by first | assumption | rfl) ?_
                  refine ze_aload_n kc_76_111 rfl ?_
                  refine ze_getR kc_76_112 (by first | assumption | rfl) rfl (by first | assumption | rfl) ?_
                  refine ze_getI kc_76_115 (by first | assumption | rfl) (by decide) ?_
                  rw [cρ]
                  refine ze_iload kc_76_118 rfl ?_
                  refine zE_callv 3 kc_76_120 rfl rfl (Nat.le_of_ble_eq_true rfl) (Nat.le_of_ble_eq_true rfl) (Nat.le_of_ble_eq_true rfl) (by first | assumption | rfl) (by decide +kernel) rfl ?_
                  refine m_whole zsF_1 hU0 (by omega) (by omega) (by omega) ?_
                  simp only [Option.toList_some, Option.toList_none, List.drop_succ_cons, List.drop_zero, List.cons_append, List.nil_append]
                  refine ze_i2lw kc_76_123 ?_
                  have hwk := hwi k
                  unfold zwI at hwk
                  have hyk := y4κ (ι + k) (by omega)
                  refine ze_lcmp_eq kc_76_124 kc_76_125 (by omega) (by omega) (fun h124 => ?_) (fun h124 => ?_)
                  · skip
                    refine ze_iinc kc_76_131 rfl ?_
                    simp only [zset1, zset2, zcut, zf0, zf1, zf2, zf3, List.set_cons_zero, List.set_cons_succ, List.getD_cons_zero, List.getD_cons_succ]
                    refine ze_goto kc_76_134 ?_
                    refine ih _ (by omega) (k + 1) _ rfl (by omega) (by omega) (by rw [← hR, zJg_next (m := n - k) (k := k) (by omega) (by omega) h124, show n - (k + 1) = n - k - 1 by omega])
                  · skip
                    refine ze_iload kc_76_128 rfl ?_
                    refine ze_ireturn kc_76_130 (Or.inl rfl) ?_
                    rw [zJg_no (by omega) (by omega) h124] at hR
                    rw [← hR] at q1
                    exact q1 _ zFq_refl
                · skip
                  refine ze_bipush kc_76_92 ?_
                  refine ze_iload kc_76_94 rfl ?_
                  refine ze_iadd kc_76_96 ?_
                  refine ze_ireturn kc_76_97 (Or.inl rfl) ?_
                  rw [zJg_out (by omega) (by omega)] at hR
                  rw [← hR] at q1
                  exact q1 _ zFq_refl
            refine loop66 _ 0 0 rfl (by omega) rfl rfl
          · skip
            refine ze_bipush kc_76_60 ?_
            refine ze_ireturn kc_76_62 (Or.inl rfl) ?_
            have z : ¬ (¬ P.1 κ = 3 ∧ ¬ P.1 κ = -1) := by omega
            have z2 : P.1 κ = -1 ∨ i < 0 := by omega
            rw [show oJudge n c e ρ P κ i = 100 from (if_neg (by omega)).trans ((if_neg (by omega)).trans ((if_neg z).trans (if_pos z2)))] at q1
            exact q1 _ zFq_refl
      · skip
        refine ze_aload_n kc_76_37 rfl ?_
        refine ze_getI kc_76_38 (by first | assumption | rfl) (by decide) ?_
        rw [x1κ]
        refine ze_iconst kc_76_41 ?_
        refine ze_icmp_eq kc_76_42 (by omega) (by omega) (fun h42 => ?_) (fun h42 => ?_)
        · skip
          refine ze_aload_n kc_76_48 rfl ?_
          refine ze_getI kc_76_49 (by first | assumption | rfl) (by decide) ?_
          rw [x1κ]
          refine ze_iconst kc_76_52 ?_
          refine ze_icmp_eq kc_76_53 (by omega) (by omega) (fun h53 => ?_) (fun h53 => ?_)
          · skip
            refine ze_bipush kc_76_60 ?_
            refine ze_ireturn kc_76_62 (Or.inl rfl) ?_
            have z : ¬ (¬ P.1 κ = 3 ∧ ¬ P.1 κ = -1) := by omega
            have z2 : P.1 κ = -1 ∨ i < 0 := by omega
            rw [show oJudge n c e ρ P κ i = 100 from (if_neg (by omega)).trans ((if_neg (by omega)).trans ((if_neg z).trans (if_pos z2)))] at q1
            exact q1 _ zFq_refl
          · skip
            refine ze_iload_n kc_76_56 rfl ?_
            refine ze_if_ge kc_76_57 (by omega) (fun h57 => ?_) (fun h57 => ?_)
            · skip
              obtain ⟨ι, rfl⟩ := Int.eq_ofNat_of_zero_le (show 0 ≤ i by omega)
              have z : ¬ (¬ P.1 κ = 3 ∧ ¬ P.1 κ = -1) := by omega
              have z2 : ¬ (P.1 κ = -1 ∨ (ι : Int) < 0) := by omega
              rw [show oJudge n c e ρ P κ ι = (zJg (P.2.1 κ) (P.2.2 κ) (fun k => zwI (zWh ρ n c e k)) ι n 0) from (if_neg (by omega)).trans ((if_neg (by omega)).trans ((if_neg z).trans (if_neg z2)))] at q1
              refine ze_iconst kc_76_63 ?_
              refine ze_istore kc_76_64 (Nat.le_of_ble_eq_true rfl) ?_
              simp only [zset1, zset2, zcut, zf0, zf1, zf2, zf3, List.set_cons_zero, List.set_cons_succ, List.getD_cons_zero, List.getD_cons_succ]
              have loop66 : ∀ (μ : Nat) (k : Nat) (x : Int), n - k = μ → (k ≤ n) → (x = k) → (zJg (P.2.1 κ) (P.2.2 κ) (fun k => zwI (zWh ρ n c e k)) ι (n - k) k = (zJg (P.2.1 κ) (P.2.2 κ) (fun k => zwI (zWh ρ n c e k)) ι n 0)) → zE 76 66 [some (zR 0), some (zI (κ : Nat)), some (zI (ι : Nat)), some (zR (51 + 2 * κ)), some (zI x)] [] Z Q := by
                refine zind ?_
                intro μ ih k x hm hk hx hR
                subst hx
                refine ze_iload kc_76_66 rfl ?_
                refine ze_aload_n kc_76_68 rfl ?_
                refine ze_getR kc_76_69 (by first | assumption | rfl) rfl (by first | assumption | rfl) ?_
                refine ze_getR kc_76_72 (by first | assumption | rfl) rfl (by first | assumption | rfl) ?_
                refine ze_getI kc_76_75 (by first | assumption | rfl) (by decide) ?_
                rw [n0]
                refine ze_icmp_ge kc_76_78 (by omega) (by omega) (fun h78 => ?_) (fun h78 => ?_)
                · skip
                  refine ze_bipush kc_76_137 ?_
                  refine ze_ireturn kc_76_139 (Or.inl rfl) ?_
                  rw [show n - k = 0 by omega] at hR
                  rw [← hR] at q1
                  exact q1 _ zFq_refl
                · skip
                  refine ze_iload kc_76_81 rfl ?_
                  refine ze_aload_n kc_76_83 rfl ?_
                  refine ze_getI kc_76_84 (by first | assumption | rfl) (by decide) ?_
                  rw [x2κ]
                  refine ze_iload_n kc_76_87 rfl ?_
                  refine ze_isub kc_76_88 ?_
                  refine ze_icmp_lt kc_76_89 (by omega) (by omega) (fun h89 => ?_) (fun h89 => ?_)
                  · skip
                    refine ze_aload_n kc_76_98 rfl ?_
                    refine ze_getR kc_76_99 (by first | assumption | rfl) rfl (by first | assumption | rfl) ?_
                    refine ze_iload_n kc_76_102 rfl ?_
                    refine ze_iload kc_76_103 rfl ?_
                    refine ze_iadd kc_76_105 ?_
                    rw [show (ι : Int) + (k : Int) = ((ι + k : Nat) : Int) by omega]
                    refine ze_lald kc_76_106 (by first | assumption | rfl) (by omega) ?_
                    rw [Int.toNat_natCast, x3κ (ι + k) (by omega)]
                    refine ze_aload_n kc_76_107 rfl ?_
                    refine ze_getR kc_76_108 (by first | assumption | rfl) rfl (by first | assumption | rfl) ?_
                    refine ze_aload_n kc_76_111 rfl ?_
                    refine ze_getR kc_76_112 (by first | assumption | rfl) rfl (by first | assumption | rfl) ?_
                    refine ze_getI kc_76_115 (by first | assumption | rfl) (by decide) ?_
                    rw [cρ]
                    refine ze_iload kc_76_118 rfl ?_
                    refine zE_callv 3 kc_76_120 rfl rfl (Nat.le_of_ble_eq_true rfl) (Nat.le_of_ble_eq_true rfl) (Nat.le_of_ble_eq_true rfl) (by first | assumption | rfl) (by decide +kernel) rfl ?_
                    refine m_whole zsF_1 hU0 (by omega) (by omega) (by omega) ?_
                    simp only [Option.toList_some, Option.toList_none, List.drop_succ_cons, List.drop_zero, List.cons_append, List.nil_append]
                    refine ze_i2lw kc_76_123 ?_
                    have hwk := hwi k
                    unfold zwI at hwk
                    have hyk := y4κ (ι + k) (by omega)
                    refine ze_lcmp_eq kc_76_124 kc_76_125 (by omega) (by omega) (fun h124 => ?_) (fun h124 => ?_)
                    · skip
                      refine ze_iinc kc_76_131 rfl ?_
                      simp only [zset1, zset2, zcut, zf0, zf1, zf2, zf3, List.set_cons_zero, List.set_cons_succ, List.getD_cons_zero, List.getD_cons_succ]
                      refine ze_goto kc_76_134 ?_
                      refine ih _ (by omega) (k + 1) _ rfl (by omega) (by omega) (by rw [← hR, zJg_next (m := n - k) (k := k) (by omega) (by omega) h124, show n - (k + 1) = n - k - 1 by omega])
                    · skip
                      refine ze_iload kc_76_128 rfl ?_
                      refine ze_ireturn kc_76_130 (Or.inl rfl) ?_
                      rw [zJg_no (by omega) (by omega) h124] at hR
                      rw [← hR] at q1
                      exact q1 _ zFq_refl
                  · skip
                    refine ze_bipush kc_76_92 ?_
                    refine ze_iload kc_76_94 rfl ?_
                    refine ze_iadd kc_76_96 ?_
                    refine ze_ireturn kc_76_97 (Or.inl rfl) ?_
                    rw [zJg_out (by omega) (by omega)] at hR
                    rw [← hR] at q1
                    exact q1 _ zFq_refl
              refine loop66 _ 0 0 rfl (by omega) rfl rfl
            · skip
              refine ze_bipush kc_76_60 ?_
              refine ze_ireturn kc_76_62 (Or.inl rfl) ?_
              have z : ¬ (¬ P.1 κ = 3 ∧ ¬ P.1 κ = -1) := by omega
              have z2 : P.1 κ = -1 ∨ i < 0 := by omega
              rw [show oJudge n c e ρ P κ i = 100 from (if_neg (by omega)).trans ((if_neg (by omega)).trans ((if_neg z).trans (if_pos z2)))] at q1
              exact q1 _ zFq_refl
        · skip
          refine ze_bipush kc_76_45 ?_
          refine ze_ireturn kc_76_47 (Or.inl rfl) ?_
          have z : ¬ P.1 κ = 3 ∧ ¬ P.1 κ = -1 := by omega
          rw [show oJudge n c e ρ P κ i = -12 from (if_neg (by omega)).trans ((if_neg (by omega)).trans (if_pos z))] at q1
          exact q1 _ zFq_refl
    · simp only [Option.toList_some, Option.toList_none, List.drop_succ_cons, List.drop_zero, List.cons_append, List.nil_append]
      refine ze_if_ne kc_76_16 (by decide) (fun q => absurd q (by decide)) (fun _ => ?_)
      refine ze_bipush kc_76_19 ?_
      refine ze_ireturn kc_76_21 (Or.inl rfl) ?_
      rw [show oJudge n c e ρ P t i = -3 from (if_neg (by omega)).trans (if_pos (by omega))] at q1
      exact q1 _ zFq_refl
  · simp only [Option.toList_some, Option.toList_none, List.drop_succ_cons, List.drop_zero, List.cons_append, List.nil_append]
    refine ze_if_ne kc_76_4 (by decide) (fun q => absurd q (by decide)) (fun _ => ?_)
    refine ze_iconst kc_76_7 ?_
    refine ze_ireturn kc_76_8 (Or.inl rfl) ?_
    rw [show oJudge n c e ρ P t i = -1 from if_pos (by omega)] at q1
    exact q1 _ zFq_refl

set_option maxHeartbeats 4000000 in
theorem m_judgeM {Z : zMem} {Q : Option zAV → zMem → Prop} {n : Nat} {c : Nat → Int} {e ρ : Int} (hM : zMo n c e ρ Z) {P : zTps} (hP : zTpM P Z) {t i : Int} (ht : -2147483648 ≤ t ∧ t ≤ 2147483647) (hi : -2147483648 ≤ i ∧ i ≤ 2147483647) (q1 : ∀ (Z' : zMem), zFq Z Z' → Q (some (zI (oJudge n c e ρ P t i))) Z') : zE 167 0 (zent 167 [zR 63, zI t, zI i]) [] Z Q := by
  show zE 167 0 [some (zR 63), some (zI t), some (zI i), none] [] Z Q
  have hM0 := hM
  obtain ⟨n0, n6, mc, mr, me, mρ, meR, mρR⟩ := hM
  have msr := zsum_range mr
  have hp6 := zpow6 n6
  have hwi := fun k => zwI_in (zWh ρ n c e k)
  refine ze_iload_n kc_167_0 rfl ?_
  refine zE_calls 1 kc_167_1 rfl rfl (Nat.le_of_ble_eq_true rfl) (Nat.le_of_ble_eq_true rfl) (Nat.le_of_ble_eq_true rfl) rfl ?_
  refine m_isTapeM (by omega) (fun g1 => ?_) (fun g1 => ?_)
  · simp only [Option.toList_some, Option.toList_none, List.drop_succ_cons, List.drop_zero, List.cons_append, List.nil_append]
    refine ze_if_ne kc_167_4 (by decide) (fun _ => ?_) (fun q => absurd q (by decide))
    refine ze_aload_n kc_167_9 rfl ?_
    refine zE_callv 1 kc_167_10 rfl rfl (Nat.le_of_ble_eq_true rfl) (Nat.le_of_ble_eq_true rfl) (Nat.le_of_ble_eq_true rfl) rfl (by decide +kernel) rfl ?_
    refine m_readyM hM0 (fun g10 => ?_) (fun g10 => ?_)
    · simp only [Option.toList_some, Option.toList_none, List.drop_succ_cons, List.drop_zero, List.cons_append, List.nil_append]
      refine ze_if_ne kc_167_13 (by decide) (fun _ => ?_) (fun q => absurd q (by decide))
      obtain ⟨κ, rfl⟩ := Int.eq_ofNat_of_zero_le (show 0 ≤ t by omega)
      have hκ : κ < 6 := by omega
      have hTκ := ztp_T κ hκ
      have hIκ := ztp_0 κ hκ
      have hWκ := ztp_W κ hκ
      obtain ⟨x1κ, x2κ, x3κ⟩ := hP.1 κ hκ
      obtain ⟨y1κ, y2κ, y3κ, y4κ⟩ := hP.2 κ hκ
      refine ze_aload_n kc_167_19 rfl ?_
      refine ze_getR kc_167_20 rfl rfl rfl ?_
      refine ze_iload_n kc_167_23 rfl ?_
      refine ze_iald kc_167_24 rfl (by omega) ?_
      rw [Int.toNat_natCast, x1κ]
      refine ze_if_lt kc_167_25 (by omega) (fun h25 => ?_) (fun h25 => ?_)
      · skip
        have hJR : ∃ J, J = oJudge n c e ρ P κ i ∧ ((P.1 κ = -1 ∨ i < 0) → J = 100) ∧ (∀ ι : Nat, i = ι → ¬ P.1 κ = -1 → J = (zJg (P.2.1 κ) (P.2.2 κ) (fun k => zwI (zWh ρ n c e k)) ι n 0)) := by
          have z : ¬ (¬ P.1 κ = 3 ∧ ¬ P.1 κ = -1) := by omega
          refine ⟨_, rfl, fun z2 => (if_neg (by omega)).trans ((if_neg (by omega)).trans ((if_neg z).trans (if_pos z2))), fun ι hι z2 => ?_⟩
          subst hι
          exact (if_neg (by omega)).trans ((if_neg (by omega)).trans ((if_neg z).trans (if_neg (fun q => q.elim z2 (by omega)))))
        obtain ⟨J, hJ, hJ1, hJ2⟩ := hJR
        rw [← hJ] at q1
        refine ze_iconst kc_167_41 ?_
        refine ze_istore_n kc_167_42 (Nat.le_of_ble_eq_true rfl) ?_
        simp only [zset1, zset2, zcut, zf0, zf1, zf2, zf3, List.set_cons_zero, List.set_cons_succ, List.getD_cons_zero, List.getD_cons_succ]
        have loop43 : ∀ (μ : Nat) (k : Nat) (x : Int) (Zc : zMem), n - k = μ → (k ≤ n) → (x = k) → ((P.1 κ = -1 ∨ i < 0) → k = 0) → (∀ ι : Nat, i = ι → ¬ P.1 κ = -1 → zJg (P.2.1 κ) (P.2.2 κ) (fun k => zwI (zWh ρ n c e k)) ι (n - k) k = J) → (zFm Z Zc) → zE 167 43 [some (zR 63), some (zI (κ : Nat)), some (zI i), some (zI x)] [] Zc Q := by
          refine zind ?_
          intro μ ih k x Zc hm hk hx hz hR0 hq
          subst hx
          have hM2 := zMo_fm hM0 hq
          obtain ⟨p1, p2, p3⟩ := (zTpM_same hP (hq.1 76 (by decide) (by decide)) (hq.1 77 (by decide) (by decide)) (hq.1 78 (by decide) (by decide))).1 κ hκ
          refine ze_iload_n kc_167_43 rfl ?_
          refine ze_aload_n kc_167_44 rfl ?_
          refine ze_getI kc_167_45 rfl (by decide) ?_
          rw [hM2.1]
          refine ze_icmp_ge kc_167_48 (by omega) (by omega) (fun h48 => ?_) (fun h48 => ?_)
          · skip
            refine ze_bipush kc_167_120 ?_
            refine ze_ireturn kc_167_122 (Or.inl rfl) ?_
            obtain ⟨ι, rfl⟩ := Int.eq_ofNat_of_zero_le (show 0 ≤ i by omega)
            have hR := hR0 ι rfl (by omega)
            rw [show n - k = 0 by omega] at hR
            rw [← hR] at q1
            exact q1 _ (zFq_fm hq)
          · skip
            refine ze_aload_n kc_167_51 rfl ?_
            refine ze_getR kc_167_52 rfl rfl rfl ?_
            refine ze_iload_n kc_167_55 rfl ?_
            refine ze_iald kc_167_56 rfl (by omega) ?_
            rw [Int.toNat_natCast, p1]
            refine ze_if_lt kc_167_57 (by omega) (fun h57 => ?_) (fun h57 => ?_)
            · skip
              refine ze_bipush kc_167_80 ?_
              refine ze_iload_n kc_167_82 rfl ?_
              refine ze_iadd kc_167_83 ?_
              refine ze_ireturn kc_167_84 (Or.inl rfl) ?_
              first
                | (have e := hJ1 (by omega)
                   have e2 := hz (by omega)
                   rw [e2]
                   rw [e] at q1
                   exact q1 _ (zFq_fm hq))
                | (rw [zJg_out (by omega) (by omega)] at hR
                   rw [← hR] at q1
                   exact q1 _ (zFq_fm hq))
            · skip
              refine ze_iload_n kc_167_60 rfl ?_
              refine ze_if_lt kc_167_61 (by omega) (fun h61 => ?_) (fun h61 => ?_)
              · skip
                refine ze_bipush kc_167_80 ?_
                refine ze_iload_n kc_167_82 rfl ?_
                refine ze_iadd kc_167_83 ?_
                refine ze_ireturn kc_167_84 (Or.inl rfl) ?_
                first
                  | (have e := hJ1 (by omega)
                     have e2 := hz (by omega)
                     rw [e2]
                     rw [e] at q1
                     exact q1 _ (zFq_fm hq))
                  | (rw [zJg_out (by omega) (by omega)] at hR
                     rw [← hR] at q1
                     exact q1 _ (zFq_fm hq))
              · skip
                obtain ⟨ι, rfl⟩ := Int.eq_ofNat_of_zero_le (show 0 ≤ i by omega)
                have hR := hR0 ι rfl (by omega)
                refine ze_iload_n kc_167_64 rfl ?_
                refine ze_i2l kc_167_65 (by omega) ?_
                refine ze_iload_n kc_167_66 rfl ?_
                refine ze_i2l kc_167_67 (by omega) ?_
                refine ze_ladd kc_167_68 ?_
                refine ze_aload_n kc_167_69 rfl ?_
                refine ze_getR kc_167_70 rfl rfl rfl ?_
                refine ze_iload_n kc_167_73 rfl ?_
                refine ze_iald kc_167_74 rfl (by omega) ?_
                rw [Int.toNat_natCast, p2]
                refine ze_i2l kc_167_75 (by omega) ?_
                refine ze_lcmp_lt kc_167_76 kc_167_77 (by omega) (by omega) (fun h76 => ?_) (fun h76 => ?_)
                · skip
                  refine ze_aload_n kc_167_85 rfl ?_
                  refine ze_getR kc_167_86 rfl rfl rfl ?_
                  refine ze_bipush kc_167_89 ?_
                  refine ze_iload_n kc_167_91 rfl ?_
                  refine ze_imul kc_167_92 ?_
                  refine ze_iload_n kc_167_93 rfl ?_
                  refine ze_iadd kc_167_94 ?_
                  refine ze_iload_n kc_167_95 rfl ?_
                  refine ze_iadd kc_167_96 ?_
                  rw [show 60 * (κ : Int) + (ι : Int) + (k : Int) = ((60 * κ + ι + k : Nat) : Int) by omega]
                  refine ze_lald kc_167_97 rfl (by omega) ?_
                  try rw [Int.toNat_natCast]
                  rw [Nat.add_assoc (60 * κ) ι k, p3 (ι + k) (by omega)]
                  refine ze_aload_n kc_167_98 rfl ?_
                  refine ze_aload_n kc_167_99 rfl ?_
                  refine ze_getI kc_167_100 rfl (by decide) ?_
                  rw [hM2.2.2.2.2.2.1]
                  refine ze_iload_n kc_167_103 rfl ?_
                  refine zE_callv 3 kc_167_104 rfl rfl (Nat.le_of_ble_eq_true rfl) (Nat.le_of_ble_eq_true rfl) (Nat.le_of_ble_eq_true rfl) rfl (by decide +kernel) rfl ?_
                  refine m_cutOf hM2 (by omega) (by omega) (by omega) (fun Z3 f1 => ?_)
                  simp only [Option.toList_some, Option.toList_none, List.drop_succ_cons, List.drop_zero, List.cons_append, List.nil_append]
                  refine ze_i2lw kc_167_107 ?_
                  have hwk := hwi k
                  unfold zwI at hwk
                  have hyk := y4κ (ι + k) (by omega)
                  refine ze_lcmp_eq kc_167_108 kc_167_109 (by omega) (by omega) (fun h108 => ?_) (fun h108 => ?_)
                  · skip
                    refine ze_iinc kc_167_114 rfl ?_
                    simp only [zset1, zset2, zcut, zf0, zf1, zf2, zf3, List.set_cons_zero, List.set_cons_succ, List.getD_cons_zero, List.getD_cons_succ]
                    refine ze_goto kc_167_117 ?_
                    refine ih _ (by omega) (k + 1) _ _ rfl (by omega) (by omega) (fun q => by omega) (fun ι2 a b => by
                        have e : ι2 = ι := by omega
                        subst e
                        rw [← hR, zJg_next (m := n - k) (k := k) (by omega) (by omega) h108, show n - (k + 1) = n - k - 1 by omega]) (zFm_trans hq f1)
                  · skip
                    refine ze_iload_n kc_167_112 rfl ?_
                    refine ze_ireturn kc_167_113 (Or.inl rfl) ?_
                    rw [zJg_no (by omega) (by omega) h108] at hR
                    rw [← hR] at q1
                    exact q1 _ (zFq_fm (zFm_trans hq f1))
                · skip
                  refine ze_bipush kc_167_80 ?_
                  refine ze_iload_n kc_167_82 rfl ?_
                  refine ze_iadd kc_167_83 ?_
                  refine ze_ireturn kc_167_84 (Or.inl rfl) ?_
                  first
                    | (have e := hJ1 (by omega)
                       have e2 := hz (by omega)
                       rw [e2]
                       rw [e] at q1
                       exact q1 _ (zFq_fm hq))
                    | (rw [zJg_out (by omega) (by omega)] at hR
                       rw [← hR] at q1
                       exact q1 _ (zFq_fm hq))
        refine loop43 _ 0 0 Z rfl (by omega) rfl (fun _ => rfl) (fun ι a b => (hJ2 ι a b).symm) zFm_refl
      · skip
        refine ze_aload_n kc_167_28 rfl ?_
        refine ze_getR kc_167_29 rfl rfl rfl ?_
        refine ze_iload_n kc_167_32 rfl ?_
        refine ze_iald kc_167_33 rfl (by omega) ?_
        rw [Int.toNat_natCast, x1κ]
        refine ze_iconst kc_167_34 ?_
        refine ze_icmp_eq kc_167_35 (by omega) (by omega) (fun h35 => ?_) (fun h35 => ?_)
        · skip
          have hJR : ∃ J, J = oJudge n c e ρ P κ i ∧ ((P.1 κ = -1 ∨ i < 0) → J = 100) ∧ (∀ ι : Nat, i = ι → ¬ P.1 κ = -1 → J = (zJg (P.2.1 κ) (P.2.2 κ) (fun k => zwI (zWh ρ n c e k)) ι n 0)) := by
            have z : ¬ (¬ P.1 κ = 3 ∧ ¬ P.1 κ = -1) := by omega
            refine ⟨_, rfl, fun z2 => (if_neg (by omega)).trans ((if_neg (by omega)).trans ((if_neg z).trans (if_pos z2))), fun ι hι z2 => ?_⟩
            subst hι
            exact (if_neg (by omega)).trans ((if_neg (by omega)).trans ((if_neg z).trans (if_neg (fun q => q.elim z2 (by omega)))))
          obtain ⟨J, hJ, hJ1, hJ2⟩ := hJR
          rw [← hJ] at q1
          refine ze_iconst kc_167_41 ?_
          refine ze_istore_n kc_167_42 (Nat.le_of_ble_eq_true rfl) ?_
          simp only [zset1, zset2, zcut, zf0, zf1, zf2, zf3, List.set_cons_zero, List.set_cons_succ, List.getD_cons_zero, List.getD_cons_succ]
          have loop43 : ∀ (μ : Nat) (k : Nat) (x : Int) (Zc : zMem), n - k = μ → (k ≤ n) → (x = k) → ((P.1 κ = -1 ∨ i < 0) → k = 0) → (∀ ι : Nat, i = ι → ¬ P.1 κ = -1 → zJg (P.2.1 κ) (P.2.2 κ) (fun k => zwI (zWh ρ n c e k)) ι (n - k) k = J) → (zFm Z Zc) → zE 167 43 [some (zR 63), some (zI (κ : Nat)), some (zI i), some (zI x)] [] Zc Q := by
            refine zind ?_
            intro μ ih k x Zc hm hk hx hz hR0 hq
            subst hx
            have hM2 := zMo_fm hM0 hq
            obtain ⟨p1, p2, p3⟩ := (zTpM_same hP (hq.1 76 (by decide) (by decide)) (hq.1 77 (by decide) (by decide)) (hq.1 78 (by decide) (by decide))).1 κ hκ
            refine ze_iload_n kc_167_43 rfl ?_
            refine ze_aload_n kc_167_44 rfl ?_
            refine ze_getI kc_167_45 rfl (by decide) ?_
            rw [hM2.1]
            refine ze_icmp_ge kc_167_48 (by omega) (by omega) (fun h48 => ?_) (fun h48 => ?_)
            · skip
              refine ze_bipush kc_167_120 ?_
              refine ze_ireturn kc_167_122 (Or.inl rfl) ?_
              obtain ⟨ι, rfl⟩ := Int.eq_ofNat_of_zero_le (show 0 ≤ i by omega)
              have hR := hR0 ι rfl (by omega)
              rw [show n - k = 0 by omega] at hR
              rw [← hR] at q1
              exact q1 _ (zFq_fm hq)
            · skip
              refine ze_aload_n kc_167_51 rfl ?_
              refine ze_getR kc_167_52 rfl rfl rfl ?_
              refine ze_iload_n kc_167_55 rfl ?_
              refine ze_iald kc_167_56 rfl (by omega) ?_
              rw [Int.toNat_natCast, p1]
              refine ze_if_lt kc_167_57 (by omega) (fun h57 => ?_) (fun h57 => ?_)
              · skip
                refine ze_bipush kc_167_80 ?_
                refine ze_iload_n kc_167_82 rfl ?_
                refine ze_iadd kc_167_83 ?_
                refine ze_ireturn kc_167_84 (Or.inl rfl) ?_
                first
                  | (have e := hJ1 (by omega)
                     have e2 := hz (by omega)
                     rw [e2]
                     rw [e] at q1
                     exact q1 _ (zFq_fm hq))
                  | (rw [zJg_out (by omega) (by omega)] at hR
                     rw [← hR] at q1
                     exact q1 _ (zFq_fm hq))
              · skip
                refine ze_iload_n kc_167_60 rfl ?_
                refine ze_if_lt kc_167_61 (by omega) (fun h61 => ?_) (fun h61 => ?_)
                · skip
                  refine ze_bipush kc_167_80 ?_
                  refine ze_iload_n kc_167_82 rfl ?_
                  refine ze_iadd kc_167_83 ?_
                  refine ze_ireturn kc_167_84 (Or.inl rfl) ?_
                  first
                    | (have e := hJ1 (by omega)
                       have e2 := hz (by omega)
                       rw [e2]
                       rw [e] at q1
                       exact q1 _ (zFq_fm hq))
                    | (rw [zJg_out (by omega) (by omega)] at hR
                       rw [← hR] at q1
                       exact q1 _ (zFq_fm hq))
                · skip
                  obtain ⟨ι, rfl⟩ := Int.eq_ofNat_of_zero_le (show 0 ≤ i by omega)
                  have hR := hR0 ι rfl (by omega)
                  refine ze_iload_n kc_167_64 rfl ?_
                  refine ze_i2l kc_167_65 (by omega) ?_
                  refine ze_iload_n kc_167_66 rfl ?_
                  refine ze_i2l kc_167_67 (by omega) ?_
                  refine ze_ladd kc_167_68 ?_
                  refine ze_aload_n kc_167_69 rfl ?_
                  refine ze_getR kc_167_70 rfl rfl rfl ?_
                  refine ze_iload_n kc_167_73 rfl ?_
                  refine ze_iald kc_167_74 rfl (by omega) ?_
                  rw [Int.toNat_natCast, p2]
                  refine ze_i2l kc_167_75 (by omega) ?_
                  refine ze_lcmp_lt kc_167_76 kc_167_77 (by omega) (by omega) (fun h76 => ?_) (fun h76 => ?_)
                  · skip
                    refine ze_aload_n kc_167_85 rfl ?_
                    refine ze_getR kc_167_86 rfl rfl rfl ?_
                    refine ze_bipush kc_167_89 ?_
                    refine ze_iload_n kc_167_91 rfl ?_
                    refine ze_imul kc_167_92 ?_
                    refine ze_iload_n kc_167_93 rfl ?_
                    refine ze_iadd kc_167_94 ?_
                    refine ze_iload_n kc_167_95 rfl ?_
                    refine ze_iadd kc_167_96 ?_
                    rw [show 60 * (κ : Int) + (ι : Int) + (k : Int) = ((60 * κ + ι + k : Nat) : Int) by omega]
                    refine ze_lald kc_167_97 rfl (by omega) ?_
                    try rw [Int.toNat_natCast]
                    rw [Nat.add_assoc (60 * κ) ι k, p3 (ι + k) (by omega)]
                    refine ze_aload_n kc_167_98 rfl ?_
                    refine ze_aload_n kc_167_99 rfl ?_
                    refine ze_getI kc_167_100 rfl (by decide) ?_
                    rw [hM2.2.2.2.2.2.1]
                    refine ze_iload_n kc_167_103 rfl ?_
                    refine zE_callv 3 kc_167_104 rfl rfl (Nat.le_of_ble_eq_true rfl) (Nat.le_of_ble_eq_true rfl) (Nat.le_of_ble_eq_true rfl) rfl (by decide +kernel) rfl ?_
                    refine m_cutOf hM2 (by omega) (by omega) (by omega) (fun Z3 f1 => ?_)
                    simp only [Option.toList_some, Option.toList_none, List.drop_succ_cons, List.drop_zero, List.cons_append, List.nil_append]
                    refine ze_i2lw kc_167_107 ?_
                    have hwk := hwi k
                    unfold zwI at hwk
                    have hyk := y4κ (ι + k) (by omega)
                    refine ze_lcmp_eq kc_167_108 kc_167_109 (by omega) (by omega) (fun h108 => ?_) (fun h108 => ?_)
                    · skip
                      refine ze_iinc kc_167_114 rfl ?_
                      simp only [zset1, zset2, zcut, zf0, zf1, zf2, zf3, List.set_cons_zero, List.set_cons_succ, List.getD_cons_zero, List.getD_cons_succ]
                      refine ze_goto kc_167_117 ?_
                      refine ih _ (by omega) (k + 1) _ _ rfl (by omega) (by omega) (fun q => by omega) (fun ι2 a b => by
                          have e : ι2 = ι := by omega
                          subst e
                          rw [← hR, zJg_next (m := n - k) (k := k) (by omega) (by omega) h108, show n - (k + 1) = n - k - 1 by omega]) (zFm_trans hq f1)
                    · skip
                      refine ze_iload_n kc_167_112 rfl ?_
                      refine ze_ireturn kc_167_113 (Or.inl rfl) ?_
                      rw [zJg_no (by omega) (by omega) h108] at hR
                      rw [← hR] at q1
                      exact q1 _ (zFq_fm (zFm_trans hq f1))
                  · skip
                    refine ze_bipush kc_167_80 ?_
                    refine ze_iload_n kc_167_82 rfl ?_
                    refine ze_iadd kc_167_83 ?_
                    refine ze_ireturn kc_167_84 (Or.inl rfl) ?_
                    first
                      | (have e := hJ1 (by omega)
                         have e2 := hz (by omega)
                         rw [e2]
                         rw [e] at q1
                         exact q1 _ (zFq_fm hq))
                      | (rw [zJg_out (by omega) (by omega)] at hR
                         rw [← hR] at q1
                         exact q1 _ (zFq_fm hq))
          refine loop43 _ 0 0 Z rfl (by omega) rfl (fun _ => rfl) (fun ι a b => (hJ2 ι a b).symm) zFm_refl
        · skip
          refine ze_bipush kc_167_38 ?_
          refine ze_ireturn kc_167_40 (Or.inl rfl) ?_
          have z : ¬ P.1 κ = 3 ∧ ¬ P.1 κ = -1 := by omega
          rw [show oJudge n c e ρ P κ i = -12 from (if_neg (by omega)).trans ((if_neg (by omega)).trans (if_pos z))] at q1
          exact q1 _ zFq_refl
    · simp only [Option.toList_some, Option.toList_none, List.drop_succ_cons, List.drop_zero, List.cons_append, List.nil_append]
      refine ze_if_ne kc_167_13 (by decide) (fun q => absurd q (by decide)) (fun _ => ?_)
      refine ze_bipush kc_167_16 ?_
      refine ze_ireturn kc_167_18 (Or.inl rfl) ?_
      rw [show oJudge n c e ρ P t i = -3 from (if_neg (by omega)).trans (if_pos (by omega))] at q1
      exact q1 _ zFq_refl
  · simp only [Option.toList_some, Option.toList_none, List.drop_succ_cons, List.drop_zero, List.cons_append, List.nil_append]
    refine ze_if_ne kc_167_4 (by decide) (fun q => absurd q (by decide)) (fun _ => ?_)
    refine ze_iconst kc_167_7 ?_
    refine ze_ireturn kc_167_8 (Or.inl rfl) ?_
    rw [show oJudge n c e ρ P t i = -1 from if_pos (by omega)] at q1
    exact q1 _ zFq_refl
