/-! THE BITS of a number, by halving and doubling -/
theorem zdp_fin {x : UInt64} (h : x.toNat < 9218868437227405312) : FP.Core.DFin x := (FP.Core.fin_bits x).mpr (by omega)
theorem zdp_nan {x : UInt64} (h : FP.Core.dIsNaN x = false) : x &&& 0x7fffffffffffffff ≤ 0x7ff0000000000000 := by
  have h1 := (FP.Core.ne_nan x).mp ((FP.Core.notNaN_iff x).mp h)
  rw [UInt64.le_iff_toNat_le, FP.Core.mask_toNat]
  exact h1
theorem zdp_ok {x : UInt64} (h : x.toNat < 9218868437227405312) : x &&& 0x7fffffffffffffff ≤ 0x7ff0000000000000 := zdp_nan (zdp_fin h).notNaN
theorem zdp_sgn {x : UInt64} {s : Bool} {c : Nat} {q : Int} (h : x.toNat < 9218868437227405312) (hx : FP.Core.val64 x = .fin s c q) : s = false := by
  have := FP.Core.sgn_bits (a := x) (by rw [hx]; exact FP.Core.Datum.noConfusion)
  rw [hx, decide_eq_false (by omega)] at this
  exact this
def zu (x : UInt64) : Nat := FP.Core.unitsOf FP.Core.b64 x.toNat
theorem zu_val {x : UInt64} {c : Nat} {q : Int} (h : x.toNat < 9218868437227405312) (hx : FP.Core.val64 x = .fin false c q) : zu x = FP.Core.inUnits c q FP.Core.b64.qmin := by
  have := FP.Core.zmag_bits (a := x) (by rw [hx]; exact FP.Core.Datum.noConfusion)
  rw [hx, Nat.mod_eq_of_lt (by omega)] at this
  exact this.symm
theorem zdp_of {r : UInt64} {c : Nat} {q : Int} (hr : FP.Core.val64 r = .fin false c q) : r.toNat < 9218868437227405312 := by
  have hn : FP.Core.val64 r ≠ .nan := by rw [hr]; exact FP.Core.Datum.noConfusion
  have hs := FP.Core.sgn_bits hn
  rw [hr] at hs
  have hlt : ¬ 2 ^ 63 ≤ r.toNat := of_decide_eq_false hs.symm
  have := (FP.Core.fin_bits r).mp ⟨false, c, q, hr⟩
  omega
theorem zdc_gt {x w : UInt64} (hx : x.toNat < 9218868437227405312) (hw : w.toNat < 9218868437227405312) : zdc .gt .g x w = decide (w.toNat < x.toNat) := by
  obtain ⟨h1, h2, h3⟩ := FP.Core.mono_bits (zdp_fin hx).ne_nan (zdp_fin hw).ne_nan (by omega) (by omega)
  unfold zdc
  rcases Nat.lt_trichotomy x.toNat w.toNat with h | h | h
  · rw [show FP.dcmp x w = some .lt from h1.mpr h, decide_eq_false (by omega)]; rfl
  · rw [show FP.dcmp x w = some .eq from h2.mpr h, decide_eq_false (by omega)]; rfl
  · rw [show FP.dcmp x w = some .gt from h3.mpr h, decide_eq_true (by omega)]; rfl
theorem zdc_lt {x w : UInt64} (hx : x.toNat < 9218868437227405312) (hw : w.toNat < 9218868437227405312) : zdc .lt .l x w = decide (x.toNat < w.toNat) := by
  obtain ⟨h1, h2, h3⟩ := FP.Core.mono_bits (zdp_fin hx).ne_nan (zdp_fin hw).ne_nan (by omega) (by omega)
  unfold zdc
  rcases Nat.lt_trichotomy x.toNat w.toNat with h | h | h
  · rw [show FP.dcmp x w = some .lt from h1.mpr h, decide_eq_true (by omega)]; rfl
  · rw [show FP.dcmp x w = some .eq from h2.mpr h, decide_eq_false (by omega)]; rfl
  · rw [show FP.dcmp x w = some .gt from h3.mpr h, decide_eq_false (by omega)]; rfl
theorem zdc_ge {x w : UInt64} (hx : x.toNat < 9218868437227405312) (hw : w.toNat < 9218868437227405312) : zdc .ge .g x w = decide (w.toNat ≤ x.toNat) := by
  obtain ⟨h1, h2, h3⟩ := FP.Core.mono_bits (zdp_fin hx).ne_nan (zdp_fin hw).ne_nan (by omega) (by omega)
  unfold zdc
  rcases Nat.lt_trichotomy x.toNat w.toNat with h | h | h
  · rw [show FP.dcmp x w = some .lt from h1.mpr h, decide_eq_false (by omega)]; rfl
  · rw [show FP.dcmp x w = some .eq from h2.mpr h, decide_eq_true (by omega)]; rfl
  · rw [show FP.dcmp x w = some .gt from h3.mpr h, decide_eq_true (by omega)]; rfl
theorem zdc_le {x w : UInt64} (hx : x.toNat < 9218868437227405312) (hw : w.toNat < 9218868437227405312) : zdc .le .l x w = decide (x.toNat ≤ w.toNat) := by
  obtain ⟨h1, h2, h3⟩ := FP.Core.mono_bits (zdp_fin hx).ne_nan (zdp_fin hw).ne_nan (by omega) (by omega)
  unfold zdc
  rcases Nat.lt_trichotomy x.toNat w.toNat with h | h | h
  · rw [show FP.dcmp x w = some .lt from h1.mpr h, decide_eq_true (by omega)]; rfl
  · rw [show FP.dcmp x w = some .eq from h2.mpr h, decide_eq_true (by omega)]; rfl
  · rw [show FP.dcmp x w = some .gt from h3.mpr h, decide_eq_false (by omega)]; rfl
theorem zu_lt {x w : UInt64} : zu x < zu w ↔ x.toNat < w.toNat := FP.Core.unitsOf_lt_iff
def zd2 : UInt64 := UInt64.ofNat (4611686018427387904 : Int).toNat
def zdh : UInt64 := UInt64.ofNat (4602678819172646912 : Int).toNat
theorem zd2_v : FP.Core.val64 zd2 = .fin false (2 ^ 52) (1 - 52) ∧ zd2.toNat = 4611686018427387904 ∧ zu zd2 = 2 ^ 1075 := by decide +kernel
theorem zdh_v : FP.Core.val64 zdh = .fin false (2 ^ 52) (-1 - 52) := by decide +kernel
theorem zd1_v : FP.dconst1.toNat = 4607182418800017408 ∧ zu FP.dconst1 = 2 ^ 1074 := by decide +kernel
/-- times a power of two -/
theorem zdp_mul {s p : UInt64} {j : Int} {c : Nat} {q : Int} (hs : FP.Core.val64 s = .fin false c q) (hp : FP.Core.val64 p = .fin false (2 ^ 52) (j - 52)) (h1 : -1074 ≤ q + j) (h2 : q + j ≤ 971) : (FP.dmul s p).toNat < 9218868437227405312 ∧ zu (FP.dmul s p) = c * 2 ^ (q + j + 1074).toNat := by
  have hv := FP.Core.val64_dmul s p
  have hc := FP.Core.val64_fits s
  rw [hs] at hc
  rw [hs, hp] at hv
  have hr : FP.Core.round FP.Core.b64 (FP.Core.exactProduct (.fin false c q) (.fin false (2 ^ 52) (j - 52))) = FP.Core.round FP.Core.b64 (.fin false c (q + j)) := by
    show FP.Core.roundRatio FP.Core.b64 (false != false) (c * 2 ^ 52) 1 (q + (j - 52)) = FP.Core.roundRatio FP.Core.b64 false c 1 (q + j)
    refine FP.Core.roundRatio_congr (by decide) (by decide) ?_
    rw [show (q + (j - 52) - (q + j)).toNat = 0 by omega, show (q + j - (q + (j - 52))).toNat = 52 by omega]
    omega
  rw [hr] at hv
  obtain ⟨c', q', e1, e2⟩ := FP.Core.round_exact FP.Core.good_b64 false (c := c) (q := q + j) hc.1 (by rw [FP.Core.qmin_b64]; exact h1) (by show q + j ≤ 971; exact h2)
  rw [e1] at hv
  have hlt := zdp_of hv
  refine ⟨hlt, ?_⟩
  have hz := zu_val hlt hv
  rw [e2] at hz
  show zu (FP.Core.dmul s p) = _
  rw [hz]
  unfold FP.Core.inUnits
  rw [FP.Core.qmin_b64, show q + j - (-1074) = q + j + 1074 by omega]
theorem zds {s : UInt64} (h : s.toNat < 9218868437227405312) : ∃ c q, FP.Core.val64 s = .fin false c q ∧ zu s = c * 2 ^ (q + 1074).toNat ∧ c < 2 ^ 53 ∧ -1074 ≤ q ∧ q ≤ 971 ∧ (q = -1074 ∨ 1 ≤ c) := by
  obtain ⟨sg, c, q, hX⟩ := zdp_fin h
  have hs := zdp_sgn h hX
  subst hs
  have hf := FP.Core.val64_fits s
  rw [hX] at hf
  refine ⟨c, q, hX, ?_, hf.1, hf.2.1, hf.2.2.1, ?_⟩
  · rw [zu_val h hX]
    unfold FP.Core.inUnits
    rw [FP.Core.qmin_b64, show q - (-1074) = q + 1074 by omega]
  · rcases hf.2.2.2 with g | g
    · exact Or.inl g
    · refine Or.inr ?_
      have : FP.Core.b64.tails = 2 ^ 52 := FP.Core.tails_b64
      omega
theorem zds_half {s : UInt64} (h : s.toNat < 9218868437227405312) (h2 : 2 ^ 1075 ≤ zu s) : (FP.dmul s zdh).toNat < 9218868437227405312 ∧ zu (FP.dmul s zdh) * 2 = zu s := by
  obtain ⟨c, q, hX, hu, hc, q1, q2, hq⟩ := zds h
  have hq3 : -1074 < q := by
    rcases Int.lt_or_le (-1074) q with g | g
    · exact g
    · exfalso
      rw [hu, show (q + 1074).toNat = 0 by omega, Nat.pow_zero, Nat.mul_one] at h2
      have := Nat.pow_le_pow_right (show 0 < 2 by decide) (show 53 ≤ 1075 by decide)
      omega
  obtain ⟨a, b⟩ := zdp_mul hX zdh_v (by omega) (by omega)
  refine ⟨a, ?_⟩
  rw [b, hu, show (q + 1074).toNat = (q + -1 + 1074).toNat + 1 by omega, Nat.pow_succ, Nat.mul_assoc]
theorem zds_q {c : Nat} {q : Int} (h : c * 2 ^ (q + 1074).toNat < 2 ^ 1075) (q1 : -1074 ≤ q) (hq : q = -1074 ∨ 1 ≤ c) : q ≤ 0 := by
  rcases Int.lt_or_le 0 q with g | g
  · exfalso
    rcases hq with g2 | g2
    · omega
    · have h1 := Nat.mul_le_mul_right (2 ^ (q + 1074).toNat) g2
      rw [Nat.one_mul] at h1
      have h2 := Nat.pow_le_pow_right (show 0 < 2 by decide) (show 1075 ≤ (q + 1074).toNat by omega)
      exact absurd (Nat.lt_of_lt_of_le (Nat.lt_of_le_of_lt h1 h) h2) (Nat.lt_irrefl _)
  · exact g
theorem zds_two {s : UInt64} (h : s.toNat < 9218868437227405312) (h2 : zu s < 2 ^ 1074) : (FP.dmul s zd2).toNat < 9218868437227405312 ∧ zu (FP.dmul s zd2) = zu s * 2 := by
  obtain ⟨c, q, hX, hu, hc, q1, q2, hq⟩ := zds h
  have q3 := zds_q (by rw [← hu]; exact Nat.lt_trans h2 (Nat.pow_lt_pow_right (by decide) (by decide))) q1 hq
  obtain ⟨a, b⟩ := zdp_mul hX zd2_v.1 (by omega) (by omega)
  refine ⟨a, ?_⟩
  rw [b, hu, show (q + 1 + 1074).toNat = (q + 1074).toNat + 1 by omega, Nat.pow_succ, Nat.mul_assoc]
theorem zds_up {s p : UInt64} {g : Nat} (h : s.toNat < 9218868437227405312) (h2 : zu s < 2 ^ 1075) (hg : g ≤ 52) (hp : FP.Core.val64 p = .fin false (2 ^ 52) ((g : Int) - 52)) : (FP.dmul s p).toNat < 9218868437227405312 ∧ zu (FP.dmul s p) = zu s * 2 ^ g := by
  obtain ⟨c, q, hX, hu, hc, q1, q2, hq⟩ := zds h
  have q3 := zds_q (by rw [← hu]; exact h2) q1 hq
  obtain ⟨a, b⟩ := zdp_mul hX hp (by omega) (by omega)
  refine ⟨a, ?_⟩
  rw [b, hu, show (q + (g : Int) + 1074).toNat = (q + 1074).toNat + g by omega, Nat.pow_add, Nat.mul_assoc]
theorem zds_int {r : UInt64} (h : r.toNat < 9218868437227405312) (h2 : zu r / 2 ^ 1074 < 2 ^ 63) : (FP.d2l r).toInt = ((zu r / 2 ^ 1074 : Nat) : Int) := by
  have hn := (zdp_fin h).ne_nan
  have e := FP.Core.d2l_val hn
  rw [FP.Core.sgn_bits hn, decide_eq_false (by omega), FP.Core.zmag_bits hn, Nat.mod_eq_of_lt (by omega)] at e
  have e2 : (FP.d2l r).toInt = max (-2 ^ 63) (min (2 ^ 63 - 1) ((zu r / 2 ^ 1074 : Nat) : Int)) := e
  rw [e2]
  generalize zu r / 2 ^ 1074 = m at *
  omega
/-- the end: exponent and digits told apart -/
theorem zbt_end {f : FP.Core.Fmt} {g b c0 X e σ N : Nat} (hf : f.tails = 2 ^ g) (hsum : c0 + (b - 1) + g = 1074) (hb : 1 ≤ b) (he : 1 ≤ e) (hσ : σ * 2 ^ e = FP.Core.unitsOf f X * 2 ^ c0 * 2 ^ b) (h2 : σ < 2 ^ 1075) (hA : 2 ^ 1074 ≤ σ ∨ e = 1) (hN : N = σ * 2 ^ g / 2 ^ 1074) : e * 2 ^ g + N = X + 2 ^ g := by
  have hP : 0 < 2 ^ 1074 := Nat.two_pow_pos _
  have hD : 0 < 2 ^ g := Nat.two_pow_pos _
  have key : σ * 2 ^ g * 2 ^ (e - 1) = FP.Core.unitsOf f X * 2 ^ 1074 := by
    have h3 : σ * 2 ^ e * 2 ^ g = FP.Core.unitsOf f X * 2 ^ c0 * 2 ^ b * 2 ^ g := by rw [hσ]
    have e1 : 2 ^ e = 2 ^ (e - 1) * 2 := by rw [← Nat.pow_succ]; congr 1; omega
    have e2 : 2 ^ c0 * 2 ^ b * 2 ^ g = 2 ^ 1074 * 2 := by
      rw [← Nat.pow_add, ← Nat.pow_add, ← Nat.pow_succ]; congr 1; omega
    have h4 : σ * 2 ^ g * 2 ^ (e - 1) * 2 = FP.Core.unitsOf f X * 2 ^ 1074 * 2 := by
      calc σ * 2 ^ g * 2 ^ (e - 1) * 2 = σ * (2 ^ (e - 1) * 2) * 2 ^ g := by simp only [Nat.mul_assoc, Nat.mul_comm, Nat.mul_left_comm]
        _ = σ * 2 ^ e * 2 ^ g := by rw [← e1]
        _ = FP.Core.unitsOf f X * (2 ^ c0 * 2 ^ b * 2 ^ g) := by rw [h3]; simp only [Nat.mul_assoc]
        _ = FP.Core.unitsOf f X * 2 ^ 1074 * 2 := by rw [e2, Nat.mul_assoc]
    exact Nat.eq_of_mul_eq_mul_right (by decide) h4
  have hU : FP.Core.unitsOf f X = if X < 2 ^ g then X else (2 ^ g + X % 2 ^ g) * 2 ^ (X / 2 ^ g - 1) := by
    unfold FP.Core.unitsOf
    rw [hf]
  have hdm := Nat.div_add_mod X (2 ^ g)
  have hml := Nat.mod_lt X hD
  by_cases hC : σ < 2 ^ 1074
  · have e1 : e = 1 := by omega
    subst e1
    rw [Nat.sub_self, Nat.pow_zero, Nat.mul_one] at key
    rw [key, Nat.mul_div_cancel _ hP] at hN
    have hlt : FP.Core.unitsOf f X < 2 ^ g := by
      have h5 : σ * 2 ^ g < 2 ^ 1074 * 2 ^ g := Nat.mul_lt_mul_of_pos_right hC hD
      rw [key, Nat.mul_comm (2 ^ 1074)] at h5
      exact Nat.lt_of_mul_lt_mul_right h5
    have hX : X < 2 ^ g := by
      rcases Nat.lt_or_ge X (2 ^ g) with q | q
      · exact q
      · exfalso
        rw [hU, if_neg (by omega)] at hlt
        have h6 := Nat.mul_le_mul (Nat.le_add_right (2 ^ g) (X % 2 ^ g)) (Nat.two_pow_pos (X / 2 ^ g - 1))
        omega
    rw [hU, if_pos hX] at hN
    omega
  · have h1 : 2 ^ 1074 ≤ σ := by omega
    have k1 : 2 ^ g * 2 ^ (e - 1) ≤ FP.Core.unitsOf f X := by
      have := Nat.mul_le_mul_right (2 ^ g * 2 ^ (e - 1)) h1
      rw [← Nat.mul_assoc σ, key, Nat.mul_comm (2 ^ 1074)] at this
      exact Nat.le_of_mul_le_mul_right this hP
    have k2 : FP.Core.unitsOf f X < 2 ^ g * 2 ^ e := by
      have h7 : σ * (2 ^ g * 2 ^ (e - 1)) < 2 ^ 1075 * (2 ^ g * 2 ^ (e - 1)) := Nat.mul_lt_mul_of_pos_right h2 (Nat.mul_pos hD (Nat.two_pow_pos _))
      rw [← Nat.mul_assoc σ, key] at h7
      have e3 : 2 ^ 1075 * (2 ^ g * 2 ^ (e - 1)) = 2 ^ g * 2 ^ e * 2 ^ 1074 := by
        rw [← Nat.pow_add, ← Nat.pow_add, ← Nat.pow_add, ← Nat.pow_add]; congr 1; omega
      rw [e3] at h7
      exact Nat.lt_of_mul_lt_mul_right h7
    have hX : ¬ X < 2 ^ g := fun q => by
      rw [hU, if_pos q] at k1
      have := Nat.mul_le_mul_left (2 ^ g) (Nat.two_pow_pos (e - 1))
      omega
    have hU2 := hU
    rw [if_neg hX] at hU2
    have hE1 : 1 ≤ X / 2 ^ g := (Nat.le_div_iff_mul_le hD).mpr (by omega)
    have hE : X / 2 ^ g = e := by
      rcases Nat.lt_trichotomy (X / 2 ^ g) e with q | q | q
      · exfalso
        have h8 : (2 ^ g + X % 2 ^ g) * 2 ^ (X / 2 ^ g - 1) < 2 ^ g * 2 * 2 ^ (X / 2 ^ g - 1) := Nat.mul_lt_mul_of_pos_right (by omega) (Nat.two_pow_pos _)
        rw [Nat.mul_assoc, Nat.mul_comm 2 (2 ^ (X / 2 ^ g - 1)), show 2 ^ (X / 2 ^ g - 1) * 2 = 2 ^ (X / 2 ^ g - 1 + 1) from rfl] at h8
        have h9 := Nat.mul_le_mul_left (2 ^ g) (Nat.pow_le_pow_right (show 0 < 2 by decide) (show X / 2 ^ g - 1 + 1 ≤ e - 1 by omega))
        omega
      · exact q
      · exfalso
        have h8 := Nat.mul_le_mul_right (2 ^ (X / 2 ^ g - 1)) (Nat.le_add_right (2 ^ g) (X % 2 ^ g))
        have h9 := Nat.mul_le_mul_left (2 ^ g) (Nat.pow_le_pow_right (show 0 < 2 by decide) (show e ≤ X / 2 ^ g - 1 by omega))
        omega
    rw [hE] at hU2 hdm
    have key2 : σ * 2 ^ g = (2 ^ g + X % 2 ^ g) * 2 ^ 1074 := by
      refine Nat.eq_of_mul_eq_mul_right (Nat.two_pow_pos (e - 1)) ?_
      rw [key, hU2]
      simp only [Nat.mul_assoc, Nat.mul_comm, Nat.mul_left_comm]
    rw [key2, Nat.mul_div_cancel _ hP] at hN
    rw [Nat.mul_comm] at hdm
    omega
/-- from floats to doubles -/
theorem zfd_v {x : UInt32} (h : x.toNat < 2139095040) : (FP.f2d x).toNat < 9218868437227405312 ∧ zu (FP.f2d x) = FP.Core.unitsOf FP.Core.b32 x.toNat * 2 ^ 925 := by
  obtain ⟨s, c, q, hX⟩ := zfp_fin h
  have hs := zfp_sgn h hX
  subst hs
  have hf := FP.Core.val32_fits x
  rw [hX] at hf
  have hq1 : FP.Core.b32.qmin = -149 := FP.Core.qmin_b32
  have hz := FP.Core.zmag_bits32 (a := x) (by rw [hX]; exact FP.Core.Datum.noConfusion)
  rw [hX, Nat.mod_eq_of_lt (by omega)] at hz
  have hz2 : c * 2 ^ (q + 149).toNat = FP.Core.unitsOf FP.Core.b32 x.toNat := by
    rw [← hz]
    show _ = c * 2 ^ (q - FP.Core.b32.qmin).toNat
    rw [hq1, show q - (-149) = q + 149 by omega]
  have hv := FP.Core.val64_f2d x
  rw [hX] at hv
  have hc : c < 2 ^ 24 := hf.1
  have hqm : q ≤ 104 := hf.2.2.1
  have hq0 : -149 ≤ q := by rw [← hq1]; exact hf.2.1
  obtain ⟨c', q', e1, e2⟩ := FP.Core.round_exact FP.Core.good_b64 false (c := c) (q := q) (show c < 2 ^ 53 by omega) (by rw [FP.Core.qmin_b64]; omega) (by show q ≤ 971; omega)
  rw [e1] at hv
  have hcore : FP.f2d x = FP.Core.f2d x := FP.f2d_core (zfp_fin h).notNaN
  rw [hcore]
  have hlt := zdp_of hv
  refine ⟨hlt, ?_⟩
  rw [zu_val hlt hv, e2, ← hz2]
  show c * 2 ^ (q - FP.Core.b64.qmin).toNat = _
  rw [FP.Core.qmin_b64, Nat.mul_assoc, ← Nat.pow_add]
  congr 2
  omega
/-- whole numbers divided -/
theorem zdl_v {G : Nat} (h : G < 2 ^ 53) : ∃ c q, FP.Core.val64 (FP.l2d (Int64.ofInt (G : Int))) = .fin false c q ∧ c * 2 ^ (q + 1074).toNat = G * 2 ^ 1074 ∧ -1074 ≤ q := by
  have hv := FP.Core.val64_l2d (Int64.ofInt (G : Int))
  have ht : (Int64.ofInt (G : Int)).toInt = (G : Int) := Int64.toInt_ofInt_of_le (by omega) (by omega)
  rw [ht] at hv
  have ho : FP.Core.ofInt (G : Int) = .fin false G 0 := by
    show FP.Core.Datum.fin (decide ((G : Int) < 0)) (G : Int).natAbs 0 = _
    rw [decide_eq_false (by omega), Int.natAbs_natCast]
  rw [ho] at hv
  obtain ⟨c', q', e1, e2⟩ := FP.Core.round_exact FP.Core.good_b64 false (c := G) (q := 0) h (by rw [FP.Core.qmin_b64]; decide) (by decide)
  rw [e1] at hv
  have hf := FP.Core.val64_fits (FP.Core.l2d (Int64.ofInt (G : Int)))
  rw [hv] at hf
  have hq := hf.2.1
  rw [FP.Core.qmin_b64] at hq
  refine ⟨c', q', hv, ?_, hq⟩
  unfold FP.Core.inUnits at e2
  rw [FP.Core.qmin_b64, show q' - (-1074) = q' + 1074 by omega] at e2
  exact e2
theorem zdv_v {G S : Nat} (hG : G < 2 ^ 53) (hS : 0 < S ∧ S < 2 ^ 53) : FP.Core.val64 (FP.ddiv (FP.l2d (Int64.ofInt (G : Int))) (FP.l2d (Int64.ofInt (S : Int)))) = FP.Core.roundRatio FP.Core.b64 false G S 0 := by
  obtain ⟨c, q, hX, hc, hq⟩ := zdl_v hG
  obtain ⟨d, r, hY, hd, hr⟩ := zdl_v hS.2
  have hP : 0 < 2 ^ 1074 := Nat.two_pow_pos _
  have hd0 : d ≠ 0 := fun h0 => by
    rw [h0, Nat.zero_mul] at hd
    have := Nat.mul_pos hS.1 hP
    omega
  have hv := FP.Core.val64_ddiv (FP.l2d (Int64.ofInt (G : Int))) (FP.l2d (Int64.ofInt (S : Int)))
  rw [hX, hY] at hv
  refine hv.trans ?_
  have hq2 : FP.Core.quotient FP.Core.b64 (.fin false c q) (.fin false d r) = FP.Core.roundRatio FP.Core.b64 (false != false) c d (q - r) := if_neg hd0
  rw [hq2]
  refine FP.Core.roundRatio_congr (by omega) hS.1 ?_
  have h1 : c * S * 2 ^ (q + 1074).toNat = G * d * 2 ^ (r + 1074).toNat := by
    refine Nat.eq_of_mul_eq_mul_right hP ?_
    calc c * S * 2 ^ (q + 1074).toNat * 2 ^ 1074 = (c * 2 ^ (q + 1074).toNat) * (S * 2 ^ 1074) := by simp only [Nat.mul_assoc, Nat.mul_comm, Nat.mul_left_comm]
      _ = (G * 2 ^ 1074) * (d * 2 ^ (r + 1074).toNat) := by rw [hc, hd]
      _ = G * d * 2 ^ (r + 1074).toNat * 2 ^ 1074 := by simp only [Nat.mul_assoc, Nat.mul_comm, Nat.mul_left_comm]
  rcases Int.le_total r q with g | g
  · rw [show (q - r - 0).toNat = (q - r).toNat by omega, show (0 - (q - r)).toNat = 0 by omega, Nat.pow_zero, Nat.mul_one]
    rw [show (q + 1074).toNat = (q - r).toNat + (r + 1074).toNat by omega, Nat.pow_add, ← Nat.mul_assoc] at h1
    exact Nat.eq_of_mul_eq_mul_right (Nat.two_pow_pos _) h1
  · rw [show (q - r - 0).toNat = 0 by omega, Nat.pow_zero, Nat.mul_one]
    rw [show (r + 1074).toNat = (0 - (q - r)).toNat + (q + 1074).toNat by omega, Nat.pow_add, ← Nat.mul_assoc] at h1
    exact Nat.eq_of_mul_eq_mul_right (Nat.two_pow_pos _) h1
/-- the share of one, as a double -/
def zdq (G S : Int) : UInt64 := FP.ddiv (FP.l2d (Int64.ofInt G)) (FP.l2d (Int64.ofInt S))
theorem zdq_eq {G S G' S' : Int} (hG : 0 ≤ G ∧ G < 9007199254740992) (hS : 0 < S ∧ S < 9007199254740992) (hG' : 0 ≤ G' ∧ G' < 9007199254740992) (hS' : 0 < S' ∧ S' < 9007199254740992) (h : G * S' = G' * S) : zdq G S = zdq G' S' := by
  obtain ⟨a, rfl⟩ := Int.eq_ofNat_of_zero_le hG.1
  obtain ⟨b, rfl⟩ := Int.eq_ofNat_of_zero_le (show 0 ≤ S by omega)
  obtain ⟨a', rfl⟩ := Int.eq_ofNat_of_zero_le hG'.1
  obtain ⟨b', rfl⟩ := Int.eq_ofNat_of_zero_le (show 0 ≤ S' by omega)
  have h1 := zdv_v (G := a) (S := b) (by omega) (by omega)
  have h2 := zdv_v (G := a') (S := b') (by omega) (by omega)
  have hn : a * b' = a' * b := by
    have : ((a * b' : Nat) : Int) = ((a' * b : Nat) : Int) := by rw [Int.natCast_mul, Int.natCast_mul]; exact h
    exact Int.ofNat_inj.mp this
  have e : FP.Core.roundRatio FP.Core.b64 false a b 0 = FP.Core.roundRatio FP.Core.b64 false a' b' 0 := FP.Core.roundRatio_congr (by omega) (by omega) (by rw [Int.sub_self, hn])
  refine FP.Core.val64_inj ?_ (h1.trans (e.trans h2.symm))
  exact fun q => FP.Core.roundRatio_ne_nan _ _ _ _ _ (h1.symm.trans q)
theorem zdq_in {G S : Int} (hG : 0 ≤ G ∧ G < 9007199254740992) (hS : 0 < S ∧ S < 9007199254740992) : (zdq G S).toNat % 2 ^ 63 < 1089 * 2 ^ 52 := by
  have ht : (Int64.ofInt S).toInt = S := Int64.toInt_ofInt_of_le (by omega) (by omega)
  have h1 := FP.Core.l2d_mag (Int64.ofInt G)
  have h2 := FP.Core.l2d_big (v := Int64.ofInt S) (by rw [ht]; omega)
  have := FP.Core.ddiv_mag (a := FP.l2d (Int64.ofInt G)) (b := FP.l2d (Int64.ofInt S)) (K := 1088) (L := 1023) h1 h2.1 h2.2 (by decide) (by decide)
  exact this
theorem zdl_ok {G : Int} : FP.l2d (Int64.ofInt G) &&& 0x7fffffffffffffff ≤ 0x7ff0000000000000 := zdp_nan (FP.Core.l2d_notNaN _)
theorem zdq_ok {G S : Int} (hG : 0 ≤ G ∧ G < 9007199254740992) (hS : 0 < S ∧ S < 9007199254740992) : FP.ddiv (FP.l2d (Int64.ofInt G)) (FP.l2d (Int64.ofInt S)) &&& 0x7fffffffffffffff ≤ 0x7ff0000000000000 := zdp_nan (FP.Core.fin_of_lt (zdq_in hG hS) (by decide)).notNaN
/-- how far one is off -/
def zdo (a : UInt32) (G S : Int) : UInt64 := FP.dsub (FP.f2d a) (zdq G S)
theorem zfd_in {a : UInt32} (h : a.toNat ≤ 1114636288) : (FP.f2d a).toNat < 1089 * 2 ^ 52 := by
  obtain ⟨h1, h2⟩ := zfd_v (x := a) (by omega)
  have h3 := zfp_le (show a.toNat ≤ 1149239296 by omega)
  rw [zfp_1024] at h3
  have h4 : zu (FP.f2d a) < zu (UInt64.ofNat (1089 * 2 ^ 52)) := by
    rw [h2]
    have h5 : FP.Core.unitsOf FP.Core.b32 a.toNat * 2 ^ 925 ≤ 1024 * 2 ^ 149 * 2 ^ 925 := Nat.mul_le_mul_right _ h3
    refine Nat.lt_of_le_of_lt h5 ?_
    decide +kernel
  have h6 := zu_lt.mp h4
  rw [show (UInt64.ofNat (1089 * 2 ^ 52)).toNat = 1089 * 2 ^ 52 by decide +kernel] at h6
  exact h6
theorem zdo_in {a : UInt32} {G S : Int} (h : a.toNat ≤ 1114636288) (hG : 0 ≤ G ∧ G < 9007199254740992) (hS : 0 < S ∧ S < 9007199254740992) : (zdo a G S).toNat % 2 ^ 63 < 1091 * 2 ^ 52 := by
  have h1 := zfd_in h
  have h2 := zdq_in hG hS
  have := FP.Core.dsub_mag (a := FP.f2d a) (b := zdq G S) (K := 1089) (by omega) h2 (by decide)
  exact this
theorem zdo_ok {a : UInt32} {G S : Int} (h : a.toNat ≤ 1114636288) (hG : 0 ≤ G ∧ G < 9007199254740992) (hS : 0 < S ∧ S < 9007199254740992) : FP.dsub (FP.f2d a) (zdq G S) &&& 0x7fffffffffffffff ≤ 0x7ff0000000000000 := zdp_nan (FP.Core.fin_of_lt (zdo_in h hG hS) (by decide)).notNaN
/-- the greater one -/
def zab (x : UInt64) : UInt64 := x &&& 0x7fffffffffffffff
theorem zab_v (x : UInt64) : (zab x).toNat = x.toNat % 2 ^ 63 := FP.Core.mask_toNat x
def zpk (w x : UInt64) : UInt64 := Native.java_lang_Math.nans.pick64 true w (zab x)
def zsz (x : UInt64) : UInt64 := if zdc .ge .g x FP.dconst0 = true then x else FP.dneg x
theorem zpk_v {w x : UInt64} (hw : w.toNat < 9218868437227405312) (hx : x.toNat % 2 ^ 63 < 9218868437227405312) : (zpk w x = if w.toNat < (zab x).toNat then zab x else w) ∧ (zpk w x).toNat < 9218868437227405312 := by
  have ha := zab_v x
  have hal : (zab x).toNat < 9218868437227405312 := by omega
  obtain ⟨h1, h2, h3⟩ := FP.Core.mono_bits (zdp_fin hw).ne_nan (zdp_fin hal).ne_nan (by omega) (by omega)
  have hv : zpk w x = if w.toNat < (zab x).toNat then zab x else w := by
    unfold zpk Native.java_lang_Math.nans.pick64
    rcases Nat.lt_trichotomy w.toNat (zab x).toNat with h | h | h
    · rw [show FP.dcmp w (zab x) = some .lt from h1.mpr h, if_pos (show w.toNat < (zab x).toNat from h)]
      rfl
    · rw [show FP.dcmp w (zab x) = some .eq from h2.mpr h, if_neg (show ¬ w.toNat < (zab x).toNat by omega)]
      show (if ((w >>> 63 == 1) == true) = true then zab x else w) = w
      have hs : w >>> 63 = 0 := by
        apply UInt64.toNat.inj
        rw [UInt64.toNat_shiftRight]
        show w.toNat >>> (63 % 64) = 0
        rw [Nat.shiftRight_eq_div_pow]
        exact Nat.div_eq_of_lt (show w.toNat < 2 ^ 63 by omega)
      rw [hs]
      rfl
    · rw [show FP.dcmp w (zab x) = some .gt from h3.mpr h, if_neg (show ¬ w.toNat < (zab x).toNat by omega)]
      rfl
  refine ⟨hv, ?_⟩
  rw [hv]
  split
  · exact hal
  · exact hw
theorem zsz_v {w x : UInt64} (hw : w.toNat < 9218868437227405312) (hx : x.toNat % 2 ^ 63 < 9218868437227405312) : (zdc .le .l (zsz x) w = true → zpk w x = w) ∧ (zdc .le .l (zsz x) w = false → zpk w x = zsz x) := by
  have ha := zab_v x
  have hal : (zab x).toNat < 9218868437227405312 := by omega
  have hf : FP.Core.DFin x := (FP.Core.fin_bits x).mpr hx
  obtain ⟨p1, -⟩ := zpk_v hw hx
  have hcase : zsz x = zab x ∨ (zsz x = x ∧ x.toNat % 2 ^ 63 = 0 ∧ 2 ^ 63 ≤ x.toNat) := by
    have hz0 : FP.Core.val64 FP.dconst0 ≠ .nan := by decide +kernel
    have hcm := FP.Core.dcmp_zval hf.ne_nan hz0
    by_cases hs : x.toNat < 2 ^ 63
    · left
      have e : zdc .ge .g x FP.dconst0 = decide (FP.dconst0.toNat ≤ x.toNat) := zdc_ge (by omega) (by decide)
      unfold zsz
      rw [e, if_pos (decide_eq_true (by show 0 ≤ x.toNat; omega))]
      apply UInt64.toNat.inj
      rw [ha, Nat.mod_eq_of_lt hs]
    · by_cases hz : x.toNat % 2 ^ 63 = 0
      · right
        refine ⟨?_, hz, by omega⟩
        have hx0 : x = 9223372036854775808 := by
          apply UInt64.toNat.inj
          have := x.toNat_lt
          show x.toNat = 9223372036854775808
          omega
        subst hx0
        decide +kernel
      · left
        have hlt : FP.dcmp x FP.dconst0 = some .lt := by
          have h1 := FP.Core.zval_nonpos hf.ne_nan (show 2 ^ 63 ≤ x.toNat by omega)
          have h2 : FP.Core.zval FP.Core.b64 (FP.Core.val64 x) ≠ 0 := fun q => hz ((FP.Core.zval_eq_zero hf.ne_nan).mp q)
          refine FP.Core.dcmp_lt.mpr ⟨hf.ne_nan, hz0, ?_⟩
          rw [show FP.Core.zval FP.Core.b64 (FP.Core.val64 FP.dconst0) = 0 from FP.Core.zval64_zero]
          omega
        have e : zdc .ge .g x FP.dconst0 = false := by
          unfold zdc
          rw [hlt]
          rfl
        unfold zsz
        rw [e, if_neg (by decide)]
        have hab := FP.Core.abs_neg (a := x) hlt
        show FP.dneg x = x &&& 0x7fffffffffffffff
        rw [hab]
        apply UInt64.toNat.inj
        have h3 : (FP.Core.dneg x).toNat = x.toNat - 2 ^ 63 := by
          have := congrArg UInt64.toNat hab
          rw [FP.Core.mask_toNat] at this
          have := x.toNat_lt
          omega
        have h4 : FP.dneg x = x ^^^ 0x8000000000000000 := rfl
        rw [FP.dneg_core hf.notNaN]
  rcases hcase with h | ⟨h, h0, hs⟩
  · rw [h, zdc_le hal hw]
    constructor
    · intro q
      have := of_decide_eq_true q
      rw [p1, if_neg (show ¬ w.toNat < (zab x).toNat by omega)]
    · intro q
      have := of_decide_eq_false q
      rw [p1, if_pos (show w.toNat < (zab x).toNat by omega)]
  · have hx0 : x = 9223372036854775808 := by
      apply UInt64.toNat.inj
      have := x.toNat_lt
      show x.toNat = 9223372036854775808
      omega
    have hle : zdc .le .l x w = true := by
      have hcm := FP.Core.dcmp_zval hf.ne_nan (zdp_fin hw).ne_nan
      have h1 := FP.Core.zval_nonpos hf.ne_nan hs
      have h2 := FP.Core.zval_nonneg (zdp_fin hw).ne_nan (show w.toNat < 2 ^ 63 by omega)
      unfold zdc
      have hcm2 : FP.dcmp x w = some (compare (FP.Core.zval FP.Core.b64 (FP.Core.val64 x)) (FP.Core.zval FP.Core.b64 (FP.Core.val64 w))) := hcm
      rw [hcm2]
      rcases Int.lt_trichotomy (FP.Core.zval FP.Core.b64 (FP.Core.val64 x)) (FP.Core.zval FP.Core.b64 (FP.Core.val64 w)) with g | g | g
      · rw [(FP.Core.compare_lt_iff _ _).mpr g]; rfl
      · rw [(FP.Core.compare_eq_iff _ _).mpr g]; rfl
      · omega
    rw [h]
    constructor
    · intro _
      rw [p1, if_neg (show ¬ w.toNat < (zab x).toNat by omega)]
    · intro q
      rw [hle] at q
      cases q
/-- GAP's bits, AMOUNT's bits -/
noncomputable def zGw (n : Nat) (c : Nat → Int) (e r : Int) (am : Nat → UInt32) : Nat → UInt64
  | 0 => FP.dconst0
  | k + 1 => zpk (zGw n c e r am k) (zdo (am k) (zGt r n c k 1 e) (zS r n c))
noncomputable def zPo (n : Nat) (c : Nat → Int) (e r m : Int) : (Nat → UInt32) × UInt32 := zPs n r c (zfC (zmx c n)) (zfD e m) m.toNat
noncomputable def oPoured (n : Nat) (c : Nat → Int) (e r m i : Int) : Int := if ((0 ≤ r ∧ r ≤ 4) ∧ (1 ≤ m ∧ m ≤ 60)) ∧ (i = -1 ∨ (0 ≤ i ∧ i < n)) ∧ (1 ≤ n ∧ e ≤ zsum n c) then (if i = -1 then ((zPo n c e r m).2.toNat : Nat) else (((zPo n c e r m).1 i.toNat).toNat : Nat)) else -9223372036854775808
noncomputable def oGap (n : Nat) (c : Nat → Int) (e r m p : Int) : Int := if ((0 ≤ r ∧ r ≤ 4) ∧ (1 ≤ m ∧ m ≤ 60)) ∧ (0 ≤ p ∧ p ≤ 1) ∧ (1 ≤ n ∧ e ≤ zsum n c) then (if p = 0 then (((Int64.ofInt ((zGw n c e r (zPo n c e r m).1 n).toNat : Nat)).toUInt64 >>> ((Int32.ofInt 32).toInt64.toUInt64 &&& Int64.toUInt64 63)).toInt64).toInt else (Int64.ofInt ((zGw n c e r (zPo n c e r m).1 n).toNat : Nat) &&& Int64.ofInt 4294967295).toInt) else -9223372036854775808
theorem zsh_52 : ∀ k, k < 2047 → (Int64.ofInt ((k : Nat) : Int) <<< ((Int32.ofInt 52).toInt64 &&& 63)).toInt = ((k * 2 ^ 52 : Nat) : Int) := by decide +kernel
theorem zsh_23 : ∀ k, k < 2047 → (Int64.ofInt ((k : Nat) : Int) <<< ((Int32.ofInt 23).toInt64 &&& 63)).toInt = ((k * 2 ^ 23 : Nat) : Int) := by decide +kernel
theorem zone_52 : FP.Core.val64 (FP.l2d (Int64.ofInt ((2 ^ 52 : Nat) : Int))) = .fin false (2 ^ 52) (((52 : Nat) : Int) - 52) := by decide +kernel
theorem zone_23 : FP.Core.val64 (FP.l2d (Int64.ofInt ((2 ^ 23 : Nat) : Int))) = .fin false (2 ^ 52) (((23 : Nat) : Int) - 52) := by decide +kernel
