/-! FLOATS -/
theorem zfp_fin {x : UInt32} (h : x.toNat < 2139095040) : FP.Core.FFin x := (FP.Core.fin_bits32 x).mpr (by omega)
theorem zfp_zval {x : UInt32} (h : x.toNat < 2139095040) : FP.Core.zval FP.Core.b32 (FP.Core.val32 x) = (FP.Core.unitsOf FP.Core.b32 x.toNat : Int) := by
  have hn := (zfp_fin h).ne_nan
  unfold FP.Core.zval
  rw [FP.Core.sgn_bits32 hn, decide_eq_false (by omega), FP.Core.zmag_bits32 hn, Nat.mod_eq_of_lt (by omega)]
  rfl
theorem zfp_sgn {x : UInt32} {s : Bool} {c : Nat} {q : Int} (h : x.toNat < 2139095040) (hx : FP.Core.val32 x = .fin s c q) : s = false := by
  have := FP.Core.sgn_bits32 (a := x) (by rw [hx]; exact FP.Core.Datum.noConfusion)
  rw [hx, decide_eq_false (by omega)] at this
  exact this
/-- what is finite, and not below 0 by its sign and value -/
theorem zfp_of {r : UInt32} {c : Nat} {q : Int} {W : Nat} (hr : FP.Core.val32 r = FP.Core.roundRatio FP.Core.b32 false c 1 q) (hW : W < 2139095040) (hz : FP.Core.zval FP.Core.b32 (FP.Core.val32 r) ≤ (FP.Core.unitsOf FP.Core.b32 W : Int)) : r.toNat ≤ W := by
  have hn : FP.Core.val32 r ≠ .nan := by
    rw [hr]
    exact FP.Core.roundRatio_ne_nan _ _ _ _ _
  have hs := FP.Core.sgn_bits32 hn
  rw [hr, FP.Core.sgn_roundRatio] at hs
  have hlt : ¬ 2 ^ 31 ≤ r.toNat := of_decide_eq_false hs.symm
  have hm := (FP.Core.ne_nan32 r).mp hn
  rw [Nat.mod_eq_of_lt (by omega)] at hm
  unfold FP.Core.zval at hz
  rw [FP.Core.sgn_bits32 hn, decide_eq_false (by omega), FP.Core.zmag_bits32 hn, Nat.mod_eq_of_lt (by omega)] at hz
  have hz2 : FP.Core.unitsOf FP.Core.b32 r.toNat ≤ FP.Core.unitsOf FP.Core.b32 W := by
    have : FP.Core.signed false (FP.Core.unitsOf FP.Core.b32 r.toNat) = (FP.Core.unitsOf FP.Core.b32 r.toNat : Int) := rfl
    rw [this] at hz
    exact Int.ofNat_le.mp hz
  exact FP.Core.unitsOf_le_iff.mp hz2
theorem zfp_W {W : Nat} (hW : W < 2139095040) : FP.Core.val32 (UInt32.ofNat W) ≠ .nan ∧ FP.Core.zval FP.Core.b32 (FP.Core.val32 (UInt32.ofNat W)) = (FP.Core.unitsOf FP.Core.b32 W : Int) := by
  have e : (UInt32.ofNat W).toNat = W := UInt32.toNat_ofNat_of_lt' (by show W < 4294967296; omega)
  have h : (UInt32.ofNat W).toNat < 2139095040 := by rw [e]; exact hW
  refine ⟨(zfp_fin h).ne_nan, ?_⟩
  rw [zfp_zval h, e]
theorem zfp_sumSign {c d : Nat} {q r e : Int} : FP.Core.sumSign false false (FP.Core.sumUnits false c q false d r e) = false := by
  have h : 0 ≤ FP.Core.sumUnits false c q false d r e := Int.add_nonneg (Int.natCast_nonneg _) (Int.natCast_nonneg _)
  unfold FP.Core.sumSign
  split
  · rfl
  · exact decide_eq_false (by omega)
theorem zfp_add {x y : UInt32} {W : Nat} (hx : x.toNat < 2139095040) (hy : y.toNat < 2139095040) (hW : W < 2139095040) (h : FP.Core.unitsOf FP.Core.b32 x.toNat + FP.Core.unitsOf FP.Core.b32 y.toNat ≤ FP.Core.unitsOf FP.Core.b32 W) : (FP.fadd x y).toNat ≤ W := by
  obtain ⟨s, c, q, hX⟩ := zfp_fin hx
  obtain ⟨t, d, r, hY⟩ := zfp_fin hy
  have hs := zfp_sgn hx hX
  have ht := zfp_sgn hy hY
  subst hs
  subst ht
  obtain ⟨w1, w2⟩ := zfp_W hW
  have hv := FP.Core.val32_fadd x y
  have hle := FP.Core.sum_le FP.Core.good_b32 (zfp_fin hx) (zfp_fin hy) (FP.Core.val32_fits x) (FP.Core.val32_fits y) (FP.Core.val32_fits (UInt32.ofNat W)) w1 (by rw [zfp_zval hx, zfp_zval hy, w2]; omega)
  rw [← hv, w2] at hle
  rw [hX, hY] at hv
  refine zfp_of (c := (FP.Core.sumUnits false c q false d r (min q r)).natAbs) (q := min q r) ?_ hW hle
  show FP.Core.val32 (FP.Core.fadd x y) = _
  rw [hv]
  show FP.Core.roundRatio FP.Core.b32 (FP.Core.sumSign false false (FP.Core.sumUnits false c q false d r (min q r))) _ 1 _ = _
  rw [zfp_sumSign]
theorem zfp_sub {x y : UInt32} (hx : x.toNat < 2139095040) (hyx : y.toNat ≤ x.toNat) : (FP.fsub x y).toNat ≤ x.toNat := by
  have hy : y.toNat < 2139095040 := by omega
  obtain ⟨s, c, q, hX⟩ := zfp_fin hx
  obtain ⟨t, d, r, hY⟩ := zfp_fin hy
  have hs := zfp_sgn hx hX
  have ht := zfp_sgn hy hY
  subst hs
  subst ht
  have hv := FP.Core.val32_fsub x y
  have zx := zfp_zval hx
  have zy := zfp_zval hy
  have hu : FP.Core.unitsOf FP.Core.b32 y.toNat ≤ FP.Core.unitsOf FP.Core.b32 x.toNat := FP.Core.unitsOf_le_iff.mpr hyx
  have fy := FP.Core.negate_fits (FP.Core.val32_fits y)
  have hfy : ∃ s c q, FP.Core.negate (FP.Core.val32 y) = .fin s c q := ⟨true, d, r, by rw [hY]; rfl⟩
  have hle := FP.Core.sum_le FP.Core.good_b32 (zfp_fin hx) hfy (FP.Core.val32_fits x) fy (FP.Core.val32_fits x) (zfp_fin hx).ne_nan (by rw [FP.Core.zval_negate, zx, zy]; omega)
  have hsum := FP.Core.sum_units (f := FP.Core.b32) (s := false) (c := c) (q := q) (t := !false) (d := d) (r := r) (by have := FP.Core.val32_fits x; rw [hX] at this; exact this) (by rw [hY] at fy; exact fy)
  rw [← hv, zx] at hle
  rw [hX, hY] at hv
  have hsg : FP.Core.sumSign false (!false) (FP.Core.sumUnits false c q (!false) d r (min q r)) = false := by
    obtain ⟨sg, n, e, h1, h2, h3⟩ := hsum
    have h1' : FP.Core.Datum.fin (FP.Core.sumSign false (!false) (FP.Core.sumUnits false c q (!false) d r (min q r))) (FP.Core.sumUnits false c q (!false) d r (min q r)).natAbs (min q r) = .fin sg n e := h1
    injection h1' with a1 a2 a3
    have e1 : FP.Core.zval FP.Core.b32 (.fin false c q) = (FP.Core.unitsOf FP.Core.b32 x.toNat : Int) := by rw [← hX]; exact zx
    have e2 : FP.Core.zval FP.Core.b32 (.fin (!false) d r) = -(FP.Core.unitsOf FP.Core.b32 y.toNat : Int) := by
      show FP.Core.zval FP.Core.b32 (FP.Core.negate (.fin false d r)) = _
      rw [FP.Core.zval_negate, ← hY, zy]
    rw [e1, e2] at h3
    cases hh : FP.Core.sumSign false (!false) (FP.Core.sumUnits false c q (!false) d r (min q r)) with
    | false => rfl
    | true =>
      exfalso
      rw [hh] at a1
      subst a1
      have h4 : FP.Core.signed true (FP.Core.inUnits n e FP.Core.b32.qmin) = -((FP.Core.inUnits n e FP.Core.b32.qmin : Nat) : Int) := rfl
      rw [h4] at h3
      have h5 : FP.Core.inUnits n e FP.Core.b32.qmin = 0 := by omega
      have h6 : n = 0 := by
        unfold FP.Core.inUnits at h5
        rcases Nat.mul_eq_zero.mp h5 with g | g
        · exact g
        · have := Nat.two_pow_pos (e - FP.Core.b32.qmin).toNat
          omega
      unfold FP.Core.sumSign at hh
      split at hh
      · cases hh
      · have := of_decide_eq_true hh
        omega
  refine zfp_of (c := (FP.Core.sumUnits false c q (!false) d r (min q r)).natAbs) (q := min q r) ?_ hx hle
  show FP.Core.val32 (FP.Core.fsub x y) = _
  rw [hv]
  show FP.Core.roundRatio FP.Core.b32 (FP.Core.sumSign false (!false) (FP.Core.sumUnits false c q (!false) d r (min q r))) _ 1 _ = _
  rw [hsg]
theorem zfp_nan {x : UInt32} (h : FP.Core.fIsNaN x = false) : x &&& 0x7fffffff ≤ 0x7f800000 := by
  have h1 := (FP.Core.ne_nan32 x).mp ((FP.Core.notNaN_iff32 x).mp h)
  rw [UInt32.le_iff_toNat_le, FP.Core.mask_toNat32]
  exact h1
theorem zfp_ok {x : UInt32} (h : x.toNat < 2139095040) : x &&& 0x7fffffff ≤ 0x7f800000 := zfp_nan (zfp_fin h).notNaN
/-- claims as floats -/
def zfC (c : Int) : UInt32 := FP.i2f (Int32.ofInt c)
theorem zfC_b : ∀ k, k < 61 → 1 ≤ k → 1065353216 ≤ (FP.i2f (Int32.ofInt (k : Nat))).toNat ∧ (FP.i2f (Int32.ofInt (k : Nat))).toNat ≤ 1114636288 := by decide +kernel
theorem zfC_in {c : Int} (h : 1 ≤ c ∧ c ≤ 60) : 1065353216 ≤ (zfC c).toNat ∧ (zfC c).toNat ≤ 1114636288 := by
  obtain ⟨k, rfl⟩ := Int.eq_ofNat_of_zero_le (show 0 ≤ c by omega)
  exact zfC_b k (by omega) (by omega)
def zfW (t : Nat) : Nat := (FP.i2f (Int32.ofInt ((2048 * t : Nat) : Int))).toNat
theorem zfW_b : ∀ t, t < 61 → FP.Core.unitsOf FP.Core.b32 (FP.i2f (Int32.ofInt ((2048 * t : Nat) : Int))).toNat = t * (2048 * 2 ^ 149) ∧ (FP.i2f (Int32.ofInt ((2048 * t : Nat) : Int))).toNat < 2139095040 := by decide +kernel
theorem zfp_2048 : FP.Core.unitsOf FP.Core.b32 1157627904 = 2048 * 2 ^ 149 := by decide +kernel
theorem zfp_1024 : FP.Core.unitsOf FP.Core.b32 1149239296 = 1024 * 2 ^ 149 := by decide +kernel
theorem zfp_le {m W : Nat} (h : m ≤ W) : FP.Core.unitsOf FP.Core.b32 m ≤ FP.Core.unitsOf FP.Core.b32 W := FP.Core.unitsOf_le_iff.mpr h
theorem zfE_b : ∀ k, k < 361 → (FP.i2f (Int32.ofInt (k : Nat))).toNat < 136 * 2 ^ 23 := by decide +kernel
/-- a drop -/
def zfD (e n : Int) : UInt32 := FP.fdiv (FP.i2f (Int32.ofInt e)) (FP.i2f (Int32.ofInt n))
theorem zfD_in {e n : Int} (he : 0 ≤ e ∧ e ≤ 360) (hn : 1 ≤ n ∧ n ≤ 60) : (zfD e n).toNat ≤ 1149239296 := by
  obtain ⟨k, rfl⟩ := Int.eq_ofNat_of_zero_le he.1
  have h1 := zfE_b k (by omega)
  have h2 := zfC_in hn
  unfold zfC at h2
  unfold zfD
  generalize FP.i2f (Int32.ofInt (k : Nat)) = x at *
  generalize FP.i2f (Int32.ofInt n) = y at *
  have hm := FP.Core.fdiv_mag (a := x) (b := y) (K := 136) (L := 127) (by omega) (by omega) (by omega) (by decide) (by decide)
  obtain ⟨s, c, q, hX⟩ := zfp_fin (x := x) (by omega)
  obtain ⟨t, d, r, hY⟩ := zfp_fin (x := y) (by omega)
  have hs := zfp_sgn (by omega) hX
  have ht := zfp_sgn (by omega) hY
  subst hs
  subst ht
  have hv := FP.Core.val32_fdiv x y
  rw [hX, hY] at hv
  have hd : d ≠ 0 := fun h0 => by
    have := (FP.Core.zero_bits232 y).mp ⟨false, r, by rw [hY, h0]⟩
    omega
  have hq : FP.Core.quotient FP.Core.b32 (.fin false c q) (.fin false d r) = FP.Core.roundRatio FP.Core.b32 (false != false) c d (q - r) := if_neg hd
  rw [hq] at hv
  have hn : FP.Core.val32 (FP.Core.fdiv x y) ≠ .nan := by
    rw [hv]
    exact FP.Core.roundRatio_ne_nan _ _ _ _ _
  have hs := FP.Core.sgn_bits32 hn
  rw [hv, FP.Core.sgn_roundRatio] at hs
  have hlt : ¬ 2 ^ 31 ≤ (FP.Core.fdiv x y).toNat := of_decide_eq_false hs.symm
  show (FP.Core.fdiv x y).toNat ≤ _
  omega
/-- the sum that falls -/
theorem zfp_sum {a d : UInt32} (ha : a.toNat ≤ 1114636288) (hd : d.toNat ≤ 1149239296) : (FP.fadd a d).toNat ≤ 1157627904 := by
  refine zfp_add (by omega) (by omega) (by omega) ?_
  have h1 := zfp_le (show a.toNat ≤ 1149239296 by omega)
  have h2 := zfp_le hd
  rw [zfp_1024] at h1 h2
  rw [zfp_2048]
  omega
theorem zfp_spill {s y : UInt32} {t : Nat} (ht : t < 60) (hs : s.toNat ≤ zfW t) (hy : y.toNat ≤ 1157627904) : (FP.fadd s y).toNat ≤ zfW (t + 1) := by
  have h1 := zfW_b t (by omega)
  have h2 := zfW_b (t + 1) (by omega)
  unfold zfW at hs ⊢
  refine zfp_add (by omega) (by omega) h2.2 ?_
  have h3 := zfp_le hs
  have h4 := zfp_le hy
  rw [h1.1] at h3
  rw [zfp_2048] at h4
  rw [h2.1, Nat.add_mul]
  omega
theorem zfW_in {t : Nat} (ht : t ≤ 60) : zfW t < 2139095040 := (zfW_b t (by omega)).2
theorem zfW_up {t : Nat} (ht : t < 60) : zfW t ≤ zfW (t + 1) := by
  have h1 := zfW_b t (by omega)
  have h2 := zfW_b (t + 1) (by omega)
  unfold zfW
  refine (FP.Core.unitsOf_le_iff (f := FP.Core.b32)).mp ?_
  rw [h1.1, h2.1]
  exact Nat.mul_le_mul_right _ (by omega)
theorem zfc_le {x w : UInt32} (hx : x.toNat < 2139095040) (hw : w.toNat < 2139095040) : zfc .le .l x w = decide (x.toNat ≤ w.toNat) := by
  have nx := (zfp_fin hx).ne_nan
  have nw := (zfp_fin hw).ne_nan
  obtain ⟨h1, h2, h3⟩ := FP.Core.mono_bits32 nx nw (by omega) (by omega)
  unfold zfc
  rcases Nat.lt_trichotomy x.toNat w.toNat with h | h | h
  · rw [show FP.fcmp x w = some .lt from h1.mpr h, decide_eq_true (by omega)]
    rfl
  · rw [show FP.fcmp x w = some .eq from h2.mpr h, decide_eq_true (by omega)]
    rfl
  · rw [show FP.fcmp x w = some .gt from h3.mpr h, decide_eq_false (by omega)]
    rfl
/-- the greatest claim -/
theorem zfC_max : ∀ a, a < 61 → ∀ b, b < 61 → (zfc .le .l (FP.i2f (Int32.ofInt (a : Nat))) (FP.i2f (Int32.ofInt (b : Nat))) = decide (a ≤ b)) := by decide +kernel
def zmx (c : Nat → Int) : Nat → Int
  | 0 => 0
  | k + 1 => max (zmx c k) (c k)
theorem zmx_in {n : Nat} {c : Nat → Int} (h : ∀ i, i < n → 1 ≤ c i ∧ c i ≤ 60) (k : Nat) (hk : k ≤ n) : 0 ≤ zmx c k ∧ zmx c k ≤ 60 := by
  induction k with
  | zero => exact ⟨Int.le_refl _, (by decide : (0 : Int) ≤ 60)⟩
  | succ k ih =>
    have h1 := ih (by omega)
    have h2 := h k (by omega)
    show 0 ≤ max (zmx c k) (c k) ∧ max (zmx c k) (c k) ≤ 60
    omega
theorem zmx_s {n k : Nat} {c : Nat → Int} (h : ∀ i, i < n → 1 ≤ c i ∧ c i ≤ 60) (hk : k < n) : (zfc .le .l (zfC (c k)) (zfC (zmx c k)) = true → zfC (zmx c (k + 1)) = zfC (zmx c k)) ∧ (zfc .le .l (zfC (c k)) (zfC (zmx c k)) = false → zfC (zmx c (k + 1)) = zfC (c k)) := by
  have h1 := zmx_in h k (by omega)
  have h2 := h k hk
  obtain ⟨a, ha⟩ := Int.eq_ofNat_of_zero_le (show 0 ≤ c k by omega)
  obtain ⟨b, hb⟩ := Int.eq_ofNat_of_zero_le h1.1
  have h3 := zfC_max a (by omega) b (by omega)
  have e : zmx c (k + 1) = max (zmx c k) (c k) := rfl
  unfold zfC
  rw [e, ha, hb, h3]
  constructor
  · intro q
    have := of_decide_eq_true q
    rw [show max (b : Int) (a : Int) = b by omega]
  · intro q
    have := of_decide_eq_false q
    rw [show max (b : Int) (a : Int) = a by omega]
def zHf : UInt32 := UInt32.ofNat (1056964608 : Int).toNat
/-- a surface -/
def zSf (r : Int) (g c a : UInt32) : UInt32 := if r = 0 then a else if r = 1 then FP.fsub a c else if r = 2 then FP.fdiv a c else if r = 3 then (if zfc .ge .g (FP.fmul FP.fconst2 a) c = true then FP.fsub g (FP.fsub c a) else a) else FP.fsub a (FP.fmul c zHf)
def zLw (r : Int) (c : Nat → Int) (g : UInt32) (am : Nat → UInt32) : Nat → Int
  | 0 => -1
  | k + 1 => if zfc .ge .g (am k) (zfC (c k)) = true then zLw r c g am k else if zLw r c g am k < 0 then (k : Int) else if zfc .ge .g (zSf r g (zfC (c k)) (am k)) (zSf r g (zfC (c (zLw r c g am k).toNat)) (am (zLw r c g am k).toNat)) = true then zLw r c g am k else (k : Int)
theorem zLw_in (r : Int) (c : Nat → Int) (g : UInt32) (am : Nat → UInt32) (k : Nat) : -1 ≤ zLw r c g am k ∧ zLw r c g am k < k := by
  induction k with
  | zero => exact ⟨Int.le_refl _, (by decide : (-1 : Int) < ((0 : Nat) : Int))⟩
  | succ k ih =>
    unfold zLw
    repeat' split
    all_goals omega
def zfu (am : Nat → UInt32) (i : Nat) (v : UInt32) : Nat → UInt32 := fun k => if k = i then v else am k
/-- what a drop does -/
def zFl (n : Nat) (r : Int) (c : Nat → Int) (g d : UInt32) (S : (Nat → UInt32) × UInt32) : (Nat → UInt32) × UInt32 :=
  if zLw r c g S.1 n < 0 then (S.1, FP.fadd S.2 d)
  else if zfc .le .l (FP.fadd (S.1 (zLw r c g S.1 n).toNat) d) (zfC (c (zLw r c g S.1 n).toNat)) = true then (zfu S.1 (zLw r c g S.1 n).toNat (FP.fadd (S.1 (zLw r c g S.1 n).toNat) d), S.2)
  else (zfu S.1 (zLw r c g S.1 n).toNat (zfC (c (zLw r c g S.1 n).toNat)), FP.fadd S.2 (FP.fsub (FP.fadd (S.1 (zLw r c g S.1 n).toNat) d) (zfC (c (zLw r c g S.1 n).toNat))))
def zPs (n : Nat) (r : Int) (c : Nat → Int) (g d : UInt32) : Nat → (Nat → UInt32) × UInt32
  | 0 => (fun _ => FP.fconst0, FP.fconst0)
  | t + 1 => zFl n r c g d (zPs n r c g d t)
/-- no amount is above its claim; so much has been spilled at most -/
def zPk (n : Nat) (c : Nat → Int) (t : Nat) (S : (Nat → UInt32) × UInt32) : Prop := (∀ i, i < n → (S.1 i).toNat ≤ (zfC (c i)).toNat) ∧ S.2.toNat ≤ zfW t
theorem zPk_0 (n : Nat) (c : Nat → Int) (r : Int) (g d : UInt32) : zPk n c 0 (zPs n r c g d 0) := ⟨fun i _ => Nat.zero_le _, Nat.zero_le _⟩
theorem zPk_s {n : Nat} {c : Nat → Int} {r : Int} {g d : UInt32} {t : Nat} {S : (Nat → UInt32) × UInt32} (hc : ∀ i, i < n → 1 ≤ c i ∧ c i ≤ 60) (hd : d.toNat ≤ 1149239296) (ht : t < 60) (h : zPk n c t S) : zPk n c (t + 1) (zFl n r c g d S) := by
  obtain ⟨h1, h2⟩ := h
  have hl := zLw_in r c g S.1 n
  unfold zFl
  by_cases q : zLw r c g S.1 n < 0
  · rw [if_pos q]
    exact ⟨h1, zfp_spill ht h2 (by omega)⟩
  · rw [if_neg q]
    have hi : (zLw r c g S.1 n).toNat < n := by omega
    have hci := zfC_in (hc _ hi)
    have hai := h1 _ hi
    have hs := zfp_sum (a := S.1 (zLw r c g S.1 n).toNat) (d := d) (by omega) hd
    rw [zfc_le (by omega) (by omega)]
    generalize (zLw r c g S.1 n).toNat = i at *
    by_cases q2 : (FP.fadd (S.1 i) d).toNat ≤ (zfC (c i)).toNat
    · rw [if_pos (decide_eq_true q2)]
      refine ⟨fun k hk => ?_, Nat.le_trans h2 (zfW_up ht)⟩
      show (if k = i then _ else S.1 k).toNat ≤ _
      split
      · rename_i e
        rw [e]
        exact q2
      · exact h1 k hk
    · rw [if_neg (by rw [decide_eq_true_iff]; exact q2)]
      refine ⟨fun k hk => ?_, zfp_spill ht h2 (Nat.le_trans (zfp_sub (by omega) (by omega)) hs)⟩
      show (if k = i then _ else S.1 k).toNat ≤ _
      split
      · rename_i e
        rw [e]
        exact Nat.le_refl _
      · exact h1 k hk
theorem zPs_ok {n : Nat} {c : Nat → Int} {r : Int} {g d : UInt32} (hc : ∀ i, i < n → 1 ≤ c i ∧ c i ≤ 60) (hd : d.toNat ≤ 1149239296) (t : Nat) (ht : t ≤ 60) : zPk n c t (zPs n r c g d t) := by
  induction t with
  | zero => exact zPk_0 n c r g d
  | succ t ih => exact zPk_s hc hd (by omega) (ih (by omega))
/-- of what is told in surfaces nothing is no number -/
theorem zSf_1 {c a : UInt32} (hc : c.toNat ≤ 1114636288) (ha : a.toNat ≤ c.toNat) : FP.fsub a c &&& 0x7fffffff ≤ 0x7f800000 := zfp_nan (FP.Core.fsub_out (zfp_fin (by omega)).notNaN (zfp_fin (by omega)))
theorem zSf_2 {c a : UInt32} (hc : 1065353216 ≤ c.toNat ∧ c.toNat ≤ 1114636288) (ha : a.toNat ≤ c.toNat) : FP.fdiv a c &&& 0x7fffffff ≤ 0x7f800000 := zfp_nan (FP.Core.fdiv_out (zfp_fin (by omega)).notNaN (zfp_fin (by omega)) (fun q => by
  have := (FP.Core.zero_bits232 c).mp q
  omega))
theorem zSf_3 {c a : UInt32} (hc : c.toNat ≤ 1114636288) (ha : a.toNat ≤ c.toNat) : FP.fmul FP.fconst2 a &&& 0x7fffffff ≤ 0x7f800000 := zfp_nan (FP.Core.fmul_out (zfp_fin (by decide)) (zfp_fin (by omega)))
theorem zSf_4 {c a : UInt32} (hc : c.toNat ≤ 1114636288) (ha : a.toNat ≤ c.toNat) : FP.fsub c a &&& 0x7fffffff ≤ 0x7f800000 := zfp_nan (FP.Core.fsub_out (zfp_fin (by omega)).notNaN (zfp_fin (by omega)))
theorem zSf_5 {g c a : UInt32} (hg : g.toNat ≤ 1114636288) (hc : c.toNat ≤ 1114636288) (ha : a.toNat ≤ c.toNat) : FP.fsub g (FP.fsub c a) &&& 0x7fffffff ≤ 0x7f800000 := zfp_nan (FP.Core.fsub_out (zfp_fin (by omega)).notNaN (zfp_fin (by have := zfp_sub (x := c) (y := a) (by omega) ha; omega)))
theorem zHf_b : zHf.toNat = 1056964608 := by decide +kernel
theorem zSf_6 {c : UInt32} (hc : c.toNat ≤ 1114636288) : FP.fmul c zHf &&& 0x7fffffff ≤ 0x7f800000 := zfp_nan (FP.Core.fmul_out (zfp_fin (by omega)) (zfp_fin (by rw [zHf_b]; omega)))
theorem zSf_7 {c a : UInt32} (hc : c.toNat ≤ 1114636288) (ha : a.toNat ≤ c.toNat) : FP.fsub a (FP.fmul c zHf) &&& 0x7fffffff ≤ 0x7f800000 := zfp_nan (FP.Core.fsub_out (zfp_fin (by omega)).notNaN (by
  have hm := FP.Core.fmul_mag (a := c) (b := zHf) (Ka := 133) (Kb := 127) (by omega) (by rw [zHf_b]; decide) (by decide) (by decide)
  exact FP.Core.fin_of_lt32 (K := 255) (a := FP.Core.fmul c zHf) (by omega) (by decide)))
theorem zfr (x : UInt32) : UInt32.ofNat ((x.toNat : Nat) : Int).toNat = x := by
  rw [Int.toNat_natCast, UInt32.ofNat_toNat]
def zVX (n : Nat) (c : Nat → Int) (S : (Nat → UInt32) × UInt32) (Z : zMem) : Prop := Z 17 3 = n ∧ (∀ i, i < n → Z 18 i = ((S.1 i).toNat : Nat)) ∧ (∀ i, i < n → Z 19 i = ((zfC (c i)).toNat : Nat)) ∧ Z 17 2 = ((zfC (zmx c n)).toNat : Nat) ∧ Z 17 4 = (S.2.toNat : Nat)
def zVM (n : Nat) (S : (Nat → UInt32) × UInt32) (Z : zMem) : Prop := (∀ i, i < n → Z 75 i = ((S.1 i).toNat : Nat)) ∧ Z 63 26 = (S.2.toNat : Nat)
def zFv (Z Z' : zMem) : Prop := ∀ k, k ≠ 17 → k ≠ 18 → k ≠ 19 → Z' k = Z k
def zFw (Z Z' : zMem) : Prop := (∀ k, k ≠ 63 → k ≠ 75 → Z' k = Z k) ∧ (∀ j, j ≠ 26 → Z' 63 j = Z 63 j)
theorem zFv_refl {Z : zMem} : zFv Z Z := fun _ _ _ _ => rfl
theorem zFw_refl {Z : zMem} : zFw Z Z := ⟨fun _ _ _ => rfl, fun _ _ => rfl⟩
theorem zMo_w {n : Nat} {c : Nat → Int} {e ρ : Int} {Z Z' : zMem} (h : zMo n c e ρ Z) (hf : zFw Z Z') : zMo n c e ρ Z' := by
  unfold zMo at h ⊢
  rw [hf.1 64 (by decide) (by decide), hf.2 0 (by decide), hf.2 2 (by decide), hf.2 3 (by decide)]
  exact h
theorem zfC_0 : ((zfC 0).toNat : Nat) = FP.fconst0.toNat := by decide +kernel
theorem zmxC {n : Nat} {c : Nat → Int} (h : ∀ i, i < n → 1 ≤ c i ∧ c i ≤ 60) : (zfC (zmx c n)).toNat ≤ 1114636288 := by
  have h1 := zmx_in h n (Nat.le_refl _)
  by_cases q : zmx c n = 0
  · rw [q, zfC_0]; decide
  · exact (zfC_in (by omega)).2
