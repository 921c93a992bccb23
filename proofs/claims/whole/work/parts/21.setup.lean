/-! LOWEST TERMS -/
theorem zgcd_step {a b : Int} (ha : 0 ≤ a) (hb : 0 < b) : Int.gcd b (a.tmod b) = Int.gcd a b := by
  obtain ⟨x, rfl⟩ := Int.eq_ofNat_of_zero_le ha
  obtain ⟨y, rfl⟩ := Int.eq_ofNat_of_zero_le (show 0 ≤ b by omega)
  rw [← Int.ofNat_tmod, Int.gcd_natCast_natCast, Int.gcd_natCast_natCast, Nat.gcd_comm y (x % y), ← Nat.gcd_rec, Nat.gcd_comm]
def zlow (a b p : Int) : Int := if p = 0 then a.tdiv (Int.gcd a b : Nat) else b.tdiv (Int.gcd a b : Nat)
theorem zlow_c {a b : Int} (hb : 0 < b) : ∃ g x y : Int, 0 < g ∧ 0 < y ∧ g = (Int.gcd a b : Nat) ∧ a = g * x ∧ b = g * y ∧ zlow a b 0 = x ∧ (∀ p, p ≠ 0 → zlow a b p = y) := by
  have hg : 0 < Int.gcd a b := Int.gcd_pos_of_ne_zero_right a (by omega)
  obtain ⟨x, hx⟩ := Int.gcd_dvd_left (a := a) (b := b)
  obtain ⟨y, hy⟩ := Int.gcd_dvd_right (a := a) (b := b)
  have hg2 : (0 : Int) < (Int.gcd a b : Nat) := by omega
  refine ⟨(Int.gcd a b : Nat), x, y, hg2, ?_, rfl, hx, hy, ?_, fun p hp => ?_⟩
  · rcases Int.lt_or_le 0 y with q | q
    · exact q
    · have := Int.mul_nonpos_of_nonneg_of_nonpos (Int.le_of_lt hg2) q
      omega
  · unfold zlow
    rw [if_pos rfl]
    generalize (Int.gcd a b : Nat) = G at *
    rw [hx, Int.mul_tdiv_cancel_left _ (by omega)]
  · unfold zlow
    rw [if_neg hp]
    generalize (Int.gcd a b : Nat) = G at *
    rw [hy, Int.mul_tdiv_cancel_left _ (by omega)]
theorem zlow_eq {a b a' b' : Int} (hb : 0 < b) (hb' : 0 < b') (h : a * b' = a' * b) (p : Int) : zlow a b p = zlow a' b' p := by
  obtain ⟨g, x, y, g0, y0, g1, hx, hy, h0, h1⟩ := zlow_c (a := a) hb
  obtain ⟨g', x', y', g0', y0', g1', hx', hy', h0', h1'⟩ := zlow_c (a := a') hb'
  have e1 : Int.gcd (a * b') (b * b') = Int.gcd a b * b'.natAbs := Int.gcd_mul_right ..
  have e2 : Int.gcd (a' * b) (b' * b) = Int.gcd a' b' * b.natAbs := Int.gcd_mul_right ..
  rw [h, Int.mul_comm b b', e2] at e1
  have e3 : g' * b = g * b' := by
    rw [g1, g1']
    have := congrArg (fun n : Nat => (n : Int)) e1
    simp only [Int.natCast_mul] at this
    rw [show ((b.natAbs : Nat) : Int) = b by omega, show ((b'.natAbs : Nat) : Int) = b' by omega] at this
    exact this
  have e4 : y = y' := by
    rw [hy, hy', ← Int.mul_assoc, ← Int.mul_assoc, Int.mul_comm g' g] at e3
    exact Int.eq_of_mul_eq_mul_left (Int.ne_of_gt (Int.mul_pos g0 g0')) e3
  have e5 : x = x' := by
    rw [hx, hx', hy, hy', e4] at h
    have h2 : (g * g' * y') * x = (g * g' * y') * x' := by
      calc (g * g' * y') * x = g * x * (g' * y') := by simp only [Int.mul_assoc, Int.mul_comm, Int.mul_left_comm]
        _ = g' * x' * (g * y') := h
        _ = (g * g' * y') * x' := by simp only [Int.mul_assoc, Int.mul_comm, Int.mul_left_comm]
    exact Int.eq_of_mul_eq_mul_left (Int.ne_of_gt (Int.mul_pos (Int.mul_pos g0 g0') y0')) h2
  by_cases q : p = 0
  · rw [q, h0, h0', e5]
  · rw [h1 p q, h1' p q, e4]
theorem zlow_quot {a b : Int} (hb : 0 < b) : (zlow a b 0).tdiv (zlow a b 1) = a.tdiv b := by
  obtain ⟨g, x, y, g0, y0, g1, hx, hy, h0, h1⟩ := zlow_c (a := a) hb
  rw [h0, h1 1 (by decide), hx, hy, Int.mul_tdiv_mul_of_pos _ _ g0]
/-- from a place on, the first one of which it holds -/
def zfst : Nat → Nat → (Nat → Bool) → Int → Int
  | 0, _, _, d => d
  | m + 1, i, P, d => if P i = true then (i : Int) else zfst m (i + 1) P d
theorem zfst_hit {n i : Nat} {P : Nat → Bool} {d : Int} (h : i < n) (hp : P i = true) : zfst (n - i) i P d = i := by
  rw [show n - i = (n - i - 1) + 1 by omega]
  exact if_pos hp
theorem zfst_next {n i : Nat} {P : Nat → Bool} {d : Int} (h : i < n) (hp : P i = false) : zfst (n - i) i P d = zfst (n - (i + 1)) (i + 1) P d := by
  rw [show n - i = (n - (i + 1)) + 1 by omega]
  exact if_neg (by rw [hp]; decide)
theorem zfst_end {n i : Nat} {P : Nat → Bool} {d : Int} (h : n ≤ i) : zfst (n - i) i P d = d := by
  rw [show n - i = 0 by omega]
  rfl
def zbor : Nat → (Nat → Bool) → Int
  | 0, _ => 0
  | k + 1, f => if f k = true then (Int32.ofInt (zbor k f) ||| Int32.ofInt (Int32.ofInt 1 <<< (Int32.ofInt (k : Nat) &&& 31)).toInt).toInt else zbor k f
theorem zbor_in (k : Nat) (f : Nat → Bool) : -2147483648 ≤ zbor k f ∧ zbor k f ≤ 2147483647 := by
  induction k with
  | zero => unfold zbor; omega
  | succ k ih =>
    unfold zbor
    split
    · exact z32_in' _
    · exact ih
theorem zS_range {r : Int} {n : Nat} {c : Nat → Int} (hn : 1 ≤ n ∧ n ≤ 6) (h : ∀ i, i < n → 1 ≤ c i ∧ c i ≤ 60) : 1 ≤ zS r n c ∧ zS r n c ≤ 720 := by
  have h1 := zsum_range h
  have h2 := zfac_range hn.2
  unfold zS
  split
  · omega
  · split
    · exact h2
    · omega
theorem zArt_range {n : Nat} {c : Nat → Int} {i : Nat} {w u : Int} {S : Nat} (hn : n ≤ 6) (hi : i < n) (h : ∀ i, i < n → 1 ≤ c i ∧ c i ≤ 60) (hw : 0 ≤ w) (hS : S < 2 ^ n) : 0 ≤ zArt n c i w u S ∧ zArt n c i w u S ≤ 31104000 * w := by
  unfold zArt
  split
  · rename_i q
    have hp := zpc_b n (by omega) S hS i hi q.1
    have f1 := zfac_range (n := zpc S) (by omega)
    have f2 := zfac_range (n := n - 1 - zpc S) (by omega)
    have c1 := h i hi
    have cw : 0 ≤ c i * w ∧ c i * w ≤ 60 * w := ⟨Int.mul_nonneg (by omega) hw, Int.mul_le_mul_of_nonneg_right c1.2 hw⟩
    have m1 := zmb (a := min (c i * w) (u - zsub n c S * w)) (b := zfac (zpc S)) (A := 60 * w) (B := 720) (by omega) (by omega)
    have m2 := zmb (b := zfac (n - 1 - zpc S)) (B := 720) m1 (by omega)
    omega
  · omega
theorem zGt_range {r : Int} {n : Nat} {c : Nat → Int} {i : Nat} {w u : Int} (hn : n ≤ 6) (hi : i < n) (h : ∀ i, i < n → 1 ≤ c i ∧ c i ≤ 60) (hw : 0 ≤ w) (hu : 0 ≤ u ∧ u ≤ zsum n c * w) : 0 ≤ zGt r n c i w u ∧ zGt r n c i w u ≤ 2147483648 * w := by
  have hc : ∀ k, k < n → 0 ≤ c k := fun k hk => by have := h k hk; omega
  have c1 := h i hi
  have cw : 0 ≤ c i * w ∧ c i * w ≤ 60 * w := ⟨Int.mul_nonneg (by omega) hw, Int.mul_le_mul_of_nonneg_right c1.2 hw⟩
  have hs := zsum_range h
  have sw : zsum n c * w ≤ 360 * w := Int.mul_le_mul_of_nonneg_right (by omega) hw
  have L := fun v hv => zLv_range (u := v) hn hi hc hw hv
  unfold zGt
  split
  · have := L u (by omega); omega
  · split
    · have := L (zsum n c * w - u) (by omega); omega
    · split
      · have := zmb (a := u) (b := c i) (A := 360 * w) (B := 60) (by omega) (by omega); omega
      · split
        · split
          · have := L (2 * u) (by omega); omega
          · have := L (2 * (zsum n c * w - u)) (by omega); omega
        · split
          · split
            · have := L (zsum n c * w - u - u) (by omega); omega
            · have := L (u - (zsum n c * w - u)) (by omega); omega
          · unfold zAr
            have h1 := zsum_lo (n := 2 ^ n) (f := zArt n c i w u) (c := 0) (fun S hS => (zArt_range hn hi h hw hS).1)
            have h2 := zsum_hi (n := 2 ^ n) (f := zArt n c i w u) (c := 31104000 * w) (fun S hS => (zArt_range hn hi h hw hS).2)
            have h3 := Int.mul_le_mul_of_nonneg_right (show ((2 ^ n : Nat) : Int) ≤ 64 by have := zpow6 hn; omega) (show 0 ≤ 31104000 * w by omega)
            omega
/-! SETUPS -/
def zsF (s : Nat) : Prop := zTT[s]? = some (3, 0) ∧ zrd zRR s 0 = some (s + 1) ∧ zrd zRR s 1 = some (s + 5) ∧ zTT[s + 5]? = some (11, 6) ∧ zgF (s + 1)
theorem zsF_1 : zsF 1 := ⟨rfl, rfl, rfl, rfl, zgF_2⟩
theorem zsF_7 : zsF 7 := ⟨rfl, rfl, rfl, rfl, zgF_8⟩
theorem zsF_36 : zsF 36 := ⟨rfl, rfl, rfl, rfl, zgF_37⟩
/-- the claims, the estate and the rule of a setup -/
def zSU (s n : Nat) (c : Nat → Int) (e r : Int) (Z : zMem) : Prop := zG (s + 1) n c Z ∧ Z s 2 = e ∧ Z s 3 = r ∧ (0 ≤ e ∧ e ≤ 360) ∧ (0 ≤ r ∧ r ≤ 5)
noncomputable def zWh (r : Int) (n : Nat) (c : Nat → Int) (e : Int) (i : Nat) : Int := (zGt r n c i 1 e).tdiv (zS r n c)
noncomputable def zLike (n : Nat) (c : Nat → Int) (e r o : Int) : Bool := decide (∀ i, i < n → zGt r n c i 1 e * zS o n c = zGt o n c i 1 e * zS r n c)
noncomputable def zAlk (n : Nat) (c : Nat → Int) (e r : Int) : Int := zbor 6 (fun o => zLike n c e r o)
noncomputable def zLos (n : Nat) (c : Nat → Int) (e r : Int) (i : Nat) : Int := c i * zS r n c - zGt r n c i 1 e
def zSorb (L c : Nat → Int) (i j : Nat) : Bool := decide (L j < L i ∨ (L i = L j ∧ (c j < c i ∨ (c i = c j ∧ i < j))))
def zAhd (L c : Nat → Int) (n i : Nat) : Int := zsum n (fun j => if zSorb L c j i = true then 1 else 0)
noncomputable def zSore (n : Nat) (c : Nat → Int) (e r k : Int) : Int := zfst n 0 (fun i => decide (zAhd (zLos n c e r) c n i = k)) (-1)
theorem zgcd_pow {g l : Int} {f : Nat} (hg : 0 ≤ g) (hl : 0 < l) (h : (l ≤ g ∧ g * l < 2 ^ f) ∨ (g < l ∧ g * l * 2 < 2 ^ f ∧ 1 ≤ f)) : 1 ≤ f ∧ l * g.tmod l < 2 ^ (f - 1) := by
  have h0 := Int.tmod_nonneg l hg
  have h1 := Int.tmod_lt_of_pos g hl
  rcases h with ⟨a, b⟩ | ⟨a, b, f1⟩
  · have p : 1 * 1 ≤ g * l := Int.mul_le_mul (by omega) (by omega) (by omega) hg
    have f1 : 1 ≤ f := by
      rcases Nat.eq_zero_or_pos f with q | q
      · rw [q, Int.pow_zero] at b; omega
      · exact q
    refine ⟨f1, ?_⟩
    rw [show f = (f - 1) + 1 by omega, Int.pow_succ] at b
    have e : g.tmod l ≤ g - l := by
      have d := Int.tmod_add_mul_tdiv g l
      have t : 1 ≤ g.tdiv l := by
        rcases Int.lt_or_le (g.tdiv l) 1 with q | q
        · have := Int.tdiv_nonneg hg (Int.le_of_lt hl)
          have z : g.tdiv l = 0 := by omega
          rw [z, Int.mul_zero] at d
          omega
        · exact q
      have m := Int.mul_le_mul_of_nonneg_left t (Int.le_of_lt hl)
      omega
    have m := Int.mul_le_mul_of_nonneg_left (show 2 * g.tmod l ≤ g by omega) (Int.le_of_lt hl)
    rw [Int.mul_left_comm, Int.mul_comm l g] at m
    omega
  · have e : g.tmod l = g := Int.tmod_eq_of_lt hg a
    have nn := Int.mul_nonneg hg (Int.le_of_lt hl)
    rw [e, Int.mul_comm l g]
    refine ⟨f1, ?_⟩
    rw [show f = (f - 1) + 1 by omega, Int.pow_succ] at b
    omega
theorem zgcd_f0 {g l : Int} {f : Nat} (hg : 0 ≤ g) (hl : 0 ≤ l) (hf : f = 0) (h : (l ≤ g ∧ g * l < 2 ^ f) ∨ (g < l ∧ g * l * 2 < 2 ^ f ∧ 1 ≤ f)) : l = 0 := by
  rcases Int.lt_or_le 0 l with q | q
  · have := (zgcd_pow hg q h).1
    omega
  · omega
set_option maxHeartbeats 4000000 in
theorem m_gcd {Z : zMem} {Q : Option zAV → zMem → Prop} {a b : Int} (ha : 0 ≤ a ∧ a ≤ 281474976710656) (hb : 0 ≤ b ∧ b ≤ 281474976710656) (q1 : Q (some (zL (Int.gcd a b : Nat))) Z) : zE 91 0 (zent 91 [zL a, zL b]) [] Z Q := by
  show zE 91 0 [some (zL a), none, some (zL b), none, none, none, none, none, none, none, none] [] Z Q
  refine ze_lload_n kc_91_0 rfl ?_
  refine ze_lstore kc_91_1 (Nat.le_of_ble_eq_true rfl) ?_
  simp only [zset1, zset2, zcut, List.set_cons_zero, List.set_cons_succ, List.getD_cons_zero, List.getD_cons_succ]
  refine ze_lload_n kc_91_3 rfl ?_
  refine ze_lstore kc_91_4 (Nat.le_of_ble_eq_true rfl) ?_
  simp only [zset1, zset2, zcut, List.set_cons_zero, List.set_cons_succ, List.getD_cons_zero, List.getD_cons_succ]
  refine ze_iconst kc_91_6 ?_
  refine ze_istore kc_91_7 (Nat.le_of_ble_eq_true rfl) ?_
  simp only [zset1, zset2, zcut, List.set_cons_zero, List.set_cons_succ, List.getD_cons_zero, List.getD_cons_succ]
  have loop9 : ∀ (m : Nat) (f : Nat) (x gg ll : Int) (o1 o2 : Option zAV), f = m → (x = 100 - (f : Int)) → (f ≤ 100) → (0 ≤ gg ∧ gg ≤ 281474976710656) → (0 ≤ ll ∧ ll ≤ 281474976710656) → (Int.gcd gg ll = Int.gcd a b) → ((ll ≤ gg ∧ gg * ll < 2 ^ f) ∨ (gg < ll ∧ gg * ll * 2 < 2 ^ f ∧ 1 ≤ f)) → zE 91 9 [some (zL a), none, some (zL b), none, some (zL gg), none, some (zL ll), none, some (zI x), o1, o2] [] Z Q := by
    refine zind ?_
    intro m ih f x gg ll o1 o2 hm hx hf hgg hll hG hp
    refine ze_iload kc_91_9 rfl ?_
    refine ze_bipush kc_91_11 ?_
    refine ze_icmp_ge kc_91_13 (by omega) (by omega) (fun h13 => ?_) (fun h13 => ?_)
    · skip
      refine ze_lload kc_91_44 rfl ?_
      refine ze_lreturn kc_91_46 ?_
      have e : ll = 0 := by
        first
          | exact h19
          | exact zgcd_f0 hgg.1 hll.1 (by omega) hp
      rw [e, Int.gcd_zero_right] at hG
      rw [← hG, show ((gg.natAbs : Nat) : Int) = gg by omega] at q1
      exact q1
    · skip
      refine ze_lload kc_91_16 rfl ?_
      refine ze_lconst0 kc_91_18 ?_
      refine ze_lcmp_eq kc_91_19 kc_91_20 (by omega) (by omega) (fun h19 => ?_) (fun h19 => ?_)
      · skip
        refine ze_lload kc_91_44 rfl ?_
        refine ze_lreturn kc_91_46 ?_
        have e : ll = 0 := by
          first
            | exact h19
            | exact zgcd_f0 hgg.1 hll.1 (by omega) hp
        rw [e, Int.gcd_zero_right] at hG
        rw [← hG, show ((gg.natAbs : Nat) : Int) = gg by omega] at q1
        exact q1
      · skip
        refine ze_lload kc_91_23 rfl ?_
        refine ze_lload kc_91_25 rfl ?_
        refine ze_lrem kc_91_27 (by omega) ?_
        refine ze_lstore kc_91_28 (Nat.le_of_ble_eq_true rfl) ?_
        simp only [zset1, zset2, zcut, List.set_cons_zero, List.set_cons_succ, List.getD_cons_zero, List.getD_cons_succ]
        refine ze_lload kc_91_30 rfl ?_
        refine ze_lstore kc_91_32 (Nat.le_of_ble_eq_true rfl) ?_
        simp only [zset1, zset2, zcut, List.set_cons_zero, List.set_cons_succ, List.getD_cons_zero, List.getD_cons_succ]
        refine ze_lload kc_91_34 rfl ?_
        refine ze_lstore kc_91_36 (Nat.le_of_ble_eq_true rfl) ?_
        simp only [zset1, zset2, zcut, List.set_cons_zero, List.set_cons_succ, List.getD_cons_zero, List.getD_cons_succ]
        refine ze_iinc kc_91_38 rfl ?_
        simp only [zset1, zset2, zcut, List.set_cons_zero, List.set_cons_succ, List.getD_cons_zero, List.getD_cons_succ]
        refine ze_goto kc_91_41 ?_
        have hr0 := Int.tmod_nonneg ll hgg.1
        have hr1 := Int.tmod_lt_of_pos gg (show 0 < ll by omega)
        have hpw := zgcd_pow hgg.1 (show 0 < ll by omega) hp
        refine ih _ (by have := hpw.1; omega) (f - 1) _ _ _ _ _ rfl (by omega) (by omega) (by omega) (by omega) ((zgcd_step hgg.1 (by omega)).trans hG) (Or.inl ⟨by omega, hpw.2⟩)
  refine loop9 _ 100 0 a b none none rfl (by omega) (by omega) ha hb rfl ?_
  have := zmb ha hb
  rcases Int.lt_or_le a b with q | q
  · exact Or.inr ⟨q, by omega, by omega⟩
  · exact Or.inl ⟨q, by omega⟩

set_option maxHeartbeats 4000000 in
theorem m_low {Z : zMem} {Q : Option zAV → zMem → Prop} {a b p : Int} (ha : -281474976710656 ≤ a ∧ a ≤ 281474976710656) (hb : 0 < b ∧ b ≤ 281474976710656) (hp : p = 0 ∨ p = 1) (q1 : Q (some (zL (zlow a b p))) Z) : zE 90 0 (zent 90 [zL a, zL b, zI p]) [] Z Q := by
  show zE 90 0 [some (zL a), none, some (zL b), none, some (zI p), none, none] [] Z Q
  have hgp : 0 < Int.gcd a b := Int.gcd_pos_of_ne_zero_right a (by omega)
  have hge : Int.gcd (a.natAbs : Int) b = Int.gcd a b := by unfold Int.gcd; rfl
  have hgl : ((Int.gcd a b : Nat) : Int) ≤ b := Int.le_of_dvd hb.1 (Int.gcd_dvd_right a b)
  refine ze_lload_n kc_90_0 rfl ?_
  refine zE_calls 1 kc_90_1 rfl rfl (Nat.le_of_ble_eq_true rfl) (Nat.le_of_ble_eq_true rfl) (Nat.le_of_ble_eq_true rfl) rfl ?_
  refine m_absL (by omega) ?_
  simp only [Option.toList_some, Option.toList_none, List.drop_succ_cons, List.drop_zero, List.cons_append, List.nil_append]
  refine ze_lload_n kc_90_4 rfl ?_
  refine zE_calls 2 kc_90_5 rfl rfl (Nat.le_of_ble_eq_true rfl) (Nat.le_of_ble_eq_true rfl) (Nat.le_of_ble_eq_true rfl) rfl ?_
  refine m_gcd (by omega) (by omega) ?_
  simp only [Option.toList_some, Option.toList_none, List.drop_succ_cons, List.drop_zero, List.cons_append, List.nil_append]
  rw [hge]
  refine ze_lstore kc_90_8 (Nat.le_of_ble_eq_true rfl) ?_
  simp only [zset1, zset2, zcut, List.set_cons_zero, List.set_cons_succ, List.getD_cons_zero, List.getD_cons_succ]
  refine ze_lload kc_90_10 rfl ?_
  refine ze_lconst1 kc_90_12 ?_
  refine ze_lcmp_ge kc_90_13 kc_90_14 (by omega) (by omega) (fun h13 => ?_) (fun h13 => ?_)
  · skip
    refine ze_iload kc_90_21 rfl ?_
    refine ze_if_ne kc_90_23 (by omega) (fun h23 => ?_) (fun h23 => ?_)
    · skip
      refine ze_lload_n kc_90_30 rfl ?_
      refine ze_lload kc_90_31 rfl ?_
      refine ze_ldiv kc_90_33 (by omega) ?_
      refine ze_lreturn kc_90_34 ?_
      first
        | (rw [show zlow a b p = a.tdiv (Int.gcd a b : Nat) from if_pos (by omega)] at q1; exact q1)
        | (rw [show zlow a b p = b.tdiv (Int.gcd a b : Nat) from if_neg (by omega)] at q1; exact q1)
    · skip
      refine ze_lload_n kc_90_26 rfl ?_
      refine ze_goto kc_90_27 ?_
      refine ze_lload kc_90_31 rfl ?_
      refine ze_ldiv kc_90_33 (by omega) ?_
      refine ze_lreturn kc_90_34 ?_
      first
        | (rw [show zlow a b p = a.tdiv (Int.gcd a b : Nat) from if_pos (by omega)] at q1; exact q1)
        | (rw [show zlow a b p = b.tdiv (Int.gcd a b : Nat) from if_neg (by omega)] at q1; exact q1)
  · exact absurd h13 (by omega)

set_option maxHeartbeats 4000000 in
theorem m_ready {Z : zMem} {Q : Option zAV → zMem → Prop} {s n : Nat} {c : Nat → Int} {e ρ : Int} (hS : zsF s) (hU : zSU s n c e ρ Z) (q1 : (1 ≤ n ∧ e ≤ zsum n c) → Q (some (zI 1)) Z) (q2 : ¬ (1 ≤ n ∧ e ≤ zsum n c) → Q (some (zI 0)) Z) : zE 16 0 (zent 16 [zR s]) [] Z Q := by
  show zE 16 0 [some (zR s)] [] Z Q
  obtain ⟨sT0, sR0, sR1, sT5, hF⟩ := hS
  have hF0 := hF
  obtain ⟨hT0, hT1, hT2, hT3, hR0, hR1, hR2⟩ := hF
  obtain ⟨hG0, hU2, hU3, hUe, hUr⟩ := hU
  have hG := hG0
  obtain ⟨h1, h2, h3, h4, h5, h6, h7, h8⟩ := hG
  have hsr := zsum_range h4
  refine ze_aload_n kc_16_0 rfl ?_
  refine ze_getR kc_16_1 (by first | assumption | rfl) rfl (by first | assumption | rfl) ?_
  refine ze_getI kc_16_4 (by first | assumption | rfl) (by decide) ?_
  rw [h2]
  refine ze_if_le kc_16_7 (by omega) (fun h7 => ?_) (fun h7 => ?_)
  · skip
    refine ze_iconst kc_16_28 ?_
    refine ze_ireturn kc_16_29 (by decide) ?_
    first | exact q1 (by omega) | exact q2 (by omega) | exact q3 (by omega) | exact q4 (by omega)
  · skip
    refine ze_aload_n kc_16_10 rfl ?_
    refine ze_getI kc_16_11 (by first | assumption | rfl) (by decide) ?_
    rw [hU2]
    refine ze_aload_n kc_16_14 rfl ?_
    refine ze_getR kc_16_15 (by first | assumption | rfl) rfl (by first | assumption | rfl) ?_
    refine zE_callv 1 kc_16_18 rfl rfl (Nat.le_of_ble_eq_true rfl) (Nat.le_of_ble_eq_true rfl) (Nat.le_of_ble_eq_true rfl) (by first | assumption | rfl) (by decide +kernel) rfl ?_
    refine m_all hF0 hG0 ?_
    simp only [Option.toList_some, Option.toList_none, List.drop_succ_cons, List.drop_zero, List.cons_append, List.nil_append]
    refine ze_icmp_gt kc_16_21 (by omega) (by omega) (fun h21 => ?_) (fun h21 => ?_)
    · skip
      refine ze_iconst kc_16_28 ?_
      refine ze_ireturn kc_16_29 (by decide) ?_
      first | exact q1 (by omega) | exact q2 (by omega) | exact q3 (by omega) | exact q4 (by omega)
    · skip
      refine ze_iconst kc_16_24 ?_
      refine ze_goto kc_16_25 ?_
      refine ze_ireturn kc_16_29 (by decide) ?_
      first | exact q1 (by omega) | exact q2 (by omega) | exact q3 (by omega) | exact q4 (by omega)

set_option maxHeartbeats 4000000 in
theorem m_fract {Z : zMem} {Q : Option zAV → zMem → Prop} {s n : Nat} {c : Nat → Int} {e ρ : Int} (hS : zsF s) (hU : zSU s n c e ρ Z) {r p : Int} {i : Nat} (hi : i < n) (hr : 0 ≤ r ∧ r ≤ 5) (hp : p = 0 ∨ p = 1) (he : e ≤ zsum n c) (q1 : Q (some (zL (zlow (zGt r n c i 1 e) (zS r n c) p))) Z) : zE 18 0 (zent 18 [zR s, zI r, zI (i : Int), zI p]) [] Z Q := by
  show zE 18 0 [some (zR s), some (zI r), some (zI (i : Int)), some (zI p)] [] Z Q
  obtain ⟨sT0, sR0, sR1, sT5, hF⟩ := hS
  have hF0 := hF
  obtain ⟨hT0, hT1, hT2, hT3, hR0, hR1, hR2⟩ := hF
  obtain ⟨hG0, hU2, hU3, hUe, hUr⟩ := hU
  have hG := hG0
  obtain ⟨h1, h2, h3, h4, h5, h6, h7, h8⟩ := hG
  have hsr := zsum_range h4
  have hgr := zGt_range (r := r) (w := 1) (u := e) h1 hi h4 (by omega) (by omega)
  have hss := zS_range (r := r) (n := n) (by omega) h4
  refine ze_aload_n kc_18_0 rfl ?_
  refine ze_getR kc_18_1 (by first | assumption | rfl) rfl (by first | assumption | rfl) ?_
  refine ze_iload_n kc_18_4 rfl ?_
  refine ze_iload_n kc_18_5 rfl ?_
  refine ze_aload_n kc_18_6 rfl ?_
  refine ze_getI kc_18_7 (by first | assumption | rfl) (by decide) ?_
  rw [hU2]
  refine ze_i2l kc_18_10 (by omega) ?_
  refine ze_lconst1 kc_18_11 ?_
  refine zE_callv 5 kc_18_12 rfl rfl (Nat.le_of_ble_eq_true rfl) (Nat.le_of_ble_eq_true rfl) (Nat.le_of_ble_eq_true rfl) (by first | assumption | rfl) (by decide +kernel) rfl ?_
  refine m_gets hF0 hG0 hi hr (by omega) (by omega) ?_
  simp only [Option.toList_some, Option.toList_none, List.drop_succ_cons, List.drop_zero, List.cons_append, List.nil_append]
  refine ze_aload_n kc_18_15 rfl ?_
  refine ze_getR kc_18_16 (by first | assumption | rfl) rfl (by first | assumption | rfl) ?_
  refine ze_iload_n kc_18_19 rfl ?_
  refine zE_callv 2 kc_18_20 rfl rfl (Nat.le_of_ble_eq_true rfl) (Nat.le_of_ble_eq_true rfl) (Nat.le_of_ble_eq_true rfl) (by first | assumption | rfl) (by decide +kernel) rfl ?_
  refine m_scale hF0 hG0 hr ?_
  simp only [Option.toList_some, Option.toList_none, List.drop_succ_cons, List.drop_zero, List.cons_append, List.nil_append]
  refine ze_iload_n kc_18_23 rfl ?_
  refine zE_calls 3 kc_18_24 rfl rfl (Nat.le_of_ble_eq_true rfl) (Nat.le_of_ble_eq_true rfl) (Nat.le_of_ble_eq_true rfl) rfl ?_
  refine m_low (by omega) (by omega) (by omega) ?_
  simp only [Option.toList_some, Option.toList_none, List.drop_succ_cons, List.drop_zero, List.cons_append, List.nil_append]
  refine ze_lreturn kc_18_27 ?_
  exact q1

set_option maxHeartbeats 4000000 in
theorem m_whole {Z : zMem} {Q : Option zAV → zMem → Prop} {s n : Nat} {c : Nat → Int} {e ρ : Int} (hS : zsF s) (hU : zSU s n c e ρ Z) {r : Int} {i : Nat} (hi : i < n) (hr : 0 ≤ r ∧ r ≤ 5) (he : e ≤ zsum n c) (q1 : Q (some (zI (zWh r n c e i))) Z) : zE 19 0 (zent 19 [zR s, zI r, zI (i : Int)]) [] Z Q := by
  show zE 19 0 [some (zR s), some (zI r), some (zI (i : Int)), none, none] [] Z Q
  obtain ⟨sT0, sR0, sR1, sT5, hF⟩ := hS
  have hF0 := hF
  obtain ⟨hT0, hT1, hT2, hT3, hR0, hR1, hR2⟩ := hF
  obtain ⟨hG0, hU2, hU3, hUe, hUr⟩ := hU
  have hG := hG0
  obtain ⟨h1, h2, h3, h4, h5, h6, h7, h8⟩ := hG
  have hsr := zsum_range h4
  have hgr := zGt_range (r := r) (w := 1) (u := e) h1 hi h4 (by omega) (by omega)
  have hss := zS_range (r := r) (n := n) (by omega) h4
  refine ze_aload_n kc_19_0 rfl ?_
  refine ze_getR kc_19_1 (by first | assumption | rfl) rfl (by first | assumption | rfl) ?_
  refine ze_iload_n kc_19_4 rfl ?_
  refine zE_callv 2 kc_19_5 rfl rfl (Nat.le_of_ble_eq_true rfl) (Nat.le_of_ble_eq_true rfl) (Nat.le_of_ble_eq_true rfl) (by first | assumption | rfl) (by decide +kernel) rfl ?_
  refine m_scale hF0 hG0 hr ?_
  simp only [Option.toList_some, Option.toList_none, List.drop_succ_cons, List.drop_zero, List.cons_append, List.nil_append]
  refine ze_lstore_n kc_19_8 (Nat.le_of_ble_eq_true rfl) ?_
  simp only [zset1, zset2, zcut, List.set_cons_zero, List.set_cons_succ, List.getD_cons_zero, List.getD_cons_succ]
  refine ze_lload_n kc_19_9 rfl ?_
  refine ze_lconst1 kc_19_10 ?_
  refine ze_lcmp_ge kc_19_11 kc_19_12 (by omega) (by omega) (fun h11 => ?_) (fun h11 => ?_)
  · skip
    refine ze_aload_n kc_19_19 rfl ?_
    refine ze_getR kc_19_20 (by first | assumption | rfl) rfl (by first | assumption | rfl) ?_
    refine ze_iload_n kc_19_23 rfl ?_
    refine ze_iload_n kc_19_24 rfl ?_
    refine ze_aload_n kc_19_25 rfl ?_
    refine ze_getI kc_19_26 (by first | assumption | rfl) (by decide) ?_
    rw [hU2]
    refine ze_i2l kc_19_29 (by omega) ?_
    refine ze_lconst1 kc_19_30 ?_
    refine zE_callv 5 kc_19_31 rfl rfl (Nat.le_of_ble_eq_true rfl) (Nat.le_of_ble_eq_true rfl) (Nat.le_of_ble_eq_true rfl) (by first | assumption | rfl) (by decide +kernel) rfl ?_
    refine m_gets hF0 hG0 hi hr (by omega) (by omega) ?_
    simp only [Option.toList_some, Option.toList_none, List.drop_succ_cons, List.drop_zero, List.cons_append, List.nil_append]
    refine ze_lload_n kc_19_34 rfl ?_
    refine ze_ldiv kc_19_35 (by omega) ?_
    refine ze_l2i kc_19_36 ?_
    refine ze_ireturn kc_19_37 (Or.inl rfl) ?_
    exact q1
  · exact absurd h11 (by omega)

set_option maxHeartbeats 4000000 in
theorem m_areAlike {Z : zMem} {Q : Option zAV → zMem → Prop} {s n : Nat} {c : Nat → Int} {e ρ : Int} (hS : zsF s) (hU : zSU s n c e ρ Z) {r o : Int} (hn : 1 ≤ n) (hr : 0 ≤ r ∧ r ≤ 5) (ho : 0 ≤ o ∧ o ≤ 5) (he : e ≤ zsum n c) (q1 : zLike n c e r o = true → Q (some (zI 1)) Z) (q2 : zLike n c e r o = false → Q (some (zI 0)) Z) : zE 21 0 (zent 21 [zR s, zI r, zI o]) [] Z Q := by
  show zE 21 0 [some (zR s), some (zI r), some (zI o), none, none, none, none, none, none, none] [] Z Q
  obtain ⟨sT0, sR0, sR1, sT5, hF⟩ := hS
  have hF0 := hF
  obtain ⟨hT0, hT1, hT2, hT3, hR0, hR1, hR2⟩ := hF
  obtain ⟨hG0, hU2, hU3, hUe, hUr⟩ := hU
  have hG := hG0
  obtain ⟨h1, h2, h3, h4, h5, h6, h7, h8⟩ := hG
  have hsr := zsum_range h4
  have hgr := fun (r : Int) (i : Nat) (hi : i < n) => zGt_range (r := r) (w := 1) (u := e) h1 hi h4 (by omega) (by omega)
  have hss := fun (r : Int) (hn : 1 ≤ n) => zS_range (r := r) (n := n) (c := c) (by omega) h4
  refine ze_aload_n kc_21_0 rfl ?_
  refine ze_getR kc_21_1 (by first | assumption | rfl) rfl (by first | assumption | rfl) ?_
  refine ze_iload_n kc_21_4 rfl ?_
  refine zE_callv 2 kc_21_5 rfl rfl (Nat.le_of_ble_eq_true rfl) (Nat.le_of_ble_eq_true rfl) (Nat.le_of_ble_eq_true rfl) (by first | assumption | rfl) (by decide +kernel) rfl ?_
  refine m_scale hF0 hG0 hr ?_
  simp only [Option.toList_some, Option.toList_none, List.drop_succ_cons, List.drop_zero, List.cons_append, List.nil_append]
  refine ze_lstore_n kc_21_8 (Nat.le_of_ble_eq_true rfl) ?_
  simp only [zset1, zset2, zcut, List.set_cons_zero, List.set_cons_succ, List.getD_cons_zero, List.getD_cons_succ]
  refine ze_aload_n kc_21_9 rfl ?_
  refine ze_getR kc_21_10 (by first | assumption | rfl) rfl (by first | assumption | rfl) ?_
  refine ze_iload_n kc_21_13 rfl ?_
  refine zE_callv 2 kc_21_14 rfl rfl (Nat.le_of_ble_eq_true rfl) (Nat.le_of_ble_eq_true rfl) (Nat.le_of_ble_eq_true rfl) (by first | assumption | rfl) (by decide +kernel) rfl ?_
  refine m_scale hF0 hG0 ho ?_
  simp only [Option.toList_some, Option.toList_none, List.drop_succ_cons, List.drop_zero, List.cons_append, List.nil_append]
  refine ze_lstore kc_21_17 (Nat.le_of_ble_eq_true rfl) ?_
  simp only [zset1, zset2, zcut, List.set_cons_zero, List.set_cons_succ, List.getD_cons_zero, List.getD_cons_succ]
  refine ze_iconst kc_21_19 ?_
  refine ze_istore kc_21_20 (Nat.le_of_ble_eq_true rfl) ?_
  simp only [zset1, zset2, zcut, List.set_cons_zero, List.set_cons_succ, List.getD_cons_zero, List.getD_cons_succ]
  have loop22 : ∀ (m : Nat) (k : Nat) (x : Int) (o1 o2 : Option zAV), n - k = m → (k ≤ n) → (x = k) → (∀ j, j < k → zGt r n c j 1 e * zS o n c = zGt o n c j 1 e * zS r n c) → zE 21 22 [some (zR s), some (zI r), some (zI o), some (zL (zS r n c)), none, some (zL (zS o n c)), none, some (zI x), o1, o2] [] Z Q := by
    refine zind ?_
    intro m ih k x o1 o2 hm hk hx hl
    refine ze_iload kc_21_22 rfl ?_
    refine ze_aload_n kc_21_24 rfl ?_
    refine ze_getR kc_21_25 (by first | assumption | rfl) rfl (by first | assumption | rfl) ?_
    refine ze_getI kc_21_28 (by first | assumption | rfl) (by decide) ?_
    rw [h2]
    refine ze_icmp_ge kc_21_31 (by omega) (by omega) (fun h31 => ?_) (fun h31 => ?_)
    · skip
      refine ze_iconst kc_21_87 ?_
      refine ze_ireturn kc_21_88 (by decide) ?_
      exact q1 (decide_eq_true (fun j hj => hl j (by omega)))
    · skip
      refine ze_aload_n kc_21_34 rfl ?_
      refine ze_getR kc_21_35 (by first | assumption | rfl) rfl (by first | assumption | rfl) ?_
      refine ze_iload_n kc_21_38 rfl ?_
      refine ze_iload kc_21_39 rfl ?_
      refine ze_aload_n kc_21_41 rfl ?_
      refine ze_getI kc_21_42 (by first | assumption | rfl) (by decide) ?_
      rw [hU2]
      refine ze_i2l kc_21_45 (by omega) ?_
      refine ze_lconst1 kc_21_46 ?_
      rw [hx]
      refine zE_callv 5 kc_21_47 rfl rfl (Nat.le_of_ble_eq_true rfl) (Nat.le_of_ble_eq_true rfl) (Nat.le_of_ble_eq_true rfl) (by first | assumption | rfl) (by decide +kernel) rfl ?_
      refine m_gets hF0 hG0 (i := k) (by omega) hr (by omega) (by omega) ?_
      simp only [Option.toList_some, Option.toList_none, List.drop_succ_cons, List.drop_zero, List.cons_append, List.nil_append]
      refine ze_lload kc_21_50 rfl ?_
      refine ze_lmul kc_21_52 ?_
      refine ze_lstore kc_21_53 (Nat.le_of_ble_eq_true rfl) ?_
      simp only [zset1, zset2, zcut, List.set_cons_zero, List.set_cons_succ, List.getD_cons_zero, List.getD_cons_succ]
      refine ze_lload kc_21_55 rfl ?_
      refine ze_aload_n kc_21_57 rfl ?_
      refine ze_getR kc_21_58 (by first | assumption | rfl) rfl (by first | assumption | rfl) ?_
      refine ze_iload_n kc_21_61 rfl ?_
      refine ze_iload kc_21_62 rfl ?_
      refine ze_aload_n kc_21_64 rfl ?_
      refine ze_getI kc_21_65 (by first | assumption | rfl) (by decide) ?_
      rw [hU2]
      refine ze_i2l kc_21_68 (by omega) ?_
      refine ze_lconst1 kc_21_69 ?_
      refine zE_callv 5 kc_21_70 rfl rfl (Nat.le_of_ble_eq_true rfl) (Nat.le_of_ble_eq_true rfl) (Nat.le_of_ble_eq_true rfl) (by first | assumption | rfl) (by decide +kernel) rfl ?_
      refine m_gets hF0 hG0 (i := k) (by omega) ho (by omega) (by omega) ?_
      simp only [Option.toList_some, Option.toList_none, List.drop_succ_cons, List.drop_zero, List.cons_append, List.nil_append]
      refine ze_lload_n kc_21_73 rfl ?_
      refine ze_lmul kc_21_74 ?_
      have b1 := zmb (a := zGt r n c k 1 e) (b := zS o n c) (B := 720) (hgr r k (by omega)) (by have := hss o hn; omega)
      have b2 := zmb (a := zGt o n c k 1 e) (b := zS r n c) (B := 720) (hgr o k (by omega)) (by have := hss r hn; omega)
      refine ze_lcmp_eq kc_21_75 kc_21_76 (by omega) (by omega) (fun h75 => ?_) (fun h75 => ?_)
      · skip
        refine ze_iinc kc_21_81 rfl ?_
        simp only [zset1, zset2, zcut, List.set_cons_zero, List.set_cons_succ, List.getD_cons_zero, List.getD_cons_succ]
        refine ze_goto kc_21_84 ?_
        refine ih _ (by omega) (k + 1) _ _ _ rfl (by omega) (by omega) (fun j hj => if q : j = k then (by rw [q]; exact h75) else hl j (by omega))
      · skip
        refine ze_iconst kc_21_79 ?_
        refine ze_ireturn kc_21_80 (by decide) ?_
        exact q2 (decide_eq_false (fun q => h75 (q k (by omega))))
  refine loop22 _ 0 0 none none rfl (by omega) rfl (fun j hj => by omega)

set_option maxHeartbeats 4000000 in
theorem m_alike {Z : zMem} {Q : Option zAV → zMem → Prop} {s n : Nat} {c : Nat → Int} {e ρ : Int} (hS : zsF s) (hU : zSU s n c e ρ Z) {r : Int} (hn : 1 ≤ n) (hr : 0 ≤ r ∧ r ≤ 5) (he : e ≤ zsum n c) (q1 : Q (some (zI (zAlk n c e r))) Z) : zE 20 0 (zent 20 [zR s, zI r]) [] Z Q := by
  show zE 20 0 [some (zR s), some (zI r), none, none] [] Z Q
  have hS0 := hS
  have hU0 := hU
  obtain ⟨sT0, sR0, sR1, sT5, hF⟩ := hS
  have hF0 := hF
  obtain ⟨hT0, hT1, hT2, hT3, hR0, hR1, hR2⟩ := hF
  obtain ⟨hG0, hU2, hU3, hUe, hUr⟩ := hU
  have hG := hG0
  obtain ⟨h1, h2, h3, h4, h5, h6, h7, h8⟩ := hG
  refine ze_iconst kc_20_0 ?_
  refine ze_istore_n kc_20_1 (Nat.le_of_ble_eq_true rfl) ?_
  simp only [zset1, zset2, zcut, List.set_cons_zero, List.set_cons_succ, List.getD_cons_zero, List.getD_cons_succ]
  refine ze_iconst kc_20_2 ?_
  refine ze_istore_n kc_20_3 (Nat.le_of_ble_eq_true rfl) ?_
  simp only [zset1, zset2, zcut, List.set_cons_zero, List.set_cons_succ, List.getD_cons_zero, List.getD_cons_succ]
  have loop4 : ∀ (m : Nat) (k : Nat) (x b : Int), 6 - k = m → (k ≤ 6) → (x = k) → (b = zbor k (fun o => zLike n c e r o)) → zE 20 4 [some (zR s), some (zI r), some (zI b), some (zI x)] [] Z Q := by
    refine zind ?_
    intro m ih k x b hm hk hx hb
    refine ze_iload_n kc_20_4 rfl ?_
    refine ze_bipush kc_20_5 ?_
    refine ze_icmp_ge kc_20_7 (by omega) (by omega) (fun h7 => ?_) (fun h7 => ?_)
    · skip
      refine ze_iload_n kc_20_31 rfl ?_
      refine ze_ireturn kc_20_32 (Or.inl rfl) ?_
      rw [show k = 6 by omega] at hb
      rw [hb]
      exact q1
    · skip
      refine ze_aload_n kc_20_10 rfl ?_
      refine ze_iload_n kc_20_11 rfl ?_
      refine ze_iload_n kc_20_12 rfl ?_
      refine zE_callv 3 kc_20_13 rfl rfl (Nat.le_of_ble_eq_true rfl) (Nat.le_of_ble_eq_true rfl) (Nat.le_of_ble_eq_true rfl) (by first | assumption | rfl) (by decide +kernel) rfl ?_
      refine m_areAlike hS0 hU0 hn hr (by omega) he (fun g13 => ?_) (fun g13 => ?_)
      · simp only [Option.toList_some, Option.toList_none, List.drop_succ_cons, List.drop_zero, List.cons_append, List.nil_append]
        refine ze_if_eq kc_20_16 (by decide) (fun q => absurd q (by decide)) (fun _ => ?_)
        refine ze_iload_n kc_20_19 rfl ?_
        refine ze_iconst kc_20_20 ?_
        refine ze_iload_n kc_20_21 rfl ?_
        refine ze_ishl kc_20_22 ?_
        refine ze_ior kc_20_23 ?_
        refine ze_istore_n kc_20_24 (Nat.le_of_ble_eq_true rfl) ?_
        simp only [zset1, zset2, zcut, List.set_cons_zero, List.set_cons_succ, List.getD_cons_zero, List.getD_cons_succ]
        refine ze_iinc kc_20_25 rfl ?_
        simp only [zset1, zset2, zcut, List.set_cons_zero, List.set_cons_succ, List.getD_cons_zero, List.getD_cons_succ]
        refine ze_goto kc_20_28 ?_
        refine ih _ (by omega) (k + 1) _ _ rfl (by omega) (by omega) ?_
        first
          | (rw [hb, hx]; rw [hx] at g13; exact (if_pos g13).symm)
          | (rw [hb]; rw [hx] at g13; exact (if_neg (fun q => absurd (g13.symm.trans q) (by decide))).symm)
      · simp only [Option.toList_some, Option.toList_none, List.drop_succ_cons, List.drop_zero, List.cons_append, List.nil_append]
        refine ze_if_eq kc_20_16 (by decide) (fun _ => ?_) (fun q => absurd q (by decide))
        refine ze_iinc kc_20_25 rfl ?_
        simp only [zset1, zset2, zcut, List.set_cons_zero, List.set_cons_succ, List.getD_cons_zero, List.getD_cons_succ]
        refine ze_goto kc_20_28 ?_
        refine ih _ (by omega) (k + 1) _ _ rfl (by omega) (by omega) ?_
        first
          | (rw [hb, hx]; rw [hx] at g13; exact (if_pos g13).symm)
          | (rw [hb]; rw [hx] at g13; exact (if_neg (fun q => absurd (g13.symm.trans q) (by decide))).symm)
  refine loop4 _ 0 0 0 rfl (by omega) rfl rfl
