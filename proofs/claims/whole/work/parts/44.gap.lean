/-! BITS, POURED, GAP: the class -/
theorem zp75 : 2 ^ 1075 = 2 ^ 1074 * 2 := by decide +kernel
set_option maxHeartbeats 8000000 in
theorem m_bits {Z : zMem} {Q : Option zAV → zMem → Prop} {v : UInt64} {b g c0 X : Nat} {bi gi : Int} {f : FP.Core.Fmt} (hb : bi = b) (hgi : gi = g) (hv : v.toNat < 9218868437227405312) (hb1 : 1 ≤ b ∧ b ≤ 1023) (hg52 : g ≤ 52) (hf : f.tails = 2 ^ g) (hsum : c0 + (b - 1) + g = 1074) (hX : zu v = FP.Core.unitsOf f X * 2 ^ c0) (hU : zu v < 2 ^ (1075 + b)) (hX63 : X < 2 ^ 63) (hsh : ∀ k, k < 2047 → (Int64.ofInt ((k : Nat) : Int) <<< ((Int32.ofInt (g : Nat)).toInt64 &&& 63)).toInt = ((k * 2 ^ g : Nat) : Int)) (hp : FP.Core.val64 (FP.l2d (Int64.ofInt ((2 ^ g : Nat) : Int))) = .fin false (2 ^ 52) ((g : Int) - 52)) (q1 : Q (some (zL (X : Nat))) Z) : zE 92 0 (zent 92 [zD v, zI bi, zI gi]) [] Z Q := by
  show zE 92 0 [some (zD v), none, some (zI bi), some (zI gi), none, none, none, none, none] [] Z Q
  subst hb
  subst hgi
  have hsh1 := hsh 1 (by decide)
  rw [Nat.one_mul] at hsh1
  refine ze_dload_n kc_92_0 rfl ?_
  refine ze_dconst0 kc_92_1 ?_
  refine ze_dcmp kc_92_2 kc_92_3 (fun h2 => ?_) (fun h2 => ?_)
  · skip
    refine ze_dload_n kc_92_8 rfl ?_
    refine ze_dstore kc_92_9 (Nat.le_of_ble_eq_true rfl) ?_
    simp only [zset1, zset2, zcut, zf0, zf1, zf2, zf3, List.set_cons_zero, List.set_cons_succ, List.getD_cons_zero, List.getD_cons_succ]
    refine ze_iload_n kc_92_11 rfl ?_
    refine ze_istore kc_92_12 (Nat.le_of_ble_eq_true rfl) ?_
    simp only [zset1, zset2, zcut, zf0, zf1, zf2, zf3, List.set_cons_zero, List.set_cons_succ, List.getD_cons_zero, List.getD_cons_succ]
    have loop14 : ∀ (μ : Nat) (e : Nat) (x : Int) (s : UInt64), 2 * b - e = μ → (x = e) → (b ≤ e ∧ e ≤ 2 * b) → (s.toNat < 9218868437227405312) → (zu s * 2 ^ e = zu v * 2 ^ b) → (e = b ∨ 2 ^ 1074 ≤ zu s) → zE 92 14 [some (zD v), none, some (zI (b : Nat)), some (zI (g : Nat)), some (zD s), none, some (zI x), none, none] [] Z Q := by
      refine zind ?_
      intro μ1 ih1 e x s hm1 hx he hs hσ hA
      subst hx
      have hc2 := zdc_lt (x := s) (w := zd2) hs (by rw [zd2_v.2.1]; decide)
      have hu2 := zu_lt (x := s) (w := zd2)
      rw [zd2_v.2.2] at hu2
      refine ze_dload kc_92_14 rfl ?_
      refine ze_ldc2D kc_92_16 ?_
      refine ze_dcmp kc_92_19 kc_92_20 (fun h19 => ?_) (fun h19 => ?_)
      · skip
        have loop45 : ∀ (μ : Nat) (e : Nat) (x : Int) (s : UInt64), e = μ → (x = e) → (1 ≤ e ∧ e ≤ 2 * b) → (s.toNat < 9218868437227405312) → (zu s * 2 ^ e = zu v * 2 ^ b) → (zu s < 2 ^ 1075) → (e ≤ b ∨ 2 ^ 1074 ≤ zu s) → zE 92 45 [some (zD v), none, some (zI (b : Nat)), some (zI (g : Nat)), some (zD s), none, some (zI x), none, none] [] Z Q := by
          refine zind ?_
          intro μ2 ih2 e x s hm2 hx he hs hσ hL hA
          subst hx
          have hc1 := zdc_ge (x := s) (w := FP.dconst1) hs (by rw [zd1_v.1]; decide)
          have hu1 := zu_lt (x := s) (w := FP.dconst1)
          rw [zd1_v.2] at hu1
          refine ze_dload kc_92_45 rfl ?_
          refine ze_dconst1 kc_92_47 ?_
          refine ze_dcmp kc_92_48 kc_92_49 (fun h48 => ?_) (fun h48 => ?_)
          · skip
            have hA2 : 2 ^ 1074 ≤ zu s ∨ e = 1 := by
              first
                | exact Or.inr (by omega)
                | (have hle : FP.dconst1.toNat ≤ s.toNat := of_decide_eq_true (hc1.symm.trans h48)
                   exact Or.inl (Nat.not_lt.mp (fun q => absurd (hu1.mp q) (by omega))))
            obtain ⟨u1, u2⟩ := zds_up (g := g) hs hL hg52 hp
            have hend := zbt_end (f := f) (g := g) (b := b) (c0 := c0) (X := X) (e := e) (σ := zu s) hf hsum hb1.1 he.1 (by rw [hσ, hX]) hL hA2 rfl
            have hXl : X < 2 ^ 63 := hX63
            have hN : zu (FP.dmul s (FP.l2d (Int64.ofInt ((2 ^ g : Nat) : Int)))) / 2 ^ 1074 < 2 ^ 63 := by
              rw [u2]
              have : 2 ^ g ≤ e * 2 ^ g := Nat.le_mul_of_pos_left _ he.1
              omega
            have hfin := zds_int u1 hN
            rw [u2] at hfin
            refine ze_lconst1 kc_92_72 ?_
            refine ze_iload_n kc_92_73 rfl ?_
            refine ze_lshl kc_92_74 ?_
            rw [show (Int64.ofInt 1 <<< ((Int32.ofInt (g : Nat)).toInt64 &&& 63)).toInt = ((2 ^ g : Nat) : Int) from hsh1]
            refine ze_lstore kc_92_75 (Nat.le_of_ble_eq_true rfl) ?_
            simp only [zset1, zset2, zcut, zf0, zf1, zf2, zf3, List.set_cons_zero, List.set_cons_succ, List.getD_cons_zero, List.getD_cons_succ]
            refine ze_iload kc_92_77 rfl ?_
            refine ze_i2l kc_92_79 (by omega) ?_
            refine ze_iload_n kc_92_80 rfl ?_
            refine ze_lshl kc_92_81 ?_
            rw [hsh e (by omega)]
            refine ze_dload kc_92_82 rfl ?_
            refine ze_lload kc_92_84 rfl ?_
            refine ze_l2d kc_92_86 ?_
            refine ze_dmul kc_92_87 (zdp_ok u1) ?_
            refine ze_d2l kc_92_88 ?_
            rw [hfin]
            refine ze_ladd kc_92_89 ?_
            refine ze_lload kc_92_90 rfl ?_
            refine ze_lsub kc_92_92 ?_
            refine ze_lreturn kc_92_93 ?_
            rw [show ((e * 2 ^ g : Nat) : Int) + ((zu s * 2 ^ g / 2 ^ 1074 : Nat) : Int) - ((2 ^ g : Nat) : Int) = (X : Nat) by omega]
            exact q1
          · skip
            have hsm : zu s < 2 ^ 1074 := hu1.mpr (Nat.not_le.mp (of_decide_eq_false (hc1.symm.trans h48)))
            have hh2 := fun h => zds_two hs h
            refine ze_iload kc_92_52 rfl ?_
            refine ze_iconst kc_92_54 ?_
            refine ze_icmp_le kc_92_55 (by omega) (by omega) (fun h55 => ?_) (fun h55 => ?_)
            · skip
              have hA2 : 2 ^ 1074 ≤ zu s ∨ e = 1 := by
                first
                  | exact Or.inr (by omega)
                  | (have hle : FP.dconst1.toNat ≤ s.toNat := of_decide_eq_true (hc1.symm.trans h48)
                     exact Or.inl (Nat.not_lt.mp (fun q => absurd (hu1.mp q) (by omega))))
              obtain ⟨u1, u2⟩ := zds_up (g := g) hs hL hg52 hp
              have hend := zbt_end (f := f) (g := g) (b := b) (c0 := c0) (X := X) (e := e) (σ := zu s) hf hsum hb1.1 he.1 (by rw [hσ, hX]) hL hA2 rfl
              have hXl : X < 2 ^ 63 := hX63
              have hN : zu (FP.dmul s (FP.l2d (Int64.ofInt ((2 ^ g : Nat) : Int)))) / 2 ^ 1074 < 2 ^ 63 := by
                rw [u2]
                have : 2 ^ g ≤ e * 2 ^ g := Nat.le_mul_of_pos_left _ he.1
                omega
              have hfin := zds_int u1 hN
              rw [u2] at hfin
              refine ze_lconst1 kc_92_72 ?_
              refine ze_iload_n kc_92_73 rfl ?_
              refine ze_lshl kc_92_74 ?_
              rw [show (Int64.ofInt 1 <<< ((Int32.ofInt (g : Nat)).toInt64 &&& 63)).toInt = ((2 ^ g : Nat) : Int) from hsh1]
              refine ze_lstore kc_92_75 (Nat.le_of_ble_eq_true rfl) ?_
              simp only [zset1, zset2, zcut, zf0, zf1, zf2, zf3, List.set_cons_zero, List.set_cons_succ, List.getD_cons_zero, List.getD_cons_succ]
              refine ze_iload kc_92_77 rfl ?_
              refine ze_i2l kc_92_79 (by omega) ?_
              refine ze_iload_n kc_92_80 rfl ?_
              refine ze_lshl kc_92_81 ?_
              rw [hsh e (by omega)]
              refine ze_dload kc_92_82 rfl ?_
              refine ze_lload kc_92_84 rfl ?_
              refine ze_l2d kc_92_86 ?_
              refine ze_dmul kc_92_87 (zdp_ok u1) ?_
              refine ze_d2l kc_92_88 ?_
              rw [hfin]
              refine ze_ladd kc_92_89 ?_
              refine ze_lload kc_92_90 rfl ?_
              refine ze_lsub kc_92_92 ?_
              refine ze_lreturn kc_92_93 ?_
              rw [show ((e * 2 ^ g : Nat) : Int) + ((zu s * 2 ^ g / 2 ^ 1074 : Nat) : Int) - ((2 ^ g : Nat) : Int) = (X : Nat) by omega]
              exact q1
            · skip
              refine ze_dload kc_92_58 rfl ?_
              refine ze_ldc2D kc_92_60 ?_
              refine ze_dmul kc_92_63 (zdp_ok (hh2 hsm).1) ?_
              refine ze_dstore kc_92_64 (Nat.le_of_ble_eq_true rfl) ?_
              simp only [zset1, zset2, zcut, zf0, zf1, zf2, zf3, List.set_cons_zero, List.set_cons_succ, List.getD_cons_zero, List.getD_cons_succ]
              refine ze_iinc kc_92_66 rfl ?_
              simp only [zset1, zset2, zcut, zf0, zf1, zf2, zf3, List.set_cons_zero, List.set_cons_succ, List.getD_cons_zero, List.getD_cons_succ]
              refine ze_goto kc_92_69 ?_
              refine ih2 _ (by omega) (e - 1) _ _ rfl (by omega) (by omega) (hh2 hsm).1 ?_ ?_ (Or.inl ?_)
              · obtain ⟨k, rfl⟩ : ∃ k, e = k + 1 := ⟨e - 1, by omega⟩
                have h3 : zu (FP.dmul s zd2) = zu s * 2 := (hh2 hsm).2
                show zu (FP.dmul s zd2) * 2 ^ (k + 1 - 1) = _
                rw [h3, ← hσ, Nat.add_sub_cancel, Nat.pow_succ, Nat.mul_assoc, Nat.mul_comm 2 (2 ^ k)]
              · have h3 : zu (FP.dmul s zd2) = zu s * 2 := (hh2 hsm).2
                show zu (FP.dmul s zd2) < _
                rw [h3, show 2 ^ 1075 = 2 ^ 1074 * 2 from zp75]
                exact Nat.mul_lt_mul_of_pos_right hsm (by decide)
              · rcases hA with g | g
                · omega
                · exact absurd hsm (Nat.not_lt.mpr g)
        refine loop45 _ e _ s rfl rfl (by omega) hs hσ ?_ (by omega)
        first
          | (have hlt : s.toNat < zd2.toNat := of_decide_eq_true (hc2.symm.trans h19)
             exact hu2.mpr hlt)
          | (have e2 : e = 2 * b := by omega
             rw [e2] at hσ
             have h6 : zu v * 2 ^ b < 2 ^ (1075 + b) * 2 ^ b := Nat.mul_lt_mul_of_pos_right hU (Nat.two_pow_pos _)
             rw [← hσ, show 2 ^ (1075 + b) * 2 ^ b = 2 ^ 1075 * 2 ^ (2 * b) by rw [← Nat.pow_add, ← Nat.pow_add]; congr 1; omega] at h6
             exact Nat.lt_of_mul_lt_mul_right h6)
      · skip
        have hbig : 2 ^ 1075 ≤ zu s := Nat.not_lt.mp (fun q => of_decide_eq_false (hc2.symm.trans h19) (hu2.mp q))
        have hh := fun h => zds_half hs h
        refine ze_iload kc_92_23 rfl ?_
        refine ze_iconst kc_92_25 ?_
        refine ze_iload_n kc_92_26 rfl ?_
        refine ze_imul kc_92_27 ?_
        refine ze_icmp_ge kc_92_28 (by omega) (by omega) (fun h28 => ?_) (fun h28 => ?_)
        · skip
          have loop45 : ∀ (μ : Nat) (e : Nat) (x : Int) (s : UInt64), e = μ → (x = e) → (1 ≤ e ∧ e ≤ 2 * b) → (s.toNat < 9218868437227405312) → (zu s * 2 ^ e = zu v * 2 ^ b) → (zu s < 2 ^ 1075) → (e ≤ b ∨ 2 ^ 1074 ≤ zu s) → zE 92 45 [some (zD v), none, some (zI (b : Nat)), some (zI (g : Nat)), some (zD s), none, some (zI x), none, none] [] Z Q := by
            refine zind ?_
            intro μ2 ih2 e x s hm2 hx he hs hσ hL hA
            subst hx
            have hc1 := zdc_ge (x := s) (w := FP.dconst1) hs (by rw [zd1_v.1]; decide)
            have hu1 := zu_lt (x := s) (w := FP.dconst1)
            rw [zd1_v.2] at hu1
            refine ze_dload kc_92_45 rfl ?_
            refine ze_dconst1 kc_92_47 ?_
            refine ze_dcmp kc_92_48 kc_92_49 (fun h48 => ?_) (fun h48 => ?_)
            · skip
              have hA2 : 2 ^ 1074 ≤ zu s ∨ e = 1 := by
                first
                  | exact Or.inr (by omega)
                  | (have hle : FP.dconst1.toNat ≤ s.toNat := of_decide_eq_true (hc1.symm.trans h48)
                     exact Or.inl (Nat.not_lt.mp (fun q => absurd (hu1.mp q) (by omega))))
              obtain ⟨u1, u2⟩ := zds_up (g := g) hs hL hg52 hp
              have hend := zbt_end (f := f) (g := g) (b := b) (c0 := c0) (X := X) (e := e) (σ := zu s) hf hsum hb1.1 he.1 (by rw [hσ, hX]) hL hA2 rfl
              have hXl : X < 2 ^ 63 := hX63
              have hN : zu (FP.dmul s (FP.l2d (Int64.ofInt ((2 ^ g : Nat) : Int)))) / 2 ^ 1074 < 2 ^ 63 := by
                rw [u2]
                have : 2 ^ g ≤ e * 2 ^ g := Nat.le_mul_of_pos_left _ he.1
                omega
              have hfin := zds_int u1 hN
              rw [u2] at hfin
              refine ze_lconst1 kc_92_72 ?_
              refine ze_iload_n kc_92_73 rfl ?_
              refine ze_lshl kc_92_74 ?_
              rw [show (Int64.ofInt 1 <<< ((Int32.ofInt (g : Nat)).toInt64 &&& 63)).toInt = ((2 ^ g : Nat) : Int) from hsh1]
              refine ze_lstore kc_92_75 (Nat.le_of_ble_eq_true rfl) ?_
              simp only [zset1, zset2, zcut, zf0, zf1, zf2, zf3, List.set_cons_zero, List.set_cons_succ, List.getD_cons_zero, List.getD_cons_succ]
              refine ze_iload kc_92_77 rfl ?_
              refine ze_i2l kc_92_79 (by omega) ?_
              refine ze_iload_n kc_92_80 rfl ?_
              refine ze_lshl kc_92_81 ?_
              rw [hsh e (by omega)]
              refine ze_dload kc_92_82 rfl ?_
              refine ze_lload kc_92_84 rfl ?_
              refine ze_l2d kc_92_86 ?_
              refine ze_dmul kc_92_87 (zdp_ok u1) ?_
              refine ze_d2l kc_92_88 ?_
              rw [hfin]
              refine ze_ladd kc_92_89 ?_
              refine ze_lload kc_92_90 rfl ?_
              refine ze_lsub kc_92_92 ?_
              refine ze_lreturn kc_92_93 ?_
              rw [show ((e * 2 ^ g : Nat) : Int) + ((zu s * 2 ^ g / 2 ^ 1074 : Nat) : Int) - ((2 ^ g : Nat) : Int) = (X : Nat) by omega]
              exact q1
            · skip
              have hsm : zu s < 2 ^ 1074 := hu1.mpr (Nat.not_le.mp (of_decide_eq_false (hc1.symm.trans h48)))
              have hh2 := fun h => zds_two hs h
              refine ze_iload kc_92_52 rfl ?_
              refine ze_iconst kc_92_54 ?_
              refine ze_icmp_le kc_92_55 (by omega) (by omega) (fun h55 => ?_) (fun h55 => ?_)
              · skip
                have hA2 : 2 ^ 1074 ≤ zu s ∨ e = 1 := by
                  first
                    | exact Or.inr (by omega)
                    | (have hle : FP.dconst1.toNat ≤ s.toNat := of_decide_eq_true (hc1.symm.trans h48)
                       exact Or.inl (Nat.not_lt.mp (fun q => absurd (hu1.mp q) (by omega))))
                obtain ⟨u1, u2⟩ := zds_up (g := g) hs hL hg52 hp
                have hend := zbt_end (f := f) (g := g) (b := b) (c0 := c0) (X := X) (e := e) (σ := zu s) hf hsum hb1.1 he.1 (by rw [hσ, hX]) hL hA2 rfl
                have hXl : X < 2 ^ 63 := hX63
                have hN : zu (FP.dmul s (FP.l2d (Int64.ofInt ((2 ^ g : Nat) : Int)))) / 2 ^ 1074 < 2 ^ 63 := by
                  rw [u2]
                  have : 2 ^ g ≤ e * 2 ^ g := Nat.le_mul_of_pos_left _ he.1
                  omega
                have hfin := zds_int u1 hN
                rw [u2] at hfin
                refine ze_lconst1 kc_92_72 ?_
                refine ze_iload_n kc_92_73 rfl ?_
                refine ze_lshl kc_92_74 ?_
                rw [show (Int64.ofInt 1 <<< ((Int32.ofInt (g : Nat)).toInt64 &&& 63)).toInt = ((2 ^ g : Nat) : Int) from hsh1]
                refine ze_lstore kc_92_75 (Nat.le_of_ble_eq_true rfl) ?_
                simp only [zset1, zset2, zcut, zf0, zf1, zf2, zf3, List.set_cons_zero, List.set_cons_succ, List.getD_cons_zero, List.getD_cons_succ]
                refine ze_iload kc_92_77 rfl ?_
                refine ze_i2l kc_92_79 (by omega) ?_
                refine ze_iload_n kc_92_80 rfl ?_
                refine ze_lshl kc_92_81 ?_
                rw [hsh e (by omega)]
                refine ze_dload kc_92_82 rfl ?_
                refine ze_lload kc_92_84 rfl ?_
                refine ze_l2d kc_92_86 ?_
                refine ze_dmul kc_92_87 (zdp_ok u1) ?_
                refine ze_d2l kc_92_88 ?_
                rw [hfin]
                refine ze_ladd kc_92_89 ?_
                refine ze_lload kc_92_90 rfl ?_
                refine ze_lsub kc_92_92 ?_
                refine ze_lreturn kc_92_93 ?_
                rw [show ((e * 2 ^ g : Nat) : Int) + ((zu s * 2 ^ g / 2 ^ 1074 : Nat) : Int) - ((2 ^ g : Nat) : Int) = (X : Nat) by omega]
                exact q1
              · skip
                refine ze_dload kc_92_58 rfl ?_
                refine ze_ldc2D kc_92_60 ?_
                refine ze_dmul kc_92_63 (zdp_ok (hh2 hsm).1) ?_
                refine ze_dstore kc_92_64 (Nat.le_of_ble_eq_true rfl) ?_
                simp only [zset1, zset2, zcut, zf0, zf1, zf2, zf3, List.set_cons_zero, List.set_cons_succ, List.getD_cons_zero, List.getD_cons_succ]
                refine ze_iinc kc_92_66 rfl ?_
                simp only [zset1, zset2, zcut, zf0, zf1, zf2, zf3, List.set_cons_zero, List.set_cons_succ, List.getD_cons_zero, List.getD_cons_succ]
                refine ze_goto kc_92_69 ?_
                refine ih2 _ (by omega) (e - 1) _ _ rfl (by omega) (by omega) (hh2 hsm).1 ?_ ?_ (Or.inl ?_)
                · obtain ⟨k, rfl⟩ : ∃ k, e = k + 1 := ⟨e - 1, by omega⟩
                  have h3 : zu (FP.dmul s zd2) = zu s * 2 := (hh2 hsm).2
                  show zu (FP.dmul s zd2) * 2 ^ (k + 1 - 1) = _
                  rw [h3, ← hσ, Nat.add_sub_cancel, Nat.pow_succ, Nat.mul_assoc, Nat.mul_comm 2 (2 ^ k)]
                · have h3 : zu (FP.dmul s zd2) = zu s * 2 := (hh2 hsm).2
                  show zu (FP.dmul s zd2) < _
                  rw [h3, show 2 ^ 1075 = 2 ^ 1074 * 2 from zp75]
                  exact Nat.mul_lt_mul_of_pos_right hsm (by decide)
                · rcases hA with g | g
                  · omega
                  · exact absurd hsm (Nat.not_lt.mpr g)
          refine loop45 _ e _ s rfl rfl (by omega) hs hσ ?_ (by omega)
          first
            | (have hlt : s.toNat < zd2.toNat := of_decide_eq_true (hc2.symm.trans h19)
               exact hu2.mpr hlt)
            | (have e2 : e = 2 * b := by omega
               rw [e2] at hσ
               have h6 : zu v * 2 ^ b < 2 ^ (1075 + b) * 2 ^ b := Nat.mul_lt_mul_of_pos_right hU (Nat.two_pow_pos _)
               rw [← hσ, show 2 ^ (1075 + b) * 2 ^ b = 2 ^ 1075 * 2 ^ (2 * b) by rw [← Nat.pow_add, ← Nat.pow_add]; congr 1; omega] at h6
               exact Nat.lt_of_mul_lt_mul_right h6)
        · skip
          refine ze_dload kc_92_31 rfl ?_
          refine ze_ldc2D kc_92_33 ?_
          refine ze_dmul kc_92_36 (zdp_ok (hh hbig).1) ?_
          refine ze_dstore kc_92_37 (Nat.le_of_ble_eq_true rfl) ?_
          simp only [zset1, zset2, zcut, zf0, zf1, zf2, zf3, List.set_cons_zero, List.set_cons_succ, List.getD_cons_zero, List.getD_cons_succ]
          refine ze_iinc kc_92_39 rfl ?_
          simp only [zset1, zset2, zcut, zf0, zf1, zf2, zf3, List.set_cons_zero, List.set_cons_succ, List.getD_cons_zero, List.getD_cons_succ]
          refine ze_goto kc_92_42 ?_
          refine ih1 _ (by omega) (e + 1) _ _ rfl (by omega) (by omega) (hh hbig).1 ?_ (Or.inr ?_)
          · rw [← hσ, ← (hh hbig).2, Nat.pow_succ, Nat.mul_assoc, Nat.mul_comm 2 (2 ^ e)]
            rfl
          · have h3 := (hh hbig).2
            have h4 : zu (FP.dmul s zdh) * 2 = zu s := h3
            have h5 : 2 ^ 1075 = 2 ^ 1074 * 2 := zp75
            rw [← h4, h5] at hbig
            exact Nat.le_of_mul_le_mul_right hbig (by decide)
    refine loop14 _ b _ v rfl rfl (by omega) hv rfl (Or.inl rfl)
  · skip
    refine ze_lconst0 kc_92_6 ?_
    refine ze_lreturn kc_92_7 ?_
    have hz : zdc .gt .g v FP.dconst0 = decide (FP.dconst0.toNat < v.toNat) := zdc_gt hv (by decide)
    have h0 : ¬ FP.dconst0.toNat < v.toNat := of_decide_eq_false (hz.symm.trans h2)
    have h1 : v.toNat = 0 := by
      have : FP.dconst0.toNat = 0 := rfl
      omega
    have h3 : zu v = 0 := by
      unfold zu
      rw [h1]
      exact FP.Core.unitsOf_zero _
    have h4 : X = 0 := by
      rw [h3] at hX
      rcases Nat.mul_eq_zero.mp hX.symm with g | g
      · exact FP.Core.unitsOf_eq_zero.mp g
      · have := Nat.two_pow_pos c0
        omega
    rw [h4] at q1
    exact q1

theorem zub_32 {x : UInt32} (h : x.toNat < 2139095040) : FP.Core.unitsOf FP.Core.b32 x.toNat * 2 ^ 925 < 2 ^ (1075 + 127) := by
  have h1 := FP.Core.unitsOf_lt (f := FP.Core.b32) h
  have h2 : FP.Core.unitsOf FP.Core.b32 2139095040 = 2 ^ 277 := by decide +kernel
  rw [h2] at h1
  have h3 : 2 ^ 277 * 2 ^ 925 = 2 ^ (1075 + 127) := by rw [← Nat.pow_add]
  rw [← h3]
  exact Nat.mul_lt_mul_of_pos_right h1 (Nat.two_pow_pos _)
theorem zub_64 {x : UInt64} (h : x.toNat < 9218868437227405312) : zu x < 2 ^ (1075 + 1023) := by
  have h1 := FP.Core.unitsOf_lt (f := FP.Core.b64) h
  have h2 : FP.Core.unitsOf FP.Core.b64 9218868437227405312 = 2 ^ 2098 := by decide +kernel
  rw [h2] at h1
  exact h1

set_option maxHeartbeats 8000000 in
theorem m_pouredX {Z : zMem} {Q : Option zAV → zMem → Prop} {n : Nat} {c : Nat → Int} {e ρ : Int} (hC : zCl n c e ρ Z) {r m i : Int} (hr : -2147483648 ≤ r ∧ r ≤ 2147483647) (hm : -2147483648 ≤ m ∧ m ≤ 2147483647) (hi : -2147483648 ≤ i ∧ i ≤ 2147483647) (q1 : ∀ (Z' : zMem), zFq Z Z' → Q (some (zL (oPoured n c e r m i))) Z') : zE 63 0 (zent 63 [zR 0, zI r, zI m, zI i]) [] Z Q := by
  show zE 63 0 [some (zR 0), some (zI r), some (zI m), some (zI i), none] [] Z Q
  obtain ⟨hU0, hG0, n6, n0, cc, cr, ce, cρ, ceR, cρR, c11, c16⟩ := zCl_o hC
  have csr := zsum_range cr
  refine ze_iload_n kc_63_0 rfl ?_
  refine ze_iload_n kc_63_1 rfl ?_
  refine zE_calls 2 kc_63_2 rfl rfl (Nat.le_of_ble_eq_true rfl) (Nat.le_of_ble_eq_true rfl) (Nat.le_of_ble_eq_true rfl) rfl ?_
  refine m_isPourable (by omega) (by omega) (fun g2 => ?_) (fun g2 => ?_)
  · simp only [Option.toList_some, Option.toList_none, List.drop_succ_cons, List.drop_zero, List.cons_append, List.nil_append]
    refine ze_if_eq kc_63_5 (by decide) (fun q => absurd q (by decide)) (fun _ => ?_)
    refine ze_aload_n kc_63_8 rfl ?_
    refine ze_getR kc_63_9 rfl rfl rfl ?_
    refine zE_callv 1 kc_63_12 rfl rfl (Nat.le_of_ble_eq_true rfl) (Nat.le_of_ble_eq_true rfl) (Nat.le_of_ble_eq_true rfl) rfl (by decide +kernel) rfl ?_
    refine m_ready zsF_1 hU0 (fun g12 => ?_) (fun g12 => ?_)
    · simp only [Option.toList_some, Option.toList_none, List.drop_succ_cons, List.drop_zero, List.cons_append, List.nil_append]
      refine ze_if_ne kc_63_15 (by decide) (fun _ => ?_) (fun q => absurd q (by decide))
      refine ze_iload_n kc_63_22 rfl ?_
      refine ze_iconst kc_63_23 ?_
      refine ze_icmp_eq kc_63_24 (by omega) (by omega) (fun h24 => ?_) (fun h24 => ?_)
      · skip
        have hPk := zPs_ok (n := n) (r := r) (g := zfC (zmx c n)) cr (zfD_in ceR (show 1 ≤ m ∧ m ≤ 60 by omega)) m.toNat (by omega)
        have hWt := zfW_in (show m.toNat ≤ 60 by omega)
        refine ze_aload_n kc_63_45 rfl ?_
        refine ze_getR kc_63_46 rfl rfl rfl ?_
        refine ze_aload_n kc_63_49 rfl ?_
        refine ze_getR kc_63_50 rfl rfl rfl ?_
        refine ze_iload_n kc_63_53 rfl ?_
        refine ze_iload_n kc_63_54 rfl ?_
        refine zE_callv 4 kc_63_55 rfl rfl (Nat.le_of_ble_eq_true rfl) (Nat.le_of_ble_eq_true rfl) (Nat.le_of_ble_eq_true rfl) rfl (by decide +kernel) rfl ?_
        refine m_pour hC (by omega) (by omega) (fun Z2 f1 f2 => ?_)
        simp only [Option.toList_some, Option.toList_none, List.drop_succ_cons, List.drop_zero, List.cons_append, List.nil_append]
        refine ze_iload_n kc_63_58 rfl ?_
        refine ze_iconst kc_63_59 ?_
        refine ze_icmp_ne kc_63_60 (by omega) (by omega) (fun h60 => ?_) (fun h60 => ?_)
        · skip
          obtain ⟨κ, rfl⟩ := Int.eq_ofNat_of_zero_le (show 0 ≤ i by omega)
          have hκ : κ < n := by omega
          refine ze_aload_n kc_63_73 rfl ?_
          refine ze_getR kc_63_74 rfl rfl rfl ?_
          refine ze_getR kc_63_77 rfl rfl rfl ?_
          refine ze_iload_n kc_63_80 rfl ?_
          refine ze_fald kc_63_81 rfl (by omega) ?_
          first
            | (rw [Int.toNat_natCast, f1.2.1 κ hκ, zfr]
               have hxx : ((zPo n c e r m).1 κ).toNat < 2139095040 := by
                 have h1 := hPk.1 κ hκ
                 have h2 := zfC_in (cr κ hκ)
                 show ((zPs n r c (zfC (zmx c n)) (zfD e m) m.toNat).1 κ).toNat < _
                 omega
               change zE 63 82 _ [zF ((zPo n c e r m).1 κ)] Z2 Q
               generalize hAm : (zPo n c e r m).1 κ = amt at *)
            | skip
          refine ze_fstore kc_63_82 (Nat.le_of_ble_eq_true rfl) ?_
          simp only [zset1, zset2, zcut, zf0, zf1, zf2, zf3, List.set_cons_zero, List.set_cons_succ, List.getD_cons_zero, List.getD_cons_succ]
          refine ze_fload kc_63_84 rfl ?_
          refine ze_f2d kc_63_86 (zdp_ok (zfd_v hxx).1) ?_
          refine ze_bipush kc_63_87 ?_
          refine ze_bipush kc_63_89 ?_
          refine zE_calls 3 kc_63_91 rfl rfl (Nat.le_of_ble_eq_true rfl) (Nat.le_of_ble_eq_true rfl) (Nat.le_of_ble_eq_true rfl) rfl ?_
          refine m_bits (f := FP.Core.b32) (b := 127) (g := 23) (c0 := 925) (X := (amt).toNat) rfl rfl (zfd_v hxx).1 (by decide) (by decide) FP.Core.tails_b32 (by decide) (zfd_v hxx).2 (by rw [(zfd_v hxx).2]; exact zub_32 hxx) (by omega) zsh_23 zone_23 ?_
          simp only [Option.toList_some, Option.toList_none, List.drop_succ_cons, List.drop_zero, List.cons_append, List.nil_append]
          refine ze_lreturn kc_63_94 ?_
          rw [← hAm]
          first
            | (rw [show oPoured n c e r m i = ((zPo n c e r m).2.toNat : Nat) from (if_pos (by omega)).trans (if_pos (by omega))] at q1
               exact q1 _ ⟨fun k a b d e g => f2 k (by omega) (by omega) (by omega), fun j a b d e g => by rw [f2 63 (by decide) (by decide) (by decide)], fun q => by rw [f2 11 (by decide) (by decide) (by decide)]; exact q, fun q => by rw [f2 16 (by decide) (by decide) (by decide)]; exact q⟩)
            | (rw [show oPoured n c e r m κ = (((zPo n c e r m).1 κ).toNat : Nat) from (if_pos (by omega)).trans (if_neg (by omega))] at q1
               exact q1 _ ⟨fun k a b d e g => f2 k (by omega) (by omega) (by omega), fun j a b d e g => by rw [f2 63 (by decide) (by decide) (by decide)], fun q => by rw [f2 11 (by decide) (by decide) (by decide)]; exact q, fun q => by rw [f2 16 (by decide) (by decide) (by decide)]; exact q⟩)
        · skip
          refine ze_aload_n kc_63_63 rfl ?_
          refine ze_getR kc_63_64 rfl rfl rfl ?_
          refine ze_getF kc_63_67 rfl rfl ?_
          rw [f1.2.2.2.2, zfr]
          have hxx : (zPo n c e r m).2.toNat < 2139095040 := by
            have := hPk.2
            show (zPs n r c (zfC (zmx c n)) (zfD e m) m.toNat).2.toNat < _
            omega
          change zE 63 70 _ [zF (zPo n c e r m).2] Z2 Q
          generalize hAm : (zPo n c e r m).2 = amt at *
          refine ze_goto kc_63_70 ?_
          first
            | (rw [Int.toNat_natCast, f1.2.1 κ hκ, zfr]
               have hxx : ((zPo n c e r m).1 κ).toNat < 2139095040 := by
                 have h1 := hPk.1 κ hκ
                 have h2 := zfC_in (cr κ hκ)
                 show ((zPs n r c (zfC (zmx c n)) (zfD e m) m.toNat).1 κ).toNat < _
                 omega
               change zE 63 82 _ [zF ((zPo n c e r m).1 κ)] Z2 Q
               generalize hAm : (zPo n c e r m).1 κ = amt at *)
            | skip
          refine ze_fstore kc_63_82 (Nat.le_of_ble_eq_true rfl) ?_
          simp only [zset1, zset2, zcut, zf0, zf1, zf2, zf3, List.set_cons_zero, List.set_cons_succ, List.getD_cons_zero, List.getD_cons_succ]
          refine ze_fload kc_63_84 rfl ?_
          refine ze_f2d kc_63_86 (zdp_ok (zfd_v hxx).1) ?_
          refine ze_bipush kc_63_87 ?_
          refine ze_bipush kc_63_89 ?_
          refine zE_calls 3 kc_63_91 rfl rfl (Nat.le_of_ble_eq_true rfl) (Nat.le_of_ble_eq_true rfl) (Nat.le_of_ble_eq_true rfl) rfl ?_
          refine m_bits (f := FP.Core.b32) (b := 127) (g := 23) (c0 := 925) (X := (amt).toNat) rfl rfl (zfd_v hxx).1 (by decide) (by decide) FP.Core.tails_b32 (by decide) (zfd_v hxx).2 (by rw [(zfd_v hxx).2]; exact zub_32 hxx) (by omega) zsh_23 zone_23 ?_
          simp only [Option.toList_some, Option.toList_none, List.drop_succ_cons, List.drop_zero, List.cons_append, List.nil_append]
          refine ze_lreturn kc_63_94 ?_
          rw [← hAm]
          first
            | (rw [show oPoured n c e r m i = ((zPo n c e r m).2.toNat : Nat) from (if_pos (by omega)).trans (if_pos (by omega))] at q1
               exact q1 _ ⟨fun k a b d e g => f2 k (by omega) (by omega) (by omega), fun j a b d e g => by rw [f2 63 (by decide) (by decide) (by decide)], fun q => by rw [f2 11 (by decide) (by decide) (by decide)]; exact q, fun q => by rw [f2 16 (by decide) (by decide) (by decide)]; exact q⟩)
            | (rw [show oPoured n c e r m κ = (((zPo n c e r m).1 κ).toNat : Nat) from (if_pos (by omega)).trans (if_neg (by omega))] at q1
               exact q1 _ ⟨fun k a b d e g => f2 k (by omega) (by omega) (by omega), fun j a b d e g => by rw [f2 63 (by decide) (by decide) (by decide)], fun q => by rw [f2 11 (by decide) (by decide) (by decide)]; exact q, fun q => by rw [f2 16 (by decide) (by decide) (by decide)]; exact q⟩)
      · skip
        refine ze_aload_n kc_63_27 rfl ?_
        refine ze_getR kc_63_28 rfl rfl rfl ?_
        refine ze_getR kc_63_31 rfl rfl rfl ?_
        refine ze_iload_n kc_63_34 rfl ?_
        refine zE_callv 2 kc_63_35 rfl rfl (Nat.le_of_ble_eq_true rfl) (Nat.le_of_ble_eq_true rfl) (Nat.le_of_ble_eq_true rfl) rfl (by decide +kernel) rfl ?_
        refine m_has zgF_2 (by omega) (by omega) (fun g35 => ?_) (fun g35 => ?_)
        · simp only [Option.toList_some, Option.toList_none, List.drop_succ_cons, List.drop_zero, List.cons_append, List.nil_append]
          refine ze_if_ne kc_63_38 (by decide) (fun _ => ?_) (fun q => absurd q (by decide))
          have hPk := zPs_ok (n := n) (r := r) (g := zfC (zmx c n)) cr (zfD_in ceR (show 1 ≤ m ∧ m ≤ 60 by omega)) m.toNat (by omega)
          have hWt := zfW_in (show m.toNat ≤ 60 by omega)
          refine ze_aload_n kc_63_45 rfl ?_
          refine ze_getR kc_63_46 rfl rfl rfl ?_
          refine ze_aload_n kc_63_49 rfl ?_
          refine ze_getR kc_63_50 rfl rfl rfl ?_
          refine ze_iload_n kc_63_53 rfl ?_
          refine ze_iload_n kc_63_54 rfl ?_
          refine zE_callv 4 kc_63_55 rfl rfl (Nat.le_of_ble_eq_true rfl) (Nat.le_of_ble_eq_true rfl) (Nat.le_of_ble_eq_true rfl) rfl (by decide +kernel) rfl ?_
          refine m_pour hC (by omega) (by omega) (fun Z2 f1 f2 => ?_)
          simp only [Option.toList_some, Option.toList_none, List.drop_succ_cons, List.drop_zero, List.cons_append, List.nil_append]
          refine ze_iload_n kc_63_58 rfl ?_
          refine ze_iconst kc_63_59 ?_
          refine ze_icmp_ne kc_63_60 (by omega) (by omega) (fun h60 => ?_) (fun h60 => ?_)
          · skip
            obtain ⟨κ, rfl⟩ := Int.eq_ofNat_of_zero_le (show 0 ≤ i by omega)
            have hκ : κ < n := by omega
            refine ze_aload_n kc_63_73 rfl ?_
            refine ze_getR kc_63_74 rfl rfl rfl ?_
            refine ze_getR kc_63_77 rfl rfl rfl ?_
            refine ze_iload_n kc_63_80 rfl ?_
            refine ze_fald kc_63_81 rfl (by omega) ?_
            first
              | (rw [Int.toNat_natCast, f1.2.1 κ hκ, zfr]
                 have hxx : ((zPo n c e r m).1 κ).toNat < 2139095040 := by
                   have h1 := hPk.1 κ hκ
                   have h2 := zfC_in (cr κ hκ)
                   show ((zPs n r c (zfC (zmx c n)) (zfD e m) m.toNat).1 κ).toNat < _
                   omega
                 change zE 63 82 _ [zF ((zPo n c e r m).1 κ)] Z2 Q
                 generalize hAm : (zPo n c e r m).1 κ = amt at *)
              | skip
            refine ze_fstore kc_63_82 (Nat.le_of_ble_eq_true rfl) ?_
            simp only [zset1, zset2, zcut, zf0, zf1, zf2, zf3, List.set_cons_zero, List.set_cons_succ, List.getD_cons_zero, List.getD_cons_succ]
            refine ze_fload kc_63_84 rfl ?_
            refine ze_f2d kc_63_86 (zdp_ok (zfd_v hxx).1) ?_
            refine ze_bipush kc_63_87 ?_
            refine ze_bipush kc_63_89 ?_
            refine zE_calls 3 kc_63_91 rfl rfl (Nat.le_of_ble_eq_true rfl) (Nat.le_of_ble_eq_true rfl) (Nat.le_of_ble_eq_true rfl) rfl ?_
            refine m_bits (f := FP.Core.b32) (b := 127) (g := 23) (c0 := 925) (X := (amt).toNat) rfl rfl (zfd_v hxx).1 (by decide) (by decide) FP.Core.tails_b32 (by decide) (zfd_v hxx).2 (by rw [(zfd_v hxx).2]; exact zub_32 hxx) (by omega) zsh_23 zone_23 ?_
            simp only [Option.toList_some, Option.toList_none, List.drop_succ_cons, List.drop_zero, List.cons_append, List.nil_append]
            refine ze_lreturn kc_63_94 ?_
            rw [← hAm]
            first
              | (rw [show oPoured n c e r m i = ((zPo n c e r m).2.toNat : Nat) from (if_pos (by omega)).trans (if_pos (by omega))] at q1
                 exact q1 _ ⟨fun k a b d e g => f2 k (by omega) (by omega) (by omega), fun j a b d e g => by rw [f2 63 (by decide) (by decide) (by decide)], fun q => by rw [f2 11 (by decide) (by decide) (by decide)]; exact q, fun q => by rw [f2 16 (by decide) (by decide) (by decide)]; exact q⟩)
              | (rw [show oPoured n c e r m κ = (((zPo n c e r m).1 κ).toNat : Nat) from (if_pos (by omega)).trans (if_neg (by omega))] at q1
                 exact q1 _ ⟨fun k a b d e g => f2 k (by omega) (by omega) (by omega), fun j a b d e g => by rw [f2 63 (by decide) (by decide) (by decide)], fun q => by rw [f2 11 (by decide) (by decide) (by decide)]; exact q, fun q => by rw [f2 16 (by decide) (by decide) (by decide)]; exact q⟩)
          · skip
            refine ze_aload_n kc_63_63 rfl ?_
            refine ze_getR kc_63_64 rfl rfl rfl ?_
            refine ze_getF kc_63_67 rfl rfl ?_
            rw [f1.2.2.2.2, zfr]
            have hxx : (zPo n c e r m).2.toNat < 2139095040 := by
              have := hPk.2
              show (zPs n r c (zfC (zmx c n)) (zfD e m) m.toNat).2.toNat < _
              omega
            change zE 63 70 _ [zF (zPo n c e r m).2] Z2 Q
            generalize hAm : (zPo n c e r m).2 = amt at *
            refine ze_goto kc_63_70 ?_
            first
              | (rw [Int.toNat_natCast, f1.2.1 κ hκ, zfr]
                 have hxx : ((zPo n c e r m).1 κ).toNat < 2139095040 := by
                   have h1 := hPk.1 κ hκ
                   have h2 := zfC_in (cr κ hκ)
                   show ((zPs n r c (zfC (zmx c n)) (zfD e m) m.toNat).1 κ).toNat < _
                   omega
                 change zE 63 82 _ [zF ((zPo n c e r m).1 κ)] Z2 Q
                 generalize hAm : (zPo n c e r m).1 κ = amt at *)
              | skip
            refine ze_fstore kc_63_82 (Nat.le_of_ble_eq_true rfl) ?_
            simp only [zset1, zset2, zcut, zf0, zf1, zf2, zf3, List.set_cons_zero, List.set_cons_succ, List.getD_cons_zero, List.getD_cons_succ]
            refine ze_fload kc_63_84 rfl ?_
            refine ze_f2d kc_63_86 (zdp_ok (zfd_v hxx).1) ?_
            refine ze_bipush kc_63_87 ?_
            refine ze_bipush kc_63_89 ?_
            refine zE_calls 3 kc_63_91 rfl rfl (Nat.le_of_ble_eq_true rfl) (Nat.le_of_ble_eq_true rfl) (Nat.le_of_ble_eq_true rfl) rfl ?_
            refine m_bits (f := FP.Core.b32) (b := 127) (g := 23) (c0 := 925) (X := (amt).toNat) rfl rfl (zfd_v hxx).1 (by decide) (by decide) FP.Core.tails_b32 (by decide) (zfd_v hxx).2 (by rw [(zfd_v hxx).2]; exact zub_32 hxx) (by omega) zsh_23 zone_23 ?_
            simp only [Option.toList_some, Option.toList_none, List.drop_succ_cons, List.drop_zero, List.cons_append, List.nil_append]
            refine ze_lreturn kc_63_94 ?_
            rw [← hAm]
            first
              | (rw [show oPoured n c e r m i = ((zPo n c e r m).2.toNat : Nat) from (if_pos (by omega)).trans (if_pos (by omega))] at q1
                 exact q1 _ ⟨fun k a b d e g => f2 k (by omega) (by omega) (by omega), fun j a b d e g => by rw [f2 63 (by decide) (by decide) (by decide)], fun q => by rw [f2 11 (by decide) (by decide) (by decide)]; exact q, fun q => by rw [f2 16 (by decide) (by decide) (by decide)]; exact q⟩)
              | (rw [show oPoured n c e r m κ = (((zPo n c e r m).1 κ).toNat : Nat) from (if_pos (by omega)).trans (if_neg (by omega))] at q1
                 exact q1 _ ⟨fun k a b d e g => f2 k (by omega) (by omega) (by omega), fun j a b d e g => by rw [f2 63 (by decide) (by decide) (by decide)], fun q => by rw [f2 11 (by decide) (by decide) (by decide)]; exact q, fun q => by rw [f2 16 (by decide) (by decide) (by decide)]; exact q⟩)
        · simp only [Option.toList_some, Option.toList_none, List.drop_succ_cons, List.drop_zero, List.cons_append, List.nil_append]
          refine ze_if_ne kc_63_38 (by decide) (fun q => absurd q (by decide)) (fun _ => ?_)
          refine ze_ldc2L kc_63_41 ?_
          refine ze_lreturn kc_63_44 ?_
          rw [show oPoured n c e r m i = -9223372036854775808 from if_neg (by omega)] at q1
          exact q1 _ zFq_refl
    · simp only [Option.toList_some, Option.toList_none, List.drop_succ_cons, List.drop_zero, List.cons_append, List.nil_append]
      refine ze_if_ne kc_63_15 (by decide) (fun q => absurd q (by decide)) (fun _ => ?_)
      refine ze_ldc2L kc_63_18 ?_
      refine ze_lreturn kc_63_21 ?_
      rw [show oPoured n c e r m i = -9223372036854775808 from if_neg (by omega)] at q1
      exact q1 _ zFq_refl
  · simp only [Option.toList_some, Option.toList_none, List.drop_succ_cons, List.drop_zero, List.cons_append, List.nil_append]
    refine ze_if_eq kc_63_5 (by decide) (fun _ => ?_) (fun q => absurd q (by decide))
    refine ze_ldc2L kc_63_18 ?_
    refine ze_lreturn kc_63_21 ?_
    rw [show oPoured n c e r m i = -9223372036854775808 from if_neg (by omega)] at q1
    exact q1 _ zFq_refl

set_option maxHeartbeats 8000000 in
theorem m_widest {Z : zMem} {Q : Option zAV → zMem → Prop} {n : Nat} {c : Nat → Int} {e ρ : Int} (hC : zCl n c e ρ Z) {S : (Nat → UInt32) × UInt32} {r : Int} (hV : zVX n c S Z) (ha : ∀ i, i < n → (S.1 i).toNat ≤ (zfC (c i)).toNat) (hr : 0 ≤ r ∧ r ≤ 5) (hn : 1 ≤ n) (he : e ≤ zsum n c) (q1 : (zGw n c e r S.1 n).toNat < 9218868437227405312 → Q (some (zD (zGw n c e r S.1 n))) Z) : zE 65 0 (zent 65 [zR 0, zI r]) [] Z Q := by
  show zE 65 0 [some (zR 0), some (zI r), none, none, none, none, none, none, none, none, none, none, none] [] Z Q
  obtain ⟨hU0, hG0, n6, n0, cc, cr, ce, cρ, ceR, cρR, c11, c16⟩ := zCl_o hC
  have csr := zsum_range cr
  have hS := zS_range (r := r) (n := n) (c := c) ⟨hn, n6⟩ cr
  obtain ⟨v1, v2, -, -, -⟩ := hV
  refine ze_dconst0 kc_65_0 ?_
  refine ze_dstore_n kc_65_1 (Nat.le_of_ble_eq_true rfl) ?_
  simp only [zset1, zset2, zcut, zf0, zf1, zf2, zf3, List.set_cons_zero, List.set_cons_succ, List.getD_cons_zero, List.getD_cons_succ]
  refine ze_aload_n kc_65_2 rfl ?_
  refine ze_getR kc_65_3 rfl rfl rfl ?_
  refine ze_getR kc_65_6 rfl rfl rfl ?_
  refine ze_iload_n kc_65_9 rfl ?_
  refine zE_callv 2 kc_65_10 rfl rfl (Nat.le_of_ble_eq_true rfl) (Nat.le_of_ble_eq_true rfl) (Nat.le_of_ble_eq_true rfl) rfl (by decide +kernel) rfl ?_
  refine m_scale zgF_2 hG0 hr ?_
  simp only [Option.toList_some, Option.toList_none, List.drop_succ_cons, List.drop_zero, List.cons_append, List.nil_append]
  refine ze_l2d kc_65_13 ?_
  refine ze_dstore kc_65_14 (Nat.le_of_ble_eq_true rfl) ?_
  simp only [zset1, zset2, zcut, zf0, zf1, zf2, zf3, List.set_cons_zero, List.set_cons_succ, List.getD_cons_zero, List.getD_cons_succ]
  refine ze_iconst kc_65_16 ?_
  refine ze_istore kc_65_17 (Nat.le_of_ble_eq_true rfl) ?_
  simp only [zset1, zset2, zcut, zf0, zf1, zf2, zf3, List.set_cons_zero, List.set_cons_succ, List.getD_cons_zero, List.getD_cons_succ]
  have loop19 : ∀ (μ : Nat) (k : Nat) (x : Int) (w : UInt64) (o1 o2 o3 o4 o5 o6 : Option zAV), n - k = μ → (k ≤ n) → (x = k) → (w = zGw n c e r S.1 k) → ((zGw n c e r S.1 k).toNat < 9218868437227405312) → zE 65 19 [some (zR 0), some (zI r), some (zD w), none, some (zD (FP.l2d (Int64.ofInt (zS r n c)))), none, some (zI x), o1, o2, o3, o4, o5, o6] [] Z Q := by
    refine zind ?_
    intro μ ih k x w o1 o2 o3 o4 o5 o6 hm hk hx hww hw
    subst hx
    subst hww
    refine ze_iload kc_65_19 rfl ?_
    refine ze_aload_n kc_65_21 rfl ?_
    refine ze_getR kc_65_22 rfl rfl rfl ?_
    refine ze_getR kc_65_25 rfl rfl rfl ?_
    refine ze_getI kc_65_28 rfl (by decide) ?_
    rw [n0]
    refine ze_icmp_ge kc_65_31 (by omega) (by omega) (fun h31 => ?_) (fun h31 => ?_)
    · skip
      refine ze_dload_n kc_65_115 rfl ?_
      refine ze_dreturn kc_65_116 ?_
      have e2 : zGw n c e r S.1 n = zGw n c e r S.1 k := by rw [show k = n by omega]
      rw [e2] at q1
      exact q1 hw
    · skip
      have gG := zGt_range (r := r) (i := k) (w := 1) (u := e) n6 (show k < n by omega) cr (by omega) (by omega)
      have hak := zfC_in (cr k (by omega))
      have hak2 := ha k (by omega)
      refine ze_aload_n kc_65_34 rfl ?_
      refine ze_getR kc_65_35 rfl rfl rfl ?_
      refine ze_getR kc_65_38 rfl rfl rfl ?_
      refine ze_iload_n kc_65_41 rfl ?_
      refine ze_iload kc_65_42 rfl ?_
      refine ze_aload_n kc_65_44 rfl ?_
      refine ze_getR kc_65_45 rfl rfl rfl ?_
      refine ze_getI kc_65_48 rfl (by decide) ?_
      rw [ce]
      refine ze_i2l kc_65_51 (by omega) ?_
      refine ze_lconst1 kc_65_52 ?_
      refine zE_callv 5 kc_65_53 rfl rfl (Nat.le_of_ble_eq_true rfl) (Nat.le_of_ble_eq_true rfl) (Nat.le_of_ble_eq_true rfl) rfl (by decide +kernel) rfl ?_
      refine m_gets zgF_2 hG0 (i := k) (by omega) hr (by omega) (by omega) ?_
      simp only [Option.toList_some, Option.toList_none, List.drop_succ_cons, List.drop_zero, List.cons_append, List.nil_append]
      refine ze_l2d kc_65_56 ?_
      refine ze_dload kc_65_57 rfl ?_
      refine ze_ddiv kc_65_59 (zdq_ok (by omega) (by omega)) ?_
      refine ze_dstore kc_65_60 (Nat.le_of_ble_eq_true rfl) ?_
      simp only [zset1, zset2, zcut, zf0, zf1, zf2, zf3, List.set_cons_zero, List.set_cons_succ, List.getD_cons_zero, List.getD_cons_succ]
      refine ze_aload_n kc_65_62 rfl ?_
      refine ze_getR kc_65_63 rfl rfl rfl ?_
      refine ze_getR kc_65_66 rfl rfl rfl ?_
      refine ze_iload kc_65_69 rfl ?_
      refine ze_fald kc_65_71 rfl (by omega) ?_
      rw [Int.toNat_natCast, v2 k (by omega), zfr]
      refine ze_f2d kc_65_72 (zdp_ok (zfd_v (by omega)).1) ?_
      refine ze_dload kc_65_73 rfl ?_
      refine ze_dsub kc_65_75 (zdo_ok (by omega) (by omega) (by omega)) ?_
      have ho := zdo_in (a := S.1 k) (G := zGt r n c k 1 e) (S := zS r n c) (by omega) (by omega) (by omega)
      change zE 65 76 _ [zD (zdo (S.1 k) (zGt r n c k 1 e) (zS r n c))] Z Q
      have hz := zsz_v (w := zGw n c e r S.1 k) (x := zdo (S.1 k) (zGt r n c k 1 e) (zS r n c)) hw (by omega)
      have hz2 := (zpk_v (w := zGw n c e r S.1 k) (x := zdo (S.1 k) (zGt r n c k 1 e) (zS r n c)) hw (by omega)).2
      have hstep : zGw n c e r S.1 (k + 1) = zpk (zGw n c e r S.1 k) (zdo (S.1 k) (zGt r n c k 1 e) (zS r n c)) := rfl
      rw [← hstep] at hz hz2
      generalize hX : zdo (S.1 k) (zGt r n c k 1 e) (zS r n c) = X at *
      refine ze_dstore kc_65_76 (Nat.le_of_ble_eq_true rfl) ?_
      simp only [zset1, zset2, zcut, zf0, zf1, zf2, zf3, List.set_cons_zero, List.set_cons_succ, List.getD_cons_zero, List.getD_cons_succ]
      refine ze_dload kc_65_78 rfl ?_
      refine ze_dconst0 kc_65_80 ?_
      refine ze_dcmp kc_65_81 kc_65_82 (fun h81 => ?_) (fun h81 => ?_)
      · skip
        have hszx : zsz X = X := if_pos h81
        rw [hszx] at hz
        refine ze_dload kc_65_91 rfl ?_
        refine ze_dstore kc_65_93 (Nat.le_of_ble_eq_true rfl) ?_
        simp only [zset1, zset2, zcut, zf0, zf1, zf2, zf3, List.set_cons_zero, List.set_cons_succ, List.getD_cons_zero, List.getD_cons_succ]
        refine ze_dload kc_65_95 rfl ?_
        refine ze_dload_n kc_65_97 rfl ?_
        refine ze_dcmp kc_65_98 kc_65_99 (fun h98 => ?_) (fun h98 => ?_)
        · skip
          refine ze_dload_n kc_65_107 rfl ?_
          refine ze_dstore_n kc_65_108 (Nat.le_of_ble_eq_true rfl) ?_
          simp only [zset1, zset2, zcut, zf0, zf1, zf2, zf3, List.set_cons_zero, List.set_cons_succ, List.getD_cons_zero, List.getD_cons_succ]
          refine ze_iinc kc_65_109 rfl ?_
          simp only [zset1, zset2, zcut, zf0, zf1, zf2, zf3, List.set_cons_zero, List.set_cons_succ, List.getD_cons_zero, List.getD_cons_succ]
          refine ze_goto kc_65_112 ?_
          refine ih _ (by omega) (k + 1) _ _ _ _ _ _ _ _ rfl (by omega) (by omega) ?_ hz2
          first
            | exact (hz.1 h98).symm
            | exact (hz.2 h98).symm
        · skip
          refine ze_dload kc_65_102 rfl ?_
          refine ze_goto kc_65_104 ?_
          refine ze_dstore_n kc_65_108 (Nat.le_of_ble_eq_true rfl) ?_
          simp only [zset1, zset2, zcut, zf0, zf1, zf2, zf3, List.set_cons_zero, List.set_cons_succ, List.getD_cons_zero, List.getD_cons_succ]
          refine ze_iinc kc_65_109 rfl ?_
          simp only [zset1, zset2, zcut, zf0, zf1, zf2, zf3, List.set_cons_zero, List.set_cons_succ, List.getD_cons_zero, List.getD_cons_succ]
          refine ze_goto kc_65_112 ?_
          refine ih _ (by omega) (k + 1) _ _ _ _ _ _ _ _ rfl (by omega) (by omega) ?_ hz2
          first
            | exact (hz.1 h98).symm
            | exact (hz.2 h98).symm
      · skip
        have hszx : zsz X = FP.dneg X := if_neg (by rw [h81]; decide)
        rw [hszx] at hz
        refine ze_dload kc_65_85 rfl ?_
        refine ze_dneg kc_65_87 ?_
        refine ze_goto kc_65_88 ?_
        refine ze_dstore kc_65_93 (Nat.le_of_ble_eq_true rfl) ?_
        simp only [zset1, zset2, zcut, zf0, zf1, zf2, zf3, List.set_cons_zero, List.set_cons_succ, List.getD_cons_zero, List.getD_cons_succ]
        refine ze_dload kc_65_95 rfl ?_
        refine ze_dload_n kc_65_97 rfl ?_
        refine ze_dcmp kc_65_98 kc_65_99 (fun h98 => ?_) (fun h98 => ?_)
        · skip
          refine ze_dload_n kc_65_107 rfl ?_
          refine ze_dstore_n kc_65_108 (Nat.le_of_ble_eq_true rfl) ?_
          simp only [zset1, zset2, zcut, zf0, zf1, zf2, zf3, List.set_cons_zero, List.set_cons_succ, List.getD_cons_zero, List.getD_cons_succ]
          refine ze_iinc kc_65_109 rfl ?_
          simp only [zset1, zset2, zcut, zf0, zf1, zf2, zf3, List.set_cons_zero, List.set_cons_succ, List.getD_cons_zero, List.getD_cons_succ]
          refine ze_goto kc_65_112 ?_
          refine ih _ (by omega) (k + 1) _ _ _ _ _ _ _ _ rfl (by omega) (by omega) ?_ hz2
          first
            | exact (hz.1 h98).symm
            | exact (hz.2 h98).symm
        · skip
          refine ze_dload kc_65_102 rfl ?_
          refine ze_goto kc_65_104 ?_
          refine ze_dstore_n kc_65_108 (Nat.le_of_ble_eq_true rfl) ?_
          simp only [zset1, zset2, zcut, zf0, zf1, zf2, zf3, List.set_cons_zero, List.set_cons_succ, List.getD_cons_zero, List.getD_cons_succ]
          refine ze_iinc kc_65_109 rfl ?_
          simp only [zset1, zset2, zcut, zf0, zf1, zf2, zf3, List.set_cons_zero, List.set_cons_succ, List.getD_cons_zero, List.getD_cons_succ]
          refine ze_goto kc_65_112 ?_
          refine ih _ (by omega) (k + 1) _ _ _ _ _ _ _ _ rfl (by omega) (by omega) ?_ hz2
          first
            | exact (hz.1 h98).symm
            | exact (hz.2 h98).symm
  refine loop19 _ 0 0 _ none none none none none none rfl (by omega) rfl rfl (by show FP.dconst0.toNat < 9218868437227405312; decide)

set_option maxHeartbeats 8000000 in
theorem m_gapX {Z : zMem} {Q : Option zAV → zMem → Prop} {n : Nat} {c : Nat → Int} {e ρ : Int} (hC : zCl n c e ρ Z) {r m p : Int} (hr : -2147483648 ≤ r ∧ r ≤ 2147483647) (hm : -2147483648 ≤ m ∧ m ≤ 2147483647) (hp : -2147483648 ≤ p ∧ p ≤ 2147483647) (q1 : ∀ (Z' : zMem), zFq Z Z' → Q (some (zL (oGap n c e r m p))) Z') : zE 64 0 (zent 64 [zR 0, zI r, zI m, zI p]) [] Z Q := by
  show zE 64 0 [some (zR 0), some (zI r), some (zI m), some (zI p), none, none] [] Z Q
  obtain ⟨hU0, hG0, n6, n0, cc, cr, ce, cρ, ceR, cρR, c11, c16⟩ := zCl_o hC
  have csr := zsum_range cr
  refine ze_iload_n kc_64_0 rfl ?_
  refine ze_iload_n kc_64_1 rfl ?_
  refine zE_calls 2 kc_64_2 rfl rfl (Nat.le_of_ble_eq_true rfl) (Nat.le_of_ble_eq_true rfl) (Nat.le_of_ble_eq_true rfl) rfl ?_
  refine m_isPourable (by omega) (by omega) (fun g2 => ?_) (fun g2 => ?_)
  · simp only [Option.toList_some, Option.toList_none, List.drop_succ_cons, List.drop_zero, List.cons_append, List.nil_append]
    refine ze_if_eq kc_64_5 (by decide) (fun q => absurd q (by decide)) (fun _ => ?_)
    refine ze_iload_n kc_64_8 rfl ?_
    refine zE_calls 1 kc_64_9 rfl rfl (Nat.le_of_ble_eq_true rfl) (Nat.le_of_ble_eq_true rfl) (Nat.le_of_ble_eq_true rfl) rfl ?_
    refine m_isPart (by omega) (fun g9 => ?_) (fun g9 => ?_)
    · simp only [Option.toList_some, Option.toList_none, List.drop_succ_cons, List.drop_zero, List.cons_append, List.nil_append]
      refine ze_if_eq kc_64_12 (by decide) (fun q => absurd q (by decide)) (fun _ => ?_)
      refine ze_aload_n kc_64_15 rfl ?_
      refine ze_getR kc_64_16 rfl rfl rfl ?_
      refine zE_callv 1 kc_64_19 rfl rfl (Nat.le_of_ble_eq_true rfl) (Nat.le_of_ble_eq_true rfl) (Nat.le_of_ble_eq_true rfl) rfl (by decide +kernel) rfl ?_
      refine m_ready zsF_1 hU0 (fun g19 => ?_) (fun g19 => ?_)
      · simp only [Option.toList_some, Option.toList_none, List.drop_succ_cons, List.drop_zero, List.cons_append, List.nil_append]
        refine ze_if_ne kc_64_22 (by decide) (fun _ => ?_) (fun q => absurd q (by decide))
        have hPk := zPs_ok (n := n) (r := r) (g := zfC (zmx c n)) cr (zfD_in ceR (show 1 ≤ m ∧ m ≤ 60 by omega)) m.toNat (by omega)
        have hWt := zfW_in (show m.toNat ≤ 60 by omega)
        refine ze_aload_n kc_64_29 rfl ?_
        refine ze_getR kc_64_30 rfl rfl rfl ?_
        refine ze_aload_n kc_64_33 rfl ?_
        refine ze_getR kc_64_34 rfl rfl rfl ?_
        refine ze_iload_n kc_64_37 rfl ?_
        refine ze_iload_n kc_64_38 rfl ?_
        refine zE_callv 4 kc_64_39 rfl rfl (Nat.le_of_ble_eq_true rfl) (Nat.le_of_ble_eq_true rfl) (Nat.le_of_ble_eq_true rfl) rfl (by decide +kernel) rfl ?_
        refine m_pour hC (by omega) (by omega) (fun Z2 f1 f2 => ?_)
        simp only [Option.toList_some, Option.toList_none, List.drop_succ_cons, List.drop_zero, List.cons_append, List.nil_append]
        refine ze_aload_n kc_64_42 rfl ?_
        refine ze_iload_n kc_64_43 rfl ?_
        refine zE_callv 2 kc_64_44 rfl rfl (Nat.le_of_ble_eq_true rfl) (Nat.le_of_ble_eq_true rfl) (Nat.le_of_ble_eq_true rfl) rfl (by decide +kernel) rfl ?_
        refine m_widest (S := zPo n c e r m) (zCl_q hC ⟨fun k a b d e g => f2 k (by omega) (by omega) (by omega), fun j a b d e g => by rw [f2 63 (by decide) (by decide) (by decide)], fun q => by rw [f2 11 (by decide) (by decide) (by decide)]; exact q, fun q => by rw [f2 16 (by decide) (by decide) (by decide)]; exact q⟩) f1 hPk.1 (by omega) (by omega) (by omega) (fun hgw => ?_)
        simp only [Option.toList_some, Option.toList_none, List.drop_succ_cons, List.drop_zero, List.cons_append, List.nil_append]
        refine ze_sipush kc_64_47 ?_
        refine ze_bipush kc_64_50 ?_
        refine zE_calls 3 kc_64_52 rfl rfl (Nat.le_of_ble_eq_true rfl) (Nat.le_of_ble_eq_true rfl) (Nat.le_of_ble_eq_true rfl) rfl ?_
        refine m_bits (f := FP.Core.b64) (b := 1023) (g := 52) (c0 := 0) (X := (zGw n c e r (zPo n c e r m).1 n).toNat) rfl rfl hgw (by decide) (by decide) FP.Core.tails_b64 (by decide) (by rw [Nat.pow_zero, Nat.mul_one]; rfl) (zub_64 hgw) (by omega) zsh_52 zone_52 ?_
        simp only [Option.toList_some, Option.toList_none, List.drop_succ_cons, List.drop_zero, List.cons_append, List.nil_append]
        refine ze_lstore kc_64_55 (Nat.le_of_ble_eq_true rfl) ?_
        simp only [zset1, zset2, zcut, zf0, zf1, zf2, zf3, List.set_cons_zero, List.set_cons_succ, List.getD_cons_zero, List.getD_cons_succ]
        refine ze_iload_n kc_64_57 rfl ?_
        refine ze_if_ne kc_64_58 (by omega) (fun h58 => ?_) (fun h58 => ?_)
        · skip
          refine ze_lload kc_64_69 rfl ?_
          refine ze_ldc2L kc_64_71 ?_
          refine ze_land kc_64_74 ?_
          refine ze_lreturn kc_64_75 ?_
          have hc0 : ((0 ≤ r ∧ r ≤ 4) ∧ (1 ≤ m ∧ m ≤ 60)) ∧ (0 ≤ p ∧ p ≤ 1) ∧ (1 ≤ n ∧ e ≤ zsum n c) := by omega
          unfold oGap at q1
          rw [if_pos hc0] at q1
          first
            | (rw [if_pos (by omega)] at q1
               exact q1 _ ⟨fun k a b d e g => f2 k (by omega) (by omega) (by omega), fun j a b d e g => by rw [f2 63 (by decide) (by decide) (by decide)], fun q => by rw [f2 11 (by decide) (by decide) (by decide)]; exact q, fun q => by rw [f2 16 (by decide) (by decide) (by decide)]; exact q⟩)
            | (rw [if_neg (by omega)] at q1
               exact q1 _ ⟨fun k a b d e g => f2 k (by omega) (by omega) (by omega), fun j a b d e g => by rw [f2 63 (by decide) (by decide) (by decide)], fun q => by rw [f2 11 (by decide) (by decide) (by decide)]; exact q, fun q => by rw [f2 16 (by decide) (by decide) (by decide)]; exact q⟩)
        · skip
          refine ze_lload kc_64_61 rfl ?_
          refine ze_bipush kc_64_63 ?_
          refine ze_lushr kc_64_65 ?_
          refine ze_goto kc_64_66 ?_
          refine ze_lreturn kc_64_75 ?_
          have hc0 : ((0 ≤ r ∧ r ≤ 4) ∧ (1 ≤ m ∧ m ≤ 60)) ∧ (0 ≤ p ∧ p ≤ 1) ∧ (1 ≤ n ∧ e ≤ zsum n c) := by omega
          unfold oGap at q1
          rw [if_pos hc0] at q1
          first
            | (rw [if_pos (by omega)] at q1
               exact q1 _ ⟨fun k a b d e g => f2 k (by omega) (by omega) (by omega), fun j a b d e g => by rw [f2 63 (by decide) (by decide) (by decide)], fun q => by rw [f2 11 (by decide) (by decide) (by decide)]; exact q, fun q => by rw [f2 16 (by decide) (by decide) (by decide)]; exact q⟩)
            | (rw [if_neg (by omega)] at q1
               exact q1 _ ⟨fun k a b d e g => f2 k (by omega) (by omega) (by omega), fun j a b d e g => by rw [f2 63 (by decide) (by decide) (by decide)], fun q => by rw [f2 11 (by decide) (by decide) (by decide)]; exact q, fun q => by rw [f2 16 (by decide) (by decide) (by decide)]; exact q⟩)
      · simp only [Option.toList_some, Option.toList_none, List.drop_succ_cons, List.drop_zero, List.cons_append, List.nil_append]
        refine ze_if_ne kc_64_22 (by decide) (fun q => absurd q (by decide)) (fun _ => ?_)
        refine ze_ldc2L kc_64_25 ?_
        refine ze_lreturn kc_64_28 ?_
        rw [show oGap n c e r m p = -9223372036854775808 from if_neg (by omega)] at q1
        exact q1 _ zFq_refl
    · simp only [Option.toList_some, Option.toList_none, List.drop_succ_cons, List.drop_zero, List.cons_append, List.nil_append]
      refine ze_if_eq kc_64_12 (by decide) (fun _ => ?_) (fun q => absurd q (by decide))
      refine ze_ldc2L kc_64_25 ?_
      refine ze_lreturn kc_64_28 ?_
      rw [show oGap n c e r m p = -9223372036854775808 from if_neg (by omega)] at q1
      exact q1 _ zFq_refl
  · simp only [Option.toList_some, Option.toList_none, List.drop_succ_cons, List.drop_zero, List.cons_append, List.nil_append]
    refine ze_if_eq kc_64_5 (by decide) (fun _ => ?_) (fun q => absurd q (by decide))
    refine ze_ldc2L kc_64_25 ?_
    refine ze_lreturn kc_64_28 ?_
    rw [show oGap n c e r m p = -9223372036854775808 from if_neg (by omega)] at q1
    exact q1 _ zFq_refl
