def zupd (c : Nat → Int) (i : Nat) (v : Int) : Nat → Int := fun j => if j = i then v else c j
theorem zupd_r {n i : Nat} {c : Nat → Int} {v : Int} (h : ∀ i, i < n → 1 ≤ c i ∧ c i ≤ 60) (hv : 1 ≤ v ∧ v ≤ 60) : ∀ k, k < n → 1 ≤ zupd c i v k ∧ zupd c i v k ≤ 60 := fun k hk => by
  unfold zupd
  split
  · exact hv
  · exact h k hk
noncomputable def oChange (n : Nat) (c : Nat → Int) (e r i v j p : Int) : Int :=
  if ((0 ≤ r ∧ r < 6) ∧ (0 ≤ i ∧ i < n) ∧ (1 ≤ v ∧ v ≤ 60) ∧ (0 ≤ j ∧ j < n) ∧ (0 ≤ p ∧ p ≤ 1) ∧ (1 ≤ n ∧ e ≤ zsum n c)) ∧ e ≤ zsum n (zupd c i.toNat v) then
    zlow (zGt r n (zupd c i.toNat v) j.toNat 1 e * zS r n c - zGt r n c j.toNat 1 e * zS r n (zupd c i.toNat v)) (zS r n c * zS r n (zupd c i.toNat v)) p
  else -9223372036854775808
noncomputable def zBn (n : Nat) (c : Nat → Int) (r : Int) (i m : Nat) : Int := zsum m (fun x => if zGt r n c i 1 ((x : Int) + 2) - zGt r n c i 1 ((x : Int) + 1) = zGt r n c i 1 ((x : Int) + 1) - zGt r n c i 1 (x : Int) then 0 else 1)
noncomputable def oBends (n : Nat) (c : Nat → Int) (r i : Int) : Int := if ¬ (0 ≤ r ∧ r < 6) then -2 else if ¬ (0 ≤ i ∧ i < n) then -1 else zBn n c r i.toNat ((zsum n c).toNat - 1)
theorem zMo_upd {n i : Nat} {c : Nat → Int} {e ρ v : Int} {Z : zMem} (h : zMo n c e ρ Z) (hv : 1 ≤ v ∧ v ≤ 60) : zMo n (zupd c i v) e ρ (zup Z 64 i v) := by
  obtain ⟨h1, h2, h3, h4, h5, h6, h7, h8⟩ := h
  refine ⟨h1, h2, fun k hk => ?_, zupd_r h4 hv, h5, h6, h7, h8⟩
  by_cases q : k = i
  · rw [q, zup_s]; exact (if_pos rfl).symm
  · rw [zup_o q, h3 k hk]; exact (if_neg q).symm
theorem zS_pos {r : Int} {n : Nat} {c : Nat → Int} (hn : 1 ≤ n ∧ n ≤ 6) (h : ∀ i, i < n → 1 ≤ c i ∧ c i ≤ 60) : 0 < zS r n c := by
  have := zS_range (r := r) hn h
  omega
/-- what fractions in lowest terms have as their difference -/
theorem zlow_dif {a b a' b' : Int} (hb : 0 < b) (hb' : 0 < b') (p : Int) : zlow (zlow a' b' 0 * zlow a b 1 - zlow a b 0 * zlow a' b' 1) (zlow a' b' 1 * zlow a b 1) p = zlow (a' * b - a * b') (b * b') p := by
  obtain ⟨g, x, y, g0, y0, g1, hx, hy, h0, h1⟩ := zlow_c (a := a) hb
  obtain ⟨g', x', y', g0', y0', g1', hx', hy', h0', h1'⟩ := zlow_c (a := a') hb'
  rw [h0, h0', h1 1 (by decide), h1' 1 (by decide)]
  refine zlow_eq (Int.mul_pos y0' y0) (Int.mul_pos hb hb') ?_ p
  rw [hx, hy, hx', hy', Int.sub_mul, Int.sub_mul]
  simp only [Int.mul_assoc, Int.mul_comm, Int.mul_left_comm]
set_option maxHeartbeats 8000000 in
theorem m_changeX {Z : zMem} {Q : Option zAV → zMem → Prop} {n : Nat} {c : Nat → Int} {e ρ : Int} (hC : zCl n c e ρ Z) {r i v j p : Int} (hr : -2147483648 ≤ r ∧ r ≤ 2147483647) (hi : -2147483648 ≤ i ∧ i ≤ 2147483647) (hv : -2147483648 ≤ v ∧ v ≤ 2147483647) (hj : -2147483648 ≤ j ∧ j ≤ 2147483647) (hp : -2147483648 ≤ p ∧ p ≤ 2147483647) (q1 : ∀ Z', zFq Z Z' → Q (some (zL (oChange n c e r i v j p))) Z') : zE 58 0 (zent 58 [zR 0, zI r, zI i, zI v, zI j, zI p]) [] Z Q := by
  show zE 58 0 [some (zR 0), some (zI r), some (zI i), some (zI v), some (zI j), some (zI p), none, none, none, none, none, none, none, none] [] Z Q
  obtain ⟨hU0, hG0, n6, n0, cc, cr, ce, cρ, ceR, cρR, c11, c16⟩ := zCl_o hC
  have csr := zsum_range cr
  refine ze_iload_n kc_58_0 rfl ?_
  refine zE_calls 1 kc_58_1 rfl rfl (Nat.le_of_ble_eq_true rfl) (Nat.le_of_ble_eq_true rfl) (Nat.le_of_ble_eq_true rfl) rfl ?_
  refine m_isRule (by omega) (fun g1 => ?_) (fun g1 => ?_)
  · simp only [Option.toList_some, Option.toList_none, List.drop_succ_cons, List.drop_zero, List.cons_append, List.nil_append]
    refine ze_if_eq kc_58_4 (by decide) (fun q => absurd q (by decide)) (fun _ => ?_)
    refine ze_aload_n kc_58_7 rfl ?_
    refine ze_getR kc_58_8 rfl rfl rfl ?_
    refine ze_getR kc_58_11 rfl rfl rfl ?_
    refine ze_iload_n kc_58_14 rfl ?_
    refine zE_callv 2 kc_58_15 rfl rfl (Nat.le_of_ble_eq_true rfl) (Nat.le_of_ble_eq_true rfl) (Nat.le_of_ble_eq_true rfl) rfl (by decide +kernel) rfl ?_
    refine m_has zgF_2 (by omega) (by omega) (fun g15 => ?_) (fun g15 => ?_)
    · simp only [Option.toList_some, Option.toList_none, List.drop_succ_cons, List.drop_zero, List.cons_append, List.nil_append]
      refine ze_if_eq kc_58_18 (by decide) (fun q => absurd q (by decide)) (fun _ => ?_)
      refine ze_iload_n kc_58_21 rfl ?_
      refine zE_calls 1 kc_58_22 rfl rfl (Nat.le_of_ble_eq_true rfl) (Nat.le_of_ble_eq_true rfl) (Nat.le_of_ble_eq_true rfl) rfl ?_
      refine m_isClaim (by omega) (fun g22 => ?_) (fun g22 => ?_)
      · simp only [Option.toList_some, Option.toList_none, List.drop_succ_cons, List.drop_zero, List.cons_append, List.nil_append]
        refine ze_if_eq kc_58_25 (by decide) (fun q => absurd q (by decide)) (fun _ => ?_)
        refine ze_aload_n kc_58_28 rfl ?_
        refine ze_getR kc_58_29 rfl rfl rfl ?_
        refine ze_getR kc_58_32 rfl rfl rfl ?_
        refine ze_iload kc_58_35 rfl ?_
        refine zE_callv 2 kc_58_37 rfl rfl (Nat.le_of_ble_eq_true rfl) (Nat.le_of_ble_eq_true rfl) (Nat.le_of_ble_eq_true rfl) rfl (by decide +kernel) rfl ?_
        refine m_has zgF_2 (by omega) (by omega) (fun g37 => ?_) (fun g37 => ?_)
        · simp only [Option.toList_some, Option.toList_none, List.drop_succ_cons, List.drop_zero, List.cons_append, List.nil_append]
          refine ze_if_ne kc_58_40 (by decide) (fun _ => ?_) (fun q => absurd q (by decide))
          refine ze_iload kc_58_47 rfl ?_
          refine zE_calls 1 kc_58_49 rfl rfl (Nat.le_of_ble_eq_true rfl) (Nat.le_of_ble_eq_true rfl) (Nat.le_of_ble_eq_true rfl) rfl ?_
          refine m_isPart (by omega) (fun g49 => ?_) (fun g49 => ?_)
          · simp only [Option.toList_some, Option.toList_none, List.drop_succ_cons, List.drop_zero, List.cons_append, List.nil_append]
            refine ze_if_eq kc_58_52 (by decide) (fun q => absurd q (by decide)) (fun _ => ?_)
            refine ze_aload_n kc_58_55 rfl ?_
            refine ze_getR kc_58_56 rfl rfl rfl ?_
            refine zE_callv 1 kc_58_59 rfl rfl (Nat.le_of_ble_eq_true rfl) (Nat.le_of_ble_eq_true rfl) (Nat.le_of_ble_eq_true rfl) rfl (by decide +kernel) rfl ?_
            refine m_ready zsF_1 hU0 (fun g59 => ?_) (fun g59 => ?_)
            · simp only [Option.toList_some, Option.toList_none, List.drop_succ_cons, List.drop_zero, List.cons_append, List.nil_append]
              refine ze_if_ne kc_58_62 (by decide) (fun _ => ?_) (fun q => absurd q (by decide))
              obtain ⟨κ, rfl⟩ := Int.eq_ofNat_of_zero_le (show 0 ≤ i by omega)
              obtain ⟨ν, rfl⟩ := Int.eq_ofNat_of_zero_le (show 0 ≤ j by omega)
              have hκ : κ < n := by omega
              have hν : ν < n := by omega
              have hv2 : 1 ≤ v ∧ v ≤ 60 := by omega
              have cr2 := zupd_r (i := κ) cr hv2
              have hss := zS_range (r := r) (n := n) (c := c) ⟨by omega, n6⟩ cr
              have hs2 := zS_range (r := r) (n := n) (c := zupd c κ v) ⟨by omega, n6⟩ cr2
              have gn := zGt_range (r := r) (i := ν) (w := 1) (u := e) n6 hν cr (by omega) (by omega)
              refine ze_aload_n kc_58_69 rfl ?_
              refine ze_getR kc_58_70 rfl rfl rfl ?_
              refine ze_aload_n kc_58_73 rfl ?_
              refine ze_getR kc_58_74 rfl rfl rfl ?_
              refine zE_callv 2 kc_58_77 rfl rfl (Nat.le_of_ble_eq_true rfl) (Nat.le_of_ble_eq_true rfl) (Nat.le_of_ble_eq_true rfl) rfl (by decide +kernel) rfl ?_
              refine m_copyS zsF_7 zsF_1 (by decide) hU0 c11 (fun Z2 f1 f2 => ?_)
              simp only [Option.toList_some, Option.toList_none, List.drop_succ_cons, List.drop_zero, List.cons_append, List.nil_append]
              refine ze_aload_n kc_58_80 rfl ?_
              refine ze_getR kc_58_81 rfl rfl rfl ?_
              refine ze_getR kc_58_84 rfl rfl rfl ?_
              refine ze_iload_n kc_58_87 rfl ?_
              refine ze_iload_n kc_58_88 rfl ?_
              refine zE_callv 3 kc_58_89 rfl rfl (Nat.le_of_ble_eq_true rfl) (Nat.le_of_ble_eq_true rfl) (Nat.le_of_ble_eq_true rfl) rfl (by decide +kernel) rfl ?_
              refine m_put zgF_8 f1.1 hκ hv2 (fun Z3 k1 k2 k3 => ?_)
              simp only [Option.toList_some, Option.toList_none, List.drop_succ_cons, List.drop_zero, List.cons_append, List.nil_append]
              have hUt : zSU 7 n (zupd c κ v) e ρ Z3 := ⟨k1, by rw [k2 7 (by decide)]; exact f1.2.1, by rw [k2 7 (by decide)]; exact f1.2.2.1, ceR, cρR⟩
              have hUt2 : Z3 7 2 = e := hUt.2.1
              have hfr : ∀ k, k < 7 ∨ 11 < k → Z3 k = Z k := fun k hk => by rw [k2 k (by omega), f2 k (by omega)]
              have hG3 : zG 2 n c Z3 := zG_same hG0 (fun k a b => hfr k (by omega))
              have hq3 : zFq Z Z3 := ⟨fun k a b d f g => hfr k (by omega), fun k _ _ _ _ _ => by rw [hfr 63 (by decide)], fun _ => zG_z k1, fun a => by rw [hfr 16 (by decide)]; exact a⟩
              refine ze_aload_n kc_58_92 rfl ?_
              refine ze_getR kc_58_93 rfl rfl rfl ?_
              refine zE_callv 1 kc_58_96 rfl rfl (Nat.le_of_ble_eq_true rfl) (Nat.le_of_ble_eq_true rfl) (Nat.le_of_ble_eq_true rfl) rfl (by decide +kernel) rfl ?_
              refine m_ready zsF_7 hUt (fun g96 => ?_) (fun g96 => ?_)
              · simp only [Option.toList_some, Option.toList_none, List.drop_succ_cons, List.drop_zero, List.cons_append, List.nil_append]
                have gt := zGt_range (r := r) (i := ν) (w := 1) (u := e) n6 hν cr2 (by omega) (by omega)
                have b3 := zmb (a := zS r n c) (b := zS r n (zupd c κ v)) (A := 720) (B := 720) (by omega) (by omega)
                have b4 := Int.mul_pos (show 0 < zS r n c by omega) (show 0 < zS r n (zupd c κ v) by omega)
                refine ze_if_ne kc_58_99 (by decide) (fun _ => ?_) (fun q => absurd q (by decide))
                refine ze_aload_n kc_58_106 rfl ?_
                refine ze_getR kc_58_107 rfl rfl rfl ?_
                refine ze_getR kc_58_110 rfl rfl rfl ?_
                refine ze_iload_n kc_58_113 rfl ?_
                refine zE_callv 2 kc_58_114 rfl rfl (Nat.le_of_ble_eq_true rfl) (Nat.le_of_ble_eq_true rfl) (Nat.le_of_ble_eq_true rfl) rfl (by decide +kernel) rfl ?_
                refine m_scale zgF_2 hG3 (by omega) ?_
                simp only [Option.toList_some, Option.toList_none, List.drop_succ_cons, List.drop_zero, List.cons_append, List.nil_append]
                refine ze_lstore kc_58_117 (Nat.le_of_ble_eq_true rfl) ?_
                simp only [zset1, zset2, zcut, List.set_cons_zero, List.set_cons_succ, List.getD_cons_zero, List.getD_cons_succ]
                refine ze_aload_n kc_58_119 rfl ?_
                refine ze_getR kc_58_120 rfl rfl rfl ?_
                refine ze_getR kc_58_123 rfl rfl rfl ?_
                refine ze_iload_n kc_58_126 rfl ?_
                refine zE_callv 2 kc_58_127 rfl rfl (Nat.le_of_ble_eq_true rfl) (Nat.le_of_ble_eq_true rfl) (Nat.le_of_ble_eq_true rfl) rfl (by decide +kernel) rfl ?_
                refine m_scale zgF_8 hUt.1 (by omega) ?_
                simp only [Option.toList_some, Option.toList_none, List.drop_succ_cons, List.drop_zero, List.cons_append, List.nil_append]
                refine ze_lstore kc_58_130 (Nat.le_of_ble_eq_true rfl) ?_
                simp only [zset1, zset2, zcut, List.set_cons_zero, List.set_cons_succ, List.getD_cons_zero, List.getD_cons_succ]
                refine ze_aload_n kc_58_132 rfl ?_
                refine ze_getR kc_58_133 rfl rfl rfl ?_
                refine ze_getR kc_58_136 rfl rfl rfl ?_
                refine ze_iload_n kc_58_139 rfl ?_
                refine ze_iload kc_58_140 rfl ?_
                refine ze_aload_n kc_58_142 rfl ?_
                refine ze_getR kc_58_143 rfl rfl rfl ?_
                refine ze_getI kc_58_146 rfl (by decide) ?_
                rw [hfr 1 (by decide), ce]
                refine ze_i2l kc_58_149 (by omega) ?_
                refine ze_lconst1 kc_58_150 ?_
                refine zE_callv 5 kc_58_151 rfl rfl (Nat.le_of_ble_eq_true rfl) (Nat.le_of_ble_eq_true rfl) (Nat.le_of_ble_eq_true rfl) rfl (by decide +kernel) rfl ?_
                refine m_gets zgF_2 hG3 hν (by omega) (by omega) (by omega) ?_
                simp only [Option.toList_some, Option.toList_none, List.drop_succ_cons, List.drop_zero, List.cons_append, List.nil_append]
                skip
                refine ze_lstore kc_58_154 (Nat.le_of_ble_eq_true rfl) ?_
                simp only [zset1, zset2, zcut, List.set_cons_zero, List.set_cons_succ, List.getD_cons_zero, List.getD_cons_succ]
                refine ze_aload_n kc_58_156 rfl ?_
                refine ze_getR kc_58_157 rfl rfl rfl ?_
                refine ze_getR kc_58_160 rfl rfl rfl ?_
                refine ze_iload_n kc_58_163 rfl ?_
                refine ze_iload kc_58_164 rfl ?_
                refine ze_aload_n kc_58_166 rfl ?_
                refine ze_getR kc_58_167 rfl rfl rfl ?_
                refine ze_getI kc_58_170 rfl (by decide) ?_
                rw [hUt2]
                refine ze_i2l kc_58_173 (by omega) ?_
                refine ze_lconst1 kc_58_174 ?_
                refine zE_callv 5 kc_58_175 rfl rfl (Nat.le_of_ble_eq_true rfl) (Nat.le_of_ble_eq_true rfl) (Nat.le_of_ble_eq_true rfl) rfl (by decide +kernel) rfl ?_
                refine m_gets zgF_8 hUt.1 hν (by omega) (by omega) (by omega) ?_
                simp only [Option.toList_some, Option.toList_none, List.drop_succ_cons, List.drop_zero, List.cons_append, List.nil_append]
                have b1 := zmb (a := zGt r n (zupd c κ v) ν 1 e) (b := zS r n c) (A := 2147483648) (B := 720) (by omega) (by omega)
                have b2 := zmb (a := zGt r n c ν 1 e) (b := zS r n (zupd c κ v)) (A := 2147483648) (B := 720) (by omega) (by omega)
                refine ze_lstore kc_58_178 (Nat.le_of_ble_eq_true rfl) ?_
                simp only [zset1, zset2, zcut, List.set_cons_zero, List.set_cons_succ, List.getD_cons_zero, List.getD_cons_succ]
                refine ze_lload kc_58_180 rfl ?_
                refine ze_lload kc_58_182 rfl ?_
                refine ze_lmul kc_58_184 ?_
                refine ze_lload kc_58_185 rfl ?_
                refine ze_lload kc_58_187 rfl ?_
                refine ze_lmul kc_58_189 ?_
                refine ze_lsub kc_58_190 ?_
                refine ze_lload kc_58_191 rfl ?_
                refine ze_lload kc_58_193 rfl ?_
                refine ze_lmul kc_58_195 ?_
                refine ze_iload kc_58_196 rfl ?_
                refine zE_calls 3 kc_58_198 rfl rfl (Nat.le_of_ble_eq_true rfl) (Nat.le_of_ble_eq_true rfl) (Nat.le_of_ble_eq_true rfl) rfl ?_
                refine m_low (by omega) (by omega) (by omega) ?_
                simp only [Option.toList_some, Option.toList_none, List.drop_succ_cons, List.drop_zero, List.cons_append, List.nil_append]
                refine ze_lreturn kc_58_201 ?_
                rw [show oChange n c e r κ v ν p = _ from if_pos ⟨by omega, g96.2⟩] at q1
                exact q1 _ hq3
              · simp only [Option.toList_some, Option.toList_none, List.drop_succ_cons, List.drop_zero, List.cons_append, List.nil_append]
                refine ze_if_ne kc_58_99 (by decide) (fun q => absurd q (by decide)) (fun _ => ?_)
                refine ze_ldc2L kc_58_102 ?_
                refine ze_lreturn kc_58_105 ?_
                rw [show oChange n c e r κ v ν p = -9223372036854775808 from if_neg (fun q => g96 ⟨by omega, q.2⟩)] at q1
                exact q1 _ hq3
            · simp only [Option.toList_some, Option.toList_none, List.drop_succ_cons, List.drop_zero, List.cons_append, List.nil_append]
              refine ze_if_ne kc_58_62 (by decide) (fun q => absurd q (by decide)) (fun _ => ?_)
              refine ze_ldc2L kc_58_65 ?_
              refine ze_lreturn kc_58_68 ?_
              rw [show oChange n c e r i v j p = -9223372036854775808 from if_neg (fun q => by omega)] at q1
              exact q1 _ zFq_refl
          · simp only [Option.toList_some, Option.toList_none, List.drop_succ_cons, List.drop_zero, List.cons_append, List.nil_append]
            refine ze_if_eq kc_58_52 (by decide) (fun _ => ?_) (fun q => absurd q (by decide))
            refine ze_ldc2L kc_58_65 ?_
            refine ze_lreturn kc_58_68 ?_
            rw [show oChange n c e r i v j p = -9223372036854775808 from if_neg (fun q => by omega)] at q1
            exact q1 _ zFq_refl
        · simp only [Option.toList_some, Option.toList_none, List.drop_succ_cons, List.drop_zero, List.cons_append, List.nil_append]
          refine ze_if_ne kc_58_40 (by decide) (fun q => absurd q (by decide)) (fun _ => ?_)
          refine ze_ldc2L kc_58_43 ?_
          refine ze_lreturn kc_58_46 ?_
          rw [show oChange n c e r i v j p = -9223372036854775808 from if_neg (fun q => by omega)] at q1
          exact q1 _ zFq_refl
      · simp only [Option.toList_some, Option.toList_none, List.drop_succ_cons, List.drop_zero, List.cons_append, List.nil_append]
        refine ze_if_eq kc_58_25 (by decide) (fun _ => ?_) (fun q => absurd q (by decide))
        refine ze_ldc2L kc_58_43 ?_
        refine ze_lreturn kc_58_46 ?_
        rw [show oChange n c e r i v j p = -9223372036854775808 from if_neg (fun q => by omega)] at q1
        exact q1 _ zFq_refl
    · simp only [Option.toList_some, Option.toList_none, List.drop_succ_cons, List.drop_zero, List.cons_append, List.nil_append]
      refine ze_if_eq kc_58_18 (by decide) (fun _ => ?_) (fun q => absurd q (by decide))
      refine ze_ldc2L kc_58_43 ?_
      refine ze_lreturn kc_58_46 ?_
      rw [show oChange n c e r i v j p = -9223372036854775808 from if_neg (fun q => by omega)] at q1
      exact q1 _ zFq_refl
  · simp only [Option.toList_some, Option.toList_none, List.drop_succ_cons, List.drop_zero, List.cons_append, List.nil_append]
    refine ze_if_eq kc_58_4 (by decide) (fun _ => ?_) (fun q => absurd q (by decide))
    refine ze_ldc2L kc_58_43 ?_
    refine ze_lreturn kc_58_46 ?_
    rw [show oChange n c e r i v j p = -9223372036854775808 from if_neg (fun q => by omega)] at q1
    exact q1 _ zFq_refl

set_option maxHeartbeats 8000000 in
theorem m_changeM {Z : zMem} {Q : Option zAV → zMem → Prop} {n : Nat} {c : Nat → Int} {e ρ : Int} (hM : zMo n c e ρ Z) {r i v j p : Int} (hr : -2147483648 ≤ r ∧ r ≤ 2147483647) (hi : -2147483648 ≤ i ∧ i ≤ 2147483647) (hv : -2147483648 ≤ v ∧ v ≤ 2147483647) (hj : -2147483648 ≤ j ∧ j ≤ 2147483647) (hp : -2147483648 ≤ p ∧ p ≤ 2147483647) (q1 : ∀ Z', zFq Z Z' → Q (some (zL (oChange n c e r i v j p))) Z') : zE 134 0 (zent 134 [zR 63, zI r, zI i, zI v, zI j, zI p]) [] Z Q := by
  show zE 134 0 [some (zR 63), some (zI r), some (zI i), some (zI v), some (zI j), some (zI p), none, none, none, none, none, none] [] Z Q
  have hM0 := hM
  obtain ⟨n0, n6, mc, mr, me, mρ, meR, mρR⟩ := hM
  have msr := zsum_range mr
  have hp6 := zpow6 n6
  refine ze_iload_n kc_134_0 rfl ?_
  refine zE_calls 1 kc_134_1 rfl rfl (Nat.le_of_ble_eq_true rfl) (Nat.le_of_ble_eq_true rfl) (Nat.le_of_ble_eq_true rfl) rfl ?_
  refine m_isRuleM (by omega) (fun g1 => ?_) (fun g1 => ?_)
  · simp only [Option.toList_some, Option.toList_none, List.drop_succ_cons, List.drop_zero, List.cons_append, List.nil_append]
    refine ze_if_eq kc_134_4 (by decide) (fun q => absurd q (by decide)) (fun _ => ?_)
    refine ze_aload_n kc_134_7 rfl ?_
    refine ze_iload_n kc_134_8 rfl ?_
    refine zE_callv 2 kc_134_9 rfl rfl (Nat.le_of_ble_eq_true rfl) (Nat.le_of_ble_eq_true rfl) (Nat.le_of_ble_eq_true rfl) rfl (by decide +kernel) rfl ?_
    refine m_isOne hM0 (by omega) (fun g9 => ?_) (fun g9 => ?_)
    · simp only [Option.toList_some, Option.toList_none, List.drop_succ_cons, List.drop_zero, List.cons_append, List.nil_append]
      refine ze_if_eq kc_134_12 (by decide) (fun q => absurd q (by decide)) (fun _ => ?_)
      refine ze_iload_n kc_134_15 rfl ?_
      refine zE_calls 1 kc_134_16 rfl rfl (Nat.le_of_ble_eq_true rfl) (Nat.le_of_ble_eq_true rfl) (Nat.le_of_ble_eq_true rfl) rfl ?_
      refine m_isClaimM (by omega) (fun g16 => ?_) (fun g16 => ?_)
      · simp only [Option.toList_some, Option.toList_none, List.drop_succ_cons, List.drop_zero, List.cons_append, List.nil_append]
        refine ze_if_eq kc_134_19 (by decide) (fun q => absurd q (by decide)) (fun _ => ?_)
        refine ze_aload_n kc_134_22 rfl ?_
        refine ze_iload kc_134_23 rfl ?_
        refine zE_callv 2 kc_134_25 rfl rfl (Nat.le_of_ble_eq_true rfl) (Nat.le_of_ble_eq_true rfl) (Nat.le_of_ble_eq_true rfl) rfl (by decide +kernel) rfl ?_
        refine m_isOne hM0 (by omega) (fun g25 => ?_) (fun g25 => ?_)
        · simp only [Option.toList_some, Option.toList_none, List.drop_succ_cons, List.drop_zero, List.cons_append, List.nil_append]
          refine ze_if_eq kc_134_28 (by decide) (fun q => absurd q (by decide)) (fun _ => ?_)
          refine ze_iload kc_134_31 rfl ?_
          refine zE_calls 1 kc_134_33 rfl rfl (Nat.le_of_ble_eq_true rfl) (Nat.le_of_ble_eq_true rfl) (Nat.le_of_ble_eq_true rfl) rfl ?_
          refine m_isPartM (by omega) (fun g33 => ?_) (fun g33 => ?_)
          · simp only [Option.toList_some, Option.toList_none, List.drop_succ_cons, List.drop_zero, List.cons_append, List.nil_append]
            refine ze_if_eq kc_134_36 (by decide) (fun q => absurd q (by decide)) (fun _ => ?_)
            refine ze_aload_n kc_134_39 rfl ?_
            refine zE_callv 1 kc_134_40 rfl rfl (Nat.le_of_ble_eq_true rfl) (Nat.le_of_ble_eq_true rfl) (Nat.le_of_ble_eq_true rfl) rfl (by decide +kernel) rfl ?_
            refine m_readyM hM0 (fun g40 => ?_) (fun g40 => ?_)
            · simp only [Option.toList_some, Option.toList_none, List.drop_succ_cons, List.drop_zero, List.cons_append, List.nil_append]
              refine ze_if_ne kc_134_43 (by decide) (fun _ => ?_) (fun q => absurd q (by decide))
              obtain ⟨κ, rfl⟩ := Int.eq_ofNat_of_zero_le (show 0 ≤ i by omega)
              obtain ⟨ν, rfl⟩ := Int.eq_ofNat_of_zero_le (show 0 ≤ j by omega)
              have hκ : κ < n := by omega
              have hν : ν < n := by omega
              have hv2 : 1 ≤ v ∧ v ≤ 60 := by omega
              have cr2 := zupd_r (i := κ) mr hv2
              have hss := zS_range (r := r) (n := n) (c := c) ⟨by omega, n6⟩ mr
              have hs2 := zS_range (r := r) (n := n) (c := zupd c κ v) ⟨by omega, n6⟩ cr2
              have gn := zGt_range (r := r) (i := ν) (w := 1) (u := e) n6 hν mr (by omega) (by omega)
              have hlpn := zlow_p (a := zGt r n c ν 1 e) (b := zS r n c) (by omega)
              have hlqn := hlpn.2.2.2 gn.1
              refine ze_aload_n kc_134_50 rfl ?_
              refine ze_iload_n kc_134_51 rfl ?_
              refine ze_iload kc_134_52 rfl ?_
              refine zE_callv 3 kc_134_54 rfl rfl (Nat.le_of_ble_eq_true rfl) (Nat.le_of_ble_eq_true rfl) (Nat.le_of_ble_eq_true rfl) rfl (by decide +kernel) rfl ?_
              refine m_awardOf hM0 (by omega) hν (by omega) (fun Z2 f1 f2 f3 => ?_)
              simp only [Option.toList_some, Option.toList_none, List.drop_succ_cons, List.drop_zero, List.cons_append, List.nil_append]
              refine ze_aload_n kc_134_57 rfl ?_
              refine ze_getL kc_134_58 rfl rfl ?_
              rw [f2]
              refine ze_lstore kc_134_61 (Nat.le_of_ble_eq_true rfl) ?_
              simp only [zset1, zset2, zcut, List.set_cons_zero, List.set_cons_succ, List.getD_cons_zero, List.getD_cons_succ]
              refine ze_aload_n kc_134_63 rfl ?_
              refine ze_getL kc_134_64 rfl rfl ?_
              rw [f3]
              refine ze_lstore kc_134_67 (Nat.le_of_ble_eq_true rfl) ?_
              simp only [zset1, zset2, zcut, List.set_cons_zero, List.set_cons_succ, List.getD_cons_zero, List.getD_cons_succ]
              refine ze_aload_n kc_134_69 rfl ?_
              refine ze_getR kc_134_70 rfl rfl rfl ?_
              refine ze_iload_n kc_134_73 rfl ?_
              refine ze_iald kc_134_74 rfl (by omega) ?_
              rw [Int.toNat_natCast, (zMo_fm hM0 f1).2.2.1 κ hκ]
              refine ze_istore kc_134_75 (Nat.le_of_ble_eq_true rfl) ?_
              simp only [zset1, zset2, zcut, List.set_cons_zero, List.set_cons_succ, List.getD_cons_zero, List.getD_cons_succ]
              refine ze_aload_n kc_134_77 rfl ?_
              refine ze_getR kc_134_78 rfl rfl rfl ?_
              refine ze_iload_n kc_134_81 rfl ?_
              refine ze_iload_n kc_134_82 rfl ?_
              refine ze_iast kc_134_83 rfl (by omega) ?_
              rw [Int.toNat_natCast]
              have hM2 := zMo_upd (i := κ) (zMo_fm hM0 f1) hv2
              refine ze_aload_n kc_134_84 rfl ?_
              refine zE_callv 1 kc_134_85 rfl rfl (Nat.le_of_ble_eq_true rfl) (Nat.le_of_ble_eq_true rfl) (Nat.le_of_ble_eq_true rfl) rfl (by decide +kernel) rfl ?_
              refine m_readyM hM2 (fun g85 => ?_) (fun g85 => ?_)
              · simp only [Option.toList_some, Option.toList_none, List.drop_succ_cons, List.drop_zero, List.cons_append, List.nil_append]
                have gt := zGt_range (r := r) (i := ν) (w := 1) (u := e) n6 hν cr2 (by omega) (by omega)
                have b3 := zmb (a := zS r n c) (b := zS r n (zupd c κ v)) (A := 720) (B := 720) (by omega) (by omega)
                have b4 := Int.mul_pos (show 0 < zS r n c by omega) (show 0 < zS r n (zupd c κ v) by omega)
                have hlpt := zlow_p (a := zGt r n (zupd c κ v) ν 1 e) (b := zS r n (zupd c κ v)) (by omega)
                have hlqt := hlpt.2.2.2 gt.1
                refine ze_istore kc_134_88 (Nat.le_of_ble_eq_true rfl) ?_
                simp only [zset1, zset2, zcut, List.set_cons_zero, List.set_cons_succ, List.getD_cons_zero, List.getD_cons_succ]
                refine ze_iload kc_134_90 rfl ?_
                refine ze_if_eq kc_134_92 (by decide) (fun q => absurd q (by decide)) (fun _ => ?_)
                refine ze_aload_n kc_134_95 rfl ?_
                refine ze_iload_n kc_134_96 rfl ?_
                refine ze_iload kc_134_97 rfl ?_
                refine zE_callv 3 kc_134_99 rfl rfl (Nat.le_of_ble_eq_true rfl) (Nat.le_of_ble_eq_true rfl) (Nat.le_of_ble_eq_true rfl) rfl (by decide +kernel) rfl ?_
                refine m_awardOf hM2 (by omega) hν g85.2 (fun Z3 k1 k2 k3 => ?_)
                simp only [Option.toList_some, Option.toList_none, List.drop_succ_cons, List.drop_zero, List.cons_append, List.nil_append]
                have hq3 : zFq Z (zup Z3 64 κ (c κ)) := by
                  refine ⟨fun k a b d f g => ?_, fun k a b d f _ => ?_, fun a => ?_, fun a => ?_⟩
                  · by_cases q : k = 64
                    · subst q
                      funext x
                      by_cases q2 : x = κ
                      · rw [q2, zup_s]; exact (mc κ hκ).symm
                      · rw [zup_o q2, k1.1 64 (by decide) (by decide), zup_o q2, f1.1 64 (by decide) (by decide)]
                    · rw [zup_ne' q, k1.1 k b f, zup_ne' q, f1.1 k b f]
                  · rw [zup_ne' (by decide), k1.2 k a b d f, zup_ne' (by decide), f1.2 k a b d f]
                  · rw [zup_ne' (by decide), k1.1 11 (by decide) (by decide), zup_ne' (by decide), f1.1 11 (by decide) (by decide)]; exact a
                  · rw [zup_ne' (by decide), k1.1 16 (by decide) (by decide), zup_ne' (by decide), f1.1 16 (by decide) (by decide)]; exact a
                refine ze_aload_n kc_134_102 rfl ?_
                refine ze_getR kc_134_103 rfl rfl rfl ?_
                refine ze_iload_n kc_134_106 rfl ?_
                refine ze_iload kc_134_107 rfl ?_
                refine ze_iast kc_134_109 rfl (by omega) ?_
                rw [Int.toNat_natCast]
                refine ze_iload kc_134_110 rfl ?_
                refine ze_if_ne kc_134_112 (by decide) (fun _ => ?_) (fun q => absurd q (by decide))
                refine ze_aload_n kc_134_119 rfl ?_
                refine ze_aload_n kc_134_120 rfl ?_
                refine ze_getL kc_134_121 rfl rfl ?_
                rw [zup_ne' (by decide), k2]
                refine ze_lload kc_134_124 rfl ?_
                refine ze_lmul kc_134_126 ?_
                refine ze_lload kc_134_127 rfl ?_
                refine ze_aload_n kc_134_129 rfl ?_
                refine ze_getL kc_134_130 rfl rfl ?_
                rw [zup_ne' (by decide), k3]
                refine ze_lmul kc_134_133 ?_
                refine ze_lsub kc_134_134 ?_
                refine ze_aload_n kc_134_135 rfl ?_
                refine ze_getL kc_134_136 rfl rfl ?_
                rw [zup_ne' (by decide), k3]
                refine ze_lload kc_134_139 rfl ?_
                refine ze_lmul kc_134_141 ?_
                have b1 := zmb (a := zlow (zGt r n (zupd c κ v) ν 1 e) (zS r n (zupd c κ v)) 0) (b := zlow (zGt r n c ν 1 e) (zS r n c) 1) (A := 2147483648) (B := 720) (by omega) (by omega)
                have b2 := zmb (a := zlow (zGt r n c ν 1 e) (zS r n c) 0) (b := zlow (zGt r n (zupd c κ v) ν 1 e) (zS r n (zupd c κ v)) 1) (A := 2147483648) (B := 720) (by omega) (by omega)
                have b3' := zmb (a := zlow (zGt r n (zupd c κ v) ν 1 e) (zS r n (zupd c κ v)) 1) (b := zlow (zGt r n c ν 1 e) (zS r n c) 1) (A := 720) (B := 720) (by omega) (by omega)
                have b5 := Int.mul_pos hlpt.1 hlpn.1
                refine zE_callv 3 kc_134_142 rfl rfl (Nat.le_of_ble_eq_true rfl) (Nat.le_of_ble_eq_true rfl) (Nat.le_of_ble_eq_true rfl) rfl (by decide +kernel) rfl ?_
                refine m_fraction (by omega) (by omega) ?_
                simp only [Option.toList_some, Option.toList_none, List.drop_succ_cons, List.drop_zero, List.cons_append, List.nil_append]
                refine ze_aload_n kc_134_145 rfl ?_
                refine ze_iload kc_134_146 rfl ?_
                refine zE_callv 2 kc_134_148 rfl rfl (Nat.le_of_ble_eq_true rfl) (Nat.le_of_ble_eq_true rfl) (Nat.le_of_ble_eq_true rfl) rfl (by decide +kernel) rfl ?_
                refine m_partM (by omega) ?_
                simp only [Option.toList_some, Option.toList_none, List.drop_succ_cons, List.drop_zero, List.cons_append, List.nil_append]
                refine ze_lreturn kc_134_151 ?_
                rw [show oChange n c e r κ v ν p = _ from if_pos ⟨by omega, g85.2⟩] at q1
                rw [zup_o (by decide), zup_s, zup_s, zlow_dif (by omega) (by omega), zlow_dif (by omega) (by omega)]
                rcases (show p = 0 ∨ p = 1 by omega) with rfl | rfl
                · exact q1 _ (zFq_trans hq3 (zFq_fm (zFm_up (zFm_up zFm_refl (by omega)) (by omega))))
                · exact q1 _ (zFq_trans hq3 (zFq_fm (zFm_up (zFm_up zFm_refl (by omega)) (by omega))))
              · simp only [Option.toList_some, Option.toList_none, List.drop_succ_cons, List.drop_zero, List.cons_append, List.nil_append]
                refine ze_istore kc_134_88 (Nat.le_of_ble_eq_true rfl) ?_
                simp only [zset1, zset2, zcut, List.set_cons_zero, List.set_cons_succ, List.getD_cons_zero, List.getD_cons_succ]
                refine ze_iload kc_134_90 rfl ?_
                refine ze_if_eq kc_134_92 (by decide) (fun _ => ?_) (fun q => absurd q (by decide))
                refine ze_aload_n kc_134_102 rfl ?_
                refine ze_getR kc_134_103 rfl rfl rfl ?_
                refine ze_iload_n kc_134_106 rfl ?_
                refine ze_iload kc_134_107 rfl ?_
                refine ze_iast kc_134_109 rfl (by omega) ?_
                rw [Int.toNat_natCast]
                refine ze_iload kc_134_110 rfl ?_
                refine ze_if_ne kc_134_112 (by decide) (fun q => absurd q (by decide)) (fun _ => ?_)
                refine ze_ldc2L kc_134_115 ?_
                refine ze_lreturn kc_134_118 ?_
                rw [show oChange n c e r κ v ν p = -9223372036854775808 from if_neg (fun q => g85 ⟨by omega, q.2⟩)] at q1
                refine q1 _ ⟨fun k a b d f g => ?_, fun k a b d f _ => ?_, fun a => ?_, fun a => ?_⟩
                · by_cases q : k = 64
                  · subst q
                    funext x
                    by_cases q2 : x = κ
                    · rw [q2, zup_s]; exact (mc κ hκ).symm
                    · rw [zup_o q2, zup_o q2, f1.1 64 (by decide) (by decide)]
                  · rw [zup_ne' q, zup_ne' q, f1.1 k b f]
                · rw [zup_ne' (by decide), zup_ne' (by decide), f1.2 k a b d f]
                · rw [zup_ne' (by decide), zup_ne' (by decide), f1.1 11 (by decide) (by decide)]; exact a
                · rw [zup_ne' (by decide), zup_ne' (by decide), f1.1 16 (by decide) (by decide)]; exact a
            · simp only [Option.toList_some, Option.toList_none, List.drop_succ_cons, List.drop_zero, List.cons_append, List.nil_append]
              refine ze_if_ne kc_134_43 (by decide) (fun q => absurd q (by decide)) (fun _ => ?_)
              refine ze_ldc2L kc_134_46 ?_
              refine ze_lreturn kc_134_49 ?_
              rw [show oChange n c e r i v j p = -9223372036854775808 from if_neg (fun q => by omega)] at q1
              exact q1 _ zFq_refl
          · simp only [Option.toList_some, Option.toList_none, List.drop_succ_cons, List.drop_zero, List.cons_append, List.nil_append]
            refine ze_if_eq kc_134_36 (by decide) (fun _ => ?_) (fun q => absurd q (by decide))
            refine ze_ldc2L kc_134_46 ?_
            refine ze_lreturn kc_134_49 ?_
            rw [show oChange n c e r i v j p = -9223372036854775808 from if_neg (fun q => by omega)] at q1
            exact q1 _ zFq_refl
        · simp only [Option.toList_some, Option.toList_none, List.drop_succ_cons, List.drop_zero, List.cons_append, List.nil_append]
          refine ze_if_eq kc_134_28 (by decide) (fun _ => ?_) (fun q => absurd q (by decide))
          refine ze_ldc2L kc_134_46 ?_
          refine ze_lreturn kc_134_49 ?_
          rw [show oChange n c e r i v j p = -9223372036854775808 from if_neg (fun q => by omega)] at q1
          exact q1 _ zFq_refl
      · simp only [Option.toList_some, Option.toList_none, List.drop_succ_cons, List.drop_zero, List.cons_append, List.nil_append]
        refine ze_if_eq kc_134_19 (by decide) (fun _ => ?_) (fun q => absurd q (by decide))
        refine ze_ldc2L kc_134_46 ?_
        refine ze_lreturn kc_134_49 ?_
        rw [show oChange n c e r i v j p = -9223372036854775808 from if_neg (fun q => by omega)] at q1
        exact q1 _ zFq_refl
    · simp only [Option.toList_some, Option.toList_none, List.drop_succ_cons, List.drop_zero, List.cons_append, List.nil_append]
      refine ze_if_eq kc_134_12 (by decide) (fun _ => ?_) (fun q => absurd q (by decide))
      refine ze_ldc2L kc_134_46 ?_
      refine ze_lreturn kc_134_49 ?_
      rw [show oChange n c e r i v j p = -9223372036854775808 from if_neg (fun q => by omega)] at q1
      exact q1 _ zFq_refl
  · simp only [Option.toList_some, Option.toList_none, List.drop_succ_cons, List.drop_zero, List.cons_append, List.nil_append]
    refine ze_if_eq kc_134_4 (by decide) (fun _ => ?_) (fun q => absurd q (by decide))
    refine ze_ldc2L kc_134_46 ?_
    refine ze_lreturn kc_134_49 ?_
    rw [show oChange n c e r i v j p = -9223372036854775808 from if_neg (fun q => by omega)] at q1
    exact q1 _ zFq_refl

set_option maxHeartbeats 4000000 in
theorem m_isLike {Z : zMem} {Q : Option zAV → zMem → Prop} {n : Nat} {c : Nat → Int} {e ρ : Int} (hM : zMo n c e ρ Z) {r o : Int} (hn : 1 ≤ n) (hr : 0 ≤ r ∧ r ≤ 5) (ho : 0 ≤ o ∧ o ≤ 5) (he : e ≤ zsum n c) (q1 : zLike n c e r o = true → ∀ Z', zFm Z Z' → Q (some (zI 1)) Z') (q2 : zLike n c e r o = false → ∀ Z', zFm Z Z' → Q (some (zI 0)) Z') : zE 138 0 (zent 138 [zR 63, zI r, zI o]) [] Z Q := by
  show zE 138 0 [some (zR 63), some (zI r), some (zI o), none, none, none, none, none] [] Z Q
  have hM0 := hM
  obtain ⟨n0, n6, mc, mr, me, mρ, meR, mρR⟩ := hM
  have msr := zsum_range mr
  have hp6 := zpow6 n6
  have hss := fun (r : Int) (hn : 1 ≤ n) => zS_range (r := r) (n := n) (c := c) ⟨hn, n6⟩ mr
  have hgr := fun (r : Int) (i : Nat) (hi : i < n) => zGt_range (r := r) (i := i) (w := 1) (u := e) n6 hi mr (by omega) (by omega)
  have hlp := fun (r : Int) (i : Nat) (hn : 1 ≤ n) => zlow_p (a := zGt r n c i 1 e) (b := zS r n c) (zS_pos ⟨hn, n6⟩ mr)
  have s1 := hss r hn
  have s2 := hss o hn
  refine ze_iconst kc_138_0 ?_
  refine ze_istore_n kc_138_1 (Nat.le_of_ble_eq_true rfl) ?_
  simp only [zset1, zset2, zcut, List.set_cons_zero, List.set_cons_succ, List.getD_cons_zero, List.getD_cons_succ]
  have loop2 : ∀ (μ : Nat) (k : Nat) (x : Int) (Zc : zMem) (o1 o2 o3 o4 : Option zAV), n - k = μ → (k ≤ n) → (x = k) → (zFm Z Zc) → (∀ j, j < k → zGt r n c j 1 e * zS o n c = zGt o n c j 1 e * zS r n c) → zE 138 2 [some (zR 63), some (zI r), some (zI o), some (zI x), o1, o2, o3, o4] [] Zc Q := by
    refine zind ?_
    intro μ ih k x Zc o1 o2 o3 o4 hm hk hx hq hl
    subst hx
    refine ze_iload_n kc_138_2 rfl ?_
    refine ze_aload_n kc_138_3 rfl ?_
    refine ze_getI kc_138_4 rfl (by decide) ?_
    rw [(zMo_fm hM0 hq).1]
    refine ze_icmp_ge kc_138_7 (by omega) (by omega) (fun h7 => ?_) (fun h7 => ?_)
    · skip
      refine ze_iconst kc_138_62 ?_
      refine ze_ireturn kc_138_63 (by decide) ?_
      exact q1 (decide_eq_true (fun j hj => hl j (by omega))) _ hq
    · skip
      refine ze_aload_n kc_138_10 rfl ?_
      refine ze_iload_n kc_138_11 rfl ?_
      refine ze_iload_n kc_138_12 rfl ?_
      refine zE_callv 3 kc_138_13 rfl rfl (Nat.le_of_ble_eq_true rfl) (Nat.le_of_ble_eq_true rfl) (Nat.le_of_ble_eq_true rfl) rfl (by decide +kernel) rfl ?_
      refine m_awardOf (zMo_fm hM0 hq) hr (i := k) (by omega) he (fun Z2 f1 f2 f3 => ?_)
      simp only [Option.toList_some, Option.toList_none, List.drop_succ_cons, List.drop_zero, List.cons_append, List.nil_append]
      refine ze_aload_n kc_138_16 rfl ?_
      refine ze_getL kc_138_17 rfl rfl ?_
      rw [f2]
      refine ze_lstore kc_138_20 (Nat.le_of_ble_eq_true rfl) ?_
      simp only [zset1, zset2, zcut, List.set_cons_zero, List.set_cons_succ, List.getD_cons_zero, List.getD_cons_succ]
      refine ze_aload_n kc_138_22 rfl ?_
      refine ze_getL kc_138_23 rfl rfl ?_
      rw [f3]
      refine ze_lstore kc_138_26 (Nat.le_of_ble_eq_true rfl) ?_
      simp only [zset1, zset2, zcut, List.set_cons_zero, List.set_cons_succ, List.getD_cons_zero, List.getD_cons_succ]
      refine ze_aload_n kc_138_28 rfl ?_
      refine ze_iload_n kc_138_29 rfl ?_
      refine ze_iload_n kc_138_30 rfl ?_
      refine zE_callv 3 kc_138_31 rfl rfl (Nat.le_of_ble_eq_true rfl) (Nat.le_of_ble_eq_true rfl) (Nat.le_of_ble_eq_true rfl) rfl (by decide +kernel) rfl ?_
      refine m_awardOf (zMo_fm (zMo_fm hM0 hq) f1) ho (i := k) (by omega) he (fun Z3 k1 k2 k3 => ?_)
      simp only [Option.toList_some, Option.toList_none, List.drop_succ_cons, List.drop_zero, List.cons_append, List.nil_append]
      refine ze_aload_n kc_138_34 rfl ?_
      refine ze_getL kc_138_35 rfl rfl ?_
      rw [k2]
      have a1 := hlp r k hn
      have a2 := hlp o k hn
      have a3 := a1.2.2.2 (hgr r k (by omega)).1
      have a4 := a2.2.2.2 (hgr o k (by omega)).1
      have a5 := (hgr r k (by omega)).2
      have a6 := (hgr o k (by omega)).2
      have hiff := zlow_iff (a := zGt o n c k 1 e) (b := zS o n c) (a' := zGt r n c k 1 e) (b' := zS r n c) (by omega) (by omega)
      refine ze_lload kc_138_38 rfl ?_
      refine ze_lcmp_ne kc_138_40 kc_138_41 (by omega) (by omega) (fun h40 => ?_) (fun h40 => ?_)
      · skip
        refine ze_iconst kc_138_54 ?_
        refine ze_ireturn kc_138_55 (by decide) ?_
        refine q2 (decide_eq_false (fun q => ?_)) _ (zFm_trans (zFm_trans hq f1) k1)
        have hh := hiff.mpr (q k (by omega)).symm
        first
          | exact h40 hh.1
          | exact h50 hh.2
      · skip
        refine ze_aload_n kc_138_44 rfl ?_
        refine ze_getL kc_138_45 rfl rfl ?_
        rw [k3]
        refine ze_lload kc_138_48 rfl ?_
        refine ze_lcmp_eq kc_138_50 kc_138_51 (by omega) (by omega) (fun h50 => ?_) (fun h50 => ?_)
        · skip
          refine ze_iinc kc_138_56 rfl ?_
          simp only [zset1, zset2, zcut, List.set_cons_zero, List.set_cons_succ, List.getD_cons_zero, List.getD_cons_succ]
          refine ze_goto kc_138_59 ?_
          refine ih _ (by omega) (k + 1) _ _ _ _ _ _ rfl (by omega) (by omega) (zFm_trans (zFm_trans hq f1) k1) (fun j hj => if q : j = k then (by rw [q]; exact (hiff.mp ⟨h40, h50⟩).symm) else hl j (by omega))
        · skip
          refine ze_iconst kc_138_54 ?_
          refine ze_ireturn kc_138_55 (by decide) ?_
          refine q2 (decide_eq_false (fun q => ?_)) _ (zFm_trans (zFm_trans hq f1) k1)
          have hh := hiff.mpr (q k (by omega)).symm
          first
            | exact h40 hh.1
            | exact h50 hh.2
  refine loop2 _ 0 0 Z none none none none rfl (by omega) rfl zFm_refl (fun j hj => by omega)

theorem zor_0 {b : Int} (h : -2147483648 ≤ b ∧ b ≤ 2147483647) : (Int32.ofInt b ||| Int32.ofInt 0).toInt = b := by
  rw [show Int32.ofInt 0 = 0 from rfl, Int32.or_zero]
  exact Int32.toInt_ofInt_of_le (by omega) (by omega)
set_option maxHeartbeats 4000000 in
theorem m_likeOf {Z : zMem} {Q : Option zAV → zMem → Prop} {n : Nat} {c : Nat → Int} {e ρ : Int} (hM : zMo n c e ρ Z) {r : Int} (hn : 1 ≤ n) (hr : 0 ≤ r ∧ r ≤ 5) (he : e ≤ zsum n c) (q1 : ∀ Z', zFm Z Z' → Q (some (zI (zAlk n c e r))) Z') : zE 139 0 (zent 139 [zR 63, zI r]) [] Z Q := by
  show zE 139 0 [some (zR 63), some (zI r), none, none] [] Z Q
  have hM0 := hM
  obtain ⟨n0, n6, mc, mr, me, mρ, meR, mρR⟩ := hM
  have msr := zsum_range mr
  have hp6 := zpow6 n6
  refine ze_iconst kc_139_0 ?_
  refine ze_istore_n kc_139_1 (Nat.le_of_ble_eq_true rfl) ?_
  simp only [zset1, zset2, zcut, List.set_cons_zero, List.set_cons_succ, List.getD_cons_zero, List.getD_cons_succ]
  refine ze_iconst kc_139_2 ?_
  refine ze_istore_n kc_139_3 (Nat.le_of_ble_eq_true rfl) ?_
  simp only [zset1, zset2, zcut, List.set_cons_zero, List.set_cons_succ, List.getD_cons_zero, List.getD_cons_succ]
  have loop4 : ∀ (μ : Nat) (k : Nat) (x b : Int) (Zc : zMem), 6 - k = μ → (k ≤ 6) → (x = k) → (zFm Z Zc) → (b = zbor k (fun o => zLike n c e r o)) → zE 139 4 [some (zR 63), some (zI r), some (zI b), some (zI x)] [] Zc Q := by
    refine zind ?_
    intro μ ih k x b Zc hm hk hx hq hb
    subst hx
    refine ze_iload_n kc_139_4 rfl ?_
    refine ze_bipush kc_139_5 ?_
    refine ze_icmp_ge kc_139_7 (by omega) (by omega) (fun h7 => ?_) (fun h7 => ?_)
    · skip
      refine ze_iload_n kc_139_35 rfl ?_
      refine ze_ireturn kc_139_36 (Or.inl rfl) ?_
      rw [show k = 6 by omega] at hb
      rw [hb]
      exact q1 _ hq
    · skip
      refine ze_iload_n kc_139_10 rfl ?_
      refine ze_aload_n kc_139_11 rfl ?_
      refine ze_iload_n kc_139_12 rfl ?_
      refine ze_iload_n kc_139_13 rfl ?_
      refine zE_callv 3 kc_139_14 rfl rfl (Nat.le_of_ble_eq_true rfl) (Nat.le_of_ble_eq_true rfl) (Nat.le_of_ble_eq_true rfl) rfl (by decide +kernel) rfl ?_
      refine m_isLike (zMo_fm hM0 hq) hn hr (by omega) he (fun g14 Z2 f1 => ?_) (fun g14 Z2 f1 => ?_)
      · simp only [Option.toList_some, Option.toList_none, List.drop_succ_cons, List.drop_zero, List.cons_append, List.nil_append]
        refine ze_if_eq kc_139_17 (by decide) (fun q => absurd q (by decide)) (fun _ => ?_)
        refine ze_iconst kc_139_20 ?_
        refine ze_iload_n kc_139_21 rfl ?_
        refine ze_ishl kc_139_22 ?_
        refine ze_goto kc_139_23 ?_
        refine ze_ior kc_139_27 ?_
        refine ze_istore_n kc_139_28 (Nat.le_of_ble_eq_true rfl) ?_
        simp only [zset1, zset2, zcut, List.set_cons_zero, List.set_cons_succ, List.getD_cons_zero, List.getD_cons_succ]
        refine ze_iinc kc_139_29 rfl ?_
        simp only [zset1, zset2, zcut, List.set_cons_zero, List.set_cons_succ, List.getD_cons_zero, List.getD_cons_succ]
        refine ze_goto kc_139_32 ?_
        refine ih _ (by omega) (k + 1) _ _ _ rfl (by omega) (by omega) (zFm_trans hq f1) ?_
        first
          | (rw [hb]; exact (if_pos g14).symm)
          | (have hin := zbor_in k (fun o => zLike n c e r o)
             rw [hb, zor_0 hin]; exact (if_neg (fun q => absurd (g14.symm.trans q) (by decide))).symm)
      · simp only [Option.toList_some, Option.toList_none, List.drop_succ_cons, List.drop_zero, List.cons_append, List.nil_append]
        refine ze_if_eq kc_139_17 (by decide) (fun _ => ?_) (fun q => absurd q (by decide))
        refine ze_iconst kc_139_26 ?_
        refine ze_ior kc_139_27 ?_
        refine ze_istore_n kc_139_28 (Nat.le_of_ble_eq_true rfl) ?_
        simp only [zset1, zset2, zcut, List.set_cons_zero, List.set_cons_succ, List.getD_cons_zero, List.getD_cons_succ]
        refine ze_iinc kc_139_29 rfl ?_
        simp only [zset1, zset2, zcut, List.set_cons_zero, List.set_cons_succ, List.getD_cons_zero, List.getD_cons_succ]
        refine ze_goto kc_139_32 ?_
        refine ih _ (by omega) (k + 1) _ _ _ rfl (by omega) (by omega) (zFm_trans hq f1) ?_
        first
          | (rw [hb]; exact (if_pos g14).symm)
          | (have hin := zbor_in k (fun o => zLike n c e r o)
             rw [hb, zor_0 hin]; exact (if_neg (fun q => absurd (g14.symm.trans q) (by decide))).symm)
  refine loop4 _ 0 0 0 Z rfl (by omega) rfl zFm_refl rfl

set_option maxHeartbeats 4000000 in
theorem m_likeM {Z : zMem} {Q : Option zAV → zMem → Prop} {n : Nat} {c : Nat → Int} {e ρ : Int} (hM : zMo n c e ρ Z) {r : Int} (hr : -2147483648 ≤ r ∧ r ≤ 2147483647) (q1 : ∀ Z', zFq Z Z' → Q (some (zI (oLike n c e r))) Z') : zE 140 0 (zent 140 [zR 63, zI r]) [] Z Q := by
  show zE 140 0 [some (zR 63), some (zI r)] [] Z Q
  have hM0 := hM
  obtain ⟨n0, n6, mc, mr, me, mρ, meR, mρR⟩ := hM
  have msr := zsum_range mr
  have hp6 := zpow6 n6
  refine ze_iload_n kc_140_0 rfl ?_
  refine zE_calls 1 kc_140_1 rfl rfl (Nat.le_of_ble_eq_true rfl) (Nat.le_of_ble_eq_true rfl) (Nat.le_of_ble_eq_true rfl) rfl ?_
  refine m_isRuleM (by omega) (fun g1 => ?_) (fun g1 => ?_)
  · simp only [Option.toList_some, Option.toList_none, List.drop_succ_cons, List.drop_zero, List.cons_append, List.nil_append]
    refine ze_if_ne kc_140_4 (by decide) (fun _ => ?_) (fun q => absurd q (by decide))
    refine ze_aload_n kc_140_10 rfl ?_
    refine zE_callv 1 kc_140_11 rfl rfl (Nat.le_of_ble_eq_true rfl) (Nat.le_of_ble_eq_true rfl) (Nat.le_of_ble_eq_true rfl) rfl (by decide +kernel) rfl ?_
    refine m_readyM hM0 (fun g11 => ?_) (fun g11 => ?_)
    · simp only [Option.toList_some, Option.toList_none, List.drop_succ_cons, List.drop_zero, List.cons_append, List.nil_append]
      refine ze_if_eq kc_140_14 (by decide) (fun q => absurd q (by decide)) (fun _ => ?_)
      refine ze_aload_n kc_140_17 rfl ?_
      refine ze_iload_n kc_140_18 rfl ?_
      refine zE_callv 2 kc_140_19 rfl rfl (Nat.le_of_ble_eq_true rfl) (Nat.le_of_ble_eq_true rfl) (Nat.le_of_ble_eq_true rfl) rfl (by decide +kernel) rfl ?_
      refine m_likeOf hM0 (by omega) (by omega) (by omega) (fun Z2 f1 => ?_)
      simp only [Option.toList_some, Option.toList_none, List.drop_succ_cons, List.drop_zero, List.cons_append, List.nil_append]
      refine ze_goto kc_140_22 ?_
      refine ze_ireturn kc_140_27 (Or.inl rfl) ?_
      unfold oLike at q1
      first
        | (rw [if_pos (by omega)] at q1; exact q1 _ zFq_refl)
        | (rw [if_neg (by omega), if_neg (by omega)] at q1; exact q1 _ zFq_refl)
        | (rw [if_neg (by omega), if_pos (by omega)] at q1; exact q1 _ (zFq_fm f1))
    · simp only [Option.toList_some, Option.toList_none, List.drop_succ_cons, List.drop_zero, List.cons_append, List.nil_append]
      refine ze_if_eq kc_140_14 (by decide) (fun _ => ?_) (fun q => absurd q (by decide))
      refine ze_bipush kc_140_25 ?_
      refine ze_ireturn kc_140_27 (Or.inl rfl) ?_
      unfold oLike at q1
      first
        | (rw [if_pos (by omega)] at q1; exact q1 _ zFq_refl)
        | (rw [if_neg (by omega), if_neg (by omega)] at q1; exact q1 _ zFq_refl)
        | (rw [if_neg (by omega), if_pos (by omega)] at q1; exact q1 _ (zFq_fm f1))
  · simp only [Option.toList_some, Option.toList_none, List.drop_succ_cons, List.drop_zero, List.cons_append, List.nil_append]
    refine ze_if_ne kc_140_4 (by decide) (fun q => absurd q (by decide)) (fun _ => ?_)
    refine ze_bipush kc_140_7 ?_
    refine ze_ireturn kc_140_9 (Or.inl rfl) ?_
    unfold oLike at q1
    first
      | (rw [if_pos (by omega)] at q1; exact q1 _ zFq_refl)
      | (rw [if_neg (by omega), if_neg (by omega)] at q1; exact q1 _ zFq_refl)
      | (rw [if_neg (by omega), if_pos (by omega)] at q1; exact q1 _ (zFq_fm f1))
