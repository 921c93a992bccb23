/-! THE STATE, as the class and the plain form hold it -/
abbrev zS4 : Type := Nat × (Nat → Int) × Int × Int
abbrev zRs : Type := Nat × (Nat → Int) × (Nat → Int)
def zClS (S : zS4) (Z : zMem) : Prop := zCl S.1 S.2.1 S.2.2.1 S.2.2.2 Z
def zMoS (S : zS4) (Z : zMem) : Prop := zMo S.1 S.2.1 S.2.2.1 S.2.2.2 Z
def zRwX (r m : Nat) (R : zRs) (Z : zMem) : Prop := zRw r m R.1 R.2.1 R.2.2 Z
def zRwM (f c1 c2 m : Nat) (R : zRs) (Z : zMem) : Prop := Z 63 f = R.1 ∧ R.1 ≤ m ∧ (∀ i, i < R.1 → Z c1 i = R.2.1 i) ∧ (∀ i, i < R.1 → Z c2 i = R.2.2 i)
theorem zRwM_same {f c1 c2 m : Nat} {R : zRs} {Z Z' : zMem} (h : zRwM f c1 c2 m R Z) (h0 : Z' 63 f = Z 63 f) (h1 : Z' c1 = Z c1) (h2 : Z' c2 = Z c2) : zRwM f c1 c2 m R Z' := by
  unfold zRwM at h ⊢
  rw [h0, h1, h2]
  exact h
def sClaim (S : zS4) (v : Int) : zS4 := if (1 ≤ v ∧ v ≤ 60) ∧ S.1 < 6 then (S.1 + 1, zext S.2.1 S.1 v, S.2.2.1, S.2.2.2) else S
def oClaim (S : zS4) (v : Int) : Int := if ¬ (1 ≤ v ∧ v ≤ 60) then -2 else if S.1 < 6 then S.1 else -4
def sRenew (S : zS4) (i v : Int) : zS4 := if (0 ≤ i ∧ i < S.1) ∧ (1 ≤ v ∧ v ≤ 60) then (S.1, zupd S.2.1 i.toNat v, S.2.2.1, S.2.2.2) else S
def oRenew (S : zS4) (i v : Int) : Int := if ¬ (0 ≤ i ∧ i < S.1) then -1 else if ¬ (1 ≤ v ∧ v ≤ 60) then -2 else S.2.1 i.toNat
def sEstate (S : zS4) (v : Int) : zS4 := if 0 ≤ v ∧ v ≤ 360 then (S.1, S.2.1, v, S.2.2.2) else S
def oEstate (S : zS4) (v : Int) : Int := if 0 ≤ v ∧ v ≤ 360 then S.2.2.1 else -2
def sRule (S : zS4) (v : Int) : zS4 := if 0 ≤ v ∧ v ≤ 5 then (S.1, S.2.1, S.2.2.1, v) else S
def oRule (S : zS4) (v : Int) : Int := if 0 ≤ v ∧ v ≤ 5 then S.2.2.2 else -2
def oOf (n : Nat) (c : Nat → Int) (i : Int) : Int := if 0 ≤ i ∧ i < n then c i.toNat else -1
def oTold (n : Nat) (c : Nat → Int) (e ρ w : Int) : Int := if w = 0 then n else if w = 1 then zsum n c else if w = 2 then e else if w = 3 then ρ else if w = 4 then (if 1 ≤ n ∧ e ≤ zsum n c then 1 else 0) else -1
def sTell (n m : Nat) (R : zRs) (i v : Int) : zRs := if i = -1 then (0, R.2.1, R.2.2) else if ((0 ≤ i ∧ i < n) ∧ (0 ≤ v ∧ v ≤ 60)) ∧ R.1 < m then (R.1 + 1, zext R.2.1 R.1 i, zext R.2.2 R.1 v) else R
def oTell (n m : Nat) (R : zRs) (i v : Int) : Int := if i = -1 then 0 else if ¬ (0 ≤ i ∧ i < n) then -1 else if ¬ (0 ≤ v ∧ v ≤ 60) then -2 else if R.1 < m then ((R.1 + 1 : Nat) : Int) else -4
def zEvA (n : Nat) (w i : Int) : Prop := (0 ≤ w ∧ w ≤ 3) ∧ (w < 2 → 0 ≤ i ∧ i < n)
def zEvB (w i : Int) : Prop := (w = 2 → 0 ≤ i ∧ i ≤ 5) ∧ (w = 3 → 0 ≤ i ∧ i ≤ 360)
noncomputable def sEvent (n : Nat) (R : zRs) (w i : Int) : zRs := @ite _ (w = -1) (Classical.propDecidable _) (0, R.2.1, R.2.2) (@ite _ ((zEvA n w i ∧ zEvB w i) ∧ R.1 < 8) (Classical.propDecidable _) (R.1 + 1, zext R.2.1 R.1 w, zext R.2.2 R.1 i) R)
noncomputable def oEvent (n : Nat) (R : zRs) (w i : Int) : Int := @ite _ (w = -1) (Classical.propDecidable _) 0 (@ite _ (¬ zEvA n w i) (Classical.propDecidable _) (-1) (@ite _ (¬ zEvB w i) (Classical.propDecidable _) (-2) (if R.1 < 8 then ((R.1 + 1 : Nat) : Int) else -4)))
def zFS (Z Z' : zMem) : Prop := ∀ k, k < 1 ∨ 5 < k → Z' k = Z k
def zFSm (Z Z' : zMem) : Prop := (∀ k, k ≠ 63 → k ≠ 64 → Z' k = Z k) ∧ (∀ j, j ≠ 0 → j ≠ 2 → j ≠ 3 → Z' 63 j = Z 63 j)
def zFRm (f c1 c2 : Nat) (Z Z' : zMem) : Prop := (∀ k, k ≠ 63 → k ≠ c1 → k ≠ c2 → Z' k = Z k) ∧ (∀ j, j ≠ f → Z' 63 j = Z 63 j)
theorem zFS_refl {Z : zMem} : zFS Z Z := fun _ _ => rfl
theorem zFSm_refl {Z : zMem} : zFSm Z Z := ⟨fun _ _ _ => rfl, fun _ _ _ _ => rfl⟩
theorem zFRm_refl {f c1 c2 : Nat} {Z : zMem} : zFRm f c1 c2 Z Z := ⟨fun _ _ _ _ => rfl, fun _ _ => rfl⟩
theorem zFS_trans {Z Z' Z'' : zMem} (h : zFS Z Z') (h' : zFS Z' Z'') : zFS Z Z'' := fun k a => (h' k a).trans (h k a)
theorem zFSm_trans {Z Z' Z'' : zMem} (h : zFSm Z Z') (h' : zFSm Z' Z'') : zFSm Z Z'' := ⟨fun k a b => (h'.1 k a b).trans (h.1 k a b), fun j a b c => (h'.2 j a b c).trans (h.2 j a b c)⟩
theorem zCl_of {n : Nat} {c : Nat → Int} {e ρ : Int} {Z Z' : zMem} {n' : Nat} {c' : Nat → Int} {e' ρ' : Int} (h : zCl n c e ρ Z) (hf : zFS Z Z') (hG : zG 2 n' c' Z') (h2 : Z' 1 2 = e') (h3 : Z' 1 3 = ρ') (he : 0 ≤ e' ∧ e' ≤ 360) (hr : 0 ≤ ρ' ∧ ρ' ≤ 5) : zCl n' c' e' ρ' Z' :=
  ⟨⟨hG, h2, h3, he, hr⟩, by rw [hf 11 (by decide)]; exact h.2.1, by rw [hf 16 (by decide)]; exact h.2.2⟩
theorem zMo_of {n : Nat} {c : Nat → Int} {e ρ : Int} {Z : zMem} (h0 : Z 63 0 = n) (hn : n ≤ 6) (h1 : ∀ i, i < n → Z 64 i = c i) (hr : ∀ i, i < n → 1 ≤ c i ∧ c i ≤ 60) (h2 : Z 63 2 = e) (h3 : Z 63 3 = ρ) (he : 0 ≤ e ∧ e ≤ 360) (hρ : 0 ≤ ρ ∧ ρ ≤ 5) : zMo n c e ρ Z := ⟨h0, hn, h1, hr, h2, h3, he, hρ⟩
set_option maxHeartbeats 4000000 in
theorem m_claimX {Z : zMem} {Q : Option zAV → zMem → Prop} {n : Nat} {c : Nat → Int} {e ρ : Int} (hC : zCl n c e ρ Z) {v : Int} (hv : -2147483648 ≤ v ∧ v ≤ 2147483647) (q1 : ∀ Z', zClS (sClaim (n, c, e, ρ) v) Z' → zFS Z Z' → Q (some (zI (oClaim (n, c, e, ρ) v))) Z') : zE 42 0 (zent 42 [zR 0, zI v]) [] Z Q := by
  show zE 42 0 [some (zR 0), some (zI v)] [] Z Q
  obtain ⟨hU0, hG0, n6, n0, cc, cr, ce, cρ, ceR, cρR, c11, c16⟩ := zCl_o hC
  have csr := zsum_range cr
  refine ze_iload_n kc_42_0 rfl ?_
  refine zE_calls 1 kc_42_1 rfl rfl (Nat.le_of_ble_eq_true rfl) (Nat.le_of_ble_eq_true rfl) (Nat.le_of_ble_eq_true rfl) rfl ?_
  refine m_isClaim (by omega) (fun g1 => ?_) (fun g1 => ?_)
  · simp only [Option.toList_some, Option.toList_none, List.drop_succ_cons, List.drop_zero, List.cons_append, List.nil_append]
    refine ze_if_ne kc_42_4 (by decide) (fun _ => ?_) (fun q => absurd q (by decide))
    refine ze_aload_n kc_42_10 rfl ?_
    refine ze_getR kc_42_11 rfl rfl rfl ?_
    refine ze_getR kc_42_14 rfl rfl rfl ?_
    refine ze_getI kc_42_17 rfl (by decide) ?_
    rw [n0]
    refine ze_bipush kc_42_20 ?_
    refine ze_icmp_lt kc_42_22 (by omega) (by omega) (fun h22 => ?_) (fun h22 => ?_)
    · skip
      refine ze_aload_n kc_42_28 rfl ?_
      refine ze_getR kc_42_29 rfl rfl rfl ?_
      refine ze_getR kc_42_32 rfl rfl rfl ?_
      refine ze_iload_n kc_42_35 rfl ?_
      refine zE_callv 2 kc_42_36 rfl rfl (Nat.le_of_ble_eq_true rfl) (Nat.le_of_ble_eq_true rfl) (Nat.le_of_ble_eq_true rfl) rfl (by decide +kernel) rfl ?_
      refine m_add zgF_2 hG0 (by omega) (by omega) (fun Z2 r1 r2 r3 r4 => ?_)
      simp only [Option.toList_some, Option.toList_none, List.drop_succ_cons, List.drop_zero, List.cons_append, List.nil_append]
      refine ze_aload_n kc_42_39 rfl ?_
      refine ze_getR kc_42_40 rfl rfl rfl ?_
      refine ze_getR kc_42_43 rfl rfl rfl ?_
      refine ze_getI kc_42_46 rfl (by decide) ?_
      rw [r1.2.1]
      refine ze_iconst kc_42_49 ?_
      refine ze_isub kc_42_50 ?_
      refine ze_ireturn kc_42_51 (Or.inl rfl) ?_
      rw [show sClaim (n, c, e, ρ) v = (n + 1, zext c n v, e, ρ) from if_pos ⟨by omega, show n < 6 by omega⟩] at q1
      rw [show oClaim (n, c, e, ρ) v = (n : Int) from (if_neg (by omega)).trans (if_pos (show n < 6 by omega))] at q1
      rw [show ((n + 1 : Nat) : Int) - 1 = (n : Int) by omega]
      have hf : zFS Z Z2 := fun k hk => r2 k (by omega)
      refine q1 _ (zCl_of hC ?_ r1 ?_ ?_ ceR cρR) ?_
      · exact fun k hk => by first | exact r2 k (by omega)
      · rw [r2 1 (by decide)]; exact ce
      · rw [r2 1 (by decide)]; exact cρ
      · exact fun k hk => by first | exact r2 k (by omega)
    · skip
      refine ze_bipush kc_42_25 ?_
      refine ze_ireturn kc_42_27 (Or.inl rfl) ?_
      rw [show sClaim (n, c, e, ρ) v = (n, c, e, ρ) from if_neg (by omega)] at q1
      rw [show oClaim (n, c, e, ρ) v = -4 from (if_neg (by omega)).trans (if_neg (show ¬ n < 6 by omega))] at q1
      exact q1 _ hC zFS_refl
  · simp only [Option.toList_some, Option.toList_none, List.drop_succ_cons, List.drop_zero, List.cons_append, List.nil_append]
    refine ze_if_ne kc_42_4 (by decide) (fun q => absurd q (by decide)) (fun _ => ?_)
    refine ze_bipush kc_42_7 ?_
    refine ze_ireturn kc_42_9 (Or.inl rfl) ?_
    rw [show sClaim (n, c, e, ρ) v = (n, c, e, ρ) from if_neg (fun q => by omega)] at q1
    rw [show oClaim (n, c, e, ρ) v = -2 from if_pos (by omega)] at q1
    exact q1 _ hC zFS_refl

set_option maxHeartbeats 4000000 in
theorem m_claimM {Z : zMem} {Q : Option zAV → zMem → Prop} {n : Nat} {c : Nat → Int} {e ρ : Int} (hM : zMo n c e ρ Z) {v : Int} (hv : -2147483648 ≤ v ∧ v ≤ 2147483647) (q1 : ∀ Z', zMoS (sClaim (n, c, e, ρ) v) Z' → zFSm Z Z' → Q (some (zI (oClaim (n, c, e, ρ) v))) Z') : zE 106 0 (zent 106 [zR 63, zI v]) [] Z Q := by
  show zE 106 0 [some (zR 63), some (zI v)] [] Z Q
  have hM0 := hM
  obtain ⟨n0, n6, mc, mr, me, mρ, meR, mρR⟩ := hM
  have msr := zsum_range mr
  have hp6 := zpow6 n6
  refine ze_iload_n kc_106_0 rfl ?_
  refine zE_calls 1 kc_106_1 rfl rfl (Nat.le_of_ble_eq_true rfl) (Nat.le_of_ble_eq_true rfl) (Nat.le_of_ble_eq_true rfl) rfl ?_
  refine m_isClaimM (by omega) (fun g1 => ?_) (fun g1 => ?_)
  · simp only [Option.toList_some, Option.toList_none, List.drop_succ_cons, List.drop_zero, List.cons_append, List.nil_append]
    refine ze_if_ne kc_106_4 (by decide) (fun _ => ?_) (fun q => absurd q (by decide))
    refine ze_aload_n kc_106_10 rfl ?_
    refine ze_getI kc_106_11 rfl (by decide) ?_
    rw [n0]
    refine ze_bipush kc_106_14 ?_
    refine ze_icmp_ne kc_106_16 (by omega) (by omega) (fun h16 => ?_) (fun h16 => ?_)
    · skip
      refine ze_aload_n kc_106_22 rfl ?_
      refine ze_getR kc_106_23 rfl rfl rfl ?_
      refine ze_aload_n kc_106_26 rfl ?_
      refine ze_getI kc_106_27 rfl (by decide) ?_
      rw [n0]
      refine ze_iload_n kc_106_30 rfl ?_
      refine ze_iast kc_106_31 rfl (by omega) ?_
      rw [Int.toNat_natCast]
      refine ze_aload_n kc_106_32 rfl ?_
      refine ze_dup kc_106_33 rfl ?_
      refine ze_getI kc_106_34 rfl (by decide) ?_
      rw [zup_ne' (by decide), n0]
      refine ze_iconst kc_106_37 ?_
      refine ze_iadd kc_106_38 ?_
      refine ze_putI kc_106_39 rfl rfl ?_
      refine ze_aload_n kc_106_42 rfl ?_
      refine ze_getI kc_106_43 rfl (by decide) ?_
      rw [zup_s]
      refine ze_iconst kc_106_46 ?_
      refine ze_isub kc_106_47 ?_
      refine ze_ireturn kc_106_48 (Or.inl rfl) ?_
      rw [show sClaim (n, c, e, ρ) v = (n + 1, zext c n v, e, ρ) from if_pos ⟨by omega, show n < 6 by omega⟩] at q1
      rw [show oClaim (n, c, e, ρ) v = (n : Int) from (if_neg (by omega)).trans (if_pos (show n < 6 by omega))] at q1
      rw [show (n : Int) + 1 - 1 = (n : Int) by omega]
      refine q1 _ (zMo_of ?_ (by omega) (fun i hi => ?_) (fun i hi => ?_) ?_ ?_ meR mρR) ⟨fun k a b => ?_, fun j a b d => ?_⟩
      · rw [zup_s]; exact (Int.natCast_succ n).symm
      · rw [zup_ne' (by decide)]
        by_cases q : i = n
        · rw [q, zup_s]; exact (if_pos rfl).symm
        · rw [zup_o q, mc i (by omega)]; exact (if_neg q).symm
      · show 1 ≤ zext c n v i ∧ zext c n v i ≤ 60
        unfold zext
        split
        · omega
        · exact mr i (by omega)
      · rw [zup_o (by decide), zup_ne' (by decide)]; exact me
      · rw [zup_o (by decide), zup_ne' (by decide)]; exact mρ
      · rw [zup_ne' a, zup_ne' b]
      · rw [zup_o a, zup_ne' (by decide)]
    · skip
      refine ze_bipush kc_106_19 ?_
      refine ze_ireturn kc_106_21 (Or.inl rfl) ?_
      rw [show sClaim (n, c, e, ρ) v = (n, c, e, ρ) from if_neg (by omega)] at q1
      rw [show oClaim (n, c, e, ρ) v = -4 from (if_neg (by omega)).trans (if_neg (show ¬ n < 6 by omega))] at q1
      exact q1 _ hM0 zFSm_refl
  · simp only [Option.toList_some, Option.toList_none, List.drop_succ_cons, List.drop_zero, List.cons_append, List.nil_append]
    refine ze_if_ne kc_106_4 (by decide) (fun q => absurd q (by decide)) (fun _ => ?_)
    refine ze_bipush kc_106_7 ?_
    refine ze_ireturn kc_106_9 (Or.inl rfl) ?_
    rw [show sClaim (n, c, e, ρ) v = (n, c, e, ρ) from if_neg (fun q => by omega)] at q1
    rw [show oClaim (n, c, e, ρ) v = -2 from if_pos (by omega)] at q1
    exact q1 _ hM0 zFSm_refl

set_option maxHeartbeats 4000000 in
theorem m_renewX {Z : zMem} {Q : Option zAV → zMem → Prop} {n : Nat} {c : Nat → Int} {e ρ : Int} (hC : zCl n c e ρ Z) {i v : Int} (hi : -2147483648 ≤ i ∧ i ≤ 2147483647) (hv : -2147483648 ≤ v ∧ v ≤ 2147483647) (q1 : ∀ Z', zClS (sRenew (n, c, e, ρ) i v) Z' → zFS Z Z' → Q (some (zI (oRenew (n, c, e, ρ) i v))) Z') : zE 43 0 (zent 43 [zR 0, zI i, zI v]) [] Z Q := by
  show zE 43 0 [some (zR 0), some (zI i), some (zI v), none] [] Z Q
  obtain ⟨hU0, hG0, n6, n0, cc, cr, ce, cρ, ceR, cρR, c11, c16⟩ := zCl_o hC
  have csr := zsum_range cr
  refine ze_aload_n kc_43_0 rfl ?_
  refine ze_getR kc_43_1 rfl rfl rfl ?_
  refine ze_getR kc_43_4 rfl rfl rfl ?_
  refine ze_iload_n kc_43_7 rfl ?_
  refine zE_callv 2 kc_43_8 rfl rfl (Nat.le_of_ble_eq_true rfl) (Nat.le_of_ble_eq_true rfl) (Nat.le_of_ble_eq_true rfl) rfl (by decide +kernel) rfl ?_
  refine m_has zgF_2 (by omega) (by omega) (fun g8 => ?_) (fun g8 => ?_)
  · simp only [Option.toList_some, Option.toList_none, List.drop_succ_cons, List.drop_zero, List.cons_append, List.nil_append]
    refine ze_if_ne kc_43_11 (by decide) (fun _ => ?_) (fun q => absurd q (by decide))
    refine ze_iload_n kc_43_16 rfl ?_
    refine zE_calls 1 kc_43_17 rfl rfl (Nat.le_of_ble_eq_true rfl) (Nat.le_of_ble_eq_true rfl) (Nat.le_of_ble_eq_true rfl) rfl ?_
    refine m_isClaim (by omega) (fun g17 => ?_) (fun g17 => ?_)
    · simp only [Option.toList_some, Option.toList_none, List.drop_succ_cons, List.drop_zero, List.cons_append, List.nil_append]
      refine ze_if_ne kc_43_20 (by decide) (fun _ => ?_) (fun q => absurd q (by decide))
      obtain ⟨κ, rfl⟩ := Int.eq_ofNat_of_zero_le (show 0 ≤ i by omega)
      have hκ : κ < n := by omega
      refine ze_aload_n kc_43_26 rfl ?_
      refine ze_getR kc_43_27 rfl rfl rfl ?_
      refine ze_getR kc_43_30 rfl rfl rfl ?_
      refine ze_getR kc_43_33 rfl rfl rfl ?_
      refine ze_iload_n kc_43_36 rfl ?_
      refine ze_iald kc_43_37 rfl (by omega) ?_
      rw [Int.toNat_natCast, cc κ hκ]
      refine ze_istore_n kc_43_38 (Nat.le_of_ble_eq_true rfl) ?_
      simp only [zset1, zset2, zcut, zf0, zf1, zf2, zf3, List.set_cons_zero, List.set_cons_succ, List.getD_cons_zero, List.getD_cons_succ]
      refine ze_aload_n kc_43_39 rfl ?_
      refine ze_getR kc_43_40 rfl rfl rfl ?_
      refine ze_getR kc_43_43 rfl rfl rfl ?_
      refine ze_iload_n kc_43_46 rfl ?_
      refine ze_iload_n kc_43_47 rfl ?_
      refine zE_callv 3 kc_43_48 rfl rfl (Nat.le_of_ble_eq_true rfl) (Nat.le_of_ble_eq_true rfl) (Nat.le_of_ble_eq_true rfl) rfl (by decide +kernel) rfl ?_
      refine m_put zgF_2 hG0 hκ (by omega) (fun Z2 r1 r2 r3 => ?_)
      simp only [Option.toList_some, Option.toList_none, List.drop_succ_cons, List.drop_zero, List.cons_append, List.nil_append]
      refine ze_iload_n kc_43_51 rfl ?_
      refine ze_ireturn kc_43_52 (Or.inl rfl) ?_
      rw [show sRenew (n, c, e, ρ) κ v = (n, zupd c κ v, e, ρ) from if_pos (show (0 ≤ (κ : Int) ∧ (κ : Int) < n) ∧ (1 ≤ v ∧ v ≤ 60) by omega)] at q1
      rw [show oRenew (n, c, e, ρ) κ v = c κ from (if_neg (show ¬ ¬ (0 ≤ (κ : Int) ∧ (κ : Int) < n) by omega)).trans (if_neg (by omega))] at q1
      have hf : zFS Z Z2 := fun k hk => r2 k (by omega)
      refine q1 _ (zCl_of hC hf r1 ?_ ?_ ceR cρR) hf
      · rw [r2 1 (by decide)]; exact ce
      · rw [r2 1 (by decide)]; exact cρ
    · simp only [Option.toList_some, Option.toList_none, List.drop_succ_cons, List.drop_zero, List.cons_append, List.nil_append]
      refine ze_if_ne kc_43_20 (by decide) (fun q => absurd q (by decide)) (fun _ => ?_)
      refine ze_bipush kc_43_23 ?_
      refine ze_ireturn kc_43_25 (Or.inl rfl) ?_
      rw [show sRenew (n, c, e, ρ) i v = (n, c, e, ρ) from if_neg (show ¬ ((0 ≤ i ∧ i < (n : Int)) ∧ (1 ≤ v ∧ v ≤ 60)) by omega)] at q1
      rw [show oRenew (n, c, e, ρ) i v = -2 from (if_neg (show ¬ ¬ (0 ≤ i ∧ i < (n : Int)) by omega)).trans (if_pos (by omega))] at q1
      exact q1 _ hC zFS_refl
  · simp only [Option.toList_some, Option.toList_none, List.drop_succ_cons, List.drop_zero, List.cons_append, List.nil_append]
    refine ze_if_ne kc_43_11 (by decide) (fun q => absurd q (by decide)) (fun _ => ?_)
    refine ze_iconst kc_43_14 ?_
    refine ze_ireturn kc_43_15 (Or.inl rfl) ?_
    rw [show sRenew (n, c, e, ρ) i v = (n, c, e, ρ) from if_neg (show ¬ ((0 ≤ i ∧ i < (n : Int)) ∧ (1 ≤ v ∧ v ≤ 60)) by omega)] at q1
    rw [show oRenew (n, c, e, ρ) i v = -1 from if_pos (show ¬ (0 ≤ i ∧ i < (n : Int)) by omega)] at q1
    exact q1 _ hC zFS_refl

set_option maxHeartbeats 4000000 in
theorem m_renewM {Z : zMem} {Q : Option zAV → zMem → Prop} {n : Nat} {c : Nat → Int} {e ρ : Int} (hM : zMo n c e ρ Z) {i v : Int} (hi : -2147483648 ≤ i ∧ i ≤ 2147483647) (hv : -2147483648 ≤ v ∧ v ≤ 2147483647) (q1 : ∀ Z', zMoS (sRenew (n, c, e, ρ) i v) Z' → zFSm Z Z' → Q (some (zI (oRenew (n, c, e, ρ) i v))) Z') : zE 107 0 (zent 107 [zR 63, zI i, zI v]) [] Z Q := by
  show zE 107 0 [some (zR 63), some (zI i), some (zI v), none] [] Z Q
  have hM0 := hM
  obtain ⟨n0, n6, mc, mr, me, mρ, meR, mρR⟩ := hM
  have msr := zsum_range mr
  have hp6 := zpow6 n6
  refine ze_aload_n kc_107_0 rfl ?_
  refine ze_iload_n kc_107_1 rfl ?_
  refine zE_callv 2 kc_107_2 rfl rfl (Nat.le_of_ble_eq_true rfl) (Nat.le_of_ble_eq_true rfl) (Nat.le_of_ble_eq_true rfl) rfl (by decide +kernel) rfl ?_
  refine m_isOne hM0 (by omega) (fun g2 => ?_) (fun g2 => ?_)
  · simp only [Option.toList_some, Option.toList_none, List.drop_succ_cons, List.drop_zero, List.cons_append, List.nil_append]
    refine ze_if_ne kc_107_5 (by decide) (fun _ => ?_) (fun q => absurd q (by decide))
    refine ze_iload_n kc_107_10 rfl ?_
    refine zE_calls 1 kc_107_11 rfl rfl (Nat.le_of_ble_eq_true rfl) (Nat.le_of_ble_eq_true rfl) (Nat.le_of_ble_eq_true rfl) rfl ?_
    refine m_isClaimM (by omega) (fun g11 => ?_) (fun g11 => ?_)
    · simp only [Option.toList_some, Option.toList_none, List.drop_succ_cons, List.drop_zero, List.cons_append, List.nil_append]
      refine ze_if_ne kc_107_14 (by decide) (fun _ => ?_) (fun q => absurd q (by decide))
      obtain ⟨κ, rfl⟩ := Int.eq_ofNat_of_zero_le (show 0 ≤ i by omega)
      have hκ : κ < n := by omega
      refine ze_aload_n kc_107_20 rfl ?_
      refine ze_getR kc_107_21 rfl rfl rfl ?_
      refine ze_iload_n kc_107_24 rfl ?_
      refine ze_iald kc_107_25 rfl (by omega) ?_
      rw [Int.toNat_natCast, mc κ hκ]
      refine ze_istore_n kc_107_26 (Nat.le_of_ble_eq_true rfl) ?_
      simp only [zset1, zset2, zcut, zf0, zf1, zf2, zf3, List.set_cons_zero, List.set_cons_succ, List.getD_cons_zero, List.getD_cons_succ]
      refine ze_aload_n kc_107_27 rfl ?_
      refine ze_getR kc_107_28 rfl rfl rfl ?_
      refine ze_iload_n kc_107_31 rfl ?_
      refine ze_iload_n kc_107_32 rfl ?_
      refine ze_iast kc_107_33 rfl (by omega) ?_
      rw [Int.toNat_natCast]
      refine ze_iload_n kc_107_34 rfl ?_
      refine ze_ireturn kc_107_35 (Or.inl rfl) ?_
      rw [show sRenew (n, c, e, ρ) κ v = (n, zupd c κ v, e, ρ) from if_pos (show (0 ≤ (κ : Int) ∧ (κ : Int) < n) ∧ (1 ≤ v ∧ v ≤ 60) by omega)] at q1
      rw [show oRenew (n, c, e, ρ) κ v = c κ from (if_neg (show ¬ ¬ (0 ≤ (κ : Int) ∧ (κ : Int) < n) by omega)).trans (if_neg (by omega))] at q1
      refine q1 _ (zMo_upd hM0 (by omega)) ⟨fun k a b => zup_ne' b, fun j a b d => by rw [zup_ne' (by decide)]⟩
    · simp only [Option.toList_some, Option.toList_none, List.drop_succ_cons, List.drop_zero, List.cons_append, List.nil_append]
      refine ze_if_ne kc_107_14 (by decide) (fun q => absurd q (by decide)) (fun _ => ?_)
      refine ze_bipush kc_107_17 ?_
      refine ze_ireturn kc_107_19 (Or.inl rfl) ?_
      rw [show sRenew (n, c, e, ρ) i v = (n, c, e, ρ) from if_neg (show ¬ ((0 ≤ i ∧ i < (n : Int)) ∧ (1 ≤ v ∧ v ≤ 60)) by omega)] at q1
      rw [show oRenew (n, c, e, ρ) i v = -2 from (if_neg (show ¬ ¬ (0 ≤ i ∧ i < (n : Int)) by omega)).trans (if_pos (by omega))] at q1
      exact q1 _ hM0 zFSm_refl
  · simp only [Option.toList_some, Option.toList_none, List.drop_succ_cons, List.drop_zero, List.cons_append, List.nil_append]
    refine ze_if_ne kc_107_5 (by decide) (fun q => absurd q (by decide)) (fun _ => ?_)
    refine ze_iconst kc_107_8 ?_
    refine ze_ireturn kc_107_9 (Or.inl rfl) ?_
    rw [show sRenew (n, c, e, ρ) i v = (n, c, e, ρ) from if_neg (show ¬ ((0 ≤ i ∧ i < (n : Int)) ∧ (1 ≤ v ∧ v ≤ 60)) by omega)] at q1
    rw [show oRenew (n, c, e, ρ) i v = -1 from if_pos (show ¬ (0 ≤ i ∧ i < (n : Int)) by omega)] at q1
    exact q1 _ hM0 zFSm_refl

set_option maxHeartbeats 4000000 in
theorem m_estateX {Z : zMem} {Q : Option zAV → zMem → Prop} {n : Nat} {c : Nat → Int} {e ρ : Int} (hC : zCl n c e ρ Z) {v : Int} (hv : -2147483648 ≤ v ∧ v ≤ 2147483647) (q1 : ∀ Z', zClS (sEstate (n, c, e, ρ) v) Z' → zFS Z Z' → Q (some (zI (oEstate (n, c, e, ρ) v))) Z') : zE 44 0 (zent 44 [zR 0, zI v]) [] Z Q := by
  show zE 44 0 [some (zR 0), some (zI v), none] [] Z Q
  obtain ⟨hU0, hG0, n6, n0, cc, cr, ce, cρ, ceR, cρR, c11, c16⟩ := zCl_o hC
  have csr := zsum_range cr
  refine ze_iload_n kc_44_0 rfl ?_
  refine zE_calls 1 kc_44_1 rfl rfl (Nat.le_of_ble_eq_true rfl) (Nat.le_of_ble_eq_true rfl) (Nat.le_of_ble_eq_true rfl) rfl ?_
  refine m_isEstate (by omega) (fun g1 => ?_) (fun g1 => ?_)
  · simp only [Option.toList_some, Option.toList_none, List.drop_succ_cons, List.drop_zero, List.cons_append, List.nil_append]
    refine ze_if_ne kc_44_4 (by decide) (fun _ => ?_) (fun q => absurd q (by decide))
    refine ze_aload_n kc_44_10 rfl ?_
    refine ze_getR kc_44_11 rfl rfl rfl ?_
    refine ze_getI kc_44_14 rfl (by decide) ?_
    rw [ce]
    refine ze_istore_n kc_44_17 (Nat.le_of_ble_eq_true rfl) ?_
    simp only [zset1, zset2, zcut, zf0, zf1, zf2, zf3, List.set_cons_zero, List.set_cons_succ, List.getD_cons_zero, List.getD_cons_succ]
    refine ze_aload_n kc_44_18 rfl ?_
    refine ze_getR kc_44_19 rfl rfl rfl ?_
    refine ze_iload_n kc_44_22 rfl ?_
    refine ze_putI kc_44_23 rfl rfl ?_
    refine ze_iload_n kc_44_26 rfl ?_
    refine ze_ireturn kc_44_27 (Or.inl rfl) ?_
    rw [show sEstate (n, c, e, ρ) v = (n, c, v, ρ) from if_pos (by omega)] at q1
    rw [show oEstate (n, c, e, ρ) v = e from if_pos (by omega)] at q1
    have hf : zFS Z (zup Z 1 2 v) := fun k hk => zup_ne' (by omega)
    refine q1 _ (zCl_of hC hf (zG_same hG0 (fun k a b => zup_ne' (by omega))) ?_ ?_ (show 0 ≤ v ∧ v ≤ 360 by omega) cρR) hf
    · rw [zup_s]
    · rw [zup_o (by decide)]; exact cρ
  · simp only [Option.toList_some, Option.toList_none, List.drop_succ_cons, List.drop_zero, List.cons_append, List.nil_append]
    refine ze_if_ne kc_44_4 (by decide) (fun q => absurd q (by decide)) (fun _ => ?_)
    refine ze_bipush kc_44_7 ?_
    refine ze_ireturn kc_44_9 (Or.inl rfl) ?_
    rw [show sEstate (n, c, e, ρ) v = (n, c, e, ρ) from if_neg (by omega)] at q1
    rw [show oEstate (n, c, e, ρ) v = -2 from if_neg (by omega)] at q1
    exact q1 _ hC zFS_refl

set_option maxHeartbeats 4000000 in
theorem m_estateM {Z : zMem} {Q : Option zAV → zMem → Prop} {n : Nat} {c : Nat → Int} {e ρ : Int} (hM : zMo n c e ρ Z) {v : Int} (hv : -2147483648 ≤ v ∧ v ≤ 2147483647) (q1 : ∀ Z', zMoS (sEstate (n, c, e, ρ) v) Z' → zFSm Z Z' → Q (some (zI (oEstate (n, c, e, ρ) v))) Z') : zE 108 0 (zent 108 [zR 63, zI v]) [] Z Q := by
  show zE 108 0 [some (zR 63), some (zI v), none] [] Z Q
  have hM0 := hM
  obtain ⟨n0, n6, mc, mr, me, mρ, meR, mρR⟩ := hM
  have msr := zsum_range mr
  have hp6 := zpow6 n6
  refine ze_iload_n kc_108_0 rfl ?_
  refine ze_iconst kc_108_1 ?_
  refine ze_sipush kc_108_2 ?_
  refine zE_calls 3 kc_108_5 rfl rfl (Nat.le_of_ble_eq_true rfl) (Nat.le_of_ble_eq_true rfl) (Nat.le_of_ble_eq_true rfl) rfl ?_
  refine m_in (by omega) (by omega) (by omega) (fun g5 => ?_) (fun g5 => ?_)
  · simp only [Option.toList_some, Option.toList_none, List.drop_succ_cons, List.drop_zero, List.cons_append, List.nil_append]
    refine ze_if_ne kc_108_8 (by decide) (fun _ => ?_) (fun q => absurd q (by decide))
    refine ze_aload_n kc_108_14 rfl ?_
    refine ze_getI kc_108_15 rfl (by decide) ?_
    rw [me]
    refine ze_istore_n kc_108_18 (Nat.le_of_ble_eq_true rfl) ?_
    simp only [zset1, zset2, zcut, zf0, zf1, zf2, zf3, List.set_cons_zero, List.set_cons_succ, List.getD_cons_zero, List.getD_cons_succ]
    refine ze_aload_n kc_108_19 rfl ?_
    refine ze_iload_n kc_108_20 rfl ?_
    refine ze_putI kc_108_21 rfl rfl ?_
    refine ze_iload_n kc_108_24 rfl ?_
    refine ze_ireturn kc_108_25 (Or.inl rfl) ?_
    rw [show sEstate (n, c, e, ρ) v = (n, c, v, ρ) from if_pos (by omega)] at q1
    rw [show oEstate (n, c, e, ρ) v = e from if_pos (by omega)] at q1
    refine q1 _ (zMo_of ?_ n6 (fun i hi => by rw [zup_ne' (by decide)]; exact mc i hi) mr ?_ ?_ (show 0 ≤ v ∧ v ≤ 360 by omega) mρR) ⟨fun k a b => zup_ne' a, fun j a b d => zup_o b⟩
    · rw [zup_o (by decide)]; exact n0
    · rw [zup_s]
    · rw [zup_o (by decide)]; exact mρ
  · simp only [Option.toList_some, Option.toList_none, List.drop_succ_cons, List.drop_zero, List.cons_append, List.nil_append]
    refine ze_if_ne kc_108_8 (by decide) (fun q => absurd q (by decide)) (fun _ => ?_)
    refine ze_bipush kc_108_11 ?_
    refine ze_ireturn kc_108_13 (Or.inl rfl) ?_
    rw [show sEstate (n, c, e, ρ) v = (n, c, e, ρ) from if_neg (by omega)] at q1
    rw [show oEstate (n, c, e, ρ) v = -2 from if_neg (by omega)] at q1
    exact q1 _ hM0 zFSm_refl

set_option maxHeartbeats 4000000 in
theorem m_ruleX {Z : zMem} {Q : Option zAV → zMem → Prop} {n : Nat} {c : Nat → Int} {e ρ : Int} (hC : zCl n c e ρ Z) {v : Int} (hv : -2147483648 ≤ v ∧ v ≤ 2147483647) (q1 : ∀ Z', zClS (sRule (n, c, e, ρ) v) Z' → zFS Z Z' → Q (some (zI (oRule (n, c, e, ρ) v))) Z') : zE 45 0 (zent 45 [zR 0, zI v]) [] Z Q := by
  show zE 45 0 [some (zR 0), some (zI v), none] [] Z Q
  obtain ⟨hU0, hG0, n6, n0, cc, cr, ce, cρ, ceR, cρR, c11, c16⟩ := zCl_o hC
  have csr := zsum_range cr
  refine ze_iload_n kc_45_0 rfl ?_
  refine zE_calls 1 kc_45_1 rfl rfl (Nat.le_of_ble_eq_true rfl) (Nat.le_of_ble_eq_true rfl) (Nat.le_of_ble_eq_true rfl) rfl ?_
  refine m_isRule (by omega) (fun g1 => ?_) (fun g1 => ?_)
  · simp only [Option.toList_some, Option.toList_none, List.drop_succ_cons, List.drop_zero, List.cons_append, List.nil_append]
    refine ze_if_ne kc_45_4 (by decide) (fun _ => ?_) (fun q => absurd q (by decide))
    refine ze_aload_n kc_45_10 rfl ?_
    refine ze_getR kc_45_11 rfl rfl rfl ?_
    refine ze_getI kc_45_14 rfl (by decide) ?_
    rw [cρ]
    refine ze_istore_n kc_45_17 (Nat.le_of_ble_eq_true rfl) ?_
    simp only [zset1, zset2, zcut, zf0, zf1, zf2, zf3, List.set_cons_zero, List.set_cons_succ, List.getD_cons_zero, List.getD_cons_succ]
    refine ze_aload_n kc_45_18 rfl ?_
    refine ze_getR kc_45_19 rfl rfl rfl ?_
    refine ze_iload_n kc_45_22 rfl ?_
    refine ze_putI kc_45_23 rfl rfl ?_
    refine ze_iload_n kc_45_26 rfl ?_
    refine ze_ireturn kc_45_27 (Or.inl rfl) ?_
    rw [show sRule (n, c, e, ρ) v = (n, c, e, v) from if_pos (by omega)] at q1
    rw [show oRule (n, c, e, ρ) v = ρ from if_pos (by omega)] at q1
    have hf : zFS Z (zup Z 1 3 v) := fun k hk => zup_ne' (by omega)
    refine q1 _ (zCl_of hC hf (zG_same hG0 (fun k a b => zup_ne' (by omega))) ?_ ?_ ceR (show 0 ≤ v ∧ v ≤ 5 by omega)) hf
    · rw [zup_o (by decide)]; exact ce
    · rw [zup_s]
  · simp only [Option.toList_some, Option.toList_none, List.drop_succ_cons, List.drop_zero, List.cons_append, List.nil_append]
    refine ze_if_ne kc_45_4 (by decide) (fun q => absurd q (by decide)) (fun _ => ?_)
    refine ze_bipush kc_45_7 ?_
    refine ze_ireturn kc_45_9 (Or.inl rfl) ?_
    rw [show sRule (n, c, e, ρ) v = (n, c, e, ρ) from if_neg (by omega)] at q1
    rw [show oRule (n, c, e, ρ) v = -2 from if_neg (by omega)] at q1
    exact q1 _ hC zFS_refl

set_option maxHeartbeats 4000000 in
theorem m_ruleM {Z : zMem} {Q : Option zAV → zMem → Prop} {n : Nat} {c : Nat → Int} {e ρ : Int} (hM : zMo n c e ρ Z) {v : Int} (hv : -2147483648 ≤ v ∧ v ≤ 2147483647) (q1 : ∀ Z', zMoS (sRule (n, c, e, ρ) v) Z' → zFSm Z Z' → Q (some (zI (oRule (n, c, e, ρ) v))) Z') : zE 109 0 (zent 109 [zR 63, zI v]) [] Z Q := by
  show zE 109 0 [some (zR 63), some (zI v), none] [] Z Q
  have hM0 := hM
  obtain ⟨n0, n6, mc, mr, me, mρ, meR, mρR⟩ := hM
  have msr := zsum_range mr
  have hp6 := zpow6 n6
  refine ze_iload_n kc_109_0 rfl ?_
  refine zE_calls 1 kc_109_1 rfl rfl (Nat.le_of_ble_eq_true rfl) (Nat.le_of_ble_eq_true rfl) (Nat.le_of_ble_eq_true rfl) rfl ?_
  refine m_isRuleM (by omega) (fun g1 => ?_) (fun g1 => ?_)
  · simp only [Option.toList_some, Option.toList_none, List.drop_succ_cons, List.drop_zero, List.cons_append, List.nil_append]
    refine ze_if_ne kc_109_4 (by decide) (fun _ => ?_) (fun q => absurd q (by decide))
    refine ze_aload_n kc_109_10 rfl ?_
    refine ze_getI kc_109_11 rfl (by decide) ?_
    rw [mρ]
    refine ze_istore_n kc_109_14 (Nat.le_of_ble_eq_true rfl) ?_
    simp only [zset1, zset2, zcut, zf0, zf1, zf2, zf3, List.set_cons_zero, List.set_cons_succ, List.getD_cons_zero, List.getD_cons_succ]
    refine ze_aload_n kc_109_15 rfl ?_
    refine ze_iload_n kc_109_16 rfl ?_
    refine ze_putI kc_109_17 rfl rfl ?_
    refine ze_iload_n kc_109_20 rfl ?_
    refine ze_ireturn kc_109_21 (Or.inl rfl) ?_
    rw [show sRule (n, c, e, ρ) v = (n, c, e, v) from if_pos (by omega)] at q1
    rw [show oRule (n, c, e, ρ) v = ρ from if_pos (by omega)] at q1
    refine q1 _ (zMo_of ?_ n6 (fun i hi => by rw [zup_ne' (by decide)]; exact mc i hi) mr ?_ ?_ meR (show 0 ≤ v ∧ v ≤ 5 by omega)) ⟨fun k a b => zup_ne' a, fun j a b d => zup_o d⟩
    · rw [zup_o (by decide)]; exact n0
    · rw [zup_o (by decide)]; exact me
    · rw [zup_s]
  · simp only [Option.toList_some, Option.toList_none, List.drop_succ_cons, List.drop_zero, List.cons_append, List.nil_append]
    refine ze_if_ne kc_109_4 (by decide) (fun q => absurd q (by decide)) (fun _ => ?_)
    refine ze_bipush kc_109_7 ?_
    refine ze_ireturn kc_109_9 (Or.inl rfl) ?_
    rw [show sRule (n, c, e, ρ) v = (n, c, e, ρ) from if_neg (by omega)] at q1
    rw [show oRule (n, c, e, ρ) v = -2 from if_neg (by omega)] at q1
    exact q1 _ hM0 zFSm_refl

set_option maxHeartbeats 4000000 in
theorem m_ofX {Z : zMem} {Q : Option zAV → zMem → Prop} {n : Nat} {c : Nat → Int} {e ρ : Int} (hC : zCl n c e ρ Z) {i : Int} (hi : -2147483648 ≤ i ∧ i ≤ 2147483647) (q1 : ∀ Z', zFq Z Z' → Q (some (zI (oOf n c i))) Z') : zE 46 0 (zent 46 [zR 0, zI i]) [] Z Q := by
  show zE 46 0 [some (zR 0), some (zI i)] [] Z Q
  obtain ⟨hU0, hG0, n6, n0, cc, cr, ce, cρ, ceR, cρR, c11, c16⟩ := zCl_o hC
  have csr := zsum_range cr
  refine ze_aload_n kc_46_0 rfl ?_
  refine ze_getR kc_46_1 rfl rfl rfl ?_
  refine ze_getR kc_46_4 rfl rfl rfl ?_
  refine ze_iload_n kc_46_7 rfl ?_
  refine zE_callv 2 kc_46_8 rfl rfl (Nat.le_of_ble_eq_true rfl) (Nat.le_of_ble_eq_true rfl) (Nat.le_of_ble_eq_true rfl) rfl (by decide +kernel) rfl ?_
  refine m_has zgF_2 (by omega) (by omega) (fun g8 => ?_) (fun g8 => ?_)
  · simp only [Option.toList_some, Option.toList_none, List.drop_succ_cons, List.drop_zero, List.cons_append, List.nil_append]
    refine ze_if_eq kc_46_11 (by decide) (fun q => absurd q (by decide)) (fun _ => ?_)
    obtain ⟨κ, rfl⟩ := Int.eq_ofNat_of_zero_le (show 0 ≤ i by omega)
    have hκ : κ < n := by omega
    refine ze_aload_n kc_46_14 rfl ?_
    refine ze_getR kc_46_15 rfl rfl rfl ?_
    refine ze_getR kc_46_18 rfl rfl rfl ?_
    refine ze_getR kc_46_21 rfl rfl rfl ?_
    refine ze_iload_n kc_46_24 rfl ?_
    refine ze_iald kc_46_25 rfl (by omega) ?_
    rw [Int.toNat_natCast, cc κ hκ]
    refine ze_goto kc_46_26 ?_
    refine ze_ireturn kc_46_30 (Or.inl rfl) ?_
    first
      | (rw [show oOf n c κ = c κ from if_pos (by omega)] at q1; exact q1 _ zFq_refl)
      | (rw [show oOf n c i = -1 from if_neg (by omega)] at q1; exact q1 _ zFq_refl)
  · simp only [Option.toList_some, Option.toList_none, List.drop_succ_cons, List.drop_zero, List.cons_append, List.nil_append]
    refine ze_if_eq kc_46_11 (by decide) (fun _ => ?_) (fun q => absurd q (by decide))
    refine ze_iconst kc_46_29 ?_
    refine ze_ireturn kc_46_30 (Or.inl rfl) ?_
    first
      | (rw [show oOf n c κ = c κ from if_pos (by omega)] at q1; exact q1 _ zFq_refl)
      | (rw [show oOf n c i = -1 from if_neg (by omega)] at q1; exact q1 _ zFq_refl)

set_option maxHeartbeats 4000000 in
theorem m_ofM {Z : zMem} {Q : Option zAV → zMem → Prop} {n : Nat} {c : Nat → Int} {e ρ : Int} (hM : zMo n c e ρ Z) {i : Int} (hi : -2147483648 ≤ i ∧ i ≤ 2147483647) (q1 : ∀ Z', zFq Z Z' → Q (some (zI (oOf n c i))) Z') : zE 110 0 (zent 110 [zR 63, zI i]) [] Z Q := by
  show zE 110 0 [some (zR 63), some (zI i)] [] Z Q
  have hM0 := hM
  obtain ⟨n0, n6, mc, mr, me, mρ, meR, mρR⟩ := hM
  have msr := zsum_range mr
  have hp6 := zpow6 n6
  refine ze_aload_n kc_110_0 rfl ?_
  refine ze_iload_n kc_110_1 rfl ?_
  refine zE_callv 2 kc_110_2 rfl rfl (Nat.le_of_ble_eq_true rfl) (Nat.le_of_ble_eq_true rfl) (Nat.le_of_ble_eq_true rfl) rfl (by decide +kernel) rfl ?_
  refine m_isOne hM0 (by omega) (fun g2 => ?_) (fun g2 => ?_)
  · simp only [Option.toList_some, Option.toList_none, List.drop_succ_cons, List.drop_zero, List.cons_append, List.nil_append]
    refine ze_if_eq kc_110_5 (by decide) (fun q => absurd q (by decide)) (fun _ => ?_)
    obtain ⟨κ, rfl⟩ := Int.eq_ofNat_of_zero_le (show 0 ≤ i by omega)
    have hκ : κ < n := by omega
    refine ze_aload_n kc_110_8 rfl ?_
    refine ze_getR kc_110_9 rfl rfl rfl ?_
    refine ze_iload_n kc_110_12 rfl ?_
    refine ze_iald kc_110_13 rfl (by omega) ?_
    rw [Int.toNat_natCast, mc κ hκ]
    refine ze_goto kc_110_14 ?_
    refine ze_ireturn kc_110_18 (Or.inl rfl) ?_
    first
      | (rw [show oOf n c κ = c κ from if_pos (by omega)] at q1; exact q1 _ zFq_refl)
      | (rw [show oOf n c i = -1 from if_neg (by omega)] at q1; exact q1 _ zFq_refl)
  · simp only [Option.toList_some, Option.toList_none, List.drop_succ_cons, List.drop_zero, List.cons_append, List.nil_append]
    refine ze_if_eq kc_110_5 (by decide) (fun _ => ?_) (fun q => absurd q (by decide))
    refine ze_iconst kc_110_17 ?_
    refine ze_ireturn kc_110_18 (Or.inl rfl) ?_
    first
      | (rw [show oOf n c κ = c κ from if_pos (by omega)] at q1; exact q1 _ zFq_refl)
      | (rw [show oOf n c i = -1 from if_neg (by omega)] at q1; exact q1 _ zFq_refl)

set_option maxHeartbeats 4000000 in
theorem m_toldX {Z : zMem} {Q : Option zAV → zMem → Prop} {n : Nat} {c : Nat → Int} {e ρ : Int} (hC : zCl n c e ρ Z) {w : Int} (hw : -2147483648 ≤ w ∧ w ≤ 2147483647) (q1 : ∀ Z', zFq Z Z' → Q (some (zI (oTold n c e ρ w))) Z') : zE 47 0 (zent 47 [zR 0, zI w]) [] Z Q := by
  show zE 47 0 [some (zR 0), some (zI w)] [] Z Q
  obtain ⟨hU0, hG0, n6, n0, cc, cr, ce, cρ, ceR, cρR, c11, c16⟩ := zCl_o hC
  have csr := zsum_range cr
  refine ze_iload_n kc_47_0 rfl ?_
  by_cases hs0 : w = 0
  · refine ze_tableIn 0 kc_47_1 hs0 (by decide) (by decide) rfl rfl ?_
    refine ze_aload_n kc_47_36 rfl ?_
    refine ze_getR kc_47_37 rfl rfl rfl ?_
    refine ze_getR kc_47_40 rfl rfl rfl ?_
    refine ze_getI kc_47_43 rfl (by decide) ?_
    rw [n0]
    refine ze_ireturn kc_47_46 (Or.inl rfl) ?_
    rw [show oTold n c e ρ w = (n : Int) from if_pos (by omega)] at q1
    exact q1 _ zFq_refl
  by_cases hs1 : w = 1
  · refine ze_tableIn 1 kc_47_1 hs1 (by decide) (by decide) rfl rfl ?_
    refine ze_aload_n kc_47_47 rfl ?_
    refine ze_getR kc_47_48 rfl rfl rfl ?_
    refine ze_getR kc_47_51 rfl rfl rfl ?_
    refine zE_callv 1 kc_47_54 rfl rfl (Nat.le_of_ble_eq_true rfl) (Nat.le_of_ble_eq_true rfl) (Nat.le_of_ble_eq_true rfl) rfl (by decide +kernel) rfl ?_
    refine m_all zgF_2 hG0 ?_
    simp only [Option.toList_some, Option.toList_none, List.drop_succ_cons, List.drop_zero, List.cons_append, List.nil_append]
    refine ze_ireturn kc_47_57 (Or.inl rfl) ?_
    rw [show oTold n c e ρ w = zsum n c from (if_neg (by omega)).trans (if_pos (by omega))] at q1
    exact q1 _ zFq_refl
  by_cases hs2 : w = 2
  · refine ze_tableIn 2 kc_47_1 hs2 (by decide) (by decide) rfl rfl ?_
    refine ze_aload_n kc_47_58 rfl ?_
    refine ze_getR kc_47_59 rfl rfl rfl ?_
    refine ze_getI kc_47_62 rfl (by decide) ?_
    rw [ce]
    refine ze_ireturn kc_47_65 (Or.inl rfl) ?_
    rw [show oTold n c e ρ w = e from (if_neg (by omega)).trans ((if_neg (by omega)).trans (if_pos (by omega)))] at q1
    exact q1 _ zFq_refl
  by_cases hs3 : w = 3
  · refine ze_tableIn 3 kc_47_1 hs3 (by decide) (by decide) rfl rfl ?_
    refine ze_aload_n kc_47_66 rfl ?_
    refine ze_getR kc_47_67 rfl rfl rfl ?_
    refine ze_getI kc_47_70 rfl (by decide) ?_
    rw [cρ]
    refine ze_ireturn kc_47_73 (Or.inl rfl) ?_
    rw [show oTold n c e ρ w = ρ from (if_neg (by omega)).trans ((if_neg (by omega)).trans ((if_neg (by omega)).trans (if_pos (by omega))))] at q1
    exact q1 _ zFq_refl
  by_cases hs4 : w = 4
  · refine ze_tableIn 4 kc_47_1 hs4 (by decide) (by decide) rfl rfl ?_
    refine ze_aload_n kc_47_74 rfl ?_
    refine ze_getR kc_47_75 rfl rfl rfl ?_
    refine zE_callv 1 kc_47_78 rfl rfl (Nat.le_of_ble_eq_true rfl) (Nat.le_of_ble_eq_true rfl) (Nat.le_of_ble_eq_true rfl) rfl (by decide +kernel) rfl ?_
    refine m_ready zsF_1 hU0 (fun g78 => ?_) (fun g78 => ?_)
    · simp only [Option.toList_some, Option.toList_none, List.drop_succ_cons, List.drop_zero, List.cons_append, List.nil_append]
      refine ze_if_eq kc_47_81 (by decide) (fun q => absurd q (by decide)) (fun _ => ?_)
      refine ze_iconst kc_47_84 ?_
      refine ze_goto kc_47_85 ?_
      refine ze_ireturn kc_47_89 (Or.inl rfl) ?_
      first
        | (rw [show oTold n c e ρ w = 1 from (if_neg (by omega)).trans ((if_neg (by omega)).trans ((if_neg (by omega)).trans ((if_neg (by omega)).trans ((if_pos (by omega)).trans (if_pos (by omega))))))] at q1; exact q1 _ zFq_refl)
        | (rw [show oTold n c e ρ w = 0 from (if_neg (by omega)).trans ((if_neg (by omega)).trans ((if_neg (by omega)).trans ((if_neg (by omega)).trans ((if_pos (by omega)).trans (if_neg (by omega))))))] at q1; exact q1 _ zFq_refl)
    · simp only [Option.toList_some, Option.toList_none, List.drop_succ_cons, List.drop_zero, List.cons_append, List.nil_append]
      refine ze_if_eq kc_47_81 (by decide) (fun _ => ?_) (fun q => absurd q (by decide))
      refine ze_iconst kc_47_88 ?_
      refine ze_ireturn kc_47_89 (Or.inl rfl) ?_
      first
        | (rw [show oTold n c e ρ w = 1 from (if_neg (by omega)).trans ((if_neg (by omega)).trans ((if_neg (by omega)).trans ((if_neg (by omega)).trans ((if_pos (by omega)).trans (if_pos (by omega))))))] at q1; exact q1 _ zFq_refl)
        | (rw [show oTold n c e ρ w = 0 from (if_neg (by omega)).trans ((if_neg (by omega)).trans ((if_neg (by omega)).trans ((if_neg (by omega)).trans ((if_pos (by omega)).trans (if_neg (by omega))))))] at q1; exact q1 _ zFq_refl)
  refine ze_tableOut kc_47_1 (by omega) (by omega) rfl ?_
  refine ze_iconst kc_47_90 ?_
  refine ze_ireturn kc_47_91 (Or.inl rfl) ?_
  rw [show oTold n c e ρ w = -1 from (if_neg (by omega)).trans ((if_neg (by omega)).trans ((if_neg (by omega)).trans ((if_neg (by omega)).trans (if_neg (by omega)))))] at q1
  exact q1 _ zFq_refl

set_option maxHeartbeats 4000000 in
theorem m_toldM {Z : zMem} {Q : Option zAV → zMem → Prop} {n : Nat} {c : Nat → Int} {e ρ : Int} (hM : zMo n c e ρ Z) {w : Int} (hw : -2147483648 ≤ w ∧ w ≤ 2147483647) (q1 : ∀ Z', zFq Z Z' → Q (some (zI (oTold n c e ρ w))) Z') : zE 111 0 (zent 111 [zR 63, zI w]) [] Z Q := by
  show zE 111 0 [some (zR 63), some (zI w)] [] Z Q
  have hM0 := hM
  obtain ⟨n0, n6, mc, mr, me, mρ, meR, mρR⟩ := hM
  have msr := zsum_range mr
  have hp6 := zpow6 n6
  refine ze_iload_n kc_111_0 rfl ?_
  by_cases hs0 : w = 0
  · refine ze_tableIn 0 kc_111_1 hs0 (by decide) (by decide) rfl rfl ?_
    refine ze_aload_n kc_111_36 rfl ?_
    refine ze_getI kc_111_37 rfl (by decide) ?_
    rw [n0]
    refine ze_ireturn kc_111_40 (Or.inl rfl) ?_
    rw [show oTold n c e ρ w = (n : Int) from if_pos (by omega)] at q1
    exact q1 _ zFq_refl
  by_cases hs1 : w = 1
  · refine ze_tableIn 1 kc_111_1 hs1 (by decide) (by decide) rfl rfl ?_
    refine ze_aload_n kc_111_41 rfl ?_
    refine zE_callv 1 kc_111_42 rfl rfl (Nat.le_of_ble_eq_true rfl) (Nat.le_of_ble_eq_true rfl) (Nat.le_of_ble_eq_true rfl) rfl (by decide +kernel) rfl ?_
    refine m_allM hM0 ?_
    simp only [Option.toList_some, Option.toList_none, List.drop_succ_cons, List.drop_zero, List.cons_append, List.nil_append]
    refine ze_ireturn kc_111_45 (Or.inl rfl) ?_
    rw [show oTold n c e ρ w = zsum n c from (if_neg (by omega)).trans (if_pos (by omega))] at q1
    exact q1 _ zFq_refl
  by_cases hs2 : w = 2
  · refine ze_tableIn 2 kc_111_1 hs2 (by decide) (by decide) rfl rfl ?_
    refine ze_aload_n kc_111_46 rfl ?_
    refine ze_getI kc_111_47 rfl (by decide) ?_
    rw [me]
    refine ze_ireturn kc_111_50 (Or.inl rfl) ?_
    rw [show oTold n c e ρ w = e from (if_neg (by omega)).trans ((if_neg (by omega)).trans (if_pos (by omega)))] at q1
    exact q1 _ zFq_refl
  by_cases hs3 : w = 3
  · refine ze_tableIn 3 kc_111_1 hs3 (by decide) (by decide) rfl rfl ?_
    refine ze_aload_n kc_111_51 rfl ?_
    refine ze_getI kc_111_52 rfl (by decide) ?_
    rw [mρ]
    refine ze_ireturn kc_111_55 (Or.inl rfl) ?_
    rw [show oTold n c e ρ w = ρ from (if_neg (by omega)).trans ((if_neg (by omega)).trans ((if_neg (by omega)).trans (if_pos (by omega))))] at q1
    exact q1 _ zFq_refl
  by_cases hs4 : w = 4
  · refine ze_tableIn 4 kc_111_1 hs4 (by decide) (by decide) rfl rfl ?_
    refine ze_aload_n kc_111_56 rfl ?_
    refine zE_callv 1 kc_111_57 rfl rfl (Nat.le_of_ble_eq_true rfl) (Nat.le_of_ble_eq_true rfl) (Nat.le_of_ble_eq_true rfl) rfl (by decide +kernel) rfl ?_
    refine m_readyM hM0 (fun g57 => ?_) (fun g57 => ?_)
    · simp only [Option.toList_some, Option.toList_none, List.drop_succ_cons, List.drop_zero, List.cons_append, List.nil_append]
      refine ze_if_eq kc_111_60 (by decide) (fun q => absurd q (by decide)) (fun _ => ?_)
      refine ze_iconst kc_111_63 ?_
      refine ze_goto kc_111_64 ?_
      refine ze_ireturn kc_111_68 (Or.inl rfl) ?_
      first
        | (rw [show oTold n c e ρ w = 1 from (if_neg (by omega)).trans ((if_neg (by omega)).trans ((if_neg (by omega)).trans ((if_neg (by omega)).trans ((if_pos (by omega)).trans (if_pos (by omega))))))] at q1; exact q1 _ zFq_refl)
        | (rw [show oTold n c e ρ w = 0 from (if_neg (by omega)).trans ((if_neg (by omega)).trans ((if_neg (by omega)).trans ((if_neg (by omega)).trans ((if_pos (by omega)).trans (if_neg (by omega))))))] at q1; exact q1 _ zFq_refl)
    · simp only [Option.toList_some, Option.toList_none, List.drop_succ_cons, List.drop_zero, List.cons_append, List.nil_append]
      refine ze_if_eq kc_111_60 (by decide) (fun _ => ?_) (fun q => absurd q (by decide))
      refine ze_iconst kc_111_67 ?_
      refine ze_ireturn kc_111_68 (Or.inl rfl) ?_
      first
        | (rw [show oTold n c e ρ w = 1 from (if_neg (by omega)).trans ((if_neg (by omega)).trans ((if_neg (by omega)).trans ((if_neg (by omega)).trans ((if_pos (by omega)).trans (if_pos (by omega))))))] at q1; exact q1 _ zFq_refl)
        | (rw [show oTold n c e ρ w = 0 from (if_neg (by omega)).trans ((if_neg (by omega)).trans ((if_neg (by omega)).trans ((if_neg (by omega)).trans ((if_pos (by omega)).trans (if_neg (by omega))))))] at q1; exact q1 _ zFq_refl)
  refine ze_tableOut kc_111_1 (by omega) (by omega) rfl ?_
  refine ze_iconst kc_111_69 ?_
  refine ze_ireturn kc_111_70 (Or.inl rfl) ?_
  rw [show oTold n c e ρ w = -1 from (if_neg (by omega)).trans ((if_neg (by omega)).trans ((if_neg (by omega)).trans ((if_neg (by omega)).trans (if_neg (by omega)))))] at q1
  exact q1 _ zFq_refl
