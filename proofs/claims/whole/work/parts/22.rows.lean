theorem zSU_same {s n : Nat} {c : Nat → Int} {e ρ : Int} {Z Z' : zMem} (h : zSU s n c e ρ Z) (hk : ∀ k, s ≤ k → k ≤ s + 4 → Z' k = Z k) : zSU s n c e ρ Z' := by
  obtain ⟨h1, h2, h3, h4, h5⟩ := h
  refine ⟨zG_same h1 (fun k a b => hk k (by omega) (by omega)), ?_, ?_, h4, h5⟩
  · rw [hk s (by omega) (by omega)]; exact h2
  · rw [hk s (by omega) (by omega)]; exact h3
def zhC (what : Int) (k : Nat) (c : Nat → Int) : Nat → Int := if what = 0 then (fun j => if j = k then min 60 (c k + 5) else c j) else if what = 1 then (fun j => if j = k then 1 else c j) else c
def zhE (what : Int) (k : Nat) (e : Int) : Int := if what = 3 then min 360 (e + k) else e
def zhR (what : Int) (k : Nat) (ρ : Int) : Int := if what = 2 then k else ρ
/-! ROWS -/
def zrF (r m : Nat) : Prop := zTT[r]? = some (2, 0) ∧ zTT[r + 1]? = some (10, m) ∧ zTT[r + 2]? = some (10, m) ∧ zrd zRR r 0 = some (r + 1) ∧ zrd zRR r 1 = some (r + 2)
def zRw (r m N : Nat) (a b : Nat → Int) (Z : zMem) : Prop := Z r 2 = m ∧ Z r 3 = N ∧ N ≤ m ∧ (∀ i, i < N → Z (r + 1) i = a i) ∧ (∀ i, i < N → Z (r + 2) i = b i)
theorem zRw_same {r m N : Nat} {a b : Nat → Int} {Z Z' : zMem} (h : zRw r m N a b Z) (hk : ∀ k, r ≤ k → k ≤ r + 2 → Z' k = Z k) : zRw r m N a b Z' := by
  obtain ⟨h1, h2, h3, h4, h5⟩ := h
  unfold zRw
  rw [hk r (by omega) (by omega), hk (r + 1) (by omega) (by omega), hk (r + 2) (by omega) (by omega)]
  exact ⟨h1, h2, h3, h4, h5⟩
theorem zRw_congr {r m N : Nat} {a b a' b' : Nat → Int} {Z : zMem} (h : zRw r m N a b Z) (ha : ∀ i, i < N → a i = a' i) (hb : ∀ i, i < N → b i = b' i) : zRw r m N a' b' Z := by
  obtain ⟨h1, h2, h3, h4, h5⟩ := h
  exact ⟨h1, h2, h3, fun i hi => (h4 i hi).trans (ha i hi), fun i hi => (h5 i hi).trans (hb i hi)⟩
theorem zrF_20 : zrF 20 5 := ⟨rfl, rfl, rfl, rfl, rfl⟩
theorem zrF_23 : zrF 23 8 := ⟨rfl, rfl, rfl, rfl, rfl⟩
theorem zrF_26 : zrF 26 8 := ⟨rfl, rfl, rfl, rfl, rfl⟩
theorem zrF_42 : zrF 42 5 := ⟨rfl, rfl, rfl, rfl, rfl⟩
theorem zrF_45 : zrF 45 8 := ⟨rfl, rfl, rfl, rfl, rfl⟩
theorem zrF_48 : zrF 48 8 := ⟨rfl, rfl, rfl, rfl, rfl⟩
set_option maxHeartbeats 4000000 in
theorem m_copyS {Z : zMem} {Q : Option zAV → zMem → Prop} {s o n : Nat} {c : Nat → Int} {e ρ : Int} (hS : zsF s) (hO : zsF o) (ho : o + 5 < s ∨ s + 5 < o) (hU : zSU o n c e ρ Z) (h0 : Z (s + 4) 0 = 0) (q1 : ∀ Z', zSU s n c e ρ Z' → (∀ k, k < s ∨ s + 4 < k → Z' k = Z k) → Q none Z') : zE 17 0 (zent 17 [zR s, zR o]) [] Z Q := by
  show zE 17 0 [some (zR s), some (zR o)] [] Z Q
  obtain ⟨sT0, sR0, sR1, sT5, hF⟩ := hS
  have hF0 := hF
  obtain ⟨hT0, hT1, hT2, hT3, hR0, hR1, hR2⟩ := hF
  obtain ⟨oT0, oR0, oR1, oT5, hFo⟩ := hO
  obtain ⟨hG0, hU2, hU3, hUe, hUr⟩ := hU
  have hG := hG0
  obtain ⟨h1, h2, h3, h4, h5, h6, h7, h8⟩ := hG
  refine ze_aload_n kc_17_0 rfl ?_
  refine ze_getR kc_17_1 (by first | assumption | rfl) rfl (by first | assumption | rfl) ?_
  refine ze_aload_n kc_17_4 rfl ?_
  refine ze_getR kc_17_5 (by first | assumption | rfl) rfl (by first | assumption | rfl) ?_
  refine zE_callv 2 kc_17_8 rfl rfl (Nat.le_of_ble_eq_true rfl) (Nat.le_of_ble_eq_true rfl) (Nat.le_of_ble_eq_true rfl) (by first | assumption | rfl) (by decide +kernel) rfl ?_
  refine m_copyG (c := c) hF0 hFo (by omega) h1 h2 h3 h4 h0 (fun Z2 r1 r2 r3 => ?_)
  simp only [Option.toList_some, Option.toList_none, List.drop_succ_cons, List.drop_zero, List.cons_append, List.nil_append]
  refine ze_aload_n kc_17_11 rfl ?_
  refine ze_aload_n kc_17_12 rfl ?_
  refine ze_getI kc_17_13 (by first | assumption | rfl) (by decide) ?_
  rw [show Z2 o 2 = e by rw [r2 o (by omega)]; exact hU2]
  refine ze_putI kc_17_16 (by first | assumption | rfl) rfl ?_
  refine ze_aload_n kc_17_19 rfl ?_
  refine ze_aload_n kc_17_20 rfl ?_
  refine ze_getI kc_17_21 (by first | assumption | rfl) (by decide) ?_
  rw [show zup Z2 s 2 e o 3 = ρ by rw [zup_ne' (by omega), r2 o (by omega)]; exact hU3]
  refine ze_putI kc_17_24 (by first | assumption | rfl) rfl ?_
  refine ze_return kc_17_27 ?_
  have hk : ∀ k, k ≠ s → zup (zup Z2 s 2 e) s 3 ρ k = Z2 k := fun k hk => by rw [zup_ne' hk, zup_ne' hk]
  refine q1 _ ⟨zG_same r1 (fun k a b => hk k (by omega)), ?_, zup_s, hUe, hUr⟩ (fun k hk2 => by rw [hk k (by omega)]; exact r2 k (by omega))
  rw [zup_o (by decide), zup_s]

set_option maxHeartbeats 4000000 in
theorem m_isSorer {Z : zMem} {Q : Option zAV → zMem → Prop} {s n : Nat} {c : Nat → Int} {e ρ : Int} (hS : zsF s) (hU : zSU s n c e ρ Z) {i j : Nat} {L : Nat → Int} (hi : i < n) (hj : j < n) (hL : ∀ k, k < n → Z (s + 5) k = L k) (hLr : ∀ k, k < n → -1099511627776 ≤ L k ∧ L k ≤ 1099511627776) (q1 : zSorb L c i j = true → Q (some (zI 1)) Z) (q2 : zSorb L c i j = false → Q (some (zI 0)) Z) : zE 23 0 (zent 23 [zR s, zI (i : Int), zI (j : Int)]) [] Z Q := by
  show zE 23 0 [some (zR s), some (zI (i : Int)), some (zI (j : Int))] [] Z Q
  obtain ⟨sT0, sR0, sR1, sT5, hF⟩ := hS
  have hF0 := hF
  obtain ⟨hT0, hT1, hT2, hT3, hR0, hR1, hR2⟩ := hF
  obtain ⟨hG0, hU2, hU3, hUe, hUr⟩ := hU
  have hG := hG0
  obtain ⟨h1, h2, h3, h4, h5, h6, h7, h8⟩ := hG
  have li := hLr i hi
  have lj := hLr j hj
  have ci := h4 i hi
  have cj := h4 j hj
  refine ze_aload_n kc_23_0 rfl ?_
  refine ze_getR kc_23_1 (by first | assumption | rfl) rfl (by first | assumption | rfl) ?_
  refine ze_iload_n kc_23_4 rfl ?_
  refine ze_lald kc_23_5 (by first | assumption | rfl) (by omega) ?_
  rw [Int.toNat_natCast, hL i hi]
  refine ze_aload_n kc_23_6 rfl ?_
  refine ze_getR kc_23_7 (by first | assumption | rfl) rfl (by first | assumption | rfl) ?_
  refine ze_iload_n kc_23_10 rfl ?_
  refine ze_lald kc_23_11 (by first | assumption | rfl) (by omega) ?_
  rw [Int.toNat_natCast, hL j hj]
  refine ze_lcmp_eq kc_23_12 kc_23_13 (by omega) (by omega) (fun h12 => ?_) (fun h12 => ?_)
  · skip
    refine ze_aload_n kc_23_38 rfl ?_
    refine ze_getR kc_23_39 (by first | assumption | rfl) rfl (by first | assumption | rfl) ?_
    refine ze_getR kc_23_42 (by first | assumption | rfl) rfl (by first | assumption | rfl) ?_
    refine ze_iload_n kc_23_45 rfl ?_
    refine ze_iald kc_23_46 (by first | assumption | rfl) (by omega) ?_
    rw [Int.toNat_natCast, h3 i hi]
    refine ze_aload_n kc_23_47 rfl ?_
    refine ze_getR kc_23_48 (by first | assumption | rfl) rfl (by first | assumption | rfl) ?_
    refine ze_getR kc_23_51 (by first | assumption | rfl) rfl (by first | assumption | rfl) ?_
    refine ze_iload_n kc_23_54 rfl ?_
    refine ze_iald kc_23_55 (by first | assumption | rfl) (by omega) ?_
    rw [Int.toNat_natCast, h3 j hj]
    refine ze_icmp_eq kc_23_56 (by omega) (by omega) (fun h56 => ?_) (fun h56 => ?_)
    · skip
      refine ze_iload_n kc_23_86 rfl ?_
      refine ze_iload_n kc_23_87 rfl ?_
      refine ze_icmp_ge kc_23_88 (by omega) (by omega) (fun h88 => ?_) (fun h88 => ?_)
      · skip
        refine ze_iconst kc_23_95 ?_
        refine ze_ireturn kc_23_96 (by decide) ?_
        first
          | exact q1 (decide_eq_true (by omega))
          | exact q2 (decide_eq_false (by omega))
      · skip
        refine ze_iconst kc_23_91 ?_
        refine ze_goto kc_23_92 ?_
        refine ze_ireturn kc_23_96 (by decide) ?_
        first
          | exact q1 (decide_eq_true (by omega))
          | exact q2 (decide_eq_false (by omega))
    · skip
      refine ze_aload_n kc_23_59 rfl ?_
      refine ze_getR kc_23_60 (by first | assumption | rfl) rfl (by first | assumption | rfl) ?_
      refine ze_getR kc_23_63 (by first | assumption | rfl) rfl (by first | assumption | rfl) ?_
      refine ze_iload_n kc_23_66 rfl ?_
      refine ze_iald kc_23_67 (by first | assumption | rfl) (by omega) ?_
      rw [Int.toNat_natCast, h3 i hi]
      refine ze_aload_n kc_23_68 rfl ?_
      refine ze_getR kc_23_69 (by first | assumption | rfl) rfl (by first | assumption | rfl) ?_
      refine ze_getR kc_23_72 (by first | assumption | rfl) rfl (by first | assumption | rfl) ?_
      refine ze_iload_n kc_23_75 rfl ?_
      refine ze_iald kc_23_76 (by first | assumption | rfl) (by omega) ?_
      rw [Int.toNat_natCast, h3 j hj]
      refine ze_icmp_le kc_23_77 (by omega) (by omega) (fun h77 => ?_) (fun h77 => ?_)
      · skip
        refine ze_iconst kc_23_84 ?_
        refine ze_ireturn kc_23_85 (by decide) ?_
        first
          | exact q1 (decide_eq_true (by omega))
          | exact q2 (decide_eq_false (by omega))
      · skip
        refine ze_iconst kc_23_80 ?_
        refine ze_goto kc_23_81 ?_
        refine ze_ireturn kc_23_85 (by decide) ?_
        first
          | exact q1 (decide_eq_true (by omega))
          | exact q2 (decide_eq_false (by omega))
  · skip
    refine ze_aload_n kc_23_16 rfl ?_
    refine ze_getR kc_23_17 (by first | assumption | rfl) rfl (by first | assumption | rfl) ?_
    refine ze_iload_n kc_23_20 rfl ?_
    refine ze_lald kc_23_21 (by first | assumption | rfl) (by omega) ?_
    rw [Int.toNat_natCast, hL i hi]
    refine ze_aload_n kc_23_22 rfl ?_
    refine ze_getR kc_23_23 (by first | assumption | rfl) rfl (by first | assumption | rfl) ?_
    refine ze_iload_n kc_23_26 rfl ?_
    refine ze_lald kc_23_27 (by first | assumption | rfl) (by omega) ?_
    rw [Int.toNat_natCast, hL j hj]
    refine ze_lcmp_le kc_23_28 kc_23_29 (by omega) (by omega) (fun h28 => ?_) (fun h28 => ?_)
    · skip
      refine ze_iconst kc_23_36 ?_
      refine ze_ireturn kc_23_37 (by decide) ?_
      first
        | exact q1 (decide_eq_true (by omega))
        | exact q2 (decide_eq_false (by omega))
    · skip
      refine ze_iconst kc_23_32 ?_
      refine ze_goto kc_23_33 ?_
      refine ze_ireturn kc_23_37 (by decide) ?_
      first
        | exact q1 (decide_eq_true (by omega))
        | exact q2 (decide_eq_false (by omega))

set_option maxHeartbeats 4000000 in
theorem m_sorest {Z : zMem} {Q : Option zAV → zMem → Prop} {s n : Nat} {c : Nat → Int} {e ρ : Int} (hS : zsF s) (hU : zSU s n c e ρ Z) {r κ : Int} (hn : 1 ≤ n) (hr : 0 ≤ r ∧ r ≤ 5) (he : e ≤ zsum n c) (hκ : -2147483648 ≤ κ ∧ κ ≤ 2147483647) (q1 : ∀ Z', (∀ k, k ≠ s + 5 → Z' k = Z k) → Q (some (zI (zSore n c e r κ))) Z') : zE 22 0 (zent 22 [zR s, zI r, zI κ]) [] Z Q := by
  show zE 22 0 [some (zR s), some (zI r), some (zI κ), none, none, none] [] Z Q
  have hS0 := hS
  have hU0 := hU
  obtain ⟨sT0, sR0, sR1, sT5, hF⟩ := hS
  have hF0 := hF
  obtain ⟨hT0, hT1, hT2, hT3, hR0, hR1, hR2⟩ := hF
  obtain ⟨hG0, hU2, hU3, hUe, hUr⟩ := hU
  have hG := hG0
  obtain ⟨h1, h2, h3, h4, h5, h6, h7, h8⟩ := hG
  have hsr := zsum_range h4
  have hgr := fun (r : Int) (i : Nat) (hi : i < n) => zGt_range (r := r) (w := 1) (u := e) h1 hi h4 (by omega) (by omega)
  have hss := fun (r : Int) (hn : 1 ≤ n) => zS_range (r := r) (n := n) (c := c) (by omega) h4
  refine ze_iconst kc_22_0 ?_
  refine ze_istore_n kc_22_1 (Nat.le_of_ble_eq_true rfl) ?_
  simp only [zset1, zset2, zcut, List.set_cons_zero, List.set_cons_succ, List.getD_cons_zero, List.getD_cons_succ]
  have loop2 : ∀ (μ : Nat) (t : Nat) (x : Int) (Zc : zMem), n - t = μ → (t ≤ n) → (x = t) → (zSU s n c e ρ Zc) → (∀ k, k ≠ s + 5 → Zc k = Z k) → (∀ j, j < t → Zc (s + 5) j = zLos n c e r j) → zE 22 2 [some (zR s), some (zI r), some (zI κ), some (zI x), none, none] [] Zc Q := by
    refine zind ?_
    intro μ ih t x Zc hm ht hx hUc hf hLc
    subst hx
    have hUc0 := hUc
    obtain ⟨hGc, hV2, hV3, -, -⟩ := hUc0
    have hGc0 := hGc
    obtain ⟨-, hc2, hc3, -, -, -, -, -⟩ := hGc0
    refine ze_iload_n kc_22_2 rfl ?_
    refine ze_aload_n kc_22_3 rfl ?_
    refine ze_getR kc_22_4 (by first | assumption | rfl) rfl (by first | assumption | rfl) ?_
    refine ze_getI kc_22_7 (by first | assumption | rfl) (by decide) ?_
    rw [hc2]
    refine ze_icmp_ge kc_22_10 (by omega) (by omega) (fun h10 => ?_) (fun h10 => ?_)
    · skip
      have ht2 : t = n := by omega
      rw [ht2] at hLc
      have hLr : ∀ k, k < n → -1099511627776 ≤ zLos n c e r k ∧ zLos n c e r k ≤ 1099511627776 := by
        intro k hk
        have b1 := zmb (a := c k) (b := zS r n c) (A := 60) (B := 720) (by have := h4 k hk; omega) (by have := hss r hn; omega)
        have b2 := hgr r k hk
        unfold zLos
        omega
      refine ze_iconst kc_22_60 ?_
      refine ze_istore_n kc_22_61 (Nat.le_of_ble_eq_true rfl) ?_
      simp only [zset1, zset2, zcut, List.set_cons_zero, List.set_cons_succ, List.getD_cons_zero, List.getD_cons_succ]
      have loop62 : ∀ (μ : Nat) (i : Nat) (x : Int) (o1 o2 : Option zAV), n - i = μ → (i ≤ n) → (x = i) → (zfst (n - i) i (fun i => decide (zAhd (zLos n c e r) c n i = κ)) (-1) = zSore n c e r κ) → zE 22 62 [some (zR s), some (zI r), some (zI κ), some (zI x), o1, o2] [] Zc Q := by
        refine zind ?_
        intro μ2 ih2 i x o1 o2 hm2 hi2 hx2 hR
        subst hx2
        refine ze_iload_n kc_22_62 rfl ?_
        refine ze_aload_n kc_22_63 rfl ?_
        refine ze_getR kc_22_64 (by first | assumption | rfl) rfl (by first | assumption | rfl) ?_
        refine ze_getI kc_22_67 (by first | assumption | rfl) (by decide) ?_
        rw [hc2]
        refine ze_icmp_ge kc_22_70 (by omega) (by omega) (fun h70 => ?_) (fun h70 => ?_)
        · skip
          refine ze_iconst kc_22_131 ?_
          refine ze_ireturn kc_22_132 (Or.inl rfl) ?_
          rw [zfst_end (by omega)] at hR
          rw [hR]
          exact q1 _ hf
        · skip
          refine ze_iconst kc_22_73 ?_
          refine ze_istore kc_22_74 (Nat.le_of_ble_eq_true rfl) ?_
          simp only [zset1, zset2, zcut, List.set_cons_zero, List.set_cons_succ, List.getD_cons_zero, List.getD_cons_succ]
          refine ze_iconst kc_22_76 ?_
          refine ze_istore kc_22_77 (Nat.le_of_ble_eq_true rfl) ?_
          simp only [zset1, zset2, zcut, List.set_cons_zero, List.set_cons_succ, List.getD_cons_zero, List.getD_cons_succ]
          have loop79 : ∀ (μ : Nat) (j : Nat) (y : Int) (a : Int), n - j = μ → (j ≤ n) → (y = j) → (a = zsum j (fun j => if zSorb (zLos n c e r) c j i = true then 1 else 0)) → zE 22 79 [some (zR s), some (zI r), some (zI κ), some (zI (i : Nat)), some (zI a), some (zI y)] [] Zc Q := by
            refine zind ?_
            intro μ3 ih3 j y a hm3 hj2 hy ha
            subst hy
            refine ze_iload kc_22_79 rfl ?_
            refine ze_aload_n kc_22_81 rfl ?_
            refine ze_getR kc_22_82 (by first | assumption | rfl) rfl (by first | assumption | rfl) ?_
            refine ze_getI kc_22_85 (by first | assumption | rfl) (by decide) ?_
            rw [hc2]
            refine ze_icmp_ge kc_22_88 (by omega) (by omega) (fun h88 => ?_) (fun h88 => ?_)
            · skip
              have ha2 : zAhd (zLos n c e r) c n i = a := by
                rw [ha, show j = n by omega]
                rfl
              have hab := zsum_hi (n := j) (f := fun j => if zSorb (zLos n c e r) c j i = true then (1 : Int) else 0) (c := 1) (fun i _ => by split <;> omega)
              have hab2 := zsum_lo (n := j) (f := fun j => if zSorb (zLos n c e r) c j i = true then (1 : Int) else 0) (c := 0) (fun i _ => by split <;> omega)
              rw [← ha] at hab hab2
              refine ze_iload kc_22_117 rfl ?_
              refine ze_iload_n kc_22_119 rfl ?_
              refine ze_icmp_ne kc_22_120 (by omega) (by omega) (fun h120 => ?_) (fun h120 => ?_)
              · skip
                refine ze_iinc kc_22_125 rfl ?_
                simp only [zset1, zset2, zcut, List.set_cons_zero, List.set_cons_succ, List.getD_cons_zero, List.getD_cons_succ]
                refine ze_goto kc_22_128 ?_
                refine ih2 _ (by omega) (i + 1) _ _ _ rfl (by omega) (by omega) ((zfst_next (by omega) (decide_eq_false (by rw [show zAhd (zLos n c e r) c n i = a from ha2]; exact h120))).symm.trans hR)
              · skip
                refine ze_iload_n kc_22_123 rfl ?_
                refine ze_ireturn kc_22_124 (Or.inl rfl) ?_
                rw [← zfst_hit (P := fun i => decide (zAhd (zLos n c e r) c n i = κ)) (d := -1) (show i < n by omega) (decide_eq_true (by rw [ha2]; exact h120)), hR]
                exact q1 _ hf
            · skip
              refine ze_iload kc_22_91 rfl ?_
              refine ze_aload_n kc_22_93 rfl ?_
              refine ze_iload kc_22_94 rfl ?_
              refine ze_iload_n kc_22_96 rfl ?_
              refine zE_callv 3 kc_22_97 rfl rfl (Nat.le_of_ble_eq_true rfl) (Nat.le_of_ble_eq_true rfl) (Nat.le_of_ble_eq_true rfl) (by first | assumption | rfl) (by decide +kernel) rfl ?_
              refine m_isSorer hS0 hUc (i := j) (j := i) (by omega) (by omega) (L := zLos n c e r) (fun k hk => hLc k (by omega)) hLr (fun g97 => ?_) (fun g97 => ?_)
              · simp only [Option.toList_some, Option.toList_none, List.drop_succ_cons, List.drop_zero, List.cons_append, List.nil_append]
                refine ze_if_eq kc_22_100 (by decide) (fun q => absurd q (by decide)) (fun _ => ?_)
                refine ze_iconst kc_22_103 ?_
                refine ze_goto kc_22_104 ?_
                refine ze_iadd kc_22_108 ?_
                refine ze_istore kc_22_109 (Nat.le_of_ble_eq_true rfl) ?_
                simp only [zset1, zset2, zcut, List.set_cons_zero, List.set_cons_succ, List.getD_cons_zero, List.getD_cons_succ]
                refine ze_iinc kc_22_111 rfl ?_
                simp only [zset1, zset2, zcut, List.set_cons_zero, List.set_cons_succ, List.getD_cons_zero, List.getD_cons_succ]
                refine ze_goto kc_22_114 ?_
                refine ih3 _ (by omega) (j + 1) _ _ rfl (by omega) (by omega) ?_
                rw [zsum_succ, ha]
                first
                  | rw [if_pos g97]
                  | rw [if_neg (fun q => absurd (g97.symm.trans q) (by decide))]
              · simp only [Option.toList_some, Option.toList_none, List.drop_succ_cons, List.drop_zero, List.cons_append, List.nil_append]
                refine ze_if_eq kc_22_100 (by decide) (fun _ => ?_) (fun q => absurd q (by decide))
                refine ze_iconst kc_22_107 ?_
                refine ze_iadd kc_22_108 ?_
                refine ze_istore kc_22_109 (Nat.le_of_ble_eq_true rfl) ?_
                simp only [zset1, zset2, zcut, List.set_cons_zero, List.set_cons_succ, List.getD_cons_zero, List.getD_cons_succ]
                refine ze_iinc kc_22_111 rfl ?_
                simp only [zset1, zset2, zcut, List.set_cons_zero, List.set_cons_succ, List.getD_cons_zero, List.getD_cons_succ]
                refine ze_goto kc_22_114 ?_
                refine ih3 _ (by omega) (j + 1) _ _ rfl (by omega) (by omega) ?_
                rw [zsum_succ, ha]
                first
                  | rw [if_pos g97]
                  | rw [if_neg (fun q => absurd (g97.symm.trans q) (by decide))]
          refine loop79 _ 0 0 0 rfl (by omega) rfl rfl
      refine loop62 _ 0 0 none none rfl (by omega) rfl rfl
    · skip
      refine ze_aload_n kc_22_13 rfl ?_
      refine ze_getR kc_22_14 (by first | assumption | rfl) rfl (by first | assumption | rfl) ?_
      refine ze_iload_n kc_22_17 rfl ?_
      refine ze_aload_n kc_22_18 rfl ?_
      refine ze_getR kc_22_19 (by first | assumption | rfl) rfl (by first | assumption | rfl) ?_
      refine ze_getR kc_22_22 (by first | assumption | rfl) rfl (by first | assumption | rfl) ?_
      refine ze_iload_n kc_22_25 rfl ?_
      refine ze_iald kc_22_26 (by first | assumption | rfl) (by omega) ?_
      rw [Int.toNat_natCast, hc3 t (by omega)]
      have hct := h4 t (by omega)
      refine ze_i2l kc_22_27 (by omega) ?_
      refine ze_aload_n kc_22_28 rfl ?_
      refine ze_getR kc_22_29 (by first | assumption | rfl) rfl (by first | assumption | rfl) ?_
      refine ze_iload_n kc_22_32 rfl ?_
      refine zE_callv 2 kc_22_33 rfl rfl (Nat.le_of_ble_eq_true rfl) (Nat.le_of_ble_eq_true rfl) (Nat.le_of_ble_eq_true rfl) (by first | assumption | rfl) (by decide +kernel) rfl ?_
      refine m_scale hF0 hGc hr ?_
      simp only [Option.toList_some, Option.toList_none, List.drop_succ_cons, List.drop_zero, List.cons_append, List.nil_append]
      refine ze_lmul kc_22_36 ?_
      refine ze_aload_n kc_22_37 rfl ?_
      refine ze_getR kc_22_38 (by first | assumption | rfl) rfl (by first | assumption | rfl) ?_
      refine ze_iload_n kc_22_41 rfl ?_
      refine ze_iload_n kc_22_42 rfl ?_
      refine ze_aload_n kc_22_43 rfl ?_
      refine ze_getI kc_22_44 (by first | assumption | rfl) (by decide) ?_
      rw [hV2]
      refine ze_i2l kc_22_47 (by omega) ?_
      refine ze_lconst1 kc_22_48 ?_
      refine zE_callv 5 kc_22_49 rfl rfl (Nat.le_of_ble_eq_true rfl) (Nat.le_of_ble_eq_true rfl) (Nat.le_of_ble_eq_true rfl) (by first | assumption | rfl) (by decide +kernel) rfl ?_
      refine m_gets hF0 hGc (i := t) (by omega) hr (by omega) (by omega) ?_
      simp only [Option.toList_some, Option.toList_none, List.drop_succ_cons, List.drop_zero, List.cons_append, List.nil_append]
      refine ze_lsub kc_22_52 ?_
      refine ze_last kc_22_53 (by first | assumption | rfl) (by omega) ?_
      rw [Int.toNat_natCast]
      refine ze_iinc kc_22_54 rfl ?_
      simp only [zset1, zset2, zcut, List.set_cons_zero, List.set_cons_succ, List.getD_cons_zero, List.getD_cons_succ]
      refine ze_goto kc_22_57 ?_
      refine ih _ (by omega) (t + 1) _ _ rfl (by omega) (by omega) (zSU_same hUc (fun k a b => zup_ne' (by omega))) (fun k hk => by rw [zup_ne' hk]; exact hf k hk) (fun j hj => if q : j = t then (by rw [q, zup_s]; rfl) else (by rw [zup_o q]; exact hLc j (by omega)))
  refine loop2 _ 0 0 Z rfl (by omega) rfl hU0 (fun _ _ => rfl) (fun j hj => by omega)

set_option maxHeartbeats 4000000 in
theorem m_happen {Z : zMem} {Q : Option zAV → zMem → Prop} {s n : Nat} {c : Nat → Int} {e ρ : Int} (hS : zsF s) (hU : zSU s n c e ρ Z) {w : Int} {k : Nat} (hw : 0 ≤ w ∧ w ≤ 3) (hk : k ≤ 360) (hk1 : w < 2 → k < n) (hk2 : w = 2 → k ≤ 5) (q1 : ∀ Z', zSU s n (zhC w k c) (zhE w k e) (zhR w k ρ) Z' → (∀ k, k < s ∨ s + 4 < k → Z' k = Z k) → Q none Z') : zE 24 0 (zent 24 [zR s, zI w, zI (k : Int)]) [] Z Q := by
  show zE 24 0 [some (zR s), some (zI w), some (zI (k : Int))] [] Z Q
  have hU0 := hU
  obtain ⟨sT0, sR0, sR1, sT5, hF⟩ := hS
  have hF0 := hF
  obtain ⟨hT0, hT1, hT2, hT3, hR0, hR1, hR2⟩ := hF
  obtain ⟨hG0, hU2, hU3, hUe, hUr⟩ := hU
  have hG := hG0
  obtain ⟨h1, h2, h3, h4, h5, h6, h7, h8⟩ := hG
  refine ze_iload_n kc_24_0 rfl ?_
  by_cases hs0 : w = 0
  · refine ze_tableIn 0 kc_24_1 hs0 (by decide) (by decide) rfl rfl ?_
    refine ze_aload_n kc_24_28 rfl ?_
    refine ze_getR kc_24_29 (by first | assumption | rfl) rfl (by first | assumption | rfl) ?_
    refine ze_iload_n kc_24_32 rfl ?_
    refine zE_callv 2 kc_24_33 rfl rfl (Nat.le_of_ble_eq_true rfl) (Nat.le_of_ble_eq_true rfl) (Nat.le_of_ble_eq_true rfl) (by first | assumption | rfl) (by decide +kernel) rfl ?_
    refine m_has hF0 (by omega) (by omega) (fun g33 => ?_) (fun g33 => absurd g33 (by omega))
    simp only [Option.toList_some, Option.toList_none, List.drop_succ_cons, List.drop_zero, List.cons_append, List.nil_append]
    refine ze_if_eq kc_24_36 (by decide) (fun q => absurd q (by decide)) (fun _ => ?_)
    refine ze_aload_n kc_24_39 rfl ?_
    refine ze_getR kc_24_40 (by first | assumption | rfl) rfl (by first | assumption | rfl) ?_
    refine ze_iload_n kc_24_43 rfl ?_
    refine ze_bipush kc_24_44 ?_
    refine ze_aload_n kc_24_46 rfl ?_
    refine ze_getR kc_24_47 (by first | assumption | rfl) rfl (by first | assumption | rfl) ?_
    refine ze_getR kc_24_50 (by first | assumption | rfl) rfl (by first | assumption | rfl) ?_
    refine ze_iload_n kc_24_53 rfl ?_
    refine ze_iald kc_24_54 (by first | assumption | rfl) (by omega) ?_
    rw [Int.toNat_natCast, h3 k (hk1 (by omega))]
    have hck := h4 k (hk1 (by omega))
    refine ze_iconst kc_24_55 ?_
    refine ze_iadd kc_24_56 ?_
    refine zE_calls 2 kc_24_57 rfl rfl (Nat.le_of_ble_eq_true rfl) (Nat.le_of_ble_eq_true rfl) (Nat.le_of_ble_eq_true rfl) rfl ?_
    refine m_minI (by omega) (by omega) ?_
    simp only [Option.toList_some, Option.toList_none, List.drop_succ_cons, List.drop_zero, List.cons_append, List.nil_append]
    refine zE_callv 3 kc_24_60 rfl rfl (Nat.le_of_ble_eq_true rfl) (Nat.le_of_ble_eq_true rfl) (Nat.le_of_ble_eq_true rfl) (by first | assumption | rfl) (by decide +kernel) rfl ?_
    refine m_put hF0 hG0 (hk1 (by omega)) (by omega) (fun Z2 r1 r2 r3 => ?_)
    simp only [Option.toList_some, Option.toList_none, List.drop_succ_cons, List.drop_zero, List.cons_append, List.nil_append]
    refine ze_goto kc_24_63 ?_
    refine ze_return kc_24_102 ?_
    refine q1 _ ?_ ?_
    · first
        | exact ⟨by rw [show zhC w k c = _ from if_pos hs0]; exact r1, by rw [r2 s (by omega), hU2]; exact (if_neg (by omega)).symm, by rw [r2 s (by omega), hU3]; exact (if_neg (by omega)).symm, by rw [show zhE w k e = e from if_neg (by omega)]; exact hUe, by rw [show zhR w k ρ = ρ from if_neg (by omega)]; exact hUr⟩
        | exact ⟨by rw [show zhC w k c = _ from (if_neg hs0).trans (if_pos hs1)]; exact r1, by rw [r2 s (by omega), hU2]; exact (if_neg (by omega)).symm, by rw [r2 s (by omega), hU3]; exact (if_neg (by omega)).symm, by rw [show zhE w k e = e from if_neg (by omega)]; exact hUe, by rw [show zhR w k ρ = ρ from if_neg (by omega)]; exact hUr⟩
        | exact ⟨by rw [show zhC w k c = c from (if_neg hs0).trans (if_neg hs1)]; exact zG_same hG0 (fun j a b => zup_ne' (by omega)), by rw [zup_o (by decide), hU2]; exact (if_neg (by omega)).symm, by rw [zup_s]; exact (if_pos (by omega)).symm, by rw [show zhE w k e = e from if_neg (by omega)]; exact hUe, by rw [show zhR w k ρ = k from if_pos (by omega)]; have := hk2 (by omega); omega⟩
        | exact ⟨by rw [show zhC w k c = c from (if_neg hs0).trans (if_neg hs1)]; exact zG_same hG0 (fun j a b => zup_ne' (by omega)), by rw [zup_s]; exact (if_pos (by omega)).symm, by rw [zup_o (by decide), hU3]; exact (if_neg (by omega)).symm, by rw [show zhE w k e = min 360 (e + k) from if_pos (by omega)]; omega, by rw [show zhR w k ρ = ρ from if_neg (by omega)]; exact hUr⟩
    · first
        | exact fun j hj => r2 j (by omega)
        | exact fun j hj => zup_ne' (by omega)
  by_cases hs1 : w = 1
  · refine ze_tableIn 1 kc_24_1 hs1 (by decide) (by decide) rfl rfl ?_
    refine ze_aload_n kc_24_66 rfl ?_
    refine ze_getR kc_24_67 (by first | assumption | rfl) rfl (by first | assumption | rfl) ?_
    refine ze_iload_n kc_24_70 rfl ?_
    refine ze_iconst kc_24_71 ?_
    refine zE_callv 3 kc_24_72 rfl rfl (Nat.le_of_ble_eq_true rfl) (Nat.le_of_ble_eq_true rfl) (Nat.le_of_ble_eq_true rfl) (by first | assumption | rfl) (by decide +kernel) rfl ?_
    refine m_put hF0 hG0 (hk1 (by omega)) (by omega) (fun Z2 r1 r2 r3 => ?_)
    simp only [Option.toList_some, Option.toList_none, List.drop_succ_cons, List.drop_zero, List.cons_append, List.nil_append]
    refine ze_goto kc_24_75 ?_
    refine ze_return kc_24_102 ?_
    refine q1 _ ?_ ?_
    · first
        | exact ⟨by rw [show zhC w k c = _ from if_pos hs0]; exact r1, by rw [r2 s (by omega), hU2]; exact (if_neg (by omega)).symm, by rw [r2 s (by omega), hU3]; exact (if_neg (by omega)).symm, by rw [show zhE w k e = e from if_neg (by omega)]; exact hUe, by rw [show zhR w k ρ = ρ from if_neg (by omega)]; exact hUr⟩
        | exact ⟨by rw [show zhC w k c = _ from (if_neg hs0).trans (if_pos hs1)]; exact r1, by rw [r2 s (by omega), hU2]; exact (if_neg (by omega)).symm, by rw [r2 s (by omega), hU3]; exact (if_neg (by omega)).symm, by rw [show zhE w k e = e from if_neg (by omega)]; exact hUe, by rw [show zhR w k ρ = ρ from if_neg (by omega)]; exact hUr⟩
        | exact ⟨by rw [show zhC w k c = c from (if_neg hs0).trans (if_neg hs1)]; exact zG_same hG0 (fun j a b => zup_ne' (by omega)), by rw [zup_o (by decide), hU2]; exact (if_neg (by omega)).symm, by rw [zup_s]; exact (if_pos (by omega)).symm, by rw [show zhE w k e = e from if_neg (by omega)]; exact hUe, by rw [show zhR w k ρ = k from if_pos (by omega)]; have := hk2 (by omega); omega⟩
        | exact ⟨by rw [show zhC w k c = c from (if_neg hs0).trans (if_neg hs1)]; exact zG_same hG0 (fun j a b => zup_ne' (by omega)), by rw [zup_s]; exact (if_pos (by omega)).symm, by rw [zup_o (by decide), hU3]; exact (if_neg (by omega)).symm, by rw [show zhE w k e = min 360 (e + k) from if_pos (by omega)]; omega, by rw [show zhR w k ρ = ρ from if_neg (by omega)]; exact hUr⟩
    · first
        | exact fun j hj => r2 j (by omega)
        | exact fun j hj => zup_ne' (by omega)
  by_cases hs2 : w = 2
  · refine ze_tableIn 2 kc_24_1 hs2 (by decide) (by decide) rfl rfl ?_
    refine ze_aload_n kc_24_78 rfl ?_
    refine ze_iload_n kc_24_79 rfl ?_
    refine ze_putI kc_24_80 (by first | assumption | rfl) rfl ?_
    refine ze_goto kc_24_83 ?_
    refine ze_return kc_24_102 ?_
    refine q1 _ ?_ ?_
    · first
        | exact ⟨by rw [show zhC w k c = _ from if_pos hs0]; exact r1, by rw [r2 s (by omega), hU2]; exact (if_neg (by omega)).symm, by rw [r2 s (by omega), hU3]; exact (if_neg (by omega)).symm, by rw [show zhE w k e = e from if_neg (by omega)]; exact hUe, by rw [show zhR w k ρ = ρ from if_neg (by omega)]; exact hUr⟩
        | exact ⟨by rw [show zhC w k c = _ from (if_neg hs0).trans (if_pos hs1)]; exact r1, by rw [r2 s (by omega), hU2]; exact (if_neg (by omega)).symm, by rw [r2 s (by omega), hU3]; exact (if_neg (by omega)).symm, by rw [show zhE w k e = e from if_neg (by omega)]; exact hUe, by rw [show zhR w k ρ = ρ from if_neg (by omega)]; exact hUr⟩
        | exact ⟨by rw [show zhC w k c = c from (if_neg hs0).trans (if_neg hs1)]; exact zG_same hG0 (fun j a b => zup_ne' (by omega)), by rw [zup_o (by decide), hU2]; exact (if_neg (by omega)).symm, by rw [zup_s]; exact (if_pos (by omega)).symm, by rw [show zhE w k e = e from if_neg (by omega)]; exact hUe, by rw [show zhR w k ρ = k from if_pos (by omega)]; have := hk2 (by omega); omega⟩
        | exact ⟨by rw [show zhC w k c = c from (if_neg hs0).trans (if_neg hs1)]; exact zG_same hG0 (fun j a b => zup_ne' (by omega)), by rw [zup_s]; exact (if_pos (by omega)).symm, by rw [zup_o (by decide), hU3]; exact (if_neg (by omega)).symm, by rw [show zhE w k e = min 360 (e + k) from if_pos (by omega)]; omega, by rw [show zhR w k ρ = ρ from if_neg (by omega)]; exact hUr⟩
    · first
        | exact fun j hj => r2 j (by omega)
        | exact fun j hj => zup_ne' (by omega)
  refine ze_tableOut kc_24_1 (by omega) (by omega) rfl ?_
  refine ze_aload_n kc_24_86 rfl ?_
  refine ze_sipush kc_24_87 ?_
  refine ze_aload_n kc_24_90 rfl ?_
  refine ze_getI kc_24_91 (by first | assumption | rfl) (by decide) ?_
  rw [hU2]
  refine ze_iload_n kc_24_94 rfl ?_
  refine ze_iadd kc_24_95 ?_
  refine zE_calls 2 kc_24_96 rfl rfl (Nat.le_of_ble_eq_true rfl) (Nat.le_of_ble_eq_true rfl) (Nat.le_of_ble_eq_true rfl) rfl ?_
  refine m_minI (by omega) (by omega) ?_
  simp only [Option.toList_some, Option.toList_none, List.drop_succ_cons, List.drop_zero, List.cons_append, List.nil_append]
  refine ze_putI kc_24_99 (by first | assumption | rfl) rfl ?_
  refine ze_return kc_24_102 ?_
  refine q1 _ ?_ ?_
  · first
      | exact ⟨by rw [show zhC w k c = _ from if_pos hs0]; exact r1, by rw [r2 s (by omega), hU2]; exact (if_neg (by omega)).symm, by rw [r2 s (by omega), hU3]; exact (if_neg (by omega)).symm, by rw [show zhE w k e = e from if_neg (by omega)]; exact hUe, by rw [show zhR w k ρ = ρ from if_neg (by omega)]; exact hUr⟩
      | exact ⟨by rw [show zhC w k c = _ from (if_neg hs0).trans (if_pos hs1)]; exact r1, by rw [r2 s (by omega), hU2]; exact (if_neg (by omega)).symm, by rw [r2 s (by omega), hU3]; exact (if_neg (by omega)).symm, by rw [show zhE w k e = e from if_neg (by omega)]; exact hUe, by rw [show zhR w k ρ = ρ from if_neg (by omega)]; exact hUr⟩
      | exact ⟨by rw [show zhC w k c = c from (if_neg hs0).trans (if_neg hs1)]; exact zG_same hG0 (fun j a b => zup_ne' (by omega)), by rw [zup_o (by decide), hU2]; exact (if_neg (by omega)).symm, by rw [zup_s]; exact (if_pos (by omega)).symm, by rw [show zhE w k e = e from if_neg (by omega)]; exact hUe, by rw [show zhR w k ρ = k from if_pos (by omega)]; have := hk2 (by omega); omega⟩
      | exact ⟨by rw [show zhC w k c = c from (if_neg hs0).trans (if_neg hs1)]; exact zG_same hG0 (fun j a b => zup_ne' (by omega)), by rw [zup_s]; exact (if_pos (by omega)).symm, by rw [zup_o (by decide), hU3]; exact (if_neg (by omega)).symm, by rw [show zhE w k e = min 360 (e + k) from if_pos (by omega)]; omega, by rw [show zhR w k ρ = ρ from if_neg (by omega)]; exact hUr⟩
  · first
      | exact fun j hj => r2 j (by omega)
      | exact fun j hj => zup_ne' (by omega)

set_option maxHeartbeats 4000000 in
theorem m_addR {Z : zMem} {Q : Option zAV → zMem → Prop} {r m N : Nat} {a b : Nat → Int} (hR : zrF r m) (hm : m ≤ 8) (hW : zRw r m N a b Z) {x y : Int} (q1 : N < m → ∀ Z', zRw r m (N + 1) (zext a N x) (zext b N y) Z' → (∀ k, k < r ∨ r + 2 < k → Z' k = Z k) → Q (some (zI ((N + 1 : Nat) : Int))) Z') (q2 : N = m → Q (some (zI (-4))) Z) : zE 13 0 (zent 13 [zR r, zI x, zI y]) [] Z Q := by
  show zE 13 0 [some (zR r), some (zI x), some (zI y)] [] Z Q
  have hR0 := hR
  obtain ⟨rT0, rT1, rT2, rR0, rR1⟩ := hR
  have hW0 := hW
  obtain ⟨w1, w2, w3, w4, w5⟩ := hW
  refine ze_aload_n kc_13_0 rfl ?_
  refine ze_getI kc_13_1 (by first | assumption | rfl) (by decide) ?_
  rw [w2]
  refine ze_aload_n kc_13_4 rfl ?_
  refine ze_getI kc_13_5 (by first | assumption | rfl) (by decide) ?_
  rw [w1]
  refine ze_icmp_lt kc_13_8 (by omega) (by omega) (fun h8 => ?_) (fun h8 => ?_)
  · skip
    refine ze_aload_n kc_13_14 rfl ?_
    refine ze_getR kc_13_15 (by first | assumption | rfl) rfl (by first | assumption | rfl) ?_
    refine ze_aload_n kc_13_18 rfl ?_
    refine ze_getI kc_13_19 (by first | assumption | rfl) (by decide) ?_
    rw [w2]
    refine ze_iload_n kc_13_22 rfl ?_
    refine ze_iast kc_13_23 (by first | assumption | rfl) (by omega) ?_
    rw [Int.toNat_natCast]
    refine ze_aload_n kc_13_24 rfl ?_
    refine ze_getR kc_13_25 (by first | assumption | rfl) rfl (by first | assumption | rfl) ?_
    refine ze_aload_n kc_13_28 rfl ?_
    refine ze_getI kc_13_29 (by first | assumption | rfl) (by decide) ?_
    rw [show zup Z (r + 1) N x r 3 = (N : Int) by rw [zup_ne' (by omega), w2]]
    refine ze_iload_n kc_13_32 rfl ?_
    refine ze_iast kc_13_33 (by first | assumption | rfl) (by omega) ?_
    rw [Int.toNat_natCast]
    refine ze_aload_n kc_13_34 rfl ?_
    refine ze_dup kc_13_35 rfl ?_
    refine ze_getI kc_13_36 (by first | assumption | rfl) (by decide) ?_
    rw [show zup (zup Z (r + 1) N x) (r + 2) N y r 3 = (N : Int) by rw [zup_ne' (by omega), zup_ne' (by omega), w2]]
    refine ze_iconst kc_13_39 ?_
    refine ze_iadd kc_13_40 ?_
    refine ze_putI kc_13_41 (by first | assumption | rfl) rfl ?_
    refine ze_aload_n kc_13_44 rfl ?_
    refine ze_getI kc_13_45 (by first | assumption | rfl) (by decide) ?_
    rw [zup_s]
    refine ze_ireturn kc_13_48 (Or.inl rfl) ?_
    refine q1 (by omega) _ ⟨?_, zup_s, by omega, fun i hi => ?_, fun i hi => ?_⟩ (fun k hk => by rw [zup_ne' (by omega), zup_ne' (by omega), zup_ne' (by omega)])
    · rw [zup_o (by decide), zup_ne' (by omega), zup_ne' (by omega)]; exact w1
    · rw [zup_ne' (by omega), zup_ne' (by omega)]
      by_cases q : i = N
      · rw [q, zup_s]; exact (if_pos rfl).symm
      · rw [zup_o q, zext_lt (by omega)]; exact w4 i (by omega)
    · rw [zup_ne' (by omega)]
      by_cases q : i = N
      · rw [q, zup_s]; exact (if_pos rfl).symm
      · rw [zup_o q, zup_ne' (by omega), zext_lt (by omega)]; exact w5 i (by omega)
  · skip
    refine ze_bipush kc_13_11 ?_
    refine ze_ireturn kc_13_13 (Or.inl rfl) ?_
    exact q2 (by omega)

set_option maxHeartbeats 4000000 in
theorem m_copyR {Z : zMem} {Q : Option zAV → zMem → Prop} {r o m N : Nat} {a b : Nat → Int} (hR : zrF r m) (hO : zrF o m) (ho : o + 2 < r ∨ r + 2 < o) (hm : m ≤ 8) (hW : zRw o m N a b Z) (hmr : Z r 2 = m) (q1 : ∀ Z', zRw r m N a b Z' → (∀ k, k < r ∨ r + 2 < k → Z' k = Z k) → Q none Z') : zE 14 0 (zent 14 [zR r, zR o]) [] Z Q := by
  show zE 14 0 [some (zR r), some (zR o), none] [] Z Q
  have hR0 := hR
  obtain ⟨rT0, rT1, rT2, rR0, rR1⟩ := hR
  have hW0 := hW
  obtain ⟨w1, w2, w3, w4, w5⟩ := hW
  obtain ⟨oT0, oT1, oT2, oR0, oR1⟩ := hO
  refine ze_aload_n kc_14_0 rfl ?_
  refine ze_iconst kc_14_1 ?_
  refine ze_putI kc_14_2 (by first | assumption | rfl) rfl ?_
  refine ze_iconst kc_14_5 ?_
  refine ze_istore_n kc_14_6 (Nat.le_of_ble_eq_true rfl) ?_
  simp only [zset1, zset2, zcut, List.set_cons_zero, List.set_cons_succ, List.getD_cons_zero, List.getD_cons_succ]
  have loop7 : ∀ (μ : Nat) (t : Nat) (x : Int) (Zc : zMem), N - t = μ → (t ≤ N) → (x = t) → (zRw r m t a b Zc) → (∀ k, k < r ∨ r + 2 < k → Zc k = Z k) → zE 14 7 [some (zR r), some (zR o), some (zI x)] [] Zc Q := by
    refine zind ?_
    intro μ1 ih1 t x Zc hm1 ht hx hWc hf
    refine ze_iload_n kc_14_7 rfl ?_
    refine ze_aload_n kc_14_8 rfl ?_
    refine ze_getI kc_14_9 (by first | assumption | rfl) (by decide) ?_
    rw [show Zc o 3 = (N : Int) by rw [hf o (by omega)]; exact w2]
    refine ze_icmp_ge kc_14_12 (by omega) (by omega) (fun h12 => ?_) (fun h12 => ?_)
    · skip
      refine ze_return kc_14_38 ?_
      have e : t = N := by omega
      rw [e] at hWc
      exact q1 _ hWc hf
    · skip
      refine ze_aload_n kc_14_15 rfl ?_
      refine ze_aload_n kc_14_16 rfl ?_
      refine ze_getR kc_14_17 (by first | assumption | rfl) rfl (by first | assumption | rfl) ?_
      refine ze_iload_n kc_14_20 rfl ?_
      refine ze_iald kc_14_21 (by first | assumption | rfl) (by omega) ?_
      rw [hx, Int.toNat_natCast, hf (o + 1) (by omega), w4 t (by omega)]
      refine ze_aload_n kc_14_22 rfl ?_
      refine ze_getR kc_14_23 (by first | assumption | rfl) rfl (by first | assumption | rfl) ?_
      refine ze_iload_n kc_14_26 rfl ?_
      refine ze_iald kc_14_27 (by first | assumption | rfl) (by omega) ?_
      rw [Int.toNat_natCast, hf (o + 2) (by omega), w5 t (by omega)]
      refine zE_callv 3 kc_14_28 rfl rfl (Nat.le_of_ble_eq_true rfl) (Nat.le_of_ble_eq_true rfl) (Nat.le_of_ble_eq_true rfl) (by first | assumption | rfl) (by decide +kernel) rfl ?_
      refine m_addR hR0 hm hWc (fun g28 Z2 r1 r2 => ?_) (fun g28 => absurd g28 (by omega))
      simp only [Option.toList_some, Option.toList_none, List.drop_succ_cons, List.drop_zero, List.cons_append, List.nil_append]
      refine ze_pop kc_14_31 rfl ?_
      refine ze_iinc kc_14_32 rfl ?_
      simp only [zset1, zset2, zcut, List.set_cons_zero, List.set_cons_succ, List.getD_cons_zero, List.getD_cons_succ]
      refine ze_goto kc_14_35 ?_
      refine ih1 _ (by omega) (t + 1) _ _ rfl (by omega) (by omega) (by rw [zext_self, zext_self] at r1; exact r1) (fun k hk => (r2 k hk).trans (hf k hk))
  refine loop7 _ 0 0 _ rfl (by omega) rfl ⟨by rw [zup_o (by decide)]; exact hmr, zup_s, by omega, fun i hi => by omega, fun i hi => by omega⟩ (fun k hk => zup_ne' (by omega))
