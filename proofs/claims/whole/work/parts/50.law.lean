def zQf (v : Option zAV) (_ : zMem) : Prop := v = some (zI 1)
theorem law_step {xs : Nat → Int} {Ln : Nat} {A : zAll} {Z : zMem} {Q : Option zAV → zMem → Prop} {x : Int} (hLn : Ln ≤ 3072) (hxr : ∀ j, -2147483648 ≤ xs j ∧ xs j ≤ 2147483647) (hx0 : 0 ≤ x) (hx6 : x + 6 ≤ Ln) (hI : zInv xs Ln A Z) (kk : ∀ A' Z', zInv xs Ln A' Z' → zE 184 1390 [some (zR 1001), some (zR 0), some (zR 63), some (zI x)] [] Z' Q) : zE 184 27 [some (zR 1001), some (zR 0), some (zR 63), some (zI x)] [] Z Q := by
  obtain ⟨⟨⟨n, c, e, ρ⟩, ⟨N1, a1, b1⟩, ⟨N2, a2, b2⟩, N3, a3, b3⟩, ⟨L, t⟩, P, I⟩ := A
  have hla := hI.2.2.2.2
  refine ze_aload_n kc_184_27 rfl ?_
  refine ze_iload_n kc_184_28 rfl ?_
  refine ze_iald1 kc_184_29 (by omega) ?_
  refine ze_bipush kc_184_30 ?_
  refine ze_iand kc_184_32 ?_
  have hr := z32_in' (Int32.ofInt (Z 1001 x.toNat) &&& Int32.ofInt 63)
  generalize (Int32.ofInt (Z 1001 x.toNat) &&& Int32.ofInt 63).toInt = s at *
  by_cases hs0 : s = 0
  · refine ze_tableIn 0 kc_184_33 hs0 (by decide) (by decide) rfl rfl ?_
    exact law_claim hLn hxr hx0 hx6 hI kk
  by_cases hs1 : s = 1
  · refine ze_tableIn 1 kc_184_33 hs1 (by decide) (by decide) rfl rfl ?_
    exact law_renew hLn hxr hx0 hx6 hI kk
  by_cases hs2 : s = 2
  · refine ze_tableIn 2 kc_184_33 hs2 (by decide) (by decide) rfl rfl ?_
    exact law_estate hLn hxr hx0 hx6 hI kk
  by_cases hs3 : s = 3
  · refine ze_tableIn 3 kc_184_33 hs3 (by decide) (by decide) rfl rfl ?_
    exact law_rule hLn hxr hx0 hx6 hI kk
  by_cases hs4 : s = 4
  · refine ze_tableIn 4 kc_184_33 hs4 (by decide) (by decide) rfl rfl ?_
    exact law_of hLn hxr hx0 hx6 hI kk
  by_cases hs5 : s = 5
  · refine ze_tableIn 5 kc_184_33 hs5 (by decide) (by decide) rfl rfl ?_
    exact law_told hLn hxr hx0 hx6 hI kk
  by_cases hs6 : s = 6
  · refine ze_tableIn 6 kc_184_33 hs6 (by decide) (by decide) rfl rfl ?_
    exact law_feed hLn hxr hx0 hx6 hI kk
  by_cases hs7 : s = 7
  · refine ze_tableIn 7 kc_184_33 hs7 (by decide) (by decide) rfl rfl ?_
    exact law_read hLn hxr hx0 hx6 hI kk
  by_cases hs8 : s = 8
  · refine ze_tableIn 8 kc_184_33 hs8 (by decide) (by decide) rfl rfl ?_
    exact law_award hLn hxr hx0 hx6 hI kk
  by_cases hs9 : s = 9
  · refine ze_tableIn 9 kc_184_33 hs9 (by decide) (by decide) rfl rfl ?_
    exact law_cut hLn hxr hx0 hx6 hI kk
  by_cases hs10 : s = 10
  · refine ze_tableIn 10 kc_184_33 hs10 (by decide) (by decide) rfl rfl ?_
    exact law_dual hLn hxr hx0 hx6 hI kk
  by_cases hs11 : s = 11
  · refine ze_tableIn 11 kc_184_33 hs11 (by decide) (by decide) rfl rfl ?_
    exact law_alone hLn hxr hx0 hx6 hI kk
  by_cases hs12 : s = 12
  · refine ze_tableIn 12 kc_184_33 hs12 (by decide) (by decide) rfl rfl ?_
    exact law_consistent hLn hxr hx0 hx6 hI kk
  by_cases hs13 : s = 13
  · refine ze_tableIn 13 kc_184_33 hs13 (by decide) (by decide) rfl rfl ?_
    exact law_change hLn hxr hx0 hx6 hI kk
  by_cases hs14 : s = 14
  · refine ze_tableIn 14 kc_184_33 hs14 (by decide) (by decide) rfl rfl ?_
    exact law_inverse hLn hxr hx0 hx6 hI kk
  by_cases hs15 : s = 15
  · refine ze_tableIn 15 kc_184_33 hs15 (by decide) (by decide) rfl rfl ?_
    exact law_bends hLn hxr hx0 hx6 hI kk
  by_cases hs16 : s = 16
  · refine ze_tableIn 16 kc_184_33 hs16 (by decide) (by decide) rfl rfl ?_
    exact law_like hLn hxr hx0 hx6 hI kk
  by_cases hs17 : s = 17
  · refine ze_tableIn 17 kc_184_33 hs17 (by decide) (by decide) rfl rfl ?_
    exact law_sore hLn hxr hx0 hx6 hI kk
  by_cases hs18 : s = 18
  · refine ze_tableIn 18 kc_184_33 hs18 (by decide) (by decide) rfl rfl ?_
    exact law_poured hLn hxr hx0 hx6 hI kk
  by_cases hs19 : s = 19
  · refine ze_tableIn 19 kc_184_33 hs19 (by decide) (by decide) rfl rfl ?_
    exact law_gap hLn hxr hx0 hx6 hI kk
  by_cases hs20 : s = 20
  · refine ze_tableIn 20 kc_184_33 hs20 (by decide) (by decide) rfl rfl ?_
    exact law_see hLn hxr hx0 hx6 hI kk
  by_cases hs21 : s = 21
  · refine ze_tableIn 21 kc_184_33 hs21 (by decide) (by decide) rfl rfl ?_
    exact law_fits hLn hxr hx0 hx6 hI kk
  by_cases hs22 : s = 22
  · refine ze_tableIn 22 kc_184_33 hs22 (by decide) (by decide) rfl rfl ?_
    exact law_odds hLn hxr hx0 hx6 hI kk
  by_cases hs23 : s = 23
  · refine ze_tableIn 23 kc_184_33 hs23 (by decide) (by decide) rfl rfl ?_
    exact law_mean hLn hxr hx0 hx6 hI kk
  by_cases hs24 : s = 24
  · refine ze_tableIn 24 kc_184_33 hs24 (by decide) (by decide) rfl rfl ?_
    exact law_event hLn hxr hx0 hx6 hI kk
  by_cases hs25 : s = 25
  · refine ze_tableIn 25 kc_184_33 hs25 (by decide) (by decide) rfl rfl ?_
    exact law_after hLn hxr hx0 hx6 hI kk
  by_cases hs26 : s = 26
  · refine ze_tableIn 26 kc_184_33 hs26 (by decide) (by decide) rfl rfl ?_
    exact law_book hLn hxr hx0 hx6 hI kk
  by_cases hs27 : s = 27
  · refine ze_tableIn 27 kc_184_33 hs27 (by decide) (by decide) rfl rfl ?_
    exact law_looked hLn hxr hx0 hx6 hI kk
  by_cases hs28 : s = 28
  · refine ze_tableIn 28 kc_184_33 hs28 (by decide) (by decide) rfl rfl ?_
    exact law_judge hLn hxr hx0 hx6 hI kk
  by_cases hs29 : s = 29
  · refine ze_tableIn 29 kc_184_33 hs29 (by decide) (by decide) rfl rfl ?_
    exact law_image hLn hxr hx0 hx6 hI kk
  by_cases hs30 : s = 30
  · refine ze_tableIn 30 kc_184_33 hs30 (by decide) (by decide) rfl rfl ?_
    exact law_undo hLn hxr hx0 hx6 hI kk
  by_cases hs31 : s = 31
  · refine ze_tableIn 31 kc_184_33 hs31 (by decide) (by decide) rfl rfl ?_
    exact law_count hLn hxr hx0 hx6 hI kk
  by_cases hs32 : s = 32
  · refine ze_tableIn 32 kc_184_33 hs32 (by decide) (by decide) rfl rfl ?_
    exact law_tape hLn hxr hx0 hx6 hI kk
  by_cases hs33 : s = 33
  · refine ze_tableIn 33 kc_184_33 hs33 (by decide) (by decide) rfl rfl ?_
    exact law_item hLn hxr hx0 hx6 hI kk
  by_cases hs34 : s = 34
  · refine ze_tableIn 34 kc_184_33 hs34 (by decide) (by decide) rfl rfl ?_
    exact law_peek hLn hxr hx0 hx6 hI kk
  by_cases hs35 : s = 35
  · refine ze_tableIn 35 kc_184_33 hs35 (by decide) (by decide) rfl rfl ?_
    exact law_shift hLn hxr hx0 hx6 hI kk
  refine ze_tableOut kc_184_33 hr (by omega) rfl ?_
  exact kk _ _ hI
theorem law_loop {xs : Nat → Int} {Ln : Nat} (hLn : Ln ≤ 3072) (hxr : ∀ j, -2147483648 ≤ xs j ∧ xs j ≤ 2147483647) : ∀ (m : Nat) (A : zAll) (Z : zMem) (x : Int), ((Ln : Int) + 6 - x).toNat = m → 0 ≤ x → x ≤ Ln + 6 → zInv xs Ln A Z → zE 184 18 [some (zR 1001), some (zR 0), some (zR 63), some (zI x)] [] Z zQf := by
  refine zind ?_
  intro m ih A Z x hm hx0 hx1 hI
  have hla := hI.2.2.2.2
  refine ze_iload_n kc_184_18 rfl ?_
  refine ze_aload_n kc_184_19 rfl ?_
  refine ze_alen1 kc_184_20 ?_
  rw [hla]
  refine ze_bipush kc_184_21 ?_
  refine ze_isub kc_184_23 ?_
  refine ze_icmp_gt kc_184_24 (by omega) (by omega) (fun h24 => ?_) (fun h24 => ?_)
  · refine ze_iconst kc_184_1396 ?_
    refine ze_ireturn kc_184_1397 (by decide) ?_
    exact rfl
  · refine law_step hLn hxr hx0 (by omega) hI (fun A' Z' hI' => ?_)
    refine ze_iinc kc_184_1390 rfl ?_
    simp only [zset1, zset2, zcut, zf0, zf1, zf2, zf3, List.set_cons_zero, List.set_cons_succ, List.getD_cons_zero, List.getD_cons_succ]
    refine ze_goto kc_184_1393 ?_
    exact ih _ (by omega) A' Z' (x + 6) rfl (by omega) (by omega) hI'
theorem zgoal : zGoal := by
  intro xs Ln hLn hxr
  have h : zN 184 0 [some (zR 1001), none, none, none] [] ([], [], zini xs Ln) (fun v M => v = some (zI 1) ∧ M.1 = zTT) := zinit (fun Z hZ => zE_mono (law_loop hLn hxr _ zA0 Z 0 rfl (by omega) (by omega) (zInv_0 hZ)) (fun v Z' hv => ⟨hv, rfl⟩))
  rw [zN_iff] at h
  obtain ⟨f, v, M', h1, h2, h3⟩ := h
  subst h2
  refine ⟨f, M', h1, ?_, ?_⟩
  · rw [h3]; decide +kernel
  · rw [h3]; decide +kernel
