theorem zrecv_s {z : Nat} {M : zM} {vs : List zAV} (h : (zps z).2.2.2.2.2 = 1) : zrecv z M vs = true := by
  unfold zrecv
  rw [if_pos h]
theorem zE_calls {y pc : Nat} {L : zLs} {Z : zMem} {Q : Option zAV → zMem → Prop} {I : Instr} {n : Nat} {r : zRes} {st : List zAV} (k : Nat) (hc : zcode y pc = some (I, n, r)) (hk : zkind I r = 2) (ht : ztake r.1 = k) (hl : k ≤ st.length) (hs : ((st.drop k).map zcat).sum ≤ 8) (hm : (zsl (st.take k).reverse).length ≤ zml r.1) (hz : (zps r.1).2.2.2.2.2 = 1)
    (h : zE r.1 0 (zent r.1 (st.take k).reverse) [] Z (fun v Z' => zE y (pc + n) L (v.toList ++ st.drop k) Z' Q)) : zE y pc L st Z Q :=
  zE_call k hc hk ht (by rw [List.reverse_reverse]) hl hs hm (zrecv_s hz) h
theorem zE_callv {y pc : Nat} {L : zLs} {Z : zMem} {Q : Option zAV → zMem → Prop} {I : Instr} {n : Nat} {r : zRes} {st : List zAV} {o c : Nat} {as : List zAV} (k : Nat) (hc : zcode y pc = some (I, n, r)) (hk : zkind I r = 2) (ht : ztake r.1 = k) (hl : k ≤ st.length) (hs : ((st.drop k).map zcat).sum ≤ 8) (hm : (zsl (st.take k).reverse).length ≤ zml r.1) (hT : zTT[o]? = some (c, 0)) (hcz : c < 9 ∧ (zcls c).1 = (zname r.1).cls) (hrv : (st.take k).reverse = zR o :: as)
    (h : zE r.1 0 (zent r.1 (st.take k).reverse) [] Z (fun v Z' => zE y (pc + n) L (v.toList ++ st.drop k) Z' Q)) : zE y pc L st Z Q := by
  refine zE_call k hc hk ht (by rw [List.reverse_reverse]) hl hs hm ?_ h
  rw [hrv]
  unfold zrecv
  split
  · rfl
  · dsimp only
    rw [hT]
    exact decide_eq_true hcz
set_option maxHeartbeats 4000000 in
theorem m_isClaim {Z : zMem} {Q : Option zAV → zMem → Prop} {v : Int} (hv : -2147483648 ≤ v ∧ v ≤ 2147483647) (q1 : 1 ≤ v ∧ v ≤ 60 → Q (some (zI 1)) Z) (q2 : ¬ (1 ≤ v ∧ v ≤ 60) → Q (some (zI 0)) Z) : zE 84 0 (zent 84 [zI v]) [] Z Q := by
  show zE 84 0 [some (zI v)] [] Z Q
  refine ze_iload_n kc_84_0 rfl ?_
  refine ze_iconst kc_84_1 ?_
  refine ze_icmp_lt kc_84_2 (by omega) (by omega) (fun h2 => ?_) (fun h2 => ?_)
  · skip
    refine ze_iconst kc_84_15 ?_
    refine ze_ireturn kc_84_16 (by decide) ?_
    first | exact q1 (by omega) | exact q2 (by omega) | exact q3 (by omega) | exact q4 (by omega)
  · skip
    refine ze_iload_n kc_84_5 rfl ?_
    refine ze_bipush kc_84_6 ?_
    refine ze_icmp_gt kc_84_8 (by omega) (by omega) (fun h8 => ?_) (fun h8 => ?_)
    · skip
      refine ze_iconst kc_84_15 ?_
      refine ze_ireturn kc_84_16 (by decide) ?_
      first | exact q1 (by omega) | exact q2 (by omega) | exact q3 (by omega) | exact q4 (by omega)
    · skip
      refine ze_iconst kc_84_11 ?_
      refine ze_goto kc_84_12 ?_
      refine ze_ireturn kc_84_16 (by decide) ?_
      first | exact q1 (by omega) | exact q2 (by omega) | exact q3 (by omega) | exact q4 (by omega)

set_option maxHeartbeats 4000000 in
theorem m_isEstate {Z : zMem} {Q : Option zAV → zMem → Prop} {v : Int} (hv : -2147483648 ≤ v ∧ v ≤ 2147483647) (q1 : 0 ≤ v ∧ v ≤ 360 → Q (some (zI 1)) Z) (q2 : ¬ (0 ≤ v ∧ v ≤ 360) → Q (some (zI 0)) Z) : zE 85 0 (zent 85 [zI v]) [] Z Q := by
  show zE 85 0 [some (zI v)] [] Z Q
  refine ze_iload_n kc_85_0 rfl ?_
  refine ze_if_lt kc_85_1 (by omega) (fun h1 => ?_) (fun h1 => ?_)
  · skip
    refine ze_iconst kc_85_15 ?_
    refine ze_ireturn kc_85_16 (by decide) ?_
    first | exact q1 (by omega) | exact q2 (by omega) | exact q3 (by omega) | exact q4 (by omega)
  · skip
    refine ze_iload_n kc_85_4 rfl ?_
    refine ze_sipush kc_85_5 ?_
    refine ze_icmp_gt kc_85_8 (by omega) (by omega) (fun h8 => ?_) (fun h8 => ?_)
    · skip
      refine ze_iconst kc_85_15 ?_
      refine ze_ireturn kc_85_16 (by decide) ?_
      first | exact q1 (by omega) | exact q2 (by omega) | exact q3 (by omega) | exact q4 (by omega)
    · skip
      refine ze_iconst kc_85_11 ?_
      refine ze_goto kc_85_12 ?_
      refine ze_ireturn kc_85_16 (by decide) ?_
      first | exact q1 (by omega) | exact q2 (by omega) | exact q3 (by omega) | exact q4 (by omega)

set_option maxHeartbeats 4000000 in
theorem m_isRule {Z : zMem} {Q : Option zAV → zMem → Prop} {v : Int} (hv : -2147483648 ≤ v ∧ v ≤ 2147483647) (q1 : 0 ≤ v ∧ v < 6 → Q (some (zI 1)) Z) (q2 : ¬ (0 ≤ v ∧ v < 6) → Q (some (zI 0)) Z) : zE 86 0 (zent 86 [zI v]) [] Z Q := by
  show zE 86 0 [some (zI v)] [] Z Q
  refine ze_iload_n kc_86_0 rfl ?_
  refine ze_if_lt kc_86_1 (by omega) (fun h1 => ?_) (fun h1 => ?_)
  · skip
    refine ze_iconst kc_86_14 ?_
    refine ze_ireturn kc_86_15 (by decide) ?_
    first | exact q1 (by omega) | exact q2 (by omega) | exact q3 (by omega) | exact q4 (by omega)
  · skip
    refine ze_iload_n kc_86_4 rfl ?_
    refine ze_bipush kc_86_5 ?_
    refine ze_icmp_ge kc_86_7 (by omega) (by omega) (fun h7 => ?_) (fun h7 => ?_)
    · skip
      refine ze_iconst kc_86_14 ?_
      refine ze_ireturn kc_86_15 (by decide) ?_
      first | exact q1 (by omega) | exact q2 (by omega) | exact q3 (by omega) | exact q4 (by omega)
    · skip
      refine ze_iconst kc_86_10 ?_
      refine ze_goto kc_86_11 ?_
      refine ze_ireturn kc_86_15 (by decide) ?_
      first | exact q1 (by omega) | exact q2 (by omega) | exact q3 (by omega) | exact q4 (by omega)

set_option maxHeartbeats 4000000 in
theorem m_isPart {Z : zMem} {Q : Option zAV → zMem → Prop} {v : Int} (hv : -2147483648 ≤ v ∧ v ≤ 2147483647) (q1 : v = 0 ∨ v = 1 → Q (some (zI 1)) Z) (q2 : ¬ (v = 0 ∨ v = 1) → Q (some (zI 0)) Z) : zE 87 0 (zent 87 [zI v]) [] Z Q := by
  show zE 87 0 [some (zI v)] [] Z Q
  refine ze_iload_n kc_87_0 rfl ?_
  refine ze_if_eq kc_87_1 (by omega) (fun h1 => ?_) (fun h1 => ?_)
  · skip
    refine ze_iconst kc_87_9 ?_
    refine ze_goto kc_87_10 ?_
    refine ze_ireturn kc_87_14 (by decide) ?_
    first | exact q1 (by omega) | exact q2 (by omega) | exact q3 (by omega) | exact q4 (by omega)
  · skip
    refine ze_iload_n kc_87_4 rfl ?_
    refine ze_iconst kc_87_5 ?_
    refine ze_icmp_ne kc_87_6 (by omega) (by omega) (fun h6 => ?_) (fun h6 => ?_)
    · skip
      refine ze_iconst kc_87_13 ?_
      refine ze_ireturn kc_87_14 (by decide) ?_
      first | exact q1 (by omega) | exact q2 (by omega) | exact q3 (by omega) | exact q4 (by omega)
    · skip
      refine ze_iconst kc_87_9 ?_
      refine ze_goto kc_87_10 ?_
      refine ze_ireturn kc_87_14 (by decide) ?_
      first | exact q1 (by omega) | exact q2 (by omega) | exact q3 (by omega) | exact q4 (by omega)

set_option maxHeartbeats 4000000 in
theorem m_isPourable {Z : zMem} {Q : Option zAV → zMem → Prop} {v n : Int} (hv : -2147483648 ≤ v ∧ v ≤ 2147483647) (hn : -2147483648 ≤ n ∧ n ≤ 2147483647) (q1 : 0 ≤ v ∧ v ≤ 4 ∧ 1 ≤ n ∧ n ≤ 60 → Q (some (zI 1)) Z) (q2 : ¬ (0 ≤ v ∧ v ≤ 4 ∧ 1 ≤ n ∧ n ≤ 60) → Q (some (zI 0)) Z) : zE 88 0 (zent 88 [zI v, zI n]) [] Z Q := by
  show zE 88 0 [some (zI v), some (zI n)] [] Z Q
  refine ze_iload_n kc_88_0 rfl ?_
  refine ze_if_lt kc_88_1 (by omega) (fun h1 => ?_) (fun h1 => ?_)
  · skip
    refine ze_iconst kc_88_24 ?_
    refine ze_ireturn kc_88_25 (by decide) ?_
    first | exact q1 (by omega) | exact q2 (by omega) | exact q3 (by omega) | exact q4 (by omega)
  · skip
    refine ze_iload_n kc_88_4 rfl ?_
    refine ze_iconst kc_88_5 ?_
    refine ze_icmp_gt kc_88_6 (by omega) (by omega) (fun h6 => ?_) (fun h6 => ?_)
    · skip
      refine ze_iconst kc_88_24 ?_
      refine ze_ireturn kc_88_25 (by decide) ?_
      first | exact q1 (by omega) | exact q2 (by omega) | exact q3 (by omega) | exact q4 (by omega)
    · skip
      refine ze_iload_n kc_88_9 rfl ?_
      refine ze_iconst kc_88_10 ?_
      refine ze_icmp_lt kc_88_11 (by omega) (by omega) (fun h11 => ?_) (fun h11 => ?_)
      · skip
        refine ze_iconst kc_88_24 ?_
        refine ze_ireturn kc_88_25 (by decide) ?_
        first | exact q1 (by omega) | exact q2 (by omega) | exact q3 (by omega) | exact q4 (by omega)
      · skip
        refine ze_iload_n kc_88_14 rfl ?_
        refine ze_bipush kc_88_15 ?_
        refine ze_icmp_gt kc_88_17 (by omega) (by omega) (fun h17 => ?_) (fun h17 => ?_)
        · skip
          refine ze_iconst kc_88_24 ?_
          refine ze_ireturn kc_88_25 (by decide) ?_
          first | exact q1 (by omega) | exact q2 (by omega) | exact q3 (by omega) | exact q4 (by omega)
        · skip
          refine ze_iconst kc_88_20 ?_
          refine ze_goto kc_88_21 ?_
          refine ze_ireturn kc_88_25 (by decide) ?_
          first | exact q1 (by omega) | exact q2 (by omega) | exact q3 (by omega) | exact q4 (by omega)

set_option maxHeartbeats 4000000 in
theorem m_isTape {Z : zMem} {Q : Option zAV → zMem → Prop} {v : Int} (hv : -2147483648 ≤ v ∧ v ≤ 2147483647) (q1 : 0 ≤ v ∧ v < 6 → Q (some (zI 1)) Z) (q2 : ¬ (0 ≤ v ∧ v < 6) → Q (some (zI 0)) Z) : zE 89 0 (zent 89 [zI v]) [] Z Q := by
  show zE 89 0 [some (zI v)] [] Z Q
  refine ze_iload_n kc_89_0 rfl ?_
  refine ze_if_lt kc_89_1 (by omega) (fun h1 => ?_) (fun h1 => ?_)
  · skip
    refine ze_iconst kc_89_14 ?_
    refine ze_ireturn kc_89_15 (by decide) ?_
    first | exact q1 (by omega) | exact q2 (by omega) | exact q3 (by omega) | exact q4 (by omega)
  · skip
    refine ze_iload_n kc_89_4 rfl ?_
    refine ze_bipush kc_89_5 ?_
    refine ze_icmp_ge kc_89_7 (by omega) (by omega) (fun h7 => ?_) (fun h7 => ?_)
    · skip
      refine ze_iconst kc_89_14 ?_
      refine ze_ireturn kc_89_15 (by decide) ?_
      first | exact q1 (by omega) | exact q2 (by omega) | exact q3 (by omega) | exact q4 (by omega)
    · skip
      refine ze_iconst kc_89_10 ?_
      refine ze_goto kc_89_11 ?_
      refine ze_ireturn kc_89_15 (by decide) ?_
      first | exact q1 (by omega) | exact q2 (by omega) | exact q3 (by omega) | exact q4 (by omega)
