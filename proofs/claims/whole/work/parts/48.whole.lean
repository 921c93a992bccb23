/-! THE WHOLE STATE, class and plain form side by side -/
abbrev zAll : Type := zKr × (Nat × (Nat → Int)) × zTps × Option zKr
def zX (A : zAll) (Z : zMem) : Prop := zRwsX A.1 Z ∧ zTxX A.2.1.1 A.2.1.2 Z ∧ zTpX A.2.2.1 Z ∧ zImX A.2.2.2 Z
def zY (A : zAll) (Z : zMem) : Prop := zRwsM A.1 Z ∧ zTxM A.2.1.1 A.2.1.2 Z ∧ zTpM A.2.2.1 Z ∧ zImM A.2.2.2 Z
def zOkK (K : zKr) : Prop := zRok K.1.1 K.2.1 ∧ zEok K.1.1 K.2.2.1 ∧ zRok K.1.1 K.2.2.2
def zOkA (A : zAll) : Prop := zOkK A.1 ∧ ∀ K, A.2.2.2 = some K → zOkK K
theorem zTxX_same {L : Nat} {t : Nat → Int} {Z Z' : zMem} (h : zTxX L t Z) (h1 : Z' 29 1 = Z 29 1) (h2 : Z' 30 = Z 30) : zTxX L t Z' := by
  unfold zTxX at h ⊢
  rw [h1, h2]
  exact h
theorem zTxM_same {L : Nat} {t : Nat → Int} {Z Z' : zMem} (h : zTxM L t Z) (h1 : Z' 63 14 = Z 63 14) (h2 : Z' 71 = Z 71) : zTxM L t Z' := by
  unfold zTxM at h ⊢
  rw [h1, h2]
  exact h
theorem zImX_same {I : Option zKr} {Z Z' : zMem} (h : zImX I Z) (hf : ∀ k, 35 ≤ k → k ≤ 50 → Z' k = Z k) : zImX I Z' := by
  obtain ⟨h1, h2, h3⟩ := h
  refine ⟨?_, fun q => ?_, fun K q => ?_⟩
  · rw [hf 40 (by decide) (by decide), hf 42 (by decide) (by decide), hf 45 (by decide) (by decide), hf 48 (by decide) (by decide)]
    exact h1
  · rw [hf 35 (by decide) (by decide)]
    exact h2 q
  · obtain ⟨g1, g2, g3, g4, g5⟩ := h3 K q
    exact ⟨by rw [hf 35 (by decide) (by decide)]; exact g1, zSU_same g2 (fun k a b => hf k (by omega) (by omega)), zRw_same g3 (fun k a b => hf k (by omega) (by omega)), zRw_same g4 (fun k a b => hf k (by omega) (by omega)), zRw_same g5 (fun k a b => hf k (by omega) (by omega))⟩
theorem zImM_same {I : Option zKr} {Z Z' : zMem} (h : zImM I Z) (h1 : Z' 63 17 = Z 63 17) (h2 : Z' 72 = Z 72) : zImM I Z' := by
  obtain ⟨g1, g2⟩ := h
  refine ⟨fun q => by rw [h1]; exact g1 q, fun K q => ?_⟩
  obtain ⟨g3, g4⟩ := g2 K q
  refine ⟨by rw [h1]; exact g3, ?_⟩
  unfold zKd at g4 ⊢
  rw [h2]
  exact g4
theorem zCl_S {S : zS4} {Z Z' : zMem} (h : zClS S Z) (hf : ∀ k, 1 ≤ k → k ≤ 5 → Z' k = Z k) (h11 : Z' 11 = Z 11) (h16 : Z' 16 = Z 16) : zClS S Z' := ⟨zSU_same h.1 (fun k a b => hf k (by omega) (by omega)), by rw [h11]; exact h.2.1, by rw [h16]; exact h.2.2⟩
theorem zMo_S {S : zS4} {Z Z' : zMem} (h : zMoS S Z) (h64 : Z' 64 = Z 64) (h0 : Z' 63 0 = Z 63 0) (h2 : Z' 63 2 = Z 63 2) (h3 : Z' 63 3 = Z 63 3) : zMoS S Z' := by
  unfold zMoS zMo at h ⊢
  rw [h64, h0, h2, h3]
  exact h
/-- the class's part is left alone -/
theorem zX_fr {A : zAll} {Z Z' : zMem} (h : zX A Z) (hf : ∀ k, k < 63 → Z' k = Z k) : zX A Z' := by
  obtain ⟨⟨a1, a2, a3, a4⟩, h2, h3, h4⟩ := h
  exact ⟨⟨zCl_S a1 (fun k _ b => hf k (by omega)) (hf 11 (by decide)) (hf 16 (by decide)), zRw_same a2 (fun k a b => hf k (by omega)), zRw_same a3 (fun k a b => hf k (by omega)), zRw_same a4 (fun k a b => hf k (by omega))⟩, zTxX_same h2 (by rw [hf 29 (by decide)]) (hf 30 (by decide)), zTpX_same h3 (fun k a b => hf k (by omega)), zImX_same h4 (fun k a b => hf k (by omega))⟩
theorem zY_fr {A : zAll} {Z Z' : zMem} (h : zY A Z) (hf : ∀ k, 63 ≤ k → k < 80 → Z' k = Z k) : zY A Z' := by
  obtain ⟨⟨a1, a2, a3, a4⟩, h2, h3, h4⟩ := h
  have e := hf 63 (by decide) (by decide)
  exact ⟨⟨zMo_S a1 (hf 64 (by decide) (by decide)) (by rw [e]) (by rw [e]) (by rw [e]), zRwM_same a2 (by rw [e]) (hf 65 (by decide) (by decide)) (hf 66 (by decide) (by decide)), zRwM_same a3 (by rw [e]) (hf 67 (by decide) (by decide)) (hf 68 (by decide) (by decide)), zRwM_same a4 (by rw [e]) (hf 69 (by decide) (by decide)) (hf 70 (by decide) (by decide))⟩, zTxM_same h2 (by rw [e]) (hf 71 (by decide) (by decide)), zTpM_same h3 (hf 76 (by decide) (by decide)) (hf 77 (by decide) (by decide)) (hf 78 (by decide) (by decide)), zImM_same h4 (by rw [e]) (hf 72 (by decide) (by decide))⟩
theorem zX_q {A : zAll} {Z Z' : zMem} (h : zX A Z) (q : zFq Z Z') : zX A Z' := by
  obtain ⟨⟨a1, a2, a3, a4⟩, h2, h3, h4⟩ := h
  have hf : ∀ k, k < 6 ∨ 19 < k → k < 63 → Z' k = Z k := fun k a b => q.1 k a (by omega) (by omega) (by omega) (by omega)
  exact ⟨⟨zCl_q a1 q, zRw_same a2 (fun k a b => hf k (by omega) (by omega)), zRw_same a3 (fun k a b => hf k (by omega) (by omega)), zRw_same a4 (fun k a b => hf k (by omega) (by omega))⟩, zTxX_same h2 (by rw [hf 29 (by decide) (by decide)]) (hf 30 (by decide) (by decide)), zTpX_same h3 (fun k a b => hf k (by omega) (by omega)), zImX_same h4 (fun k a b => hf k (by omega) (by omega))⟩
theorem zY_q {A : zAll} {Z Z' : zMem} (h : zY A Z) (q : zFq Z Z') : zY A Z' := by
  obtain ⟨⟨a1, a2, a3, a4⟩, h2, h3, h4⟩ := h
  have hf : ∀ k, 19 < k → k ≠ 63 → k ≠ 73 → k ≠ 74 → k ≠ 75 → Z' k = Z k := fun k a b d e g => q.1 k (by omega) b d e g
  have he : ∀ j, j ≠ 18 → j ≠ 19 → j ≠ 22 → j ≠ 23 → j ≠ 26 → Z' 63 j = Z 63 j := q.2.1
  exact ⟨⟨zMo_q a1 q, zRwM_same a2 (he 4 (by decide) (by decide) (by decide) (by decide) (by decide)) (hf 65 (by decide) (by decide) (by decide) (by decide) (by decide)) (hf 66 (by decide) (by decide) (by decide) (by decide) (by decide)), zRwM_same a3 (he 7 (by decide) (by decide) (by decide) (by decide) (by decide)) (hf 67 (by decide) (by decide) (by decide) (by decide) (by decide)) (hf 68 (by decide) (by decide) (by decide) (by decide) (by decide)), zRwM_same a4 (he 10 (by decide) (by decide) (by decide) (by decide) (by decide)) (hf 69 (by decide) (by decide) (by decide) (by decide) (by decide)) (hf 70 (by decide) (by decide) (by decide) (by decide) (by decide))⟩, zTxM_same h2 (he 14 (by decide) (by decide) (by decide) (by decide) (by decide)) (hf 71 (by decide) (by decide) (by decide) (by decide) (by decide)), zTpM_same h3 (hf 76 (by decide) (by decide) (by decide) (by decide) (by decide)) (hf 77 (by decide) (by decide) (by decide) (by decide) (by decide)) (hf 78 (by decide) (by decide) (by decide) (by decide) (by decide)), zImM_same h4 (he 17 (by decide) (by decide) (by decide) (by decide) (by decide)) (hf 72 (by decide) (by decide) (by decide) (by decide) (by decide))⟩
section ZX
variable {S S' : zS4} {R1 R2 R3 R' : zRs} {T T' : Nat × (Nat → Int)} {P P' : zTps} {I : Option zKr} {Z Z' : zMem}
theorem zX_S (h : zX ((S, R1, R2, R3), T, P, I) Z) (h1 : zClS S' Z') (hf : zFS Z Z') : zX ((S', R1, R2, R3), T, P, I) Z' := by
  obtain ⟨⟨a1, a2, a3, a4⟩, h2, h3, h4⟩ := h
  exact ⟨⟨h1, zRw_same a2 (fun k a b => hf k (by omega)), zRw_same a3 (fun k a b => hf k (by omega)), zRw_same a4 (fun k a b => hf k (by omega))⟩, zTxX_same h2 (by rw [hf 29 (by decide)]) (hf 30 (by decide)), zTpX_same h3 (fun k a b => hf k (by omega)), zImX_same h4 (fun k a b => hf k (by omega))⟩
theorem zX_read (h : zX ((S, R1, R2, R3), T, P, I) Z) (h1 : zClS S' Z') (h2 : zTxX 0 T.2 Z') (hf : ∀ i, i < 1 ∨ 5 < i → i ≠ 29 → i ≠ 31 → i ≠ 32 → i ≠ 33 → Z' i = Z i) : zX ((S', R1, R2, R3), (0, T.2), P, I) Z' := by
  obtain ⟨⟨a1, a2, a3, a4⟩, -, h3, h4⟩ := h
  exact ⟨⟨h1, zRw_same a2 (fun k a b => hf k (by omega) (by omega) (by omega) (by omega) (by omega)), zRw_same a3 (fun k a b => hf k (by omega) (by omega) (by omega) (by omega) (by omega)), zRw_same a4 (fun k a b => hf k (by omega) (by omega) (by omega) (by omega) (by omega))⟩, h2, zTpX_same h3 (fun k a b => hf k (by omega) (by omega) (by omega) (by omega) (by omega)), zImX_same h4 (fun k a b => hf k (by omega) (by omega) (by omega) (by omega) (by omega))⟩
theorem zX_R1 (h : zX ((S, R1, R2, R3), T, P, I) Z) (h1 : zRwX 20 5 R' Z') (hf : ∀ k, k < 20 ∨ 20 + 2 < k → Z' k = Z k) : zX ((S, R', R2, R3), T, P, I) Z' := by
  obtain ⟨⟨a1, a2, a3, a4⟩, h2, h3, h4⟩ := h
  exact ⟨⟨zCl_S a1 (fun k _ b => hf k (by omega)) (hf 11 (by decide)) (hf 16 (by decide)), h1, zRw_same a3 (fun k a b => hf k (by omega)), zRw_same a4 (fun k a b => hf k (by omega))⟩, zTxX_same h2 (by rw [hf 29 (by decide)]) (hf 30 (by decide)), zTpX_same h3 (fun k a b => hf k (by omega)), zImX_same h4 (fun k a b => hf k (by omega))⟩
theorem zX_R2 (h : zX ((S, R1, R2, R3), T, P, I) Z) (h1 : zRwX 23 8 R' Z') (hf : ∀ k, k < 23 ∨ 23 + 2 < k → Z' k = Z k) : zX ((S, R1, R', R3), T, P, I) Z' := by
  obtain ⟨⟨a1, a2, a3, a4⟩, h2, h3, h4⟩ := h
  exact ⟨⟨zCl_S a1 (fun k _ b => hf k (by omega)) (hf 11 (by decide)) (hf 16 (by decide)), zRw_same a2 (fun k a b => hf k (by omega)), h1, zRw_same a4 (fun k a b => hf k (by omega))⟩, zTxX_same h2 (by rw [hf 29 (by decide)]) (hf 30 (by decide)), zTpX_same h3 (fun k a b => hf k (by omega)), zImX_same h4 (fun k a b => hf k (by omega))⟩
theorem zX_R3 (h : zX ((S, R1, R2, R3), T, P, I) Z) (h1 : zRwX 26 8 R' Z') (hf : ∀ k, k < 26 ∨ 26 + 2 < k → Z' k = Z k) : zX ((S, R1, R2, R'), T, P, I) Z' := by
  obtain ⟨⟨a1, a2, a3, a4⟩, h2, h3, h4⟩ := h
  exact ⟨⟨zCl_S a1 (fun k _ b => hf k (by omega)) (hf 11 (by decide)) (hf 16 (by decide)), zRw_same a2 (fun k a b => hf k (by omega)), zRw_same a3 (fun k a b => hf k (by omega)), h1⟩, zTxX_same h2 (by rw [hf 29 (by decide)]) (hf 30 (by decide)), zTpX_same h3 (fun k a b => hf k (by omega)), zImX_same h4 (fun k a b => hf k (by omega))⟩
theorem zX_T (h : zX ((S, R1, R2, R3), T, P, I) Z) (h1 : zTxX T'.1 T'.2 Z') (hf : ∀ k, k ≠ 29 → k ≠ 30 → Z' k = Z k) : zX ((S, R1, R2, R3), T', P, I) Z' := by
  obtain ⟨⟨a1, a2, a3, a4⟩, h2, h3, h4⟩ := h
  exact ⟨⟨zCl_S a1 (fun k _ b => hf k (by omega) (by omega)) (hf 11 (by decide) (by decide)) (hf 16 (by decide) (by decide)), zRw_same a2 (fun k a b => hf k (by omega) (by omega)), zRw_same a3 (fun k a b => hf k (by omega) (by omega)), zRw_same a4 (fun k a b => hf k (by omega) (by omega))⟩, h1, zTpX_same h3 (fun k a b => hf k (by omega) (by omega)), zImX_same h4 (fun k a b => hf k (by omega) (by omega))⟩
theorem zX_P (h : zX ((S, R1, R2, R3), T, P, I) Z) (h1 : zTpX P' Z') (hf : ∀ k, k < 51 ∨ 62 < k → Z' k = Z k) : zX ((S, R1, R2, R3), T, P', I) Z' := by
  obtain ⟨⟨a1, a2, a3, a4⟩, h2, h3, h4⟩ := h
  exact ⟨⟨zCl_S a1 (fun k _ b => hf k (by omega)) (hf 11 (by decide)) (hf 16 (by decide)), zRw_same a2 (fun k a b => hf k (by omega)), zRw_same a3 (fun k a b => hf k (by omega)), zRw_same a4 (fun k a b => hf k (by omega))⟩, zTxX_same h2 (by rw [hf 29 (by decide)]) (hf 30 (by decide)), h1, zImX_same h4 (fun k a b => hf k (by omega))⟩
theorem zX_I {I' : Option zKr} (h : zX ((S, R1, R2, R3), T, P, I) Z) (h1 : zImX I' Z') (hf : ∀ k, k < 35 ∨ 50 < k → Z' k = Z k) : zX ((S, R1, R2, R3), T, P, I') Z' := by
  obtain ⟨⟨a1, a2, a3, a4⟩, h2, h3, h4⟩ := h
  exact ⟨⟨zCl_S a1 (fun k _ b => hf k (by omega)) (hf 11 (by decide)) (hf 16 (by decide)), zRw_same a2 (fun k a b => hf k (by omega)), zRw_same a3 (fun k a b => hf k (by omega)), zRw_same a4 (fun k a b => hf k (by omega))⟩, zTxX_same h2 (by rw [hf 29 (by decide)]) (hf 30 (by decide)), zTpX_same h3 (fun k a b => hf k (by omega)), h1⟩
theorem zX_U {K K' : zKr} (h : zX (K, T, P, I) Z) (h1 : zRwsX K' Z') (hf : ∀ k, k < 1 ∨ 28 < k → Z' k = Z k) : zX (K', T, P, I) Z' := by
  obtain ⟨-, h2, h3, h4⟩ := h
  exact ⟨h1, zTxX_same h2 (by rw [hf 29 (by decide)]) (hf 30 (by decide)), zTpX_same h3 (fun k a b => hf k (by omega)), zImX_same h4 (fun k a b => hf k (by omega))⟩
theorem zY_S (h : zY ((S, R1, R2, R3), T, P, I) Z) (h1 : zMoS S' Z') (hf : zFSm Z Z') : zY ((S', R1, R2, R3), T, P, I) Z' := by
  obtain ⟨⟨a1, a2, a3, a4⟩, h2, h3, h4⟩ := h
  obtain ⟨f, g⟩ := hf
  exact ⟨⟨h1, zRwM_same a2 (g 4 (by decide) (by decide) (by decide)) (f 65 (by decide) (by decide)) (f 66 (by decide) (by decide)), zRwM_same a3 (g 7 (by decide) (by decide) (by decide)) (f 67 (by decide) (by decide)) (f 68 (by decide) (by decide)), zRwM_same a4 (g 10 (by decide) (by decide) (by decide)) (f 69 (by decide) (by decide)) (f 70 (by decide) (by decide))⟩, zTxM_same h2 (g 14 (by decide) (by decide) (by decide)) (f 71 (by decide) (by decide)), zTpM_same h3 (f 76 (by decide) (by decide)) (f 77 (by decide) (by decide)) (f 78 (by decide) (by decide)), zImM_same h4 (g 17 (by decide) (by decide) (by decide)) (f 72 (by decide) (by decide))⟩
theorem zY_read (h : zY ((S, R1, R2, R3), T, P, I) Z) (h1 : zMoS S' Z') (h2 : zTxM 0 T.2 Z') (hf : (∀ i, i ≠ 63 → i ≠ 64 → Z' i = Z i) ∧ (∀ j, j ≠ 0 → j ≠ 2 → j ≠ 3 → j ≠ 14 → j ≠ 20 → j ≠ 21 → Z' 63 j = Z 63 j)) : zY ((S', R1, R2, R3), (0, T.2), P, I) Z' := by
  obtain ⟨⟨a1, a2, a3, a4⟩, -, h3, h4⟩ := h
  obtain ⟨f, g⟩ := hf
  exact ⟨⟨h1, zRwM_same a2 (g 4 (by decide) (by decide) (by decide) (by decide) (by decide) (by decide)) (f 65 (by decide) (by decide)) (f 66 (by decide) (by decide)), zRwM_same a3 (g 7 (by decide) (by decide) (by decide) (by decide) (by decide) (by decide)) (f 67 (by decide) (by decide)) (f 68 (by decide) (by decide)), zRwM_same a4 (g 10 (by decide) (by decide) (by decide) (by decide) (by decide) (by decide)) (f 69 (by decide) (by decide)) (f 70 (by decide) (by decide))⟩, h2, zTpM_same h3 (f 76 (by decide) (by decide)) (f 77 (by decide) (by decide)) (f 78 (by decide) (by decide)), zImM_same h4 (g 17 (by decide) (by decide) (by decide) (by decide) (by decide) (by decide)) (f 72 (by decide) (by decide))⟩
theorem zY_R1 (h : zY ((S, R1, R2, R3), T, P, I) Z) (h1 : zRwM 4 65 66 5 R' Z') (hf : zFRm 4 65 66 Z Z') : zY ((S, R', R2, R3), T, P, I) Z' := by
  obtain ⟨⟨a1, a2, a3, a4⟩, h2, h3, h4⟩ := h
  obtain ⟨f, g⟩ := hf
  exact ⟨⟨zMo_S a1 (f 64 (by decide) (by decide) (by decide)) (g 0 (by decide)) (g 2 (by decide)) (g 3 (by decide)), h1, zRwM_same a3 (g 7 (by decide)) (f 67 (by decide) (by decide) (by decide)) (f 68 (by decide) (by decide) (by decide)), zRwM_same a4 (g 10 (by decide)) (f 69 (by decide) (by decide) (by decide)) (f 70 (by decide) (by decide) (by decide))⟩, zTxM_same h2 (g 14 (by decide)) (f 71 (by decide) (by decide) (by decide)), zTpM_same h3 (f 76 (by decide) (by decide) (by decide)) (f 77 (by decide) (by decide) (by decide)) (f 78 (by decide) (by decide) (by decide)), zImM_same h4 (g 17 (by decide)) (f 72 (by decide) (by decide) (by decide))⟩
theorem zY_R2 (h : zY ((S, R1, R2, R3), T, P, I) Z) (h1 : zRwM 7 67 68 8 R' Z') (hf : zFRm 7 67 68 Z Z') : zY ((S, R1, R', R3), T, P, I) Z' := by
  obtain ⟨⟨a1, a2, a3, a4⟩, h2, h3, h4⟩ := h
  obtain ⟨f, g⟩ := hf
  exact ⟨⟨zMo_S a1 (f 64 (by decide) (by decide) (by decide)) (g 0 (by decide)) (g 2 (by decide)) (g 3 (by decide)), zRwM_same a2 (g 4 (by decide)) (f 65 (by decide) (by decide) (by decide)) (f 66 (by decide) (by decide) (by decide)), h1, zRwM_same a4 (g 10 (by decide)) (f 69 (by decide) (by decide) (by decide)) (f 70 (by decide) (by decide) (by decide))⟩, zTxM_same h2 (g 14 (by decide)) (f 71 (by decide) (by decide) (by decide)), zTpM_same h3 (f 76 (by decide) (by decide) (by decide)) (f 77 (by decide) (by decide) (by decide)) (f 78 (by decide) (by decide) (by decide)), zImM_same h4 (g 17 (by decide)) (f 72 (by decide) (by decide) (by decide))⟩
theorem zY_R3 (h : zY ((S, R1, R2, R3), T, P, I) Z) (h1 : zRwM 10 69 70 8 R' Z') (hf : zFRm 10 69 70 Z Z') : zY ((S, R1, R2, R'), T, P, I) Z' := by
  obtain ⟨⟨a1, a2, a3, a4⟩, h2, h3, h4⟩ := h
  obtain ⟨f, g⟩ := hf
  exact ⟨⟨zMo_S a1 (f 64 (by decide) (by decide) (by decide)) (g 0 (by decide)) (g 2 (by decide)) (g 3 (by decide)), zRwM_same a2 (g 4 (by decide)) (f 65 (by decide) (by decide) (by decide)) (f 66 (by decide) (by decide) (by decide)), zRwM_same a3 (g 7 (by decide)) (f 67 (by decide) (by decide) (by decide)) (f 68 (by decide) (by decide) (by decide)), h1⟩, zTxM_same h2 (g 14 (by decide)) (f 71 (by decide) (by decide) (by decide)), zTpM_same h3 (f 76 (by decide) (by decide) (by decide)) (f 77 (by decide) (by decide) (by decide)) (f 78 (by decide) (by decide) (by decide)), zImM_same h4 (g 17 (by decide)) (f 72 (by decide) (by decide) (by decide))⟩
theorem zY_T (h : zY ((S, R1, R2, R3), T, P, I) Z) (h1 : zTxM T'.1 T'.2 Z') (hf : (∀ k, k ≠ 63 → k ≠ 71 → Z' k = Z k) ∧ ∀ j, j ≠ 14 → Z' 63 j = Z 63 j) : zY ((S, R1, R2, R3), T', P, I) Z' := by
  obtain ⟨⟨a1, a2, a3, a4⟩, h2, h3, h4⟩ := h
  obtain ⟨f, g⟩ := hf
  exact ⟨⟨zMo_S a1 (f 64 (by decide) (by decide)) (g 0 (by decide)) (g 2 (by decide)) (g 3 (by decide)), zRwM_same a2 (g 4 (by decide)) (f 65 (by decide) (by decide)) (f 66 (by decide) (by decide)), zRwM_same a3 (g 7 (by decide)) (f 67 (by decide) (by decide)) (f 68 (by decide) (by decide)), zRwM_same a4 (g 10 (by decide)) (f 69 (by decide) (by decide)) (f 70 (by decide) (by decide))⟩, h1, zTpM_same h3 (f 76 (by decide) (by decide)) (f 77 (by decide) (by decide)) (f 78 (by decide) (by decide)), zImM_same h4 (g 17 (by decide)) (f 72 (by decide) (by decide))⟩
theorem zY_P (h : zY ((S, R1, R2, R3), T, P, I) Z) (h1 : zTpM P' Z') (hf : ∀ k, k ≠ 76 → k ≠ 77 → k ≠ 78 → k ≠ 79 → Z' k = Z k) : zY ((S, R1, R2, R3), T, P', I) Z' := by
  obtain ⟨⟨a1, a2, a3, a4⟩, h2, h3, h4⟩ := h
  have f : ∀ k, k < 76 → Z' k = Z k := fun k a => hf k (by omega) (by omega) (by omega) (by omega)
  have e := f 63 (by decide)
  exact ⟨⟨zMo_S a1 (f 64 (by decide)) (by rw [e]) (by rw [e]) (by rw [e]), zRwM_same a2 (by rw [e]) (f 65 (by decide)) (f 66 (by decide)), zRwM_same a3 (by rw [e]) (f 67 (by decide)) (f 68 (by decide)), zRwM_same a4 (by rw [e]) (f 69 (by decide)) (f 70 (by decide))⟩, zTxM_same h2 (by rw [e]) (f 71 (by decide)), h1, zImM_same h4 (by rw [e]) (f 72 (by decide))⟩
theorem zY_I {I' : Option zKr} (h : zY ((S, R1, R2, R3), T, P, I) Z) (h1 : zImM I' Z') (f : ∀ k, k ≠ 63 → k ≠ 72 → Z' k = Z k) (g : ∀ j, j ≠ 17 → Z' 63 j = Z 63 j) : zY ((S, R1, R2, R3), T, P, I') Z' := by
  obtain ⟨⟨a1, a2, a3, a4⟩, h2, h3, h4⟩ := h
  exact ⟨⟨zMo_S a1 (f 64 (by decide) (by decide)) (g 0 (by decide)) (g 2 (by decide)) (g 3 (by decide)), zRwM_same a2 (g 4 (by decide)) (f 65 (by decide) (by decide)) (f 66 (by decide) (by decide)), zRwM_same a3 (g 7 (by decide)) (f 67 (by decide) (by decide)) (f 68 (by decide) (by decide)), zRwM_same a4 (g 10 (by decide)) (f 69 (by decide) (by decide)) (f 70 (by decide) (by decide))⟩, zTxM_same h2 (g 14 (by decide)) (f 71 (by decide) (by decide)), zTpM_same h3 (f 76 (by decide) (by decide)) (f 77 (by decide) (by decide)) (f 78 (by decide) (by decide)), h1⟩
theorem zY_U {K K' : zKr} (h : zY (K, T, P, I) Z) (h1 : zRwsM K' Z') (f : ∀ k, k < 63 ∨ 70 < k → Z' k = Z k) (g : ∀ j, j ≠ 0 → j ≠ 2 → j ≠ 3 → j ≠ 4 → j ≠ 7 → j ≠ 10 → Z' 63 j = Z 63 j) : zY (K', T, P, I) Z' := by
  obtain ⟨-, h2, h3, h4⟩ := h
  exact ⟨h1, zTxM_same h2 (g 14 (by decide) (by decide) (by decide) (by decide) (by decide) (by decide)) (f 71 (by decide)), zTpM_same h3 (f 76 (by decide)) (f 77 (by decide)) (f 78 (by decide)), zImM_same h4 (g 17 (by decide) (by decide) (by decide) (by decide) (by decide) (by decide)) (f 72 (by decide))⟩
end ZX
/-- what is told stays told well -/
theorem zRok_up {n n' : Nat} {R : zRs} (h : zRok n R) (hn : n ≤ n') : zRok n' R := fun k hk => by
  have := h k hk
  omega
theorem zEok_up {n n' : Nat} {R : zRs} (h : zEok n R) (hn : n ≤ n') : zEok n' R := fun k hk => by
  have := h k hk
  refine ⟨this.1, this.2.1, fun q => ?_, this.2.2.2⟩
  have := this.2.2.1 q
  omega
theorem zOk_S {S S' : zS4} {R1 R2 R3 : zRs} {T : Nat × (Nat → Int)} {P : zTps} {I : Option zKr} {T' : Nat × (Nat → Int)} (h : zOkA ((S, R1, R2, R3), T, P, I)) (hn : S.1 ≤ S'.1) : zOkA ((S', R1, R2, R3), T', P, I) := ⟨⟨zRok_up h.1.1 hn, zEok_up h.1.2.1 hn, zRok_up h.1.2.2 hn⟩, h.2⟩
theorem zOk_P {K : zKr} {T T' : Nat × (Nat → Int)} {P P' : zTps} {I : Option zKr} (h : zOkA (K, T, P, I)) : zOkA (K, T', P', I) := h
theorem zOk_I {K : zKr} {T : Nat × (Nat → Int)} {P : zTps} {I : Option zKr} (h : zOkA (K, T, P, I)) : zOkA (K, T, P, some K) := ⟨h.1, fun K' q => by cases q; exact h.1⟩
theorem zOk_U {K : zKr} {T : Nat × (Nat → Int)} {P : zTps} {I : Option zKr} (h : zOkA (K, T, P, I)) : zOkA (sUndo K I, T, P, I) := by
  cases I with
  | none => exact h
  | some K' => exact ⟨h.2 K' rfl, h.2⟩
theorem zRok_tell {n m : Nat} {R : zRs} {i v : Int} (h : zRok n R) : zRok n (sTell n m R i v) := by
  unfold sTell
  split
  · intro k hk; exact absurd hk (Nat.not_lt_zero _)
  · split
    · rename_i q
      intro k hk
      replace hk : k < R.1 + 1 := hk
      show (0 ≤ zext R.2.1 R.1 i k ∧ zext R.2.1 R.1 i k < n) ∧ (0 ≤ zext R.2.2 R.1 v k ∧ zext R.2.2 R.1 v k ≤ 60)
      unfold zext
      by_cases e : k = R.1
      · rw [if_pos e, if_pos e]; exact q.1
      · rw [if_neg e, if_neg e]; exact h k (by omega)
    · exact h
theorem zEok_ev {n : Nat} {R : zRs} {w i : Int} (h : zEok n R) (hi : -2147483648 ≤ i ∧ i ≤ 2147483647) (hn : n ≤ 6) : zEok n (sEvent n R w i) := by
  unfold sEvent
  split
  · intro k hk; exact absurd hk (Nat.not_lt_zero _)
  · split
    · rename_i q
      intro k hk
      replace hk : k < R.1 + 1 := hk
      show (0 ≤ zext R.2.1 R.1 w k ∧ zext R.2.1 R.1 w k ≤ 3) ∧ (0 ≤ zext R.2.2 R.1 i k ∧ zext R.2.2 R.1 i k ≤ 360) ∧ (zext R.2.1 R.1 w k < 2 → zext R.2.2 R.1 i k < n) ∧ (zext R.2.1 R.1 w k = 2 → zext R.2.2 R.1 i k ≤ 5)
      unfold zext
      by_cases e : k = R.1
      · rw [if_pos e, if_pos e]
        obtain ⟨⟨⟨q1, q2⟩, q3, q4⟩, -⟩ := q
        refine ⟨q1, ?_, fun a => (q2 a).2, fun a => (q3 a).2⟩
        rcases (show w < 2 ∨ w = 2 ∨ w = 3 by omega) with a | a | a
        · have := q2 a; omega
        · have := q3 a; omega
        · exact q4 a
      · rw [if_neg e, if_neg e]; exact h k (by omega)
    · exact h
theorem sPerf_up (S : zS4) (k w v : Int) : S.1 ≤ (sPerf S k w v).1 := by
  unfold sPerf sClaim sRenew sEstate sRule
  repeat' split
  all_goals first
    | exact Nat.le_refl _
    | exact Nat.le_succ _
theorem sClaim_up (S : zS4) (v : Int) : S.1 ≤ (sClaim S v).1 := by
  unfold sClaim
  split
  · exact Nat.le_succ _
  · exact Nat.le_refl _
theorem sRenew_up (S : zS4) (i v : Int) : S.1 ≤ (sRenew S i v).1 := by
  unfold sRenew
  split <;> exact Nat.le_refl _
theorem sEstate_up (S : zS4) (v : Int) : S.1 ≤ (sEstate S v).1 := by
  unfold sEstate
  split <;> exact Nat.le_refl _
theorem sRule_up (S : zS4) (v : Int) : S.1 ≤ (sRule S v).1 := by
  unfold sRule
  split <;> exact Nat.le_refl _
theorem sRead_up (L : Nat) (t : Nat → Int) (S : zS4) : S.1 ≤ (sRead L t S).1 := by
  have h : ∀ k, S.1 ≤ (zxS L t S k).1 := by
    intro k
    induction k with
    | zero => exact Nat.le_refl _
    | succ k ih => exact Nat.le_trans ih (sPerf_up _ _ _ _)
  unfold sRead
  split
  · exact h _
  · exact Nat.le_refl _
def zInv (xs : Nat → Int) (Ln : Nat) (A : zAll) (Z : zMem) : Prop := zX A Z ∧ zY A Z ∧ zOkA A ∧ (∀ j, Z 1001 j = xs j) ∧ Z 1002 0 = (Ln : Int)
def zA0 : zAll := (((0, fun _ => 0, 0, 0), (0, fun _ => 0, fun _ => 0), (0, fun _ => 0, fun _ => 0), (0, fun _ => 0, fun _ => 0)), (0, fun _ => 0), ((fun _ => -1, fun _ => 0, fun _ _ => 0) : zTps), none)
theorem zInv_0 {xs : Nat → Int} {Ln : Nat} {Z : zMem} (h : zI0 xs Ln Z) : zInv xs Ln zA0 Z := by
  obtain ⟨⟨a1, a2, a3, a4, a5, a6⟩, ⟨b1, b2, b3, b4, b5, b6⟩, ⟨c1, c2, c3, c4, c5, c6⟩, ⟨d1, d2, d3, d4, d5, d6⟩, ⟨e1, e2, e3, e4, e5, e6⟩, ⟨f1, f2, f3, f4, f5, f6, f7, f8⟩, ⟨g1, g2, g3, g4, g5, g6⟩, g7, g8, g9⟩ := h
  have hO : zTpO (fun _ => -1) (fun _ => 0) (fun _ _ => 0) := fun t ht => ⟨(by decide : (-1 : Int) ≤ -1 ∧ (-1 : Int) ≤ 4), Nat.zero_le _, fun _ => rfl, fun i hi => absurd hi (Nat.not_lt_zero _)⟩
  refine ⟨⟨⟨⟨⟨zG_empty a1 a2, a3, a4, by decide, by decide⟩, a5, a6⟩, ⟨b1, b2, by decide, fun i hi => absurd hi (Nat.not_lt_zero _), fun i hi => absurd hi (Nat.not_lt_zero _)⟩, ⟨b3, b4, by decide, fun i hi => absurd hi (Nat.not_lt_zero _), fun i hi => absurd hi (Nat.not_lt_zero _)⟩, ⟨b5, b6, by decide, fun i hi => absurd hi (Nat.not_lt_zero _), fun i hi => absurd hi (Nat.not_lt_zero _)⟩⟩, ⟨c1, by decide, fun i hi => absurd hi (Nat.not_lt_zero _), fun i hi => absurd hi (Nat.not_lt_zero _)⟩, ⟨fun t ht => ?_, hO⟩, ⟨c2, c3, c4, c5⟩, fun _ => c6, fun K hK => by cases hK⟩,
    ⟨⟨zMo_of f1 (by decide) (fun i hi => absurd hi (Nat.not_lt_zero _)) (fun i hi => absurd hi (Nat.not_lt_zero _)) f2 f3 (by decide) (by decide), ⟨f4, by decide, fun i hi => absurd hi (Nat.not_lt_zero _), fun i hi => absurd hi (Nat.not_lt_zero _)⟩, ⟨f5, by decide, fun i hi => absurd hi (Nat.not_lt_zero _), fun i hi => absurd hi (Nat.not_lt_zero _)⟩, ⟨f6, by decide, fun i hi => absurd hi (Nat.not_lt_zero _), fun i hi => absurd hi (Nat.not_lt_zero _)⟩⟩, ⟨f7, by decide, fun i hi => absurd hi (Nat.not_lt_zero _), fun i hi => absurd hi (Nat.not_lt_zero _)⟩, ⟨fun t ht => ?_, hO⟩, fun _ => f8, fun K hK => by cases hK⟩,
    ⟨⟨fun k hk => absurd hk (Nat.not_lt_zero _), fun k hk => absurd hk (Nat.not_lt_zero _), fun k hk => absurd hk (Nat.not_lt_zero _)⟩, fun K hK => by cases hK⟩, g8, g9⟩
  · rcases (show t = 0 ∨ t = 1 ∨ t = 2 ∨ t = 3 ∨ t = 4 ∨ t = 5 by omega) with rfl | rfl | rfl | rfl | rfl | rfl
    · exact ⟨d1, e1, fun i hi => absurd hi (Nat.not_lt_zero _)⟩
    · exact ⟨d2, e2, fun i hi => absurd hi (Nat.not_lt_zero _)⟩
    · exact ⟨d3, e3, fun i hi => absurd hi (Nat.not_lt_zero _)⟩
    · exact ⟨d4, e4, fun i hi => absurd hi (Nat.not_lt_zero _)⟩
    · exact ⟨d5, e5, fun i hi => absurd hi (Nat.not_lt_zero _)⟩
    · exact ⟨d6, e6, fun i hi => absurd hi (Nat.not_lt_zero _)⟩
  · rcases (show t = 0 ∨ t = 1 ∨ t = 2 ∨ t = 3 ∨ t = 4 ∨ t = 5 by omega) with rfl | rfl | rfl | rfl | rfl | rfl
    · exact ⟨g1, g7 0, fun i hi => absurd hi (Nat.not_lt_zero _)⟩
    · exact ⟨g2, g7 1, fun i hi => absurd hi (Nat.not_lt_zero _)⟩
    · exact ⟨g3, g7 2, fun i hi => absurd hi (Nat.not_lt_zero _)⟩
    · exact ⟨g4, g7 3, fun i hi => absurd hi (Nat.not_lt_zero _)⟩
    · exact ⟨g5, g7 4, fun i hi => absurd hi (Nat.not_lt_zero _)⟩
    · exact ⟨g6, g7 5, fun i hi => absurd hi (Nat.not_lt_zero _)⟩
