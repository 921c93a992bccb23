theorem zo_r0 : (List.range 10).all (fun j => zokM (0 + j)) = true := by decide +kernel
theorem zo_r10 : (List.range 10).all (fun j => zokM (10 + j)) = true := by decide +kernel
theorem zo_r20 : (List.range 10).all (fun j => zokM (20 + j)) = true := by decide +kernel
theorem zo_r30 : (List.range 10).all (fun j => zokM (30 + j)) = true := by decide +kernel
theorem zo_r40 : (List.range 10).all (fun j => zokM (40 + j)) = true := by decide +kernel
theorem zo_r50 : (List.range 10).all (fun j => zokM (50 + j)) = true := by decide +kernel
theorem zo_r60 : (List.range 10).all (fun j => zokM (60 + j)) = true := by decide +kernel
theorem zo_r70 : (List.range 10).all (fun j => zokM (70 + j)) = true := by decide +kernel
theorem zo_r80 : (List.range 10).all (fun j => zokM (80 + j)) = true := by decide +kernel
theorem zo_r90 : (List.range 10).all (fun j => zokM (90 + j)) = true := by decide +kernel
theorem zo_r100 : (List.range 10).all (fun j => zokM (100 + j)) = true := by decide +kernel
theorem zo_r110 : (List.range 10).all (fun j => zokM (110 + j)) = true := by decide +kernel
theorem zo_r120 : (List.range 10).all (fun j => zokM (120 + j)) = true := by decide +kernel
theorem zo_r130 : (List.range 10).all (fun j => zokM (130 + j)) = true := by decide +kernel
theorem zo_r140 : (List.range 10).all (fun j => zokM (140 + j)) = true := by decide +kernel
theorem zo_r150 : (List.range 10).all (fun j => zokM (150 + j)) = true := by decide +kernel
theorem zo_r160 : (List.range 10).all (fun j => zokM (160 + j)) = true := by decide +kernel
theorem zo_r170 : (List.range 10).all (fun j => zokM (170 + j)) = true := by decide +kernel
theorem zo_r180 : (List.range 4).all (fun j => zokM (180 + j)) = true := by decide +kernel
theorem zok_all : ∀ y, y < 185 → zokM y = true := by
  intro z hz
  rcases Nat.lt_or_ge z 10 with h0 | h0
  · exact zk_get zo_r0 (by omega) (by omega)
  rcases Nat.lt_or_ge z 20 with h10 | h10
  · exact zk_get zo_r10 (by omega) (by omega)
  rcases Nat.lt_or_ge z 30 with h20 | h20
  · exact zk_get zo_r20 (by omega) (by omega)
  rcases Nat.lt_or_ge z 40 with h30 | h30
  · exact zk_get zo_r30 (by omega) (by omega)
  rcases Nat.lt_or_ge z 50 with h40 | h40
  · exact zk_get zo_r40 (by omega) (by omega)
  rcases Nat.lt_or_ge z 60 with h50 | h50
  · exact zk_get zo_r50 (by omega) (by omega)
  rcases Nat.lt_or_ge z 70 with h60 | h60
  · exact zk_get zo_r60 (by omega) (by omega)
  rcases Nat.lt_or_ge z 80 with h70 | h70
  · exact zk_get zo_r70 (by omega) (by omega)
  rcases Nat.lt_or_ge z 90 with h80 | h80
  · exact zk_get zo_r80 (by omega) (by omega)
  rcases Nat.lt_or_ge z 100 with h90 | h90
  · exact zk_get zo_r90 (by omega) (by omega)
  rcases Nat.lt_or_ge z 110 with h100 | h100
  · exact zk_get zo_r100 (by omega) (by omega)
  rcases Nat.lt_or_ge z 120 with h110 | h110
  · exact zk_get zo_r110 (by omega) (by omega)
  rcases Nat.lt_or_ge z 130 with h120 | h120
  · exact zk_get zo_r120 (by omega) (by omega)
  rcases Nat.lt_or_ge z 140 with h130 | h130
  · exact zk_get zo_r130 (by omega) (by omega)
  rcases Nat.lt_or_ge z 150 with h140 | h140
  · exact zk_get zo_r140 (by omega) (by omega)
  rcases Nat.lt_or_ge z 160 with h150 | h150
  · exact zk_get zo_r150 (by omega) (by omega)
  rcases Nat.lt_or_ge z 170 with h160 | h160
  · exact zk_get zo_r160 (by omega) (by omega)
  rcases Nat.lt_or_ge z 180 with h170 | h170
  · exact zk_get zo_r170 (by omega) (by omega)
  rcases Nat.lt_or_ge z 184 with h180 | h180
  · exact zk_get zo_r180 (by omega) (by omega)
  have e : z = 184 := by omega
  subst e
  exact zo_184
