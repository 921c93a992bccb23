theorem zk_get {f : Nat → Bool} {lo n z : Nat} (h : (List.range n).all (fun j => f (lo + j)) = true) (h1 : lo ≤ z) (h2 : z < lo + n) : f z = true := by
  have e := List.all_eq_true.mp h (z - lo) (List.mem_range.mpr (by omega))
  rwa [show lo + (z - lo) = z by omega] at e
def zokP (y lo n : Nat) : Bool := (((zprog.getD y []).drop lo).take n).all (zokI y)
theorem zokP_add {y lo n k : Nat} (h1 : zokP y lo n = true) (h2 : zokP y (lo + n) k = true) : zokP y lo (n + k) = true := by
  unfold zokP at *
  rw [List.take_add, List.all_append, List.drop_drop, h1, h2]
  rfl
theorem zk_0 : (List.range 23).all (fun j => zcal (0 + j)) = true := by decide +kernel
theorem zk_23 : (List.range 23).all (fun j => zcal (23 + j)) = true := by decide +kernel
theorem zk_46 : (List.range 23).all (fun j => zcal (46 + j)) = true := by decide +kernel
theorem zk_69 : (List.range 23).all (fun j => zcal (69 + j)) = true := by decide +kernel
theorem zk_92 : (List.range 23).all (fun j => zcal (92 + j)) = true := by decide +kernel
theorem zk_115 : (List.range 23).all (fun j => zcal (115 + j)) = true := by decide +kernel
theorem zk_138 : (List.range 23).all (fun j => zcal (138 + j)) = true := by decide +kernel
theorem zk_161 : (List.range 23).all (fun j => zcal (161 + j)) = true := by decide +kernel
theorem zcal_all : ∀ z, z < 184 → zcal z = true := by
  intro z hz
  rcases Nat.lt_or_ge z 23 with h0 | h0
  · exact zk_get zk_0 (by omega) (by omega)
  rcases Nat.lt_or_ge z 46 with h23 | h23
  · exact zk_get zk_23 (by omega) (by omega)
  rcases Nat.lt_or_ge z 69 with h46 | h46
  · exact zk_get zk_46 (by omega) (by omega)
  rcases Nat.lt_or_ge z 92 with h69 | h69
  · exact zk_get zk_69 (by omega) (by omega)
  rcases Nat.lt_or_ge z 115 with h92 | h92
  · exact zk_get zk_92 (by omega) (by omega)
  rcases Nat.lt_or_ge z 138 with h115 | h115
  · exact zk_get zk_115 (by omega) (by omega)
  rcases Nat.lt_or_ge z 161 with h138 | h138
  · exact zk_get zk_138 (by omega) (by omega)
  rcases Nat.lt_or_ge z 184 with h161 | h161
  · exact zk_get zk_161 (by omega) (by omega)
  omega
theorem zl_0 : zokP 184 0 60 = true := by decide +kernel
theorem zl_60 : zokP 184 60 60 = true := by decide +kernel
theorem zl_120 : zokP 184 120 60 = true := by decide +kernel
theorem zl_180 : zokP 184 180 60 = true := by decide +kernel
theorem zl_240 : zokP 184 240 60 = true := by decide +kernel
theorem zl_300 : zokP 184 300 60 = true := by decide +kernel
theorem zl_360 : zokP 184 360 60 = true := by decide +kernel
theorem zl_420 : zokP 184 420 60 = true := by decide +kernel
theorem zl_480 : zokP 184 480 60 = true := by decide +kernel
theorem zl_540 : zokP 184 540 60 = true := by decide +kernel
theorem zl_600 : zokP 184 600 60 = true := by decide +kernel
theorem zl_660 : zokP 184 660 60 = true := by decide +kernel
theorem zl_720 : zokP 184 720 60 = true := by decide +kernel
theorem zl_780 : zokP 184 780 60 = true := by decide +kernel
theorem zl_840 : zokP 184 840 60 = true := by decide +kernel
theorem zl_900 : zokP 184 900 60 = true := by decide +kernel
theorem zl_960 : zokP 184 960 60 = true := by decide +kernel
theorem zm_0 : zokP 184 0 60 = true := zl_0
theorem zm_60 : zokP 184 0 120 = true := zokP_add (n := 60) (k := 60) zm_0 zl_60
theorem zm_120 : zokP 184 0 180 = true := zokP_add (n := 120) (k := 60) zm_60 zl_120
theorem zm_180 : zokP 184 0 240 = true := zokP_add (n := 180) (k := 60) zm_120 zl_180
theorem zm_240 : zokP 184 0 300 = true := zokP_add (n := 240) (k := 60) zm_180 zl_240
theorem zm_300 : zokP 184 0 360 = true := zokP_add (n := 300) (k := 60) zm_240 zl_300
theorem zm_360 : zokP 184 0 420 = true := zokP_add (n := 360) (k := 60) zm_300 zl_360
theorem zm_420 : zokP 184 0 480 = true := zokP_add (n := 420) (k := 60) zm_360 zl_420
theorem zm_480 : zokP 184 0 540 = true := zokP_add (n := 480) (k := 60) zm_420 zl_480
theorem zm_540 : zokP 184 0 600 = true := zokP_add (n := 540) (k := 60) zm_480 zl_540
theorem zm_600 : zokP 184 0 660 = true := zokP_add (n := 600) (k := 60) zm_540 zl_600
theorem zm_660 : zokP 184 0 720 = true := zokP_add (n := 660) (k := 60) zm_600 zl_660
theorem zm_720 : zokP 184 0 780 = true := zokP_add (n := 720) (k := 60) zm_660 zl_720
theorem zm_780 : zokP 184 0 840 = true := zokP_add (n := 780) (k := 60) zm_720 zl_780
theorem zm_840 : zokP 184 0 900 = true := zokP_add (n := 840) (k := 60) zm_780 zl_840
theorem zm_900 : zokP 184 0 960 = true := zokP_add (n := 900) (k := 60) zm_840 zl_900
theorem zm_960 : zokP 184 0 1020 = true := zokP_add (n := 960) (k := 60) zm_900 zl_960
set_option maxRecDepth 100000 in
theorem zo_184 : zokM 184 = true := by
  have h : zokP 184 0 1020 = true := zm_960
  unfold zokP at h
  rw [List.drop_zero, List.take_of_length_le (by decide +kernel)] at h
  exact h
