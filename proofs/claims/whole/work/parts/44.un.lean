/-! before a field is told -/
theorem gd_T (i : Decidable True) (x : aO) : @gd True i x = x := by unfold gd; simp
theorem u2_uu {α : Type} (f : Nat → Nat → α) (a k : Nat) (v w : α) : u2 (u2 f a k v) a k w = u2 f a k w := by
  funext b j
  unfold u2
  by_cases hb : b = a <;> by_cases hj : j = k <;> simp [hb, hj]
theorem k_S0 {z : Nat} {E : aEt} {n : Nat} {K N : Nat → Nat} {R : Nat → Nat → Option Nat} {I : Nat → Nat → Int32} {J : Nat → Nat → Int64} : aK (St z E n K N R I J) z = K 0 := k_St 0
theorem i_S0 {z : Nat} {E : aEt} {n : Nat} {K N : Nat → Nat} {R : Nat → Nat → Option Nat} {I : Nat → Nat → Int32} {J : Nat → Nat → Int64} (k : Nat) : aI (St z E n K N R I J) z k = I 0 k := i_St 0 k
theorem r_S0 {z : Nat} {E : aEt} {n : Nat} {K N : Nat → Nat} {R : Nat → Nat → Option Nat} {I : Nat → Nat → Int32} {J : Nat → Nat → Int64} (k : Nat) : aR (St z E n K N R I J) z k = (R 0 k).map (fun b => z + b) := r_St 0 k
theorem wI_S0 {z : Nat} {E : aEt} {n : Nat} {K N : Nat → Nat} {R : Nat → Nat → Option Nat} {I : Nat → Nat → Int32} {J : Nat → Nat → Int64} (k : Nat) (v : Int32) : wI (St z E n K N R I J) z k v = St z E n K N R (u2 I 0 k v) J := wI_St 0 k v
section UN
variable {z : Nat} {E : aEt} {n p : Nat} {K N : Nat → Nat} {R : Nat → Nat → Option Nat} {I : Nat → Nat → Int32} {J : Nat → Nat → Int64} {lx : List Value → aH → aO}
theorem ge0 {x : Int32} (h : ¬ x < 0) : 0 ≤ x := Int32.not_lt.mp h
theorem u_24 (kp : K p = 2) (w0 : I p 4 = 0) (x y : Int32) : Ca lx 24 [.ref (z + p), .int x, .int y] (St z E n K N R I J) = some (some (.int 0), St z E n K N R I J) := by
  rw [f_24]
  by_cases h : x < 0
  · simp [k_St, n_St, i_St, j_St, r_St, z_St, e_St, wI_St, wJ_St, cI_s, cJ_s, cV_s, nR_s, nQ_s, nQ_n, lt_s_, gd_T, u2_uu, k_S0, i_S0, r_S0, wI_S0, h]
  · simp [k_St, n_St, i_St, j_St, r_St, z_St, e_St, wI_St, wJ_St, cI_s, cJ_s, cV_s, nR_s, nQ_s, nQ_n, lt_s_, gd_T, u2_uu, k_S0, i_S0, r_S0, wI_S0, h, kp, w0, ge0 h]
theorem u_162 (k0 : K 0 = 9) (rp : R 0 8 = some p) (kp : K p = 2) (w0 : I p 8 = 0) (x : Int32) : Ca lx 162 [.ref (z + 0), .int x] (St z E n K N R I J) = some (some (.int 0), St z E n K N R I J) := by
  rw [f_162]
  by_cases h : x < 0
  · simp [k_St, n_St, i_St, j_St, r_St, z_St, e_St, wI_St, wJ_St, cI_s, cJ_s, cV_s, nR_s, nQ_s, nQ_n, lt_s_, gd_T, u2_uu, k_S0, i_S0, r_S0, wI_S0, h]
  · simp only [k_St, r_St, i_St, rp, Option.map_some, nR_s]
    simp [k_St, n_St, i_St, j_St, r_St, z_St, e_St, wI_St, wJ_St, cI_s, cJ_s, cV_s, nR_s, nQ_s, nQ_n, lt_s_, gd_T, u2_uu, k_S0, i_S0, r_S0, wI_S0, h, k0, kp, w0, ge0 h]
theorem u_163 (k0 : K 0 = 9) (rp : R 0 8 = some p) (kp : K p = 2) (w0 : I p 7 = 0) (x : Int32) : Ca lx 163 [.ref (z + 0), .int x] (St z E n K N R I J) = some (some (.int 0), St z E n K N R I J) := by
  rw [f_163]
  by_cases h : x < 0
  · simp [k_St, n_St, i_St, j_St, r_St, z_St, e_St, wI_St, wJ_St, cI_s, cJ_s, cV_s, nR_s, nQ_s, nQ_n, lt_s_, gd_T, u2_uu, k_S0, i_S0, r_S0, wI_S0, h]
  · simp only [k_St, r_St, i_St, rp, Option.map_some, nR_s]
    simp [k_St, n_St, i_St, j_St, r_St, z_St, e_St, wI_St, wJ_St, cI_s, cJ_s, cV_s, nR_s, nQ_s, nQ_n, lt_s_, gd_T, u2_uu, k_S0, i_S0, r_S0, wI_S0, h, k0, kp, w0, ge0 h]
theorem u_164 (k0 : K 0 = 9) (rs : R 0 6 = some 108) (ks : K 108 = 4) (w0 : I 108 2 = 0) (x : Int32) : Ca lx 164 [.ref (z + 0), .int x] (St z E n K N R I J) = some (some (.int 0), St z E n K N R I J) := by
  rw [f_164]
  by_cases h : x < 0
  · simp [k_St, n_St, i_St, j_St, r_St, z_St, e_St, wI_St, wJ_St, cI_s, cJ_s, cV_s, nR_s, nQ_s, nQ_n, lt_s_, gd_T, u2_uu, k_S0, i_S0, r_S0, wI_S0, h]
  · simp only [k_St, r_St, i_St, rs, Option.map_some, nR_s]
    simp [k_St, n_St, i_St, j_St, r_St, z_St, e_St, wI_St, wJ_St, cI_s, cJ_s, cV_s, nR_s, nQ_s, nQ_n, lt_s_, gd_T, u2_uu, k_S0, i_S0, r_S0, wI_S0, h, k0, ks, w0, ge0 h]
theorem u_165 (k0 : K 0 = 9) (rp : R 0 8 = some p) (kp : K p = 2) (w0 : I p 4 = 0) (x y : Int32) : Ca lx 165 [.ref (z + 0), .int x, .int y] (St z E n K N R I J) = some (some (.int 0), St z E n K N R I J) := by
  rw [f_165]
  simp only [k_St, r_St, rp, Option.map_some, nR_s, u_24 kp w0, cI_s]
  simp [k_St, n_St, i_St, j_St, r_St, z_St, e_St, wI_St, wJ_St, cI_s, cJ_s, cV_s, nR_s, nQ_s, nQ_n, lt_s_, gd_T, u2_uu, k_S0, i_S0, r_S0, wI_S0, k0, kp]
theorem s_161 (k0 : K 0 = 9) (a b : Int32) : Ca lx 161 [.ref (z + 0), .int a, .int b] (St z E n K N R I J) = some (some (.int (if a = 0 then 0 else if b = 0 then 0 else 1)), St z E n K N R (u2 I 0 11 (if a = 0 then 1 else if b = 0 then 2 else 0)) J) := by
  rw [f_161]
  by_cases ha : a = 0
  · simp [k_St, n_St, i_St, j_St, r_St, z_St, e_St, wI_St, wJ_St, cI_s, cJ_s, cV_s, nR_s, nQ_s, nQ_n, lt_s_, gd_T, u2_uu, k_S0, i_S0, r_S0, wI_S0, e_161_15, k0, ha, u2_s]
  · by_cases hb : b = 0
    · simp [k_St, n_St, i_St, j_St, r_St, z_St, e_St, wI_St, wJ_St, cI_s, cJ_s, cV_s, nR_s, nQ_s, nQ_n, lt_s_, gd_T, u2_uu, k_S0, i_S0, r_S0, wI_S0, e_161_15, k0, ha, hb, u2_s]
    · simp [k_St, n_St, i_St, j_St, r_St, z_St, e_St, wI_St, wJ_St, cI_s, cJ_s, cV_s, nR_s, nQ_s, nQ_n, lt_s_, gd_T, u2_uu, k_S0, i_S0, r_S0, wI_S0, e_161_15, k0, ha, hb, u2_s]
theorem s_160 (k0 : K 0 = 9) (a : Int32) : Ca lx 160 [.ref (z + 0), .int a] (St z E n K N R I J) = some (some (.int (if a = 0 then 0 else 1)), St z E n K N R (u2 I 0 11 (if a = 0 then 1 else 0)) J) := by
  rw [f_160, s_161 k0]
  by_cases ha : a = 0
  · simp [k_St, n_St, i_St, j_St, r_St, z_St, e_St, wI_St, wJ_St, cI_s, cJ_s, cV_s, nR_s, nQ_s, nQ_n, lt_s_, gd_T, u2_uu, k_S0, i_S0, r_S0, wI_S0, k0, ha]
  · simp [k_St, n_St, i_St, j_St, r_St, z_St, e_St, wI_St, wJ_St, cI_s, cJ_s, cV_s, nR_s, nQ_s, nQ_n, lt_s_, gd_T, u2_uu, k_S0, i_S0, r_S0, wI_S0, k0, ha]
theorem s_166 (x : Int32) (S : aH) : Ca lx 166 [.int x] S = some (some (.int (if x < 0 then 0 else if 60 < x then 0 else 1)), S) := by
  rw [f_166]
  by_cases h : x < 0
  · simp [k_St, n_St, i_St, j_St, r_St, z_St, e_St, wI_St, wJ_St, cI_s, cJ_s, cV_s, nR_s, nQ_s, nQ_n, lt_s_, gd_T, u2_uu, k_S0, i_S0, r_S0, wI_S0, h]
  · by_cases h2 : 60 < x
    · simp [k_St, n_St, i_St, j_St, r_St, z_St, e_St, wI_St, wJ_St, cI_s, cJ_s, cV_s, nR_s, nQ_s, nQ_n, lt_s_, gd_T, u2_uu, k_S0, i_S0, r_S0, wI_S0, h, h2]
    · simp [k_St, n_St, i_St, j_St, r_St, z_St, e_St, wI_St, wJ_St, cI_s, cJ_s, cV_s, nR_s, nQ_s, nQ_n, lt_s_, gd_T, u2_uu, k_S0, i_S0, r_S0, wI_S0, h, h2]
theorem s_167 (x : Int32) (S : aH) : Ca lx 167 [.int x] S = some (some (.int (if x < 0 then 0 else if 2 < x then 0 else 1)), S) := by
  rw [f_167]
  by_cases h : x < 0
  · simp [k_St, n_St, i_St, j_St, r_St, z_St, e_St, wI_St, wJ_St, cI_s, cJ_s, cV_s, nR_s, nQ_s, nQ_n, lt_s_, gd_T, u2_uu, k_S0, i_S0, r_S0, wI_S0, h]
  · by_cases h2 : 2 < x
    · simp [k_St, n_St, i_St, j_St, r_St, z_St, e_St, wI_St, wJ_St, cI_s, cJ_s, cV_s, nR_s, nQ_s, nQ_n, lt_s_, gd_T, u2_uu, k_S0, i_S0, r_S0, wI_S0, h, h2]
    · simp [k_St, n_St, i_St, j_St, r_St, z_St, e_St, wI_St, wJ_St, cI_s, cJ_s, cV_s, nR_s, nQ_s, nQ_n, lt_s_, gd_T, u2_uu, k_S0, i_S0, r_S0, wI_S0, h, h2]
theorem s_168 (x : Int32) (S : aH) : Ca lx 168 [.int x] S = some (some (.int (if x < 0 then 0 else if 9 < x then 0 else 1)), S) := by
  rw [f_168]
  by_cases h : x < 0
  · simp [k_St, n_St, i_St, j_St, r_St, z_St, e_St, wI_St, wJ_St, cI_s, cJ_s, cV_s, nR_s, nQ_s, nQ_n, lt_s_, gd_T, u2_uu, k_S0, i_S0, r_S0, wI_S0, h]
  · by_cases h2 : 9 < x
    · simp [k_St, n_St, i_St, j_St, r_St, z_St, e_St, wI_St, wJ_St, cI_s, cJ_s, cV_s, nR_s, nQ_s, nQ_n, lt_s_, gd_T, u2_uu, k_S0, i_S0, r_S0, wI_S0, h, h2]
    · simp [k_St, n_St, i_St, j_St, r_St, z_St, e_St, wI_St, wJ_St, cI_s, cJ_s, cV_s, nR_s, nQ_s, nQ_n, lt_s_, gd_T, u2_uu, k_S0, i_S0, r_S0, wI_S0, h, h2]
theorem s_182 (km : K 132 = 11) (t : Int32) : Ca lx 182 [.ref (z + 132), .int t] (St z E n K N R I J) = some (some (.int (-1)), St z E n K N R (u2 (u2 I 132 1 t) 132 2 (-1)) J) := by
  rw [f_182]
  simp [k_St, n_St, i_St, j_St, r_St, z_St, e_St, wI_St, wJ_St, cI_s, cJ_s, cV_s, nR_s, nQ_s, nQ_n, lt_s_, gd_T, u2_uu, k_S0, i_S0, r_S0, wI_S0, km]
theorem u_116 (k0 : K 0 = 9) (km : K 132 = 11) (rp : R 0 8 = some p) (kp : K p = 2) (rs : R 0 6 = some 108) (ks : K 108 = 4) (fn : R 132 3 = none) (t0 : I 0 10 = 0) (w4 : I p 4 = 0) (w7 : I p 7 = 0) (w8 : I p 8 = 0) (w2 : I 108 2 = 0) (l1 : Int32) (l2 : Int32) (l3 : Int32) : Ca lx 116 [.ref (z + 0), .int l1, .int l2, .int l3] (St z E n K N R I J) = some (some (.int (-1)), St z E n K N R (u2 I 0 11 1) J) := by
  simp only [f_116, e_116_16, k_St, n_St, i_St, j_St, r_St, z_St, e_St, wI_St, wJ_St, cI_s, cJ_s, cV_s, nR_s, nQ_s, nQ_n, lt_s_, gd_T, u2_uu, k_S0, i_S0, r_S0, wI_S0, k0, rp, rs, kp, ks, t0, Option.map_some, u_24 kp w4, u_162 k0 rp kp w8, u_163 k0 rp kp w7, u_164 k0 rs ks w2, u_165 k0 rp kp w4, s_160 k0, s_161 k0, s_166, s_167, s_168, if_true, ite_self]
  try simp [k_St, n_St, i_St, j_St, r_St, z_St, e_St, wI_St, wJ_St, cI_s, cJ_s, cV_s, nR_s, nQ_s, nQ_n, lt_s_, gd_T, u2_uu, k_S0, i_S0, r_S0, wI_S0, k0, kp]
theorem u_117 (k0 : K 0 = 9) (km : K 132 = 11) (rp : R 0 8 = some p) (kp : K p = 2) (rs : R 0 6 = some 108) (ks : K 108 = 4) (fn : R 132 3 = none) (t0 : I 0 10 = 0) (w4 : I p 4 = 0) (w7 : I p 7 = 0) (w8 : I p 8 = 0) (w2 : I 108 2 = 0) (l1 : Int32) (l2 : Int32) : Ca lx 117 [.ref (z + 0), .int l1, .int l2] (St z E n K N R I J) = some (some (.int (-1)), St z E n K N R (u2 I 0 11 1) J) := by
  simp only [f_117, e_117_14, k_St, n_St, i_St, j_St, r_St, z_St, e_St, wI_St, wJ_St, cI_s, cJ_s, cV_s, nR_s, nQ_s, nQ_n, lt_s_, gd_T, u2_uu, k_S0, i_S0, r_S0, wI_S0, k0, rp, rs, kp, ks, t0, Option.map_some, u_24 kp w4, u_162 k0 rp kp w8, u_163 k0 rp kp w7, u_164 k0 rs ks w2, u_165 k0 rp kp w4, s_160 k0, s_161 k0, s_166, s_167, s_168, if_true, ite_self]
  try simp [k_St, n_St, i_St, j_St, r_St, z_St, e_St, wI_St, wJ_St, cI_s, cJ_s, cV_s, nR_s, nQ_s, nQ_n, lt_s_, gd_T, u2_uu, k_S0, i_S0, r_S0, wI_S0, k0, kp]
theorem u_118 (k0 : K 0 = 9) (km : K 132 = 11) (rp : R 0 8 = some p) (kp : K p = 2) (rs : R 0 6 = some 108) (ks : K 108 = 4) (fn : R 132 3 = none) (t0 : I 0 10 = 0) (w4 : I p 4 = 0) (w7 : I p 7 = 0) (w8 : I p 8 = 0) (w2 : I 108 2 = 0) (l1 : Int32) : Ca lx 118 [.ref (z + 0), .int l1] (St z E n K N R I J) = some (some (.int (-1)), St z E n K N R (u2 I 0 11 1) J) := by
  simp only [f_118, k_St, n_St, i_St, j_St, r_St, z_St, e_St, wI_St, wJ_St, cI_s, cJ_s, cV_s, nR_s, nQ_s, nQ_n, lt_s_, gd_T, u2_uu, k_S0, i_S0, r_S0, wI_S0, k0, rp, rs, kp, ks, t0, Option.map_some, u_24 kp w4, u_162 k0 rp kp w8, u_163 k0 rp kp w7, u_164 k0 rs ks w2, u_165 k0 rp kp w4, s_160 k0, s_161 k0, s_166, s_167, s_168, if_true, ite_self]
  try simp [k_St, n_St, i_St, j_St, r_St, z_St, e_St, wI_St, wJ_St, cI_s, cJ_s, cV_s, nR_s, nQ_s, nQ_n, lt_s_, gd_T, u2_uu, k_S0, i_S0, r_S0, wI_S0, k0, kp]
theorem u_119 (k0 : K 0 = 9) (km : K 132 = 11) (rp : R 0 8 = some p) (kp : K p = 2) (rs : R 0 6 = some 108) (ks : K 108 = 4) (fn : R 132 3 = none) (t0 : I 0 10 = 0) (w4 : I p 4 = 0) (w7 : I p 7 = 0) (w8 : I p 8 = 0) (w2 : I 108 2 = 0)  : Ca lx 119 [.ref (z + 0)] (St z E n K N R I J) = some (some (.int (-1)), St z E n K N R (u2 I 0 11 1) J) := by
  simp only [f_119, k_St, n_St, i_St, j_St, r_St, z_St, e_St, wI_St, wJ_St, cI_s, cJ_s, cV_s, nR_s, nQ_s, nQ_n, lt_s_, gd_T, u2_uu, k_S0, i_S0, r_S0, wI_S0, k0, rp, rs, kp, ks, t0, Option.map_some, u_24 kp w4, u_162 k0 rp kp w8, u_163 k0 rp kp w7, u_164 k0 rs ks w2, u_165 k0 rp kp w4, s_160 k0, s_161 k0, s_166, s_167, s_168, if_true, ite_self]
  try simp [k_St, n_St, i_St, j_St, r_St, z_St, e_St, wI_St, wJ_St, cI_s, cJ_s, cV_s, nR_s, nQ_s, nQ_n, lt_s_, gd_T, u2_uu, k_S0, i_S0, r_S0, wI_S0, k0, kp]
theorem u_120 (k0 : K 0 = 9) (km : K 132 = 11) (rp : R 0 8 = some p) (kp : K p = 2) (rs : R 0 6 = some 108) (ks : K 108 = 4) (fn : R 132 3 = none) (t0 : I 0 10 = 0) (w4 : I p 4 = 0) (w7 : I p 7 = 0) (w8 : I p 8 = 0) (w2 : I 108 2 = 0) (l1 : Int32) (l2 : Int32) (l3 : Int32) (l4 : Int32) : Ca lx 120 [.ref (z + 0), .int l1, .int l2, .int l3, .int l4] (St z E n K N R I J) = some (some (.int (-1)), St z E n K N R (u2 I 0 11 1) J) := by
  simp only [f_120, e_120_17, k_St, n_St, i_St, j_St, r_St, z_St, e_St, wI_St, wJ_St, cI_s, cJ_s, cV_s, nR_s, nQ_s, nQ_n, lt_s_, gd_T, u2_uu, k_S0, i_S0, r_S0, wI_S0, k0, rp, rs, kp, ks, t0, Option.map_some, u_24 kp w4, u_162 k0 rp kp w8, u_163 k0 rp kp w7, u_164 k0 rs ks w2, u_165 k0 rp kp w4, s_160 k0, s_161 k0, s_166, s_167, s_168, if_true, ite_self]
  try simp [k_St, n_St, i_St, j_St, r_St, z_St, e_St, wI_St, wJ_St, cI_s, cJ_s, cV_s, nR_s, nQ_s, nQ_n, lt_s_, gd_T, u2_uu, k_S0, i_S0, r_S0, wI_S0, k0, kp]
theorem u_121 (k0 : K 0 = 9) (km : K 132 = 11) (rp : R 0 8 = some p) (kp : K p = 2) (rs : R 0 6 = some 108) (ks : K 108 = 4) (fn : R 132 3 = none) (t0 : I 0 10 = 0) (w4 : I p 4 = 0) (w7 : I p 7 = 0) (w8 : I p 8 = 0) (w2 : I 108 2 = 0) (l1 : Int32) (l2 : Int32) : Ca lx 121 [.ref (z + 0), .int l1, .int l2] (St z E n K N R I J) = some (some (.int (-1)), St z E n K N R (u2 I 0 11 1) J) := by
  simp only [f_121, k_St, n_St, i_St, j_St, r_St, z_St, e_St, wI_St, wJ_St, cI_s, cJ_s, cV_s, nR_s, nQ_s, nQ_n, lt_s_, gd_T, u2_uu, k_S0, i_S0, r_S0, wI_S0, k0, rp, rs, kp, ks, t0, Option.map_some, u_24 kp w4, u_162 k0 rp kp w8, u_163 k0 rp kp w7, u_164 k0 rs ks w2, u_165 k0 rp kp w4, s_160 k0, s_161 k0, s_166, s_167, s_168, if_true, ite_self]
  try simp [k_St, n_St, i_St, j_St, r_St, z_St, e_St, wI_St, wJ_St, cI_s, cJ_s, cV_s, nR_s, nQ_s, nQ_n, lt_s_, gd_T, u2_uu, k_S0, i_S0, r_S0, wI_S0, k0, kp]
theorem u_122 (k0 : K 0 = 9) (km : K 132 = 11) (rp : R 0 8 = some p) (kp : K p = 2) (rs : R 0 6 = some 108) (ks : K 108 = 4) (fn : R 132 3 = none) (t0 : I 0 10 = 0) (w4 : I p 4 = 0) (w7 : I p 7 = 0) (w8 : I p 8 = 0) (w2 : I 108 2 = 0) (l1 : Int32) : Ca lx 122 [.ref (z + 0), .int l1] (St z E n K N R I J) = some (some (.int (-1)), St z E n K N R (u2 I 0 11 1) J) := by
  simp only [f_122, k_St, n_St, i_St, j_St, r_St, z_St, e_St, wI_St, wJ_St, cI_s, cJ_s, cV_s, nR_s, nQ_s, nQ_n, lt_s_, gd_T, u2_uu, k_S0, i_S0, r_S0, wI_S0, k0, rp, rs, kp, ks, t0, Option.map_some, u_24 kp w4, u_162 k0 rp kp w8, u_163 k0 rp kp w7, u_164 k0 rs ks w2, u_165 k0 rp kp w4, s_160 k0, s_161 k0, s_166, s_167, s_168, if_true, ite_self]
  try simp [k_St, n_St, i_St, j_St, r_St, z_St, e_St, wI_St, wJ_St, cI_s, cJ_s, cV_s, nR_s, nQ_s, nQ_n, lt_s_, gd_T, u2_uu, k_S0, i_S0, r_S0, wI_S0, k0, kp]
theorem u_123 (k0 : K 0 = 9) (km : K 132 = 11) (rp : R 0 8 = some p) (kp : K p = 2) (rs : R 0 6 = some 108) (ks : K 108 = 4) (fn : R 132 3 = none) (t0 : I 0 10 = 0) (w4 : I p 4 = 0) (w7 : I p 7 = 0) (w8 : I p 8 = 0) (w2 : I 108 2 = 0) (l1 : Int32) : Ca lx 123 [.ref (z + 0), .int l1] (St z E n K N R I J) = some (some (.int (-1)), St z E n K N R (u2 I 0 11 1) J) := by
  simp only [f_123, k_St, n_St, i_St, j_St, r_St, z_St, e_St, wI_St, wJ_St, cI_s, cJ_s, cV_s, nR_s, nQ_s, nQ_n, lt_s_, gd_T, u2_uu, k_S0, i_S0, r_S0, wI_S0, k0, rp, rs, kp, ks, t0, Option.map_some, u_24 kp w4, u_162 k0 rp kp w8, u_163 k0 rp kp w7, u_164 k0 rs ks w2, u_165 k0 rp kp w4, s_160 k0, s_161 k0, s_166, s_167, s_168, if_true, ite_self]
  try simp [k_St, n_St, i_St, j_St, r_St, z_St, e_St, wI_St, wJ_St, cI_s, cJ_s, cV_s, nR_s, nQ_s, nQ_n, lt_s_, gd_T, u2_uu, k_S0, i_S0, r_S0, wI_S0, k0, kp]
theorem u_124 (k0 : K 0 = 9) (km : K 132 = 11) (rp : R 0 8 = some p) (kp : K p = 2) (rs : R 0 6 = some 108) (ks : K 108 = 4) (fn : R 132 3 = none) (t0 : I 0 10 = 0) (w4 : I p 4 = 0) (w7 : I p 7 = 0) (w8 : I p 8 = 0) (w2 : I 108 2 = 0) (l1 : Int32) (l2 : Int32) : Ca lx 124 [.ref (z + 0), .int l1, .int l2] (St z E n K N R I J) = some (some (.int (-1)), St z E n K N R (u2 I 0 11 1) J) := by
  simp only [f_124, e_124_24, k_St, n_St, i_St, j_St, r_St, z_St, e_St, wI_St, wJ_St, cI_s, cJ_s, cV_s, nR_s, nQ_s, nQ_n, lt_s_, gd_T, u2_uu, k_S0, i_S0, r_S0, wI_S0, k0, rp, rs, kp, ks, t0, Option.map_some, u_24 kp w4, u_162 k0 rp kp w8, u_163 k0 rp kp w7, u_164 k0 rs ks w2, u_165 k0 rp kp w4, s_160 k0, s_161 k0, s_166, s_167, s_168, if_true, ite_self]
  try simp [k_St, n_St, i_St, j_St, r_St, z_St, e_St, wI_St, wJ_St, cI_s, cJ_s, cV_s, nR_s, nQ_s, nQ_n, lt_s_, gd_T, u2_uu, k_S0, i_S0, r_S0, wI_S0, k0, kp]
theorem u_125 (k0 : K 0 = 9) (km : K 132 = 11) (rp : R 0 8 = some p) (kp : K p = 2) (rs : R 0 6 = some 108) (ks : K 108 = 4) (fn : R 132 3 = none) (t0 : I 0 10 = 0) (w4 : I p 4 = 0) (w7 : I p 7 = 0) (w8 : I p 8 = 0) (w2 : I 108 2 = 0)  : Ca lx 125 [.ref (z + 0)] (St z E n K N R I J) = some (some (.int (-1)), St z E n K N R (u2 I 0 11 1) J) := by
  simp only [f_125, k_St, n_St, i_St, j_St, r_St, z_St, e_St, wI_St, wJ_St, cI_s, cJ_s, cV_s, nR_s, nQ_s, nQ_n, lt_s_, gd_T, u2_uu, k_S0, i_S0, r_S0, wI_S0, k0, rp, rs, kp, ks, t0, Option.map_some, u_24 kp w4, u_162 k0 rp kp w8, u_163 k0 rp kp w7, u_164 k0 rs ks w2, u_165 k0 rp kp w4, s_160 k0, s_161 k0, s_166, s_167, s_168, if_true, ite_self]
  try simp [k_St, n_St, i_St, j_St, r_St, z_St, e_St, wI_St, wJ_St, cI_s, cJ_s, cV_s, nR_s, nQ_s, nQ_n, lt_s_, gd_T, u2_uu, k_S0, i_S0, r_S0, wI_S0, k0, kp]
theorem u_126 (k0 : K 0 = 9) (km : K 132 = 11) (rp : R 0 8 = some p) (kp : K p = 2) (rs : R 0 6 = some 108) (ks : K 108 = 4) (fn : R 132 3 = none) (t0 : I 0 10 = 0) (w4 : I p 4 = 0) (w7 : I p 7 = 0) (w8 : I p 8 = 0) (w2 : I 108 2 = 0)  : Ca lx 126 [.ref (z + 0)] (St z E n K N R I J) = some (some (.int (-1)), St z E n K N R (u2 I 0 11 1) J) := by
  simp only [f_126, k_St, n_St, i_St, j_St, r_St, z_St, e_St, wI_St, wJ_St, cI_s, cJ_s, cV_s, nR_s, nQ_s, nQ_n, lt_s_, gd_T, u2_uu, k_S0, i_S0, r_S0, wI_S0, k0, rp, rs, kp, ks, t0, Option.map_some, u_24 kp w4, u_162 k0 rp kp w8, u_163 k0 rp kp w7, u_164 k0 rs ks w2, u_165 k0 rp kp w4, s_160 k0, s_161 k0, s_166, s_167, s_168, if_true, ite_self]
  try simp [k_St, n_St, i_St, j_St, r_St, z_St, e_St, wI_St, wJ_St, cI_s, cJ_s, cV_s, nR_s, nQ_s, nQ_n, lt_s_, gd_T, u2_uu, k_S0, i_S0, r_S0, wI_S0, k0, kp]
theorem u_127 (k0 : K 0 = 9) (km : K 132 = 11) (rp : R 0 8 = some p) (kp : K p = 2) (rs : R 0 6 = some 108) (ks : K 108 = 4) (fn : R 132 3 = none) (t0 : I 0 10 = 0) (w4 : I p 4 = 0) (w7 : I p 7 = 0) (w8 : I p 8 = 0) (w2 : I 108 2 = 0) (l1 : Int32) (l2 : Int32) : Ca lx 127 [.ref (z + 0), .int l1, .int l2] (St z E n K N R I J) = some (some (.int (-1)), St z E n K N R (u2 I 0 11 1) J) := by
  simp only [f_127, k_St, n_St, i_St, j_St, r_St, z_St, e_St, wI_St, wJ_St, cI_s, cJ_s, cV_s, nR_s, nQ_s, nQ_n, lt_s_, gd_T, u2_uu, k_S0, i_S0, r_S0, wI_S0, k0, rp, rs, kp, ks, t0, Option.map_some, u_24 kp w4, u_162 k0 rp kp w8, u_163 k0 rp kp w7, u_164 k0 rs ks w2, u_165 k0 rp kp w4, s_160 k0, s_161 k0, s_166, s_167, s_168, if_true, ite_self]
  try simp [k_St, n_St, i_St, j_St, r_St, z_St, e_St, wI_St, wJ_St, cI_s, cJ_s, cV_s, nR_s, nQ_s, nQ_n, lt_s_, gd_T, u2_uu, k_S0, i_S0, r_S0, wI_S0, k0, kp]
theorem u_128 (k0 : K 0 = 9) (km : K 132 = 11) (rp : R 0 8 = some p) (kp : K p = 2) (rs : R 0 6 = some 108) (ks : K 108 = 4) (fn : R 132 3 = none) (t0 : I 0 10 = 0) (w4 : I p 4 = 0) (w7 : I p 7 = 0) (w8 : I p 8 = 0) (w2 : I 108 2 = 0) (l1 : Int32) : Ca lx 128 [.ref (z + 0), .int l1] (St z E n K N R I J) = some (some (.int (-1)), St z E n K N R (u2 I 0 11 1) J) := by
  simp only [f_128, k_St, n_St, i_St, j_St, r_St, z_St, e_St, wI_St, wJ_St, cI_s, cJ_s, cV_s, nR_s, nQ_s, nQ_n, lt_s_, gd_T, u2_uu, k_S0, i_S0, r_S0, wI_S0, k0, rp, rs, kp, ks, t0, Option.map_some, u_24 kp w4, u_162 k0 rp kp w8, u_163 k0 rp kp w7, u_164 k0 rs ks w2, u_165 k0 rp kp w4, s_160 k0, s_161 k0, s_166, s_167, s_168, if_true, ite_self]
  try simp [k_St, n_St, i_St, j_St, r_St, z_St, e_St, wI_St, wJ_St, cI_s, cJ_s, cV_s, nR_s, nQ_s, nQ_n, lt_s_, gd_T, u2_uu, k_S0, i_S0, r_S0, wI_S0, k0, kp]
theorem u_129 (k0 : K 0 = 9) (km : K 132 = 11) (rp : R 0 8 = some p) (kp : K p = 2) (rs : R 0 6 = some 108) (ks : K 108 = 4) (fn : R 132 3 = none) (t0 : I 0 10 = 0) (w4 : I p 4 = 0) (w7 : I p 7 = 0) (w8 : I p 8 = 0) (w2 : I 108 2 = 0) (l1 : Int32) (l2 : Int32) (l3 : Int32) (l4 : Int32) : Ca lx 129 [.ref (z + 0), .int l1, .int l2, .int l3, .int l4] (St z E n K N R I J) = some (some (.int (-1)), St z E n K N R (u2 I 0 11 1) J) := by
  simp only [f_129, e_129_17, k_St, n_St, i_St, j_St, r_St, z_St, e_St, wI_St, wJ_St, cI_s, cJ_s, cV_s, nR_s, nQ_s, nQ_n, lt_s_, gd_T, u2_uu, k_S0, i_S0, r_S0, wI_S0, k0, rp, rs, kp, ks, t0, Option.map_some, u_24 kp w4, u_162 k0 rp kp w8, u_163 k0 rp kp w7, u_164 k0 rs ks w2, u_165 k0 rp kp w4, s_160 k0, s_161 k0, s_166, s_167, s_168, if_true, ite_self]
  try simp [k_St, n_St, i_St, j_St, r_St, z_St, e_St, wI_St, wJ_St, cI_s, cJ_s, cV_s, nR_s, nQ_s, nQ_n, lt_s_, gd_T, u2_uu, k_S0, i_S0, r_S0, wI_S0, k0, kp]
theorem u_130 (k0 : K 0 = 9) (km : K 132 = 11) (rp : R 0 8 = some p) (kp : K p = 2) (rs : R 0 6 = some 108) (ks : K 108 = 4) (fn : R 132 3 = none) (t0 : I 0 10 = 0) (w4 : I p 4 = 0) (w7 : I p 7 = 0) (w8 : I p 8 = 0) (w2 : I 108 2 = 0) (l1 : Int32) (l2 : Int32) (l3 : Int32) (l4 : Int32) : Ca lx 130 [.ref (z + 0), .int l1, .int l2, .int l3, .int l4] (St z E n K N R I J) = some (some (.int (-1)), St z E n K N R (u2 I 0 11 1) J) := by
  simp only [f_130, e_130_17, k_St, n_St, i_St, j_St, r_St, z_St, e_St, wI_St, wJ_St, cI_s, cJ_s, cV_s, nR_s, nQ_s, nQ_n, lt_s_, gd_T, u2_uu, k_S0, i_S0, r_S0, wI_S0, k0, rp, rs, kp, ks, t0, Option.map_some, u_24 kp w4, u_162 k0 rp kp w8, u_163 k0 rp kp w7, u_164 k0 rs ks w2, u_165 k0 rp kp w4, s_160 k0, s_161 k0, s_166, s_167, s_168, if_true, ite_self]
  try simp [k_St, n_St, i_St, j_St, r_St, z_St, e_St, wI_St, wJ_St, cI_s, cJ_s, cV_s, nR_s, nQ_s, nQ_n, lt_s_, gd_T, u2_uu, k_S0, i_S0, r_S0, wI_S0, k0, kp]
theorem u_131 (k0 : K 0 = 9) (km : K 132 = 11) (rp : R 0 8 = some p) (kp : K p = 2) (rs : R 0 6 = some 108) (ks : K 108 = 4) (fn : R 132 3 = none) (t0 : I 0 10 = 0) (w4 : I p 4 = 0) (w7 : I p 7 = 0) (w8 : I p 8 = 0) (w2 : I 108 2 = 0) (l1 : Int32) : Ca lx 131 [.ref (z + 0), .int l1] (St z E n K N R I J) = some (some (.int (-1)), St z E n K N R (u2 I 0 11 1) J) := by
  simp only [f_131, k_St, n_St, i_St, j_St, r_St, z_St, e_St, wI_St, wJ_St, cI_s, cJ_s, cV_s, nR_s, nQ_s, nQ_n, lt_s_, gd_T, u2_uu, k_S0, i_S0, r_S0, wI_S0, k0, rp, rs, kp, ks, t0, Option.map_some, u_24 kp w4, u_162 k0 rp kp w8, u_163 k0 rp kp w7, u_164 k0 rs ks w2, u_165 k0 rp kp w4, s_160 k0, s_161 k0, s_166, s_167, s_168, if_true, ite_self]
  try simp [k_St, n_St, i_St, j_St, r_St, z_St, e_St, wI_St, wJ_St, cI_s, cJ_s, cV_s, nR_s, nQ_s, nQ_n, lt_s_, gd_T, u2_uu, k_S0, i_S0, r_S0, wI_S0, k0, kp]
theorem u_132 (k0 : K 0 = 9) (km : K 132 = 11) (rp : R 0 8 = some p) (kp : K p = 2) (rs : R 0 6 = some 108) (ks : K 108 = 4) (fn : R 132 3 = none) (t0 : I 0 10 = 0) (w4 : I p 4 = 0) (w7 : I p 7 = 0) (w8 : I p 8 = 0) (w2 : I 108 2 = 0) (l1 : Int32) (l2 : Int32) (l3 : Int32) : Ca lx 132 [.ref (z + 0), .int l1, .int l2, .int l3] (St z E n K N R I J) = some (some (.int (-1)), St z E n K N R (u2 I 0 11 1) J) := by
  simp only [f_132, e_132_15, k_St, n_St, i_St, j_St, r_St, z_St, e_St, wI_St, wJ_St, cI_s, cJ_s, cV_s, nR_s, nQ_s, nQ_n, lt_s_, gd_T, u2_uu, k_S0, i_S0, r_S0, wI_S0, k0, rp, rs, kp, ks, t0, Option.map_some, u_24 kp w4, u_162 k0 rp kp w8, u_163 k0 rp kp w7, u_164 k0 rs ks w2, u_165 k0 rp kp w4, s_160 k0, s_161 k0, s_166, s_167, s_168, if_true, ite_self]
  try simp [k_St, n_St, i_St, j_St, r_St, z_St, e_St, wI_St, wJ_St, cI_s, cJ_s, cV_s, nR_s, nQ_s, nQ_n, lt_s_, gd_T, u2_uu, k_S0, i_S0, r_S0, wI_S0, k0, kp]
theorem u_133 (k0 : K 0 = 9) (km : K 132 = 11) (rp : R 0 8 = some p) (kp : K p = 2) (rs : R 0 6 = some 108) (ks : K 108 = 4) (fn : R 132 3 = none) (t0 : I 0 10 = 0) (w4 : I p 4 = 0) (w7 : I p 7 = 0) (w8 : I p 8 = 0) (w2 : I 108 2 = 0)  : Ca lx 133 [.ref (z + 0)] (St z E n K N R I J) = some (some (.int (-1)), St z E n K N R (u2 I 0 11 1) J) := by
  simp only [f_133, k_St, n_St, i_St, j_St, r_St, z_St, e_St, wI_St, wJ_St, cI_s, cJ_s, cV_s, nR_s, nQ_s, nQ_n, lt_s_, gd_T, u2_uu, k_S0, i_S0, r_S0, wI_S0, k0, rp, rs, kp, ks, t0, Option.map_some, u_24 kp w4, u_162 k0 rp kp w8, u_163 k0 rp kp w7, u_164 k0 rs ks w2, u_165 k0 rp kp w4, s_160 k0, s_161 k0, s_166, s_167, s_168, if_true, ite_self]
  try simp [k_St, n_St, i_St, j_St, r_St, z_St, e_St, wI_St, wJ_St, cI_s, cJ_s, cV_s, nR_s, nQ_s, nQ_n, lt_s_, gd_T, u2_uu, k_S0, i_S0, r_S0, wI_S0, k0, kp]
theorem u_134 (k0 : K 0 = 9) (km : K 132 = 11) (rp : R 0 8 = some p) (kp : K p = 2) (rs : R 0 6 = some 108) (ks : K 108 = 4) (fn : R 132 3 = none) (t0 : I 0 10 = 0) (w4 : I p 4 = 0) (w7 : I p 7 = 0) (w8 : I p 8 = 0) (w2 : I 108 2 = 0) (l1 : Int32) : Ca lx 134 [.ref (z + 0), .int l1] (St z E n K N R I J) = some (some (.int (-1)), St z E n K N R (u2 I 0 11 1) J) := by
  simp only [f_134, k_St, n_St, i_St, j_St, r_St, z_St, e_St, wI_St, wJ_St, cI_s, cJ_s, cV_s, nR_s, nQ_s, nQ_n, lt_s_, gd_T, u2_uu, k_S0, i_S0, r_S0, wI_S0, k0, rp, rs, kp, ks, t0, Option.map_some, u_24 kp w4, u_162 k0 rp kp w8, u_163 k0 rp kp w7, u_164 k0 rs ks w2, u_165 k0 rp kp w4, s_160 k0, s_161 k0, s_166, s_167, s_168, if_true, ite_self]
  try simp [k_St, n_St, i_St, j_St, r_St, z_St, e_St, wI_St, wJ_St, cI_s, cJ_s, cV_s, nR_s, nQ_s, nQ_n, lt_s_, gd_T, u2_uu, k_S0, i_S0, r_S0, wI_S0, k0, kp]
theorem u_135 (k0 : K 0 = 9) (km : K 132 = 11) (rp : R 0 8 = some p) (kp : K p = 2) (rs : R 0 6 = some 108) (ks : K 108 = 4) (fn : R 132 3 = none) (t0 : I 0 10 = 0) (w4 : I p 4 = 0) (w7 : I p 7 = 0) (w8 : I p 8 = 0) (w2 : I 108 2 = 0) (l1 : Int32) (l2 : Int32) (l3 : Int32) : Ca lx 135 [.ref (z + 0), .int l1, .int l2, .int l3] (St z E n K N R I J) = some (some (.int (-1)), St z E n K N R (u2 I 0 11 1) J) := by
  simp only [f_135, k_St, n_St, i_St, j_St, r_St, z_St, e_St, wI_St, wJ_St, cI_s, cJ_s, cV_s, nR_s, nQ_s, nQ_n, lt_s_, gd_T, u2_uu, k_S0, i_S0, r_S0, wI_S0, k0, rp, rs, kp, ks, t0, Option.map_some, u_24 kp w4, u_162 k0 rp kp w8, u_163 k0 rp kp w7, u_164 k0 rs ks w2, u_165 k0 rp kp w4, s_160 k0, s_161 k0, s_166, s_167, s_168, if_true, ite_self]
  try simp [k_St, n_St, i_St, j_St, r_St, z_St, e_St, wI_St, wJ_St, cI_s, cJ_s, cV_s, nR_s, nQ_s, nQ_n, lt_s_, gd_T, u2_uu, k_S0, i_S0, r_S0, wI_S0, k0, kp]
theorem u_136 (k0 : K 0 = 9) (km : K 132 = 11) (rp : R 0 8 = some p) (kp : K p = 2) (rs : R 0 6 = some 108) (ks : K 108 = 4) (fn : R 132 3 = none) (t0 : I 0 10 = 0) (w4 : I p 4 = 0) (w7 : I p 7 = 0) (w8 : I p 8 = 0) (w2 : I 108 2 = 0) (l1 : Int32) : Ca lx 136 [.ref (z + 0), .int l1] (St z E n K N R I J) = some (some (.int (-1)), St z E n K N R (u2 I 0 11 1) J) := by
  simp only [f_136, k_St, n_St, i_St, j_St, r_St, z_St, e_St, wI_St, wJ_St, cI_s, cJ_s, cV_s, nR_s, nQ_s, nQ_n, lt_s_, gd_T, u2_uu, k_S0, i_S0, r_S0, wI_S0, k0, rp, rs, kp, ks, t0, Option.map_some, u_24 kp w4, u_162 k0 rp kp w8, u_163 k0 rp kp w7, u_164 k0 rs ks w2, u_165 k0 rp kp w4, s_160 k0, s_161 k0, s_166, s_167, s_168, if_true, ite_self]
  try simp [k_St, n_St, i_St, j_St, r_St, z_St, e_St, wI_St, wJ_St, cI_s, cJ_s, cV_s, nR_s, nQ_s, nQ_n, lt_s_, gd_T, u2_uu, k_S0, i_S0, r_S0, wI_S0, k0, kp]
theorem u_137 (k0 : K 0 = 9) (km : K 132 = 11) (rp : R 0 8 = some p) (kp : K p = 2) (rs : R 0 6 = some 108) (ks : K 108 = 4) (fn : R 132 3 = none) (t0 : I 0 10 = 0) (w4 : I p 4 = 0) (w7 : I p 7 = 0) (w8 : I p 8 = 0) (w2 : I 108 2 = 0)  : Ca lx 137 [.ref (z + 0)] (St z E n K N R I J) = some (some (.int (-1)), St z E n K N R (u2 I 0 11 1) J) := by
  simp only [f_137, k_St, n_St, i_St, j_St, r_St, z_St, e_St, wI_St, wJ_St, cI_s, cJ_s, cV_s, nR_s, nQ_s, nQ_n, lt_s_, gd_T, u2_uu, k_S0, i_S0, r_S0, wI_S0, k0, rp, rs, kp, ks, t0, Option.map_some, u_24 kp w4, u_162 k0 rp kp w8, u_163 k0 rp kp w7, u_164 k0 rs ks w2, u_165 k0 rp kp w4, s_160 k0, s_161 k0, s_166, s_167, s_168, if_true, ite_self]
  try simp [k_St, n_St, i_St, j_St, r_St, z_St, e_St, wI_St, wJ_St, cI_s, cJ_s, cV_s, nR_s, nQ_s, nQ_n, lt_s_, gd_T, u2_uu, k_S0, i_S0, r_S0, wI_S0, k0, kp]
theorem u_138 (k0 : K 0 = 9) (km : K 132 = 11) (rp : R 0 8 = some p) (kp : K p = 2) (rs : R 0 6 = some 108) (ks : K 108 = 4) (fn : R 132 3 = none) (t0 : I 0 10 = 0) (w4 : I p 4 = 0) (w7 : I p 7 = 0) (w8 : I p 8 = 0) (w2 : I 108 2 = 0) (l1 : Int32) : Ca lx 138 [.ref (z + 0), .int l1] (St z E n K N R I J) = some (some (.int (-1)), St z E n K N R (u2 I 0 11 1) J) := by
  simp only [f_138, k_St, n_St, i_St, j_St, r_St, z_St, e_St, wI_St, wJ_St, cI_s, cJ_s, cV_s, nR_s, nQ_s, nQ_n, lt_s_, gd_T, u2_uu, k_S0, i_S0, r_S0, wI_S0, k0, rp, rs, kp, ks, t0, Option.map_some, u_24 kp w4, u_162 k0 rp kp w8, u_163 k0 rp kp w7, u_164 k0 rs ks w2, u_165 k0 rp kp w4, s_160 k0, s_161 k0, s_166, s_167, s_168, if_true, ite_self]
  try simp [k_St, n_St, i_St, j_St, r_St, z_St, e_St, wI_St, wJ_St, cI_s, cJ_s, cV_s, nR_s, nQ_s, nQ_n, lt_s_, gd_T, u2_uu, k_S0, i_S0, r_S0, wI_S0, k0, kp]
theorem u_139 (k0 : K 0 = 9) (km : K 132 = 11) (rp : R 0 8 = some p) (kp : K p = 2) (rs : R 0 6 = some 108) (ks : K 108 = 4) (fn : R 132 3 = none) (t0 : I 0 10 = 0) (w4 : I p 4 = 0) (w7 : I p 7 = 0) (w8 : I p 8 = 0) (w2 : I 108 2 = 0) (l1 : Int32) : Ca lx 139 [.ref (z + 0), .int l1] (St z E n K N R I J) = some (some (.int (-1)), St z E n K N R (u2 I 0 11 1) J) := by
  simp only [f_139, k_St, n_St, i_St, j_St, r_St, z_St, e_St, wI_St, wJ_St, cI_s, cJ_s, cV_s, nR_s, nQ_s, nQ_n, lt_s_, gd_T, u2_uu, k_S0, i_S0, r_S0, wI_S0, k0, rp, rs, kp, ks, t0, Option.map_some, u_24 kp w4, u_162 k0 rp kp w8, u_163 k0 rp kp w7, u_164 k0 rs ks w2, u_165 k0 rp kp w4, s_160 k0, s_161 k0, s_166, s_167, s_168, if_true, ite_self]
  try simp [k_St, n_St, i_St, j_St, r_St, z_St, e_St, wI_St, wJ_St, cI_s, cJ_s, cV_s, nR_s, nQ_s, nQ_n, lt_s_, gd_T, u2_uu, k_S0, i_S0, r_S0, wI_S0, k0, kp]
theorem u_140 (k0 : K 0 = 9) (km : K 132 = 11) (rp : R 0 8 = some p) (kp : K p = 2) (rs : R 0 6 = some 108) (ks : K 108 = 4) (fn : R 132 3 = none) (t0 : I 0 10 = 0) (w4 : I p 4 = 0) (w7 : I p 7 = 0) (w8 : I p 8 = 0) (w2 : I 108 2 = 0) (l1 : Int32) (l2 : Int32) (l3 : Int32) : Ca lx 140 [.ref (z + 0), .int l1, .int l2, .int l3] (St z E n K N R I J) = some (some (.int (-1)), St z E n K N R (u2 I 0 11 1) J) := by
  simp only [f_140, k_St, n_St, i_St, j_St, r_St, z_St, e_St, wI_St, wJ_St, cI_s, cJ_s, cV_s, nR_s, nQ_s, nQ_n, lt_s_, gd_T, u2_uu, k_S0, i_S0, r_S0, wI_S0, k0, rp, rs, kp, ks, t0, Option.map_some, u_24 kp w4, u_162 k0 rp kp w8, u_163 k0 rp kp w7, u_164 k0 rs ks w2, u_165 k0 rp kp w4, s_160 k0, s_161 k0, s_166, s_167, s_168, if_true, ite_self]
  try simp [k_St, n_St, i_St, j_St, r_St, z_St, e_St, wI_St, wJ_St, cI_s, cJ_s, cV_s, nR_s, nQ_s, nQ_n, lt_s_, gd_T, u2_uu, k_S0, i_S0, r_S0, wI_S0, k0, kp]
theorem u_141 (k0 : K 0 = 9) (km : K 132 = 11) (rp : R 0 8 = some p) (kp : K p = 2) (rs : R 0 6 = some 108) (ks : K 108 = 4) (fn : R 132 3 = none) (t0 : I 0 10 = 0) (w4 : I p 4 = 0) (w7 : I p 7 = 0) (w8 : I p 8 = 0) (w2 : I 108 2 = 0) (l1 : Int32) : Ca lx 141 [.ref (z + 0), .int l1] (St z E n K N R I J) = some (some (.int (-1)), St z E n K N R (u2 I 0 11 1) J) := by
  simp only [f_141, k_St, n_St, i_St, j_St, r_St, z_St, e_St, wI_St, wJ_St, cI_s, cJ_s, cV_s, nR_s, nQ_s, nQ_n, lt_s_, gd_T, u2_uu, k_S0, i_S0, r_S0, wI_S0, k0, rp, rs, kp, ks, t0, Option.map_some, u_24 kp w4, u_162 k0 rp kp w8, u_163 k0 rp kp w7, u_164 k0 rs ks w2, u_165 k0 rp kp w4, s_160 k0, s_161 k0, s_166, s_167, s_168, if_true, ite_self]
  try simp [k_St, n_St, i_St, j_St, r_St, z_St, e_St, wI_St, wJ_St, cI_s, cJ_s, cV_s, nR_s, nQ_s, nQ_n, lt_s_, gd_T, u2_uu, k_S0, i_S0, r_S0, wI_S0, k0, kp]
theorem u_142 (k0 : K 0 = 9) (km : K 132 = 11) (rp : R 0 8 = some p) (kp : K p = 2) (rs : R 0 6 = some 108) (ks : K 108 = 4) (fn : R 132 3 = none) (t0 : I 0 10 = 0) (w4 : I p 4 = 0) (w7 : I p 7 = 0) (w8 : I p 8 = 0) (w2 : I 108 2 = 0) (l1 : Int32) : Ca lx 142 [.ref (z + 0), .int l1] (St z E n K N R I J) = some (some (.int (-1)), St z E n K N R (u2 I 0 11 1) J) := by
  simp only [f_142, k_St, n_St, i_St, j_St, r_St, z_St, e_St, wI_St, wJ_St, cI_s, cJ_s, cV_s, nR_s, nQ_s, nQ_n, lt_s_, gd_T, u2_uu, k_S0, i_S0, r_S0, wI_S0, k0, rp, rs, kp, ks, t0, Option.map_some, u_24 kp w4, u_162 k0 rp kp w8, u_163 k0 rp kp w7, u_164 k0 rs ks w2, u_165 k0 rp kp w4, s_160 k0, s_161 k0, s_166, s_167, s_168, if_true, ite_self]
  try simp [k_St, n_St, i_St, j_St, r_St, z_St, e_St, wI_St, wJ_St, cI_s, cJ_s, cV_s, nR_s, nQ_s, nQ_n, lt_s_, gd_T, u2_uu, k_S0, i_S0, r_S0, wI_S0, k0, kp]
theorem u_143 (k0 : K 0 = 9) (km : K 132 = 11) (rp : R 0 8 = some p) (kp : K p = 2) (rs : R 0 6 = some 108) (ks : K 108 = 4) (fn : R 132 3 = none) (t0 : I 0 10 = 0) (w4 : I p 4 = 0) (w7 : I p 7 = 0) (w8 : I p 8 = 0) (w2 : I 108 2 = 0) (l1 : Int32) : Ca lx 143 [.ref (z + 0), .int l1] (St z E n K N R I J) = some (some (.int (-1)), St z E n K N R (u2 I 0 11 1) J) := by
  simp only [f_143, k_St, n_St, i_St, j_St, r_St, z_St, e_St, wI_St, wJ_St, cI_s, cJ_s, cV_s, nR_s, nQ_s, nQ_n, lt_s_, gd_T, u2_uu, k_S0, i_S0, r_S0, wI_S0, k0, rp, rs, kp, ks, t0, Option.map_some, u_24 kp w4, u_162 k0 rp kp w8, u_163 k0 rp kp w7, u_164 k0 rs ks w2, u_165 k0 rp kp w4, s_160 k0, s_161 k0, s_166, s_167, s_168, if_true, ite_self]
  try simp [k_St, n_St, i_St, j_St, r_St, z_St, e_St, wI_St, wJ_St, cI_s, cJ_s, cV_s, nR_s, nQ_s, nQ_n, lt_s_, gd_T, u2_uu, k_S0, i_S0, r_S0, wI_S0, k0, kp]
theorem u_144 (k0 : K 0 = 9) (km : K 132 = 11) (rp : R 0 8 = some p) (kp : K p = 2) (rs : R 0 6 = some 108) (ks : K 108 = 4) (fn : R 132 3 = none) (t0 : I 0 10 = 0) (w4 : I p 4 = 0) (w7 : I p 7 = 0) (w8 : I p 8 = 0) (w2 : I 108 2 = 0) (l1 : Int32) (l2 : Int32) : Ca lx 144 [.ref (z + 0), .int l1, .int l2] (St z E n K N R I J) = some (some (.int (-1)), St z E n K N R (u2 I 0 11 1) J) := by
  simp only [f_144, e_144_13, k_St, n_St, i_St, j_St, r_St, z_St, e_St, wI_St, wJ_St, cI_s, cJ_s, cV_s, nR_s, nQ_s, nQ_n, lt_s_, gd_T, u2_uu, k_S0, i_S0, r_S0, wI_S0, k0, rp, rs, kp, ks, t0, Option.map_some, u_24 kp w4, u_162 k0 rp kp w8, u_163 k0 rp kp w7, u_164 k0 rs ks w2, u_165 k0 rp kp w4, s_160 k0, s_161 k0, s_166, s_167, s_168, if_true, ite_self]
  try simp [k_St, n_St, i_St, j_St, r_St, z_St, e_St, wI_St, wJ_St, cI_s, cJ_s, cV_s, nR_s, nQ_s, nQ_n, lt_s_, gd_T, u2_uu, k_S0, i_S0, r_S0, wI_S0, k0, kp]
theorem u_145 (k0 : K 0 = 9) (km : K 132 = 11) (rp : R 0 8 = some p) (kp : K p = 2) (rs : R 0 6 = some 108) (ks : K 108 = 4) (fn : R 132 3 = none) (t0 : I 0 10 = 0) (w4 : I p 4 = 0) (w7 : I p 7 = 0) (w8 : I p 8 = 0) (w2 : I 108 2 = 0) (l1 : Int32) (l2 : Int32) (l3 : Int32) (l4 : Int32) : Ca lx 145 [.ref (z + 0), .int l1, .int l2, .int l3, .int l4] (St z E n K N R I J) = some (some (.int (-100)), St z E n K N R (u2 I 0 11 1) J) := by
  simp only [f_145, k_St, n_St, i_St, j_St, r_St, z_St, e_St, wI_St, wJ_St, cI_s, cJ_s, cV_s, nR_s, nQ_s, nQ_n, lt_s_, gd_T, u2_uu, k_S0, i_S0, r_S0, wI_S0, k0, rp, rs, kp, ks, t0, Option.map_some, u_24 kp w4, u_162 k0 rp kp w8, u_163 k0 rp kp w7, u_164 k0 rs ks w2, u_165 k0 rp kp w4, s_160 k0, s_161 k0, s_166, s_167, s_168, if_true, ite_self]
  try simp [k_St, n_St, i_St, j_St, r_St, z_St, e_St, wI_St, wJ_St, cI_s, cJ_s, cV_s, nR_s, nQ_s, nQ_n, lt_s_, gd_T, u2_uu, k_S0, i_S0, r_S0, wI_S0, k0, kp]
theorem u_146 (k0 : K 0 = 9) (km : K 132 = 11) (rp : R 0 8 = some p) (kp : K p = 2) (rs : R 0 6 = some 108) (ks : K 108 = 4) (fn : R 132 3 = none) (t0 : I 0 10 = 0) (w4 : I p 4 = 0) (w7 : I p 7 = 0) (w8 : I p 8 = 0) (w2 : I 108 2 = 0) (l1 : Int32) : Ca lx 146 [.ref (z + 0), .int l1] (St z E n K N R I J) = some (some (.int (-1)), St z E n K N R (u2 I 0 11 1) J) := by
  simp only [f_146, k_St, n_St, i_St, j_St, r_St, z_St, e_St, wI_St, wJ_St, cI_s, cJ_s, cV_s, nR_s, nQ_s, nQ_n, lt_s_, gd_T, u2_uu, k_S0, i_S0, r_S0, wI_S0, k0, rp, rs, kp, ks, t0, Option.map_some, u_24 kp w4, u_162 k0 rp kp w8, u_163 k0 rp kp w7, u_164 k0 rs ks w2, u_165 k0 rp kp w4, s_160 k0, s_161 k0, s_166, s_167, s_168, if_true, ite_self]
  try simp [k_St, n_St, i_St, j_St, r_St, z_St, e_St, wI_St, wJ_St, cI_s, cJ_s, cV_s, nR_s, nQ_s, nQ_n, lt_s_, gd_T, u2_uu, k_S0, i_S0, r_S0, wI_S0, k0, kp]
theorem u_147 (k0 : K 0 = 9) (km : K 132 = 11) (rp : R 0 8 = some p) (kp : K p = 2) (rs : R 0 6 = some 108) (ks : K 108 = 4) (fn : R 132 3 = none) (t0 : I 0 10 = 0) (w4 : I p 4 = 0) (w7 : I p 7 = 0) (w8 : I p 8 = 0) (w2 : I 108 2 = 0) (l1 : Int32) : Ca lx 147 [.ref (z + 0), .int l1] (St z E n K N R I J) = some (some (.int (-1)), St z E n K N R (u2 I 0 11 1) J) := by
  simp only [f_147, k_St, n_St, i_St, j_St, r_St, z_St, e_St, wI_St, wJ_St, cI_s, cJ_s, cV_s, nR_s, nQ_s, nQ_n, lt_s_, gd_T, u2_uu, k_S0, i_S0, r_S0, wI_S0, k0, rp, rs, kp, ks, t0, Option.map_some, u_24 kp w4, u_162 k0 rp kp w8, u_163 k0 rp kp w7, u_164 k0 rs ks w2, u_165 k0 rp kp w4, s_160 k0, s_161 k0, s_166, s_167, s_168, if_true, ite_self]
  try simp [k_St, n_St, i_St, j_St, r_St, z_St, e_St, wI_St, wJ_St, cI_s, cJ_s, cV_s, nR_s, nQ_s, nQ_n, lt_s_, gd_T, u2_uu, k_S0, i_S0, r_S0, wI_S0, k0, kp]
theorem u_148 (k0 : K 0 = 9) (km : K 132 = 11) (rp : R 0 8 = some p) (kp : K p = 2) (rs : R 0 6 = some 108) (ks : K 108 = 4) (fn : R 132 3 = none) (t0 : I 0 10 = 0) (w4 : I p 4 = 0) (w7 : I p 7 = 0) (w8 : I p 8 = 0) (w2 : I 108 2 = 0) (l1 : Int32) (l2 : Int32) : Ca lx 148 [.ref (z + 0), .int l1, .int l2] (St z E n K N R I J) = some (some (.long (-1)), St z E n K N R (u2 I 0 11 1) J) := by
  simp only [f_148, k_St, n_St, i_St, j_St, r_St, z_St, e_St, wI_St, wJ_St, cI_s, cJ_s, cV_s, nR_s, nQ_s, nQ_n, lt_s_, gd_T, u2_uu, k_S0, i_S0, r_S0, wI_S0, k0, rp, rs, kp, ks, t0, Option.map_some, u_24 kp w4, u_162 k0 rp kp w8, u_163 k0 rp kp w7, u_164 k0 rs ks w2, u_165 k0 rp kp w4, s_160 k0, s_161 k0, s_166, s_167, s_168, if_true, ite_self]
  try simp [k_St, n_St, i_St, j_St, r_St, z_St, e_St, wI_St, wJ_St, cI_s, cJ_s, cV_s, nR_s, nQ_s, nQ_n, lt_s_, gd_T, u2_uu, k_S0, i_S0, r_S0, wI_S0, k0, kp]
theorem u_149 (k0 : K 0 = 9) (km : K 132 = 11) (rp : R 0 8 = some p) (kp : K p = 2) (rs : R 0 6 = some 108) (ks : K 108 = 4) (fn : R 132 3 = none) (t0 : I 0 10 = 0) (w4 : I p 4 = 0) (w7 : I p 7 = 0) (w8 : I p 8 = 0) (w2 : I 108 2 = 0) (l1 : Int32) : Ca lx 149 [.ref (z + 0), .int l1] (St z E n K N R I J) = some (some (.long (-1)), St z E n K N R (u2 I 0 11 1) J) := by
  simp only [f_149, k_St, n_St, i_St, j_St, r_St, z_St, e_St, wI_St, wJ_St, cI_s, cJ_s, cV_s, nR_s, nQ_s, nQ_n, lt_s_, gd_T, u2_uu, k_S0, i_S0, r_S0, wI_S0, k0, rp, rs, kp, ks, t0, Option.map_some, u_24 kp w4, u_162 k0 rp kp w8, u_163 k0 rp kp w7, u_164 k0 rs ks w2, u_165 k0 rp kp w4, s_160 k0, s_161 k0, s_166, s_167, s_168, if_true, ite_self]
  try simp [k_St, n_St, i_St, j_St, r_St, z_St, e_St, wI_St, wJ_St, cI_s, cJ_s, cV_s, nR_s, nQ_s, nQ_n, lt_s_, gd_T, u2_uu, k_S0, i_S0, r_S0, wI_S0, k0, kp]
theorem u_150 (k0 : K 0 = 9) (km : K 132 = 11) (rp : R 0 8 = some p) (kp : K p = 2) (rs : R 0 6 = some 108) (ks : K 108 = 4) (fn : R 132 3 = none) (t0 : I 0 10 = 0) (w4 : I p 4 = 0) (w7 : I p 7 = 0) (w8 : I p 8 = 0) (w2 : I 108 2 = 0) (l1 : Int32) : Ca lx 150 [.ref (z + 0), .int l1] (St z E n K N R I J) = some (some (.int (-1)), St z E n K N R (u2 I 0 11 1) J) := by
  simp only [f_150, e_150_12, k_St, n_St, i_St, j_St, r_St, z_St, e_St, wI_St, wJ_St, cI_s, cJ_s, cV_s, nR_s, nQ_s, nQ_n, lt_s_, gd_T, u2_uu, k_S0, i_S0, r_S0, wI_S0, k0, rp, rs, kp, ks, t0, Option.map_some, u_24 kp w4, u_162 k0 rp kp w8, u_163 k0 rp kp w7, u_164 k0 rs ks w2, u_165 k0 rp kp w4, s_160 k0, s_161 k0, s_166, s_167, s_168, if_true, ite_self]
  try simp [k_St, n_St, i_St, j_St, r_St, z_St, e_St, wI_St, wJ_St, cI_s, cJ_s, cV_s, nR_s, nQ_s, nQ_n, lt_s_, gd_T, u2_uu, k_S0, i_S0, r_S0, wI_S0, k0, kp]
theorem u_151 (k0 : K 0 = 9) (km : K 132 = 11) (rp : R 0 8 = some p) (kp : K p = 2) (rs : R 0 6 = some 108) (ks : K 108 = 4) (fn : R 132 3 = none) (t0 : I 0 10 = 0) (w4 : I p 4 = 0) (w7 : I p 7 = 0) (w8 : I p 8 = 0) (w2 : I 108 2 = 0)  : Ca lx 151 [.ref (z + 0)] (St z E n K N R I J) = some (some (.int (-1)), St z E n K N R (u2 I 0 11 1) J) := by
  simp only [f_151, k_St, n_St, i_St, j_St, r_St, z_St, e_St, wI_St, wJ_St, cI_s, cJ_s, cV_s, nR_s, nQ_s, nQ_n, lt_s_, gd_T, u2_uu, k_S0, i_S0, r_S0, wI_S0, k0, rp, rs, kp, ks, t0, Option.map_some, u_24 kp w4, u_162 k0 rp kp w8, u_163 k0 rp kp w7, u_164 k0 rs ks w2, u_165 k0 rp kp w4, s_160 k0, s_161 k0, s_166, s_167, s_168, if_true, ite_self]
  try simp [k_St, n_St, i_St, j_St, r_St, z_St, e_St, wI_St, wJ_St, cI_s, cJ_s, cV_s, nR_s, nQ_s, nQ_n, lt_s_, gd_T, u2_uu, k_S0, i_S0, r_S0, wI_S0, k0, kp]
theorem u_152 (k0 : K 0 = 9) (km : K 132 = 11) (rp : R 0 8 = some p) (kp : K p = 2) (rs : R 0 6 = some 108) (ks : K 108 = 4) (fn : R 132 3 = none) (t0 : I 0 10 = 0) (w4 : I p 4 = 0) (w7 : I p 7 = 0) (w8 : I p 8 = 0) (w2 : I 108 2 = 0) (l1 : Int32) (l2 : Int32) (l3 : Int32) : Ca lx 152 [.ref (z + 0), .int l1, .int l2, .int l3] (St z E n K N R I J) = some (some (.int (-1)), St z E n K N R (u2 I 0 11 1) J) := by
  simp only [f_152, k_St, n_St, i_St, j_St, r_St, z_St, e_St, wI_St, wJ_St, cI_s, cJ_s, cV_s, nR_s, nQ_s, nQ_n, lt_s_, gd_T, u2_uu, k_S0, i_S0, r_S0, wI_S0, k0, rp, rs, kp, ks, t0, Option.map_some, u_24 kp w4, u_162 k0 rp kp w8, u_163 k0 rp kp w7, u_164 k0 rs ks w2, u_165 k0 rp kp w4, s_160 k0, s_161 k0, s_166, s_167, s_168, if_true, ite_self]
  try simp [k_St, n_St, i_St, j_St, r_St, z_St, e_St, wI_St, wJ_St, cI_s, cJ_s, cV_s, nR_s, nQ_s, nQ_n, lt_s_, gd_T, u2_uu, k_S0, i_S0, r_S0, wI_S0, k0, kp]
theorem u_153 (k0 : K 0 = 9) (km : K 132 = 11) (rp : R 0 8 = some p) (kp : K p = 2) (rs : R 0 6 = some 108) (ks : K 108 = 4) (fn : R 132 3 = none) (t0 : I 0 10 = 0) (w4 : I p 4 = 0) (w7 : I p 7 = 0) (w8 : I p 8 = 0) (w2 : I 108 2 = 0) (l1 : Int32) (l2 : Int32) (l3 : Int32) : Ca lx 153 [.ref (z + 0), .int l1, .int l2, .int l3] (St z E n K N R I J) = some (some (.int (-1)), St z E n K N R (u2 I 0 11 1) J) := by
  simp only [f_153, e_153_14, k_St, n_St, i_St, j_St, r_St, z_St, e_St, wI_St, wJ_St, cI_s, cJ_s, cV_s, nR_s, nQ_s, nQ_n, lt_s_, gd_T, u2_uu, k_S0, i_S0, r_S0, wI_S0, k0, rp, rs, kp, ks, t0, Option.map_some, u_24 kp w4, u_162 k0 rp kp w8, u_163 k0 rp kp w7, u_164 k0 rs ks w2, u_165 k0 rp kp w4, s_160 k0, s_161 k0, s_166, s_167, s_168, if_true, ite_self]
  try simp [k_St, n_St, i_St, j_St, r_St, z_St, e_St, wI_St, wJ_St, cI_s, cJ_s, cV_s, nR_s, nQ_s, nQ_n, lt_s_, gd_T, u2_uu, k_S0, i_S0, r_S0, wI_S0, k0, kp]
theorem u_155 (k0 : K 0 = 9) (km : K 132 = 11) (rp : R 0 8 = some p) (kp : K p = 2) (rs : R 0 6 = some 108) (ks : K 108 = 4) (fn : R 132 3 = none) (t0 : I 0 10 = 0) (w4 : I p 4 = 0) (w7 : I p 7 = 0) (w8 : I p 8 = 0) (w2 : I 108 2 = 0)  : Ca lx 155 [.ref (z + 0)] (St z E n K N R I J) = some (some (.int (-1)), St z E n K N R (u2 I 0 11 1) J) := by
  simp only [f_155, k_St, n_St, i_St, j_St, r_St, z_St, e_St, wI_St, wJ_St, cI_s, cJ_s, cV_s, nR_s, nQ_s, nQ_n, lt_s_, gd_T, u2_uu, k_S0, i_S0, r_S0, wI_S0, k0, rp, rs, kp, ks, t0, Option.map_some, u_24 kp w4, u_162 k0 rp kp w8, u_163 k0 rp kp w7, u_164 k0 rs ks w2, u_165 k0 rp kp w4, s_160 k0, s_161 k0, s_166, s_167, s_168, if_true, ite_self]
  try simp [k_St, n_St, i_St, j_St, r_St, z_St, e_St, wI_St, wJ_St, cI_s, cJ_s, cV_s, nR_s, nQ_s, nQ_n, lt_s_, gd_T, u2_uu, k_S0, i_S0, r_S0, wI_S0, k0, kp]
theorem u_226 (km : K 132 = 11) (fn : R 132 3 = none) (l1 : Int32) (l2 : Int32) : Ca lx 226 [.ref (z + 132), .int l1, .int l2] (St z E n K N R I J) = some (some (.int 0), St z E n K N R I J) := by
  rw [f_226]
  simp [k_St, n_St, i_St, j_St, r_St, z_St, e_St, wI_St, wJ_St, cI_s, cJ_s, cV_s, nR_s, nQ_s, nQ_n, lt_s_, gd_T, u2_uu, k_S0, i_S0, r_S0, wI_S0, km, fn]
theorem u_227 (km : K 132 = 11) (fn : R 132 3 = none) (l1 : Int32) : Ca lx 227 [.ref (z + 132), .int l1] (St z E n K N R I J) = some (some (.int 0), St z E n K N R I J) := by
  rw [f_227]
  simp [k_St, n_St, i_St, j_St, r_St, z_St, e_St, wI_St, wJ_St, cI_s, cJ_s, cV_s, nR_s, nQ_s, nQ_n, lt_s_, gd_T, u2_uu, k_S0, i_S0, r_S0, wI_S0, km, fn]
theorem u_228 (km : K 132 = 11) (fn : R 132 3 = none) (l1 : Int32) : Ca lx 228 [.ref (z + 132), .int l1] (St z E n K N R I J) = some (some (.int 0), St z E n K N R I J) := by
  rw [f_228]
  simp [k_St, n_St, i_St, j_St, r_St, z_St, e_St, wI_St, wJ_St, cI_s, cJ_s, cV_s, nR_s, nQ_s, nQ_n, lt_s_, gd_T, u2_uu, k_S0, i_S0, r_S0, wI_S0, km, fn]
theorem u_283 (km : K 132 = 11) (fn : R 132 3 = none) (x : Int32) : Ca lx 283 [.ref (z + 132), .int x] (St z E n K N R I J) = some (some (.int (-1)), St z E n K N R I J) := by
  rw [f_283]
  simp [k_St, n_St, i_St, j_St, r_St, z_St, e_St, wI_St, wJ_St, cI_s, cJ_s, cV_s, nR_s, nQ_s, nQ_n, lt_s_, gd_T, u2_uu, k_S0, i_S0, r_S0, wI_S0, km, fn]
theorem u_294 (km : K 132 = 11) (fn : R 132 3 = none) (x : Int32) : Ca lx 294 [.ref (z + 132), .int x] (St z E n K N R I J) = some (some (.int 1), St z E n K N R I J) := by
  rw [f_294]
  simp [k_St, n_St, i_St, j_St, r_St, z_St, e_St, wI_St, wJ_St, cI_s, cJ_s, cV_s, nR_s, nQ_s, nQ_n, lt_s_, gd_T, u2_uu, k_S0, i_S0, r_S0, wI_S0, km, fn]
theorem u_276 (km : K 132 = 11) (fn : R 132 3 = none) (x y w : Int32) : Ca lx 276 [.ref (z + 132), .int x, .int y, .int w] (St z E n K N R I J) = some (some (.int 1), St z E n K N R I J) := by
  rw [f_276]
  simp [k_St, n_St, i_St, j_St, r_St, z_St, e_St, wI_St, wJ_St, cI_s, cJ_s, cV_s, nR_s, nQ_s, nQ_n, lt_s_, gd_T, u2_uu, k_S0, i_S0, r_S0, wI_S0, km, fn, u_226 km fn]
theorem u_241 (km : K 132 = 11) (fn : R 132 3 = none) (l1 : Int32) (l2 : Int32) (l3 : Int32) : Ca lx 241 [.ref (z + 132), .int l1, .int l2, .int l3] (St z E n K N R I J) = some (some (.int (-1)), St z E n K N R (u2 (u2 (u2 I 132 0 0) 132 1 1) 132 2 (-1)) J) := by
  rw [f_241]
  simp [k_St, n_St, i_St, j_St, r_St, z_St, e_St, wI_St, wJ_St, cI_s, cJ_s, cV_s, nR_s, nQ_s, nQ_n, lt_s_, gd_T, u2_uu, k_S0, i_S0, r_S0, wI_S0, km, fn, u_226 km fn, u_227 km fn, u_228 km fn, u_283 km fn, u_294 km fn, u_276 km fn, f_239, s_182 km, f_183, e_241_14]
theorem u_242 (km : K 132 = 11) (fn : R 132 3 = none) (l1 : Int32) (l2 : Int32) : Ca lx 242 [.ref (z + 132), .int l1, .int l2] (St z E n K N R I J) = some (some (.int (-1)), St z E n K N R (u2 (u2 (u2 I 132 0 0) 132 1 1) 132 2 (-1)) J) := by
  rw [f_242]
  simp [k_St, n_St, i_St, j_St, r_St, z_St, e_St, wI_St, wJ_St, cI_s, cJ_s, cV_s, nR_s, nQ_s, nQ_n, lt_s_, gd_T, u2_uu, k_S0, i_S0, r_S0, wI_S0, km, fn, u_226 km fn, u_227 km fn, u_228 km fn, u_283 km fn, u_294 km fn, u_276 km fn, f_239, s_182 km, f_183, e_242_13]
theorem u_243 (km : K 132 = 11) (fn : R 132 3 = none) (l1 : Int32) : Ca lx 243 [.ref (z + 132), .int l1] (St z E n K N R I J) = some (some (.int (-1)), St z E n K N R (u2 (u2 (u2 I 132 0 0) 132 1 1) 132 2 (-1)) J) := by
  rw [f_243]
  simp [k_St, n_St, i_St, j_St, r_St, z_St, e_St, wI_St, wJ_St, cI_s, cJ_s, cV_s, nR_s, nQ_s, nQ_n, lt_s_, gd_T, u2_uu, k_S0, i_S0, r_S0, wI_S0, km, fn, u_226 km fn, u_227 km fn, u_228 km fn, u_283 km fn, u_294 km fn, u_276 km fn, f_239, s_182 km, f_183]
theorem u_245 (km : K 132 = 11) (fn : R 132 3 = none)  : Ca lx 245 [.ref (z + 132)] (St z E n K N R I J) = some (some (.int (-1)), St z E n K N R (u2 (u2 (u2 I 132 0 0) 132 1 1) 132 2 (-1)) J) := by
  rw [f_245]
  simp [k_St, n_St, i_St, j_St, r_St, z_St, e_St, wI_St, wJ_St, cI_s, cJ_s, cV_s, nR_s, nQ_s, nQ_n, lt_s_, gd_T, u2_uu, k_S0, i_S0, r_S0, wI_S0, km, fn, u_226 km fn, u_227 km fn, u_228 km fn, u_283 km fn, u_294 km fn, u_276 km fn, f_239, s_182 km, f_183]
theorem u_246 (km : K 132 = 11) (fn : R 132 3 = none) (l1 : Int32) (l2 : Int32) (l3 : Int32) (l4 : Int32) : Ca lx 246 [.ref (z + 132), .int l1, .int l2, .int l3, .int l4] (St z E n K N R I J) = some (some (.int (-1)), St z E n K N R (u2 (u2 (u2 I 132 0 0) 132 1 1) 132 2 (-1)) J) := by
  rw [f_246]
  simp [k_St, n_St, i_St, j_St, r_St, z_St, e_St, wI_St, wJ_St, cI_s, cJ_s, cV_s, nR_s, nQ_s, nQ_n, lt_s_, gd_T, u2_uu, k_S0, i_S0, r_S0, wI_S0, km, fn, u_226 km fn, u_227 km fn, u_228 km fn, u_283 km fn, u_294 km fn, u_276 km fn, f_239, s_182 km, f_183, e_246_24]
theorem u_247 (km : K 132 = 11) (fn : R 132 3 = none) (l1 : Int32) (l2 : Int32) : Ca lx 247 [.ref (z + 132), .int l1, .int l2] (St z E n K N R I J) = some (some (.int (-1)), St z E n K N R (u2 (u2 (u2 I 132 0 0) 132 1 1) 132 2 (-1)) J) := by
  rw [f_247]
  simp [k_St, n_St, i_St, j_St, r_St, z_St, e_St, wI_St, wJ_St, cI_s, cJ_s, cV_s, nR_s, nQ_s, nQ_n, lt_s_, gd_T, u2_uu, k_S0, i_S0, r_S0, wI_S0, km, fn, u_226 km fn, u_227 km fn, u_228 km fn, u_283 km fn, u_294 km fn, u_276 km fn, f_239, s_182 km, f_183]
theorem u_248 (km : K 132 = 11) (fn : R 132 3 = none) (l1 : Int32) : Ca lx 248 [.ref (z + 132), .int l1] (St z E n K N R I J) = some (some (.int (-1)), St z E n K N R (u2 (u2 (u2 I 132 0 0) 132 1 1) 132 2 (-1)) J) := by
  rw [f_248]
  simp [k_St, n_St, i_St, j_St, r_St, z_St, e_St, wI_St, wJ_St, cI_s, cJ_s, cV_s, nR_s, nQ_s, nQ_n, lt_s_, gd_T, u2_uu, k_S0, i_S0, r_S0, wI_S0, km, fn, u_226 km fn, u_227 km fn, u_228 km fn, u_283 km fn, u_294 km fn, u_276 km fn, f_239, s_182 km, f_183, e_248_11]
theorem u_249 (km : K 132 = 11) (fn : R 132 3 = none) (l1 : Int32) : Ca lx 249 [.ref (z + 132), .int l1] (St z E n K N R I J) = some (some (.int (-1)), St z E n K N R (u2 (u2 (u2 I 132 0 0) 132 1 1) 132 2 (-1)) J) := by
  rw [f_249]
  simp [k_St, n_St, i_St, j_St, r_St, z_St, e_St, wI_St, wJ_St, cI_s, cJ_s, cV_s, nR_s, nQ_s, nQ_n, lt_s_, gd_T, u2_uu, k_S0, i_S0, r_S0, wI_S0, km, fn, u_226 km fn, u_227 km fn, u_228 km fn, u_283 km fn, u_294 km fn, u_276 km fn, f_239, s_182 km, f_183]
theorem u_251 (km : K 132 = 11) (fn : R 132 3 = none) (l1 : Int32) (l2 : Int32) : Ca lx 251 [.ref (z + 132), .int l1, .int l2] (St z E n K N R I J) = some (some (.int (-1)), St z E n K N R (u2 (u2 (u2 I 132 0 0) 132 1 1) 132 2 (-1)) J) := by
  rw [f_251]
  simp [k_St, n_St, i_St, j_St, r_St, z_St, e_St, wI_St, wJ_St, cI_s, cJ_s, cV_s, nR_s, nQ_s, nQ_n, lt_s_, gd_T, u2_uu, k_S0, i_S0, r_S0, wI_S0, km, fn, u_226 km fn, u_227 km fn, u_228 km fn, u_283 km fn, u_294 km fn, u_276 km fn, f_239, s_182 km, f_183, e_251_23]
theorem u_254 (km : K 132 = 11) (fn : R 132 3 = none)  : Ca lx 254 [.ref (z + 132)] (St z E n K N R I J) = some (some (.int (-1)), St z E n K N R (u2 (u2 (u2 I 132 0 0) 132 1 1) 132 2 (-1)) J) := by
  rw [f_254]
  simp [k_St, n_St, i_St, j_St, r_St, z_St, e_St, wI_St, wJ_St, cI_s, cJ_s, cV_s, nR_s, nQ_s, nQ_n, lt_s_, gd_T, u2_uu, k_S0, i_S0, r_S0, wI_S0, km, fn, u_226 km fn, u_227 km fn, u_228 km fn, u_283 km fn, u_294 km fn, u_276 km fn, f_239, s_182 km, f_183]
theorem u_255 (km : K 132 = 11) (fn : R 132 3 = none)  : Ca lx 255 [.ref (z + 132)] (St z E n K N R I J) = some (some (.int (-1)), St z E n K N R (u2 (u2 (u2 I 132 0 0) 132 1 1) 132 2 (-1)) J) := by
  rw [f_255]
  simp [k_St, n_St, i_St, j_St, r_St, z_St, e_St, wI_St, wJ_St, cI_s, cJ_s, cV_s, nR_s, nQ_s, nQ_n, lt_s_, gd_T, u2_uu, k_S0, i_S0, r_S0, wI_S0, km, fn, u_226 km fn, u_227 km fn, u_228 km fn, u_283 km fn, u_294 km fn, u_276 km fn, f_239, s_182 km, f_183]
theorem u_257 (km : K 132 = 11) (fn : R 132 3 = none) (l1 : Int32) (l2 : Int32) : Ca lx 257 [.ref (z + 132), .int l1, .int l2] (St z E n K N R I J) = some (some (.int (-1)), St z E n K N R (u2 (u2 (u2 I 132 0 0) 132 1 1) 132 2 (-1)) J) := by
  rw [f_257]
  simp [k_St, n_St, i_St, j_St, r_St, z_St, e_St, wI_St, wJ_St, cI_s, cJ_s, cV_s, nR_s, nQ_s, nQ_n, lt_s_, gd_T, u2_uu, k_S0, i_S0, r_S0, wI_S0, km, fn, u_226 km fn, u_227 km fn, u_228 km fn, u_283 km fn, u_294 km fn, u_276 km fn, f_239, s_182 km, f_183]
theorem u_258 (km : K 132 = 11) (fn : R 132 3 = none) (l1 : Int32) : Ca lx 258 [.ref (z + 132), .int l1] (St z E n K N R I J) = some (some (.int (-1)), St z E n K N R (u2 (u2 (u2 I 132 0 0) 132 1 1) 132 2 (-1)) J) := by
  rw [f_258]
  simp [k_St, n_St, i_St, j_St, r_St, z_St, e_St, wI_St, wJ_St, cI_s, cJ_s, cV_s, nR_s, nQ_s, nQ_n, lt_s_, gd_T, u2_uu, k_S0, i_S0, r_S0, wI_S0, km, fn, u_226 km fn, u_227 km fn, u_228 km fn, u_283 km fn, u_294 km fn, u_276 km fn, f_239, s_182 km, f_183]
theorem u_262 (km : K 132 = 11) (fn : R 132 3 = none) (l1 : Int32) (l2 : Int32) (l3 : Int32) (l4 : Int32) : Ca lx 262 [.ref (z + 132), .int l1, .int l2, .int l3, .int l4] (St z E n K N R I J) = some (some (.int (-1)), St z E n K N R (u2 (u2 (u2 I 132 0 0) 132 1 1) 132 2 (-1)) J) := by
  rw [f_262]
  simp [k_St, n_St, i_St, j_St, r_St, z_St, e_St, wI_St, wJ_St, cI_s, cJ_s, cV_s, nR_s, nQ_s, nQ_n, lt_s_, gd_T, u2_uu, k_S0, i_S0, r_S0, wI_S0, km, fn, u_226 km fn, u_227 km fn, u_228 km fn, u_283 km fn, u_294 km fn, u_276 km fn, f_239, s_182 km, f_183, e_262_14]
theorem u_263 (km : K 132 = 11) (fn : R 132 3 = none) (l1 : Int32) (l2 : Int32) (l3 : Int32) (l4 : Int32) : Ca lx 263 [.ref (z + 132), .int l1, .int l2, .int l3, .int l4] (St z E n K N R I J) = some (some (.int (-1)), St z E n K N R (u2 (u2 (u2 I 132 0 0) 132 1 1) 132 2 (-1)) J) := by
  rw [f_263]
  simp [k_St, n_St, i_St, j_St, r_St, z_St, e_St, wI_St, wJ_St, cI_s, cJ_s, cV_s, nR_s, nQ_s, nQ_n, lt_s_, gd_T, u2_uu, k_S0, i_S0, r_S0, wI_S0, km, fn, u_226 km fn, u_227 km fn, u_228 km fn, u_283 km fn, u_294 km fn, u_276 km fn, f_239, s_182 km, f_183, e_263_14]
theorem u_264 (km : K 132 = 11) (fn : R 132 3 = none) (l1 : Int32) : Ca lx 264 [.ref (z + 132), .int l1] (St z E n K N R I J) = some (some (.int (-1)), St z E n K N R (u2 (u2 (u2 I 132 0 0) 132 1 1) 132 2 (-1)) J) := by
  rw [f_264]
  simp [k_St, n_St, i_St, j_St, r_St, z_St, e_St, wI_St, wJ_St, cI_s, cJ_s, cV_s, nR_s, nQ_s, nQ_n, lt_s_, gd_T, u2_uu, k_S0, i_S0, r_S0, wI_S0, km, fn, u_226 km fn, u_227 km fn, u_228 km fn, u_283 km fn, u_294 km fn, u_276 km fn, f_239, s_182 km, f_183]
theorem u_265 (km : K 132 = 11) (fn : R 132 3 = none) (l1 : Int32) (l2 : Int32) (l3 : Int32) : Ca lx 265 [.ref (z + 132), .int l1, .int l2, .int l3] (St z E n K N R I J) = some (some (.int (-1)), St z E n K N R (u2 (u2 (u2 I 132 0 0) 132 1 1) 132 2 (-1)) J) := by
  rw [f_265]
  simp [k_St, n_St, i_St, j_St, r_St, z_St, e_St, wI_St, wJ_St, cI_s, cJ_s, cV_s, nR_s, nQ_s, nQ_n, lt_s_, gd_T, u2_uu, k_S0, i_S0, r_S0, wI_S0, km, fn, u_226 km fn, u_227 km fn, u_228 km fn, u_283 km fn, u_294 km fn, u_276 km fn, f_239, s_182 km, f_183]
theorem u_268 (km : K 132 = 11) (fn : R 132 3 = none)  : Ca lx 268 [.ref (z + 132)] (St z E n K N R I J) = some (some (.int (-1)), St z E n K N R (u2 (u2 (u2 I 132 0 0) 132 1 1) 132 2 (-1)) J) := by
  rw [f_268]
  simp [k_St, n_St, i_St, j_St, r_St, z_St, e_St, wI_St, wJ_St, cI_s, cJ_s, cV_s, nR_s, nQ_s, nQ_n, lt_s_, gd_T, u2_uu, k_S0, i_S0, r_S0, wI_S0, km, fn, u_226 km fn, u_227 km fn, u_228 km fn, u_283 km fn, u_294 km fn, u_276 km fn, f_239, s_182 km, f_183]
theorem u_274 (km : K 132 = 11) (fn : R 132 3 = none) (l1 : Int32) : Ca lx 274 [.ref (z + 132), .int l1] (St z E n K N R I J) = some (some (.int (-1)), St z E n K N R (u2 (u2 (u2 I 132 0 0) 132 1 1) 132 2 (-1)) J) := by
  rw [f_274]
  simp [k_St, n_St, i_St, j_St, r_St, z_St, e_St, wI_St, wJ_St, cI_s, cJ_s, cV_s, nR_s, nQ_s, nQ_n, lt_s_, gd_T, u2_uu, k_S0, i_S0, r_S0, wI_S0, km, fn, u_226 km fn, u_227 km fn, u_228 km fn, u_283 km fn, u_294 km fn, u_276 km fn, f_239, s_182 km, f_183]
theorem u_277 (km : K 132 = 11) (fn : R 132 3 = none) (l1 : Int32) (l2 : Int32) (l3 : Int32) : Ca lx 277 [.ref (z + 132), .int l1, .int l2, .int l3] (St z E n K N R I J) = some (some (.int (-1)), St z E n K N R (u2 (u2 (u2 I 132 0 0) 132 1 1) 132 2 (-1)) J) := by
  rw [f_277]
  simp [k_St, n_St, i_St, j_St, r_St, z_St, e_St, wI_St, wJ_St, cI_s, cJ_s, cV_s, nR_s, nQ_s, nQ_n, lt_s_, gd_T, u2_uu, k_S0, i_S0, r_S0, wI_S0, km, fn, u_226 km fn, u_227 km fn, u_228 km fn, u_283 km fn, u_294 km fn, u_276 km fn, f_239, s_182 km, f_183]
theorem u_278 (km : K 132 = 11) (fn : R 132 3 = none) (l1 : Int32) : Ca lx 278 [.ref (z + 132), .int l1] (St z E n K N R I J) = some (some (.int (-1)), St z E n K N R (u2 (u2 (u2 I 132 0 0) 132 1 1) 132 2 (-1)) J) := by
  rw [f_278]
  simp [k_St, n_St, i_St, j_St, r_St, z_St, e_St, wI_St, wJ_St, cI_s, cJ_s, cV_s, nR_s, nQ_s, nQ_n, lt_s_, gd_T, u2_uu, k_S0, i_S0, r_S0, wI_S0, km, fn, u_226 km fn, u_227 km fn, u_228 km fn, u_283 km fn, u_294 km fn, u_276 km fn, f_239, s_182 km, f_183]
theorem u_282 (km : K 132 = 11) (fn : R 132 3 = none)  : Ca lx 282 [.ref (z + 132)] (St z E n K N R I J) = some (some (.int (-1)), St z E n K N R (u2 (u2 (u2 I 132 0 0) 132 1 1) 132 2 (-1)) J) := by
  rw [f_282]
  simp [k_St, n_St, i_St, j_St, r_St, z_St, e_St, wI_St, wJ_St, cI_s, cJ_s, cV_s, nR_s, nQ_s, nQ_n, lt_s_, gd_T, u2_uu, k_S0, i_S0, r_S0, wI_S0, km, fn, u_226 km fn, u_227 km fn, u_228 km fn, u_283 km fn, u_294 km fn, u_276 km fn, f_239, s_182 km, f_183]
theorem u_284 (km : K 132 = 11) (fn : R 132 3 = none) (l1 : Int32) : Ca lx 284 [.ref (z + 132), .int l1] (St z E n K N R I J) = some (some (.int (-1)), St z E n K N R (u2 (u2 (u2 I 132 0 0) 132 1 1) 132 2 (-1)) J) := by
  rw [f_284]
  simp [k_St, n_St, i_St, j_St, r_St, z_St, e_St, wI_St, wJ_St, cI_s, cJ_s, cV_s, nR_s, nQ_s, nQ_n, lt_s_, gd_T, u2_uu, k_S0, i_S0, r_S0, wI_S0, km, fn, u_226 km fn, u_227 km fn, u_228 km fn, u_283 km fn, u_294 km fn, u_276 km fn, f_239, s_182 km, f_183]
theorem u_285 (km : K 132 = 11) (fn : R 132 3 = none) (l1 : Int32) : Ca lx 285 [.ref (z + 132), .int l1] (St z E n K N R I J) = some (some (.int (-1)), St z E n K N R (u2 (u2 (u2 I 132 0 0) 132 1 1) 132 2 (-1)) J) := by
  rw [f_285]
  simp [k_St, n_St, i_St, j_St, r_St, z_St, e_St, wI_St, wJ_St, cI_s, cJ_s, cV_s, nR_s, nQ_s, nQ_n, lt_s_, gd_T, u2_uu, k_S0, i_S0, r_S0, wI_S0, km, fn, u_226 km fn, u_227 km fn, u_228 km fn, u_283 km fn, u_294 km fn, u_276 km fn, f_239, s_182 km, f_183]
theorem u_287 (km : K 132 = 11) (fn : R 132 3 = none) (l1 : Int32) (l2 : Int32) (l3 : Int32) : Ca lx 287 [.ref (z + 132), .int l1, .int l2, .int l3] (St z E n K N R I J) = some (some (.int (-1)), St z E n K N R (u2 (u2 (u2 I 132 0 0) 132 1 1) 132 2 (-1)) J) := by
  rw [f_287]
  simp [k_St, n_St, i_St, j_St, r_St, z_St, e_St, wI_St, wJ_St, cI_s, cJ_s, cV_s, nR_s, nQ_s, nQ_n, lt_s_, gd_T, u2_uu, k_S0, i_S0, r_S0, wI_S0, km, fn, u_226 km fn, u_227 km fn, u_228 km fn, u_283 km fn, u_294 km fn, u_276 km fn, f_239, s_182 km, f_183]
theorem u_288 (km : K 132 = 11) (fn : R 132 3 = none) (l1 : Int32) : Ca lx 288 [.ref (z + 132), .int l1] (St z E n K N R I J) = some (some (.int (-1)), St z E n K N R (u2 (u2 (u2 I 132 0 0) 132 1 1) 132 2 (-1)) J) := by
  rw [f_288]
  simp [k_St, n_St, i_St, j_St, r_St, z_St, e_St, wI_St, wJ_St, cI_s, cJ_s, cV_s, nR_s, nQ_s, nQ_n, lt_s_, gd_T, u2_uu, k_S0, i_S0, r_S0, wI_S0, km, fn, u_226 km fn, u_227 km fn, u_228 km fn, u_283 km fn, u_294 km fn, u_276 km fn, f_239, s_182 km, f_183, e_288_11]
theorem u_290 (km : K 132 = 11) (fn : R 132 3 = none) (l1 : Int32) : Ca lx 290 [.ref (z + 132), .int l1] (St z E n K N R I J) = some (some (.int (-1)), St z E n K N R (u2 (u2 (u2 I 132 0 0) 132 1 1) 132 2 (-1)) J) := by
  rw [f_290]
  simp [k_St, n_St, i_St, j_St, r_St, z_St, e_St, wI_St, wJ_St, cI_s, cJ_s, cV_s, nR_s, nQ_s, nQ_n, lt_s_, gd_T, u2_uu, k_S0, i_S0, r_S0, wI_S0, km, fn, u_226 km fn, u_227 km fn, u_228 km fn, u_283 km fn, u_294 km fn, u_276 km fn, f_239, s_182 km, f_183, e_290_11]
theorem u_291 (km : K 132 = 11) (fn : R 132 3 = none) (l1 : Int32) : Ca lx 291 [.ref (z + 132), .int l1] (St z E n K N R I J) = some (some (.int (-1)), St z E n K N R (u2 (u2 (u2 I 132 0 0) 132 1 1) 132 2 (-1)) J) := by
  rw [f_291]
  simp [k_St, n_St, i_St, j_St, r_St, z_St, e_St, wI_St, wJ_St, cI_s, cJ_s, cV_s, nR_s, nQ_s, nQ_n, lt_s_, gd_T, u2_uu, k_S0, i_S0, r_S0, wI_S0, km, fn, u_226 km fn, u_227 km fn, u_228 km fn, u_283 km fn, u_294 km fn, u_276 km fn, f_239, s_182 km, f_183, e_291_11]
theorem u_292 (km : K 132 = 11) (fn : R 132 3 = none) (l1 : Int32) (l2 : Int32) : Ca lx 292 [.ref (z + 132), .int l1, .int l2] (St z E n K N R I J) = some (some (.int (-1)), St z E n K N R (u2 (u2 (u2 I 132 0 0) 132 1 1) 132 2 (-1)) J) := by
  rw [f_292]
  simp [k_St, n_St, i_St, j_St, r_St, z_St, e_St, wI_St, wJ_St, cI_s, cJ_s, cV_s, nR_s, nQ_s, nQ_n, lt_s_, gd_T, u2_uu, k_S0, i_S0, r_S0, wI_S0, km, fn, u_226 km fn, u_227 km fn, u_228 km fn, u_283 km fn, u_294 km fn, u_276 km fn, f_239, s_182 km, f_183, e_292_15]
theorem u_295 (km : K 132 = 11) (fn : R 132 3 = none) (l1 : Int32) (l2 : Int32) (l3 : Int32) (l4 : Int32) : Ca lx 295 [.ref (z + 132), .int l1, .int l2, .int l3, .int l4] (St z E n K N R I J) = some (some (.int (-100)), St z E n K N R (u2 (u2 (u2 I 132 0 0) 132 1 1) 132 2 (-1)) J) := by
  rw [f_295]
  simp [k_St, n_St, i_St, j_St, r_St, z_St, e_St, wI_St, wJ_St, cI_s, cJ_s, cV_s, nR_s, nQ_s, nQ_n, lt_s_, gd_T, u2_uu, k_S0, i_S0, r_S0, wI_S0, km, fn, u_226 km fn, u_227 km fn, u_228 km fn, u_283 km fn, u_294 km fn, u_276 km fn, f_239, s_182 km, f_183]
theorem u_297 (km : K 132 = 11) (fn : R 132 3 = none) (l1 : Int32) : Ca lx 297 [.ref (z + 132), .int l1] (St z E n K N R I J) = some (some (.int (-1)), St z E n K N R (u2 (u2 (u2 I 132 0 0) 132 1 1) 132 2 (-1)) J) := by
  rw [f_297]
  simp [k_St, n_St, i_St, j_St, r_St, z_St, e_St, wI_St, wJ_St, cI_s, cJ_s, cV_s, nR_s, nQ_s, nQ_n, lt_s_, gd_T, u2_uu, k_S0, i_S0, r_S0, wI_S0, km, fn, u_226 km fn, u_227 km fn, u_228 km fn, u_283 km fn, u_294 km fn, u_276 km fn, f_239, s_182 km, f_183]
theorem u_298 (km : K 132 = 11) (fn : R 132 3 = none) (l1 : Int32) : Ca lx 298 [.ref (z + 132), .int l1] (St z E n K N R I J) = some (some (.int (-1)), St z E n K N R (u2 (u2 (u2 I 132 0 0) 132 1 1) 132 2 (-1)) J) := by
  rw [f_298]
  simp [k_St, n_St, i_St, j_St, r_St, z_St, e_St, wI_St, wJ_St, cI_s, cJ_s, cV_s, nR_s, nQ_s, nQ_n, lt_s_, gd_T, u2_uu, k_S0, i_S0, r_S0, wI_S0, km, fn, u_226 km fn, u_227 km fn, u_228 km fn, u_283 km fn, u_294 km fn, u_276 km fn, f_239, s_182 km, f_183]
theorem u_300 (km : K 132 = 11) (fn : R 132 3 = none) (l1 : Int32) (l2 : Int32) : Ca lx 300 [.ref (z + 132), .int l1, .int l2] (St z E n K N R I J) = some (some (.long (-1)), St z E n K N R (u2 (u2 (u2 I 132 0 0) 132 1 1) 132 2 (-1)) J) := by
  rw [f_300]
  simp [k_St, n_St, i_St, j_St, r_St, z_St, e_St, wI_St, wJ_St, cI_s, cJ_s, cV_s, nR_s, nQ_s, nQ_n, lt_s_, gd_T, u2_uu, k_S0, i_S0, r_S0, wI_S0, km, fn, u_226 km fn, u_227 km fn, u_228 km fn, u_283 km fn, u_294 km fn, u_276 km fn, f_239, s_182 km, f_183]
theorem u_301 (km : K 132 = 11) (fn : R 132 3 = none) (l1 : Int32) : Ca lx 301 [.ref (z + 132), .int l1] (St z E n K N R I J) = some (some (.long (-1)), St z E n K N R (u2 (u2 (u2 I 132 0 0) 132 1 1) 132 2 (-1)) J) := by
  rw [f_301]
  simp [k_St, n_St, i_St, j_St, r_St, z_St, e_St, wI_St, wJ_St, cI_s, cJ_s, cV_s, nR_s, nQ_s, nQ_n, lt_s_, gd_T, u2_uu, k_S0, i_S0, r_S0, wI_S0, km, fn, u_226 km fn, u_227 km fn, u_228 km fn, u_283 km fn, u_294 km fn, u_276 km fn, f_239, s_182 km, f_183]
theorem u_302 (km : K 132 = 11) (fn : R 132 3 = none) (l1 : Int32) : Ca lx 302 [.ref (z + 132), .int l1] (St z E n K N R I J) = some (some (.int (-1)), St z E n K N R (u2 (u2 (u2 I 132 0 0) 132 1 1) 132 2 (-1)) J) := by
  rw [f_302]
  simp [k_St, n_St, i_St, j_St, r_St, z_St, e_St, wI_St, wJ_St, cI_s, cJ_s, cV_s, nR_s, nQ_s, nQ_n, lt_s_, gd_T, u2_uu, k_S0, i_S0, r_S0, wI_S0, km, fn, u_226 km fn, u_227 km fn, u_228 km fn, u_283 km fn, u_294 km fn, u_276 km fn, f_239, s_182 km, f_183]
theorem u_305 (km : K 132 = 11) (fn : R 132 3 = none)  : Ca lx 305 [.ref (z + 132)] (St z E n K N R I J) = some (some (.int (-1)), St z E n K N R (u2 (u2 (u2 I 132 0 0) 132 1 1) 132 2 (-1)) J) := by
  rw [f_305]
  simp [k_St, n_St, i_St, j_St, r_St, z_St, e_St, wI_St, wJ_St, cI_s, cJ_s, cV_s, nR_s, nQ_s, nQ_n, lt_s_, gd_T, u2_uu, k_S0, i_S0, r_S0, wI_S0, km, fn, u_226 km fn, u_227 km fn, u_228 km fn, u_283 km fn, u_294 km fn, u_276 km fn, f_239, s_182 km, f_183]
theorem u_306 (km : K 132 = 11) (fn : R 132 3 = none) (l1 : Int32) (l2 : Int32) (l3 : Int32) : Ca lx 306 [.ref (z + 132), .int l1, .int l2, .int l3] (St z E n K N R I J) = some (some (.int (-1)), St z E n K N R (u2 (u2 (u2 I 132 0 0) 132 1 1) 132 2 (-1)) J) := by
  rw [f_306]
  simp [k_St, n_St, i_St, j_St, r_St, z_St, e_St, wI_St, wJ_St, cI_s, cJ_s, cV_s, nR_s, nQ_s, nQ_n, lt_s_, gd_T, u2_uu, k_S0, i_S0, r_S0, wI_S0, km, fn, u_226 km fn, u_227 km fn, u_228 km fn, u_283 km fn, u_294 km fn, u_276 km fn, f_239, s_182 km, f_183]
theorem u_307 (km : K 132 = 11) (fn : R 132 3 = none) (l1 : Int32) (l2 : Int32) (l3 : Int32) : Ca lx 307 [.ref (z + 132), .int l1, .int l2, .int l3] (St z E n K N R I J) = some (some (.int (-1)), St z E n K N R (u2 (u2 (u2 I 132 0 0) 132 1 1) 132 2 (-1)) J) := by
  rw [f_307]
  simp [k_St, n_St, i_St, j_St, r_St, z_St, e_St, wI_St, wJ_St, cI_s, cJ_s, cV_s, nR_s, nQ_s, nQ_n, lt_s_, gd_T, u2_uu, k_S0, i_S0, r_S0, wI_S0, km, fn, u_226 km fn, u_227 km fn, u_228 km fn, u_283 km fn, u_294 km fn, u_276 km fn, f_239, s_182 km, f_183, e_307_20]
theorem u_309 (km : K 132 = 11) (fn : R 132 3 = none)  : Ca lx 309 [.ref (z + 132)] (St z E n K N R I J) = some (some (.int (-1)), St z E n K N R (u2 (u2 (u2 I 132 0 0) 132 1 1) 132 2 (-1)) J) := by
  rw [f_309]
  simp [k_St, n_St, i_St, j_St, r_St, z_St, e_St, wI_St, wJ_St, cI_s, cJ_s, cV_s, nR_s, nQ_s, nQ_n, lt_s_, gd_T, u2_uu, k_S0, i_S0, r_S0, wI_S0, km, fn, u_226 km fn, u_227 km fn, u_228 km fn, u_283 km fn, u_294 km fn, u_276 km fn, f_239, s_182 km, f_183]
end UN
