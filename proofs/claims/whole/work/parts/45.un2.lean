/-! more calls before a field is told; what needs no field -/
section UM
variable {z : Nat} {E : aEt} {n p : Nat} {K N : Nat → Nat} {R : Nat → Nat → Option Nat} {I : Nat → Nat → Int32} {J : Nat → Nat → Int64} {lx : List Value → aH → aO}
theorem u_154 (k0 : K 0 = 9) (r3 : R 0 3 = some 23) (r1 : R 0 1 = some 15) (k23 : K 23 = 1) (c0 : I 23 3 = 0) : Ca lx 154 [.ref (z + 0)] (St z E n K N R I J) = some (some (.int 0), St z E n K N R (u2 I 0 11 6) J) := by
  simp [f_154, f_19, e_154_13, k_St, i_St, r_St, k_S0, r_S0, wI_S0, k0, r3, r1, k23, c0, nR_s, cI_s, gd_T, lt_s_]
theorem u_156 (k0 : K 0 = 9) (r3 : R 0 3 = some 23) (r1 : R 0 1 = some 15) (k23 : K 23 = 1) (c0 : I 23 4 = 0) (x : Int32) : Ca lx 156 [.ref (z + 0), .int x] (St z E n K N R I J) = some (some (.int 0), St z E n K N R (u2 I 0 11 1) J) := by
  have h21 : Ca lx 21 [.ref (z + 23), .int x, .ref (z + 15)] (St z E n K N R I J) = some (some (.int 0), St z E n K N R I J) := by
    rw [f_21]
    by_cases h : x < 0
    · simp [h, gd_T]
    · simp [h, gd_T, k_St, i_St, k23, c0, ge0 h]
  simp only [f_156, k_St, r_St, k0, r3, r1, k23, Option.map_some, nR_s, h21, cI_s, s_160 k0]
  simp [gd_T]
theorem u_308 (km : K 132 = 11) (fn : R 132 3 = none) : Ca lx 308 [.ref (z + 132)] (St z E n K N R I J) = some (some (.int 0), St z E n K N R (u2 (u2 (u2 I 132 0 0) 132 1 6) 132 2 (-1)) J) := by
  simp [f_308, e_308_10, f_184, s_182 km, k_St, i_St, r_St, wI_St, km, fn, nQ_n, cI_s, gd_T, lt_s_]
theorem u_310 (km : K 132 = 11) (fn : R 132 3 = none) (x : Int32) : Ca lx 310 [.ref (z + 132), .int x] (St z E n K N R I J) = some (some (.int 0), St z E n K N R (u2 (u2 (u2 I 132 0 0) 132 1 1) 132 2 (-1)) J) := by
  simp [f_310, e_310_13, f_184, s_182 km, k_St, i_St, r_St, wI_St, km, fn, nQ_n, cI_s, gd_T, lt_s_]
theorem s_114 (k0 : K 0 = 9) (r0 : R 0 0 = some 1) (k1 : K 1 = 3) : Ca lx 114 [.ref (z + 0)] (St z E n K N R I J) = some (some (.int (I 1 1)), St z E n K N R I J) := by
  simp [f_114, k_St, i_St, r_St, k_S0, r_S0, k0, r0, k1, nR_s, gd_T]
theorem s_115 (k0 : K 0 = 9) (r0 : R 0 0 = some 1) (k1 : K 1 = 3) : Ca lx 115 [.ref (z + 0)] (St z E n K N R I J) = some (some (.int (if I 0 11 = 4 then I 1 2 else -1)), St z E n K N R I J) := by
  by_cases h : I 0 11 = 4
  · simp [f_115, k_St, i_St, r_St, k_S0, i_S0, r_S0, k0, r0, k1, nR_s, gd_T, h]
  · simp [f_115, k_St, i_St, r_St, k_S0, i_S0, r_S0, k0, r0, k1, nR_s, gd_T, h]
theorem s_158 (k0 : K 0 = 9) : Ca lx 158 [.ref (z + 0)] (St z E n K N R I J) = some (some (.int (I 0 11)), St z E n K N R I J) := by
  simp [f_158, k_St, i_St, k_S0, i_S0, k0, gd_T]
theorem s_224 (km : K 132 = 11) : Ca lx 224 [.ref (z + 132)] (St z E n K N R I J) = some (some (.int (I 132 12)), St z E n K N R (u2 I 132 0 0) J) := by
  simp [f_224, k_St, i_St, wI_St, km, gd_T, lt_s_, u2]
theorem s_225 (km : K 132 = 11) : Ca lx 225 [.ref (z + 132)] (St z E n K N R I J) = some (some (.int (I 132 2)), St z E n K N R (u2 I 132 0 0) J) := by
  simp [f_225, k_St, i_St, wI_St, km, gd_T, lt_s_, u2]
theorem s_313 (km : K 132 = 11) : Ca lx 313 [.ref (z + 132)] (St z E n K N R I J) = some (some (.int (I 132 1)), St z E n K N R (u2 I 132 0 0) J) := by
  simp [f_313, k_St, i_St, wI_St, km, gd_T, lt_s_, u2]
theorem s_181 (km : K 132 = 11) : Ca lx 181 [.ref (z + 132)] (St z E n K N R I J) = some (some (.int (I 132 0)), St z E n K N R I J) := by
  simp [f_181, k_St, i_St, km, gd_T]
theorem u_311 (km : K 132 = 11) (fn : R 132 3 = none) (x : Int32) : Ca lx 311 [.ref (z + 132), .int x] (St z E n K N R I J) = some (some (.int 0), St z E n K N R (u2 I 132 0 1) J) := by
  rw [f_311]
  simp only [k_St, i_St, r_St, wI_St, km, fn, gd_T, lt_s_, nQ_n]
  rw [e_311_13]
  simp [e_311_35, k_St, i_St, r_St, wI_St, km, fn, gd_T, lt_s_, nQ_n, u2_uu]
/-- what size tells while none is told -/
def szU (x : Int32) (h : Int32) : Int32 := if x = 12 then h else if x < 0 then -1 else if 11 < x then -1 else 0
theorem u_157 (k0 : K 0 = 9) (r0 : R 0 0 = some 1) (r1 : R 0 1 = some 15) (r3 : R 0 3 = some 23) (rp : R 0 8 = some p) (r10 : R 1 0 = some 2) (k1 : K 1 = 3) (k2 : K 2 = 6) (k15 : K 15 = 8) (k23 : K 23 = 1) (kp : K p = 2) (wp0 : ∀ j, j < 10 → I p j = 0) (w15 : I 15 2 = 0) (w23 : I 23 3 = 0) (w24 : I 23 4 = 0) (x : Int32) : Ca lx 157 [.ref (z + 0), .int x] (St z E n K N R I J) = some (some (.int (szU x (I 2 1))), St z E n K N R I J) := by
  rw [f_157]
  have hc : x = 0 ∨ x = 1 ∨ x = 2 ∨ x = 3 ∨ x = 4 ∨ x = 5 ∨ x = 6 ∨ x = 7 ∨ x = 8 ∨ x = 9 ∨ x = 10 ∨ x = 11 ∨ x = 12 ∨ (x ≠ 0 ∧ x ≠ 1 ∧ x ≠ 2 ∧ x ≠ 3 ∧ x ≠ 4 ∧ x ≠ 5 ∧ x ≠ 6 ∧ x ≠ 7 ∧ x ≠ 8 ∧ x ≠ 9 ∧ x ≠ 10 ∧ x ≠ 11 ∧ x ≠ 12) := by
    by_cases a0 : x = 0; · exact Or.inl a0
    by_cases a1 : x = 1; · simp [a1]
    by_cases a2 : x = 2; · simp [a2]
    by_cases a3 : x = 3; · simp [a3]
    by_cases a4 : x = 4; · simp [a4]
    by_cases a5 : x = 5; · simp [a5]
    by_cases a6 : x = 6; · simp [a6]
    by_cases a7 : x = 7; · simp [a7]
    by_cases a8 : x = 8; · simp [a8]
    by_cases a9 : x = 9; · simp [a9]
    by_cases a10 : x = 10; · simp [a10]
    by_cases a11 : x = 11; · simp [a11]
    by_cases a12 : x = 12; · simp [a12]
    simp [a0, a1, a2, a3, a4, a5, a6, a7, a8, a9, a10, a11, a12]
  rcases hc with rfl | rfl | rfl | rfl | rfl | rfl | rfl | rfl | rfl | rfl | rfl | rfl | rfl | ⟨a0, a1, a2, a3, a4, a5, a6, a7, a8, a9, a10, a11, a12⟩
  · simp [k_St, i_St, r_St, k_S0, r_S0, k0, rp, kp, nR_s, gd_T, wp0, szU]
  · simp [k_St, i_St, r_St, k_S0, r_S0, k0, rp, kp, nR_s, gd_T, wp0, szU]
  · simp [k_St, i_St, r_St, k_S0, r_S0, k0, rp, kp, nR_s, gd_T, wp0, szU]
  · simp [k_St, i_St, r_St, k_S0, r_S0, k0, rp, kp, nR_s, gd_T, wp0, szU]
  · simp [k_St, i_St, r_St, k_S0, r_S0, k0, rp, kp, nR_s, gd_T, wp0, szU]
  · simp [k_St, i_St, r_St, k_S0, r_S0, k0, rp, kp, nR_s, gd_T, wp0, szU]
  · simp [k_St, i_St, r_St, k_S0, r_S0, k0, rp, kp, nR_s, gd_T, wp0, szU]
  · simp [k_St, i_St, r_St, k_S0, r_S0, k0, rp, kp, nR_s, gd_T, wp0, szU]
  · simp [k_St, i_St, r_St, k_S0, r_S0, k0, rp, kp, nR_s, gd_T, wp0, szU]
  · simp [k_St, i_St, r_St, k_S0, r_S0, k0, r1, k15, nR_s, gd_T, w15, szU]
  · simp [k_St, i_St, r_St, k_S0, r_S0, k0, r3, k23, nR_s, gd_T, w23, szU]
  · simp [k_St, i_St, r_St, k_S0, r_S0, k0, r3, k23, nR_s, gd_T, w24, szU]
  · simp [k_St, i_St, r_St, k_S0, r_S0, k0, r0, r10, k1, k2, nR_s, gd_T, szU]
  · have hz : szU x (I 2 1) = -1 := by
      unfold szU
      rw [if_neg a12]
      by_cases h1 : x < 0
      · rw [if_pos h1]
      · rw [if_neg h1]
        by_cases h2 : 11 < x
        · rw [if_pos h2]
        · exfalso
          obtain ⟨j, hj, rfl⟩ := nI_of2 (x := x) (M := 11) (n := 11) (by decide) h1 (Int32.not_lt.mp h2)
          rcases (show j = 0 ∨ j = 1 ∨ j = 2 ∨ j = 3 ∨ j = 4 ∨ j = 5 ∨ j = 6 ∨ j = 7 ∨ j = 8 ∨ j = 9 ∨ j = 10 ∨ j = 11 by omega) with rfl | rfl | rfl | rfl | rfl | rfl | rfl | rfl | rfl | rfl | rfl | rfl
          · exact a0 rfl
          · exact a1 rfl
          · exact a2 rfl
          · exact a3 rfl
          · exact a4 rfl
          · exact a5 rfl
          · exact a6 rfl
          · exact a7 rfl
          · exact a8 rfl
          · exact a9 rfl
          · exact a10 rfl
          · exact a11 rfl
    rw [hz]
    simp [a0, a1, a2, a3, a4, a5, a6, a7, a8, a9, a10, a11, a12]
theorem u_312 (km : K 132 = 11) (fn : R 132 3 = none) (x : Int32) : Ca lx 312 [.ref (z + 132), .int x] (St z E n K N R I J) = some (some (.int (szU x (I 132 6))), St z E n K N R (u2 I 132 0 0) J) := by
  rw [f_312]
  by_cases h12 : x = 12
  · simp [k_St, i_St, wI_St, km, gd_T, lt_s_, h12, szU, u2]
  · by_cases h0 : x < 0
    · simp [k_St, i_St, wI_St, km, gd_T, lt_s_, h12, szU, f_187, cI_s, h0]
    · by_cases h11 : 11 < x
      · simp [k_St, i_St, wI_St, km, gd_T, lt_s_, h12, szU, f_187, cI_s, h0, h11]
      · simp [k_St, i_St, r_St, wI_St, km, fn, gd_T, lt_s_, h12, szU, f_187, cI_s, h0, h11, nQ_n]
-- CounterMine.led
theorem ac_316 : aCode 316 = k_316 := rfl
set_option maxRecDepth 100000 in
theorem f_316 (l0 : Nat) (l1 : Int32) (S : aH) : Ca lx 316 [.ref l0, .int l1] S = Am lx 316 5 [some (.ref l0), some (.int l1), some (.int 0), some (.int 0)] [] (1, 6) S := (ca_eq (by decide) (Nat.le_of_ble_eq_true rfl)).trans (am_eq 20 ac_316)
set_option maxRecDepth 100000 in
theorem e_316_5 (l0 : Nat) (l1 l2 l3 : Int32) (b : aB) (S : aH) : Am lx 316 5 [some (.ref l0), some (.int l1), some (.int l2), some (.int l3)] [] b S = gd (aK S l0 = 9) (nR (aR S l0 8) fun a1 => gd (aK S a1 = 2) (if (aI S a1 8) ≤ l3 then gd (1 ≤ b.1 ∧ 6 ≤ b.2) (some (some (.retAddr 7), S)) else gd (aK S l0 = 9) (nR (aR S l0 1) fun a2 => gd (aK S a2 = 8) (cI (Ca lx 102 [.ref a2, .int l3] S) fun x S1 => if x = 0 then (if l2 = l1 then some (some (.int l3), S1) else Am lx 316 5 [some (.ref l0), some (.int l1), some (.int (l2 + 1)), some (.int (l3 + 1))] [] b S1) else Am lx 316 5 [some (.ref l0), some (.int l1), some (.int l2), some (.int (l3 + 1))] [] b S1)))) := am_eq 40 ac_316
theorem u_316 (k0 : K 0 = 9) (rp : R 0 8 = some p) (kp : K p = 2) (w8 : I p 8 = 0) (x : Int32) : Ca lx 316 [.ref (z + 0), .int x] (St z E n K N R I J) = some (some (.retAddr 7), St z E n K N R I J) := by
  rw [f_316, e_316_5]
  simp [k_St, i_St, r_St, k_S0, r_S0, k0, rp, kp, w8, nR_s, gd_T]
theorem u_905 (k0 : K 0 = 9) (rp : R 0 8 = some p) (kp : K p = 2) (w8 : I p 8 = 0) (x : Int32) : Ca lx_ 905 [.ref (z + 0), .int x, .ref (z + 146)] (St z E n K N R I J) = some (some (.int 1), St z E (n + 1) K N R I J) := by
  rw [ca_905]
  show gd (aK (St z E n K N R I J) (z + 0) = 9) (lx2 (z + 146) (Ca lx0 316 [.ref (z + 0), .int x] (St z E n K N R I J))) = _
  rw [gd_t (by rw [k_St]; exact k0), u_316 k0 rp kp w8]
  show some (some (Value.int 1), bmp (St z E n K N R I J)) = _
  rw [bmp_St]
end UM
