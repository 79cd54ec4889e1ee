section OP11
variable {z : Nat} {E : aEt} {n : Nat} {K N : Nat → Nat} {R : Nat → Nat → Option Nat} {I : Nat → Nat → Int32} {J : Nat → Nat → Int64} {lx : List Value → aH → aO} {p s f w : Nat} {F : Nat → Nat → Nat} {ρ : Nat → Nat}
def dgP (ρ : Nat → Nat) (c : Nat) : Bool := decide (ρ (17 + c) = 1)
theorem s_244 (h : MD K N R I f F) (hρ : ROa F ρ) : Ca lx 244 [.ref (z + 132)] (St z E n K N R (pr I 135 145 ρ) J) = some (some (.int (nI (ctB (dgP ρ) 64))), St z E n K N R (pr I 135 145 ρ) J) := by
  rw [f_244]
  obtain ⟨⟨km, _, r16, r17, _, _, _, _, _, _, _, _, _, _, _, k134, k135, _, _, _, _, _, _, _, _, _, _, _, n134, n135, _⟩, _⟩ := h
  have L := loopN (X := fun i => Am lx 244 5 [some (.ref (z + 132)), some (.int (nI (ctB (dgP ρ) i))), some (.int (nI i))] [] (0, 0) (St z E n K N R (pr I 135 145 ρ) J)) (n := 64) (by
    intro i hi
    try simp only
    rw [e_244_5, ctB]
    have b := (hρ.2.2 i hi).1
    have e : (dgP ρ i).toNat = ρ (17 + i) := by
      unfold dgP
      by_cases c : ρ (17 + i) = 1
      · simp [c]
      · have : ρ (17 + i) = 0 := by omega
        simp [this]
    rw [e]
    simp (disch := first | assumption | omega) [k_St, n_St, i_St, j_St, r_St, wI_St, wJ_St, k_S0, n_S0, i_S0, j_S0, r_S0, wI_S0, wJ_S0, cI_s, cJ_s, cV_s, nR_s, nQ_s, nQ_n, lt_s_, gd_T, gd_t, Option.map_some, lits, neg_mI, nI_add, pk_mul, nI_clamp, nI_eq, nI_leI, nI_ltI, nm_eq, mn_eq, nm_lt, mn_lt, nm_le, mn_le, m_eq, bI_0, bI_1, if_neg, km, r17, k135, n135, pr_s])
  try simp only at L
  have c0 : ctB (dgP ρ) 0 = 0 := rfl
  rw [c0] at L
  have z0 : (0 : Int32) = nI 0 := rfl
  rw [z0, L, e_244_5]
  simp (disch := first | assumption | omega) [k_St, n_St, i_St, j_St, r_St, wI_St, wJ_St, k_S0, n_S0, i_S0, j_S0, r_S0, wI_S0, wJ_S0, cI_s, cJ_s, cV_s, nR_s, nQ_s, nQ_n, lt_s_, gd_T, gd_t, Option.map_some, lits, neg_mI, nI_add, pk_mul, nI_clamp, nI_eq, nI_leI, nI_ltI, nm_eq, mn_eq, nm_lt, mn_lt, nm_le, mn_le, m_eq, bI_0, bI_1]
theorem o_119 (h : CW K N R I J p s F ρ) : OQ lx z E n K N R I J f F ρ 119 245 [] := by
  obtain ⟨hL, ⟨hW15, hW19, hP, hPs, hps, _⟩, h10, hF, hO, hR, hρ, _, h16⟩ := h
  obtain ⟨k0, _, r1, r2, _, _, _, _, r7, rp, _⟩ := hL
  have k15 := hW15.1
  have e : ctB (hb (J 15 0)) 64 = ctB (dgP ρ) 64 := ctB_c (fun c hc => hR.2.2.2.2.1 c hc)
  refine ⟨0, nI (ctB (dgP ρ) 64), by decide, by decide, ⟨_, _, ?_, CQ_u⟩, fun I2 J2 hM => ⟨_, ?_, MQ_p (ρ := ρ)⟩⟩
  · rw [f_119]
    simp [k_St, n_St, i_St, j_St, r_St, wI_St, wJ_St, k_S0, n_S0, i_S0, j_S0, r_S0, wI_S0, wJ_S0, cI_s, cJ_s, cV_s, nR_s, nQ_s, nQ_n, lt_s_, gd_T, gd_t, Option.map_some, lits, neg_mI, nI_add, pk_mul, nI_clamp, nI_eq, nI_leI, nI_ltI, nm_eq, mn_eq, nm_lt, mn_lt, nm_le, mn_le, m_eq, bI_0, bI_1, k0, h10, c_160t, r1, k15, s_314, e]
  · rw [f_245]
    have hM0 := MV_0 hM
    have e231 := s_231 (lx := lx) (z := z) (E := E) (n := n) (J := J2) hM0.1 hM0.2.1
    have e244 := s_244 (lx := lx) (z := z) (E := E) (n := n) (J := J2) hM0.1 (ROk_a hρ)
    have km := hM.1.1.1
    have rf := hM.1.2.2.1
    simp [k_St, n_St, i_St, j_St, r_St, wI_St, wJ_St, k_S0, n_S0, i_S0, j_S0, r_S0, wI_S0, wJ_S0, cI_s, cJ_s, cV_s, nR_s, nQ_s, nQ_n, lt_s_, gd_T, gd_t, Option.map_some, lits, neg_mI, nI_add, pk_mul, nI_clamp, nI_eq, nI_leI, nI_ltI, nm_eq, mn_eq, nm_lt, mn_lt, nm_le, mn_le, m_eq, bI_0, bI_1, km, rf, e231, e244, s_185]
theorem o_122 (h : CW K N R I J p s F ρ) (y : Int32) : OQ lx z E n K N R I J f F ρ 122 248 [.int y] := by
  have hU : ∀ v, CW K N R (u2 I 0 11 v) J p s F ρ := fun v => CW_u h
  have e66 := c_166 (lx := lx) y
  obtain ⟨hL, ⟨hW15, hW19, hP, hPs, hps, _⟩, h10, hF, hO, hR, hρ, _, h16⟩ := h
  obtain ⟨k0, _, r1, r2, _, _, _, _, _, rp, _⟩ := hL
  have t1 : nI 1 = bI true := rfl
  rcases rg_i y (n := 61) (by omega) with c | ⟨m, hm, em⟩
  · have c161 := c_161 (lx := lx) (z := z) (E := E) (n := n) (N := N) (R := R) (I := I) (J := J) k0 true false
    rw [← t1] at c161
    rw [c] at e66
    refine ⟨2, mI 1, by decide, by decide, ⟨_, _, ?_, CQ_u⟩, fun I2 J2 hM => ⟨_, ?_, MQ_1⟩⟩
    · rw [f_122]
      simp [k_St, n_St, i_St, j_St, r_St, wI_St, wJ_St, k_S0, n_S0, i_S0, j_S0, r_S0, wI_S0, wJ_S0, cI_s, cJ_s, cV_s, nR_s, nQ_s, nQ_n, lt_s_, gd_T, gd_t, Option.map_some, lits, neg_mI, nI_add, pk_mul, nI_clamp, nI_eq, nI_leI, nI_ltI, nm_eq, mn_eq, nm_lt, mn_lt, nm_le, mn_le, m_eq, bI_0, bI_1, k0, h10, e66, c161]
    · rw [f_248]
      have km := hM.1.1.1
      have rf := hM.1.2.2.1
      have e39 := d_239 (lx := lx) true y
      rw [c, ← t1] at e39
      simp (disch := first | assumption | omega) [k_St, n_St, i_St, j_St, r_St, wI_St, wJ_St, k_S0, n_S0, i_S0, j_S0, r_S0, wI_S0, wJ_S0, cI_s, cJ_s, cV_s, nR_s, nQ_s, nQ_n, lt_s_, gd_T, gd_t, Option.map_some, lits, neg_mI, nI_add, pk_mul, nI_clamp, nI_eq, nI_leI, nI_ltI, nm_eq, mn_eq, nm_lt, mn_lt, nm_le, mn_le, m_eq, bI_0, bI_1, if_neg, km, rf, e_248_11, e39, d_182]
  · subst em
    have c161 := c_161 (lx := lx) (z := z) (E := E) (n := n) (N := N) (R := R) (I := I) (J := J) k0 true true
    rw [← t1] at c161
    rw [rg_t hm (by omega), ← t1] at e66
    obtain ⟨I1, J1, e1, w1, f1⟩ := c_169 (lx := lx) (z := z) (E := E) (n := n) (hU (nI 0)) (show m ≤ 60 by omega)
    have e : ctB (hb (J1 19 0)) 64 = ctB (dgP (ngs F ρ m)) 64 := ctB_c (fun c hc => w1.2.2.2.2.1 c hc)
    have k19 := hW19.1
    refine ⟨0, nI (ctB (dgP (ngs F ρ m)) 64), by decide, by decide, ⟨I1, J1, ?_, CQ_f f1⟩, fun I2 J2 hM => ⟨_, ?_, MQ_p (ρ := ngs F ρ m)⟩⟩
    · rw [f_122]
      simp [k_St, n_St, i_St, j_St, r_St, wI_St, wJ_St, k_S0, n_S0, i_S0, j_S0, r_S0, wI_S0, wJ_S0, cI_s, cJ_s, cV_s, nR_s, nQ_s, nQ_n, lt_s_, gd_T, gd_t, Option.map_some, lits, neg_mI, nI_add, pk_mul, nI_clamp, nI_eq, nI_leI, nI_ltI, nm_eq, mn_eq, nm_lt, mn_lt, nm_le, mn_le, m_eq, bI_0, bI_1, k0, h10, e66, c161, e1, r2, k19, s_314, e]
    · rw [f_248]
      have hM0 := MV_0 hM
      have km := hM.1.1.1
      have rf := hM.1.2.2.1
      have e39 := d_239 (lx := lx) true (nI m)
      rw [rg_t hm (by omega), ← t1] at e39
      have e38 := s_238 (lx := lx) (z := z) (E := E) (n := n) (J := J2) hM0.1 hρ h16 hM0.2.1 (show m ≤ 60 by omega)
      have e244 := s_244 (lx := lx) (z := z) (E := E) (n := n) (J := J2) hM0.1 (ROk_a (ngs_ok hO hρ m))
      simp (disch := first | assumption | omega) [k_St, n_St, i_St, j_St, r_St, wI_St, wJ_St, k_S0, n_S0, i_S0, j_S0, r_S0, wI_S0, wJ_S0, cI_s, cJ_s, cV_s, nR_s, nQ_s, nQ_n, lt_s_, gd_T, gd_t, Option.map_some, lits, neg_mI, nI_add, pk_mul, nI_clamp, nI_eq, nI_leI, nI_ltI, nm_eq, mn_eq, nm_lt, mn_lt, nm_le, mn_le, m_eq, bI_0, bI_1, km, rf, e_248_11, e39, e38, e244, s_185]
theorem ctB_e {P : Nat → Bool} {m : Nat} (hm : m ≤ 64) (h : ∀ i, m ≤ i → i < 64 → P i = false) : ctB P m = ctB P 64 :=
  loopF (X := ctB P) hm (fun i h1 h2 => by rw [ctB, h i h1 h2]; simp)
theorem o_133 (h : CW K N R I J p s F ρ) : OQ lx z E n K N R I J f F ρ 133 268 [] := by
  have hU : ∀ v, CW K N R (u2 I 0 11 v) J p s F ρ := fun v => CW_u h
  obtain ⟨hL, ⟨hW15, hW19, hP, hPs, hps, _⟩, h10, hF, hO, hR, hρ, _, h16⟩ := h
  obtain ⟨k0, _, r1, r2, _, _, _, _, r7, rp, _⟩ := hL
  have k15 := hW15.1
  have hU0 := hU (nI 0)
  obtain ⟨_, _, _, hF0, _, hR0, _⟩ := hU0
  have e110 := s_110 (lx := lx) (z := z) (E := E) (n := n) hP hF0 hW15 hR0 hO (ROk_a hρ)
  have e : ctB (hb (sto (unh F ρ))) 64 = ctB (unh F ρ) 64 := ctB_c (fun c hc => hb_s _ hc)
  refine ⟨0, nI (ctB (unh F ρ) 64), by decide, by decide, ⟨_, _, ?_, CQ_u⟩, fun I2 J2 hM => ⟨_, ?_, MQ_1⟩⟩
  · rw [f_133]
    simp [k_St, n_St, i_St, j_St, r_St, wI_St, wJ_St, k_S0, n_S0, i_S0, j_S0, r_S0, wI_S0, wJ_S0, cI_s, cJ_s, cV_s, nR_s, nQ_s, nQ_n, lt_s_, gd_T, gd_t, Option.map_some, lits, neg_mI, nI_add, pk_mul, nI_clamp, nI_eq, nI_leI, nI_ltI, nm_eq, mn_eq, nm_lt, mn_lt, nm_le, mn_le, m_eq, bI_0, bI_1, k0, h10, c_160t, r1, rp, k15, e110, s_314, e]
  · rw [f_268]
    have hM0 := MV_0 hM
    have e266 := s_266 (lx := lx) (z := z) (E := E) (n := n) (J := J2) hM0.1
    have km := hM.1.1.1
    have rf := hM.1.2.2.1
    obtain ⟨o0, o0x, o1, o2, o2x, o3, o4, o4x, o5, o5x, o6, o7, o8, o9, oS, oD, oG, oH⟩ := hO
    have L := loopN (X := fun i => Am lx 268 15 [some (.ref (z + 132)), some (.int (nI (ctB (unh F ρ) i))), some (.int (nI i))] [] (0, 0) (St z E n K N R (u2 I2 132 0 (nI 0)) J2)) (n := 8 * (F 0 5 - 1) + F 0 4 - 1 + 1) (by
      intro i hi
      try simp only
      rw [e_268_15, ctB]
      have i64 : i < 64 := by omega
      have a1 := s_267 (lx := lx) (z := z) (E := E) (n := n) (J := J2) hM0.1 i64
      have a2 := s_259 (lx := lx) (z := z) (E := E) (n := n) (J := J2) hM0.1 (ROk_a hρ) hM0.2.1 i64
      unfold unh
      cases c1 : isS F i
      · rw [c1] at a1
        simp (disch := first | assumption | omega) [k_St, n_St, i_St, j_St, r_St, wI_St, wJ_St, k_S0, n_S0, i_S0, j_S0, r_S0, wI_S0, wJ_S0, cI_s, cJ_s, cV_s, nR_s, nQ_s, nQ_n, lt_s_, gd_T, gd_t, Option.map_some, lits, neg_mI, nI_add, pk_mul, nI_clamp, nI_eq, nI_leI, nI_ltI, nm_eq, mn_eq, nm_lt, mn_lt, nm_le, mn_le, m_eq, bI_0, bI_1, if_neg, km, e266, a1, e_268_32]
      · rw [c1] at a1
        cases c2 : ovr F ρ i
        · rw [c2] at a2
          simp (disch := first | assumption | omega) [k_St, n_St, i_St, j_St, r_St, wI_St, wJ_St, k_S0, n_S0, i_S0, j_S0, r_S0, wI_S0, wJ_S0, cI_s, cJ_s, cV_s, nR_s, nQ_s, nQ_n, lt_s_, gd_T, gd_t, Option.map_some, lits, neg_mI, nI_add, pk_mul, nI_clamp, nI_eq, nI_leI, nI_ltI, nm_eq, mn_eq, nm_lt, mn_lt, nm_le, mn_le, m_eq, bI_0, bI_1, if_neg, km, e266, a1, a2, e_268_32]
        · rw [c2] at a2
          simp (disch := first | assumption | omega) [k_St, n_St, i_St, j_St, r_St, wI_St, wJ_St, k_S0, n_S0, i_S0, j_S0, r_S0, wI_S0, wJ_S0, cI_s, cJ_s, cV_s, nR_s, nQ_s, nQ_n, lt_s_, gd_T, gd_t, Option.map_some, lits, neg_mI, nI_add, pk_mul, nI_clamp, nI_eq, nI_leI, nI_ltI, nm_eq, mn_eq, nm_lt, mn_lt, nm_le, mn_le, m_eq, bI_0, bI_1, if_neg, km, e266, a1, a2, e_268_32])
    try simp only at L
    have c0 : ctB (unh F ρ) 0 = 0 := rfl
    rw [c0, ctB_e (show 8 * (F 0 5 - 1) + F 0 4 - 1 + 1 ≤ 64 by omega) (fun i h1 h2 => by
        unfold unh isS inF
        by_cases d1 : i % 8 < F 0 4
        · have d2 : ¬ i / 8 < F 0 5 := by omega
          simp [d2]
        · simp [d1])] at L
    simp (disch := first | assumption | omega) [k_St, n_St, i_St, j_St, r_St, wI_St, wJ_St, k_S0, n_S0, i_S0, j_S0, r_S0, wI_S0, wJ_S0, cI_s, cJ_s, cV_s, nR_s, nQ_s, nQ_n, lt_s_, gd_T, gd_t, Option.map_some, lits, neg_mI, nI_add, pk_mul, nI_clamp, nI_eq, nI_leI, nI_ltI, nm_eq, mn_eq, nm_lt, mn_lt, nm_le, mn_le, m_eq, bI_0, bI_1, km, rf, L]
    rw [e_268_15]
    simp (disch := first | assumption | omega) [k_St, n_St, i_St, j_St, r_St, wI_St, wJ_St, k_S0, n_S0, i_S0, j_S0, r_S0, wI_S0, wJ_S0, cI_s, cJ_s, cV_s, nR_s, nQ_s, nQ_n, lt_s_, gd_T, gd_t, Option.map_some, lits, neg_mI, nI_add, pk_mul, nI_clamp, nI_eq, nI_leI, nI_ltI, nm_eq, mn_eq, nm_lt, mn_lt, nm_le, mn_le, m_eq, bI_0, bI_1, if_pos, km, e266, s_185]
end OP11
