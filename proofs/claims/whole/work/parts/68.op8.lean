/-! the mean of them -/
def mxC (ρ : Nat → Nat) : Nat → Nat
  | 0 => 0
  | i + 1 => if mxC ρ i < ρ i + 1 then ρ i + 1 else mxC ρ i
def smC (u l m : Nat) (ρ : Nat → Nat) : Nat → Nat
  | 0 => 0
  | i + 1 => smC u l m ρ i + u ^ (ρ i + 1) * l ^ (m - (ρ i + 1))
theorem mxC_ge {ρ : Nat → Nat} {g : Nat} : ∀ {i : Nat}, g < i → ρ g + 1 ≤ mxC ρ i
  | 0, h => by omega
  | i + 1, h => by
    rw [mxC]
    by_cases e : g = i
    · subst e; split <;> omega
    · have := mxC_ge (ρ := ρ) (g := g) (i := i) (by omega)
      split <;> omega
theorem mxC_mono {ρ : Nat → Nat} {i : Nat} : mxC ρ i ≤ mxC ρ (i + 1) := by
  rw [mxC]; split <;> omega
section OP8
variable {z : Nat} {E : aEt} {n : Nat} {K N : Nat → Nat} {R : Nat → Nat → Option Nat} {I : Nat → Nat → Int32} {J : Nat → Nat → Int64} {lx : List Value → aH → aO} {p s f w : Nat} {F : Nat → Nat → Nat} {ρ : Nat → Nat}
theorem mxC_le (hO : FOk F) (hρ : ROk F ρ) : ∀ {i : Nat}, i ≤ F 0 8 → mxC ρ i ≤ 9
  | 0, _ => by simp [mxC]
  | i + 1, h => by
    have h1 := (hρ.1 i (by omega)).1
    have h2 := (hO.2.2.2.2.2.2.2.2.2.2.2.2.2.2.2.2.1 i (by omega)).2.2.1
    have := mxC_le hO hρ (i := i) (by omega)
    rw [mxC]; split <;> omega
theorem smC_le {u l m : Nat} (hu : u ≤ 100) (hl : l ≤ 100) (hm : m ≤ 9) : ∀ {i : Nat}, (∀ g, g < i → ρ g + 1 ≤ m) → smC u l m ρ i ≤ i * 1000000000000000000
  | 0, _ => by simp [smC]
  | i + 1, h => by
    have ih := smC_le hu hl hm (i := i) (fun g hg => h g (by omega))
    have hi := h i (by omega)
    have t : u ^ (ρ i + 1) * l ^ (m - (ρ i + 1)) ≤ 1000000000000000000 := by
      have a1 : u ^ (ρ i + 1) ≤ 100 ^ (ρ i + 1) := Nat.pow_le_pow_left hu _
      have a2 : l ^ (m - (ρ i + 1)) ≤ 100 ^ (m - (ρ i + 1)) := Nat.pow_le_pow_left hl _
      have a3 : 100 ^ (ρ i + 1) * 100 ^ (m - (ρ i + 1)) = 100 ^ m := by
        rw [← Nat.pow_add]; congr 1; omega
      have a4 : u ^ (ρ i + 1) * l ^ (m - (ρ i + 1)) ≤ 100 ^ (ρ i + 1) * 100 ^ (m - (ρ i + 1)) := Nat.mul_le_mul a1 a2
      have a5 : 100 ^ m ≤ 1000000000000000000 := pw_le (by omega) hm
      omega
    rw [smC]
    have : (i + 1) * 1000000000000000000 = i * 1000000000000000000 + 1000000000000000000 := by omega
    omega
theorem smC_g {m : Nat} : ∀ {i : Nat}, (∀ g, g < i → ρ g + 1 ≤ m) → smC (100 - F 0 3) 100 m ρ i = gA0 F ^ m * smC (uA F) (lA F) m ρ i
  | 0, _ => by simp [smC]
  | i + 1, h => by
    have ih := smC_g (i := i) (fun g hg => h g (by omega))
    have hi := h i (by omega)
    rw [smC, smC, ih, Nat.mul_add]
    congr 1
    have e1 : (100 - F 0 3) ^ (ρ i + 1) = gA0 F ^ (ρ i + 1) * uA F ^ (ρ i + 1) := by rw [← Nat.mul_pow, ← gu]
    have e2 : 100 ^ (m - (ρ i + 1)) = gA0 F ^ (m - (ρ i + 1)) * lA F ^ (m - (ρ i + 1)) := by rw [← Nat.mul_pow, ← gl]
    have e3 : gA0 F ^ m = gA0 F ^ (ρ i + 1) * gA0 F ^ (m - (ρ i + 1)) := by
      rw [← Nat.pow_add]; congr 1; omega
    rw [e1, e2, e3]
    ac_rfl
theorem mean_q {m i : Nat} (h : ∀ g, g < i → ρ g + 1 ≤ m) : smC (100 - F 0 3) 100 m ρ i / Nat.gcd (smC (100 - F 0 3) 100 m ρ i) (100 ^ m) = smC (uA F) (lA F) m ρ i / Nat.gcd (smC (uA F) (lA F) m ρ i) (lA F ^ m) ∧ 100 ^ m / Nat.gcd (smC (100 - F 0 3) 100 m ρ i) (100 ^ m) = lA F ^ m / Nat.gcd (smC (uA F) (lA F) m ρ i) (lA F ^ m) := by
  have e : 100 ^ m = gA0 F ^ m * lA F ^ m := by rw [← Nat.mul_pow, ← gl]
  have g0 : 0 < gA0 F ^ m := Nat.pow_pos gA0_p
  rw [smC_g h, e, Nat.gcd_mul_left, Nat.mul_div_mul_left _ _ g0, Nat.mul_div_mul_left _ _ g0]
  exact ⟨rfl, rfl⟩
theorem s_72 (k5 : K 113 = 5) (hP : Pl K N R p) (hF : PI I J p F) (hW : Wk K N R 15) (hR : WR I J 15 F ρ) (hO : FOk F) (hρ : ROk F ρ) (hp : 114 ≤ p) : Ca lx 72 [.ref (z + 113), .ref (z + p), .ref (z + 15)] (St z E n K N R I J) = some (none, St z E n K N R I (u2 (u2 (u2 (u2 J 113 0 (lN (uA F))) 113 1 (lN (lA F))) 113 0 (lN (smC (uA F) (lA F) (mxC ρ (F 0 8)) ρ (F 0 8) / Nat.gcd (smC (uA F) (lA F) (mxC ρ (F 0 8)) ρ (F 0 8)) (lA F ^ mxC ρ (F 0 8))))) 113 1 (lN (lA F ^ mxC ρ (F 0 8) / Nat.gcd (smC (uA F) (lA F) (mxC ρ (F 0 8)) ρ (F 0 8)) (lA F ^ mxC ρ (F 0 8)))))) := by
  rw [f_72]
  have o8 : F 0 8 ≤ 4 := hO.2.2.2.2.2.2.2.2.2.2.2.2.1
  have o3 : F 0 3 ≤ 100 := hO.2.2.2.2.2.1
  have kp := hP.1
  have k15 := hW.1
  have q3 := hF.1 3 (by decide)
  have q8 := hF.1 8 (by decide)
  have e1 : ((100 : Int32) - nI (F 0 3)).toInt64 = lN (100 - F 0 3) := by
    have : (100 : Int32) = nI 100 := rfl
    rw [this, pk_sub o3, nI_l (by omega)]
  have e2 := s_73 (lx := lx) (z := z) (E := E) (n := n) (N := N) (R := R) (I := I) (J := J) k5 (o := 100 - F 0 3) (u := 100) (by omega) (by omega) (by omega)
  have f1 : (100 - F 0 3) / Nat.gcd (100 - F 0 3) 100 = uA F := rfl
  have f2 : 100 / Nat.gcd (100 - F 0 3) 100 = lA F := rfl
  rw [f1, f2] at e2
  have hR1 : WR I (u2 (u2 J 113 0 (lN (uA F))) 113 1 (lN (lA F))) 15 F ρ := by
    obtain ⟨a1, a2, a3, a4, a5, a6⟩ := hR
    refine ⟨a1, a2, a3, a4, ?_, ?_⟩
    · intro c hc; rw [u2_a _ _ _ _ _ (by decide), u2_a _ _ _ _ _ (by decide)]; exact a5 c hc
    · intro c hc; rw [u2_a _ _ _ _ _ (by decide), u2_a _ _ _ _ _ (by decide)]; exact a6 c hc
  have L := loopN (X := fun i => Am lx 72 13 [some (.ref (z + 113)), some (.ref (z + p)), some (.ref (z + 15)), some (.int (nI (mxC ρ i))), some (.int (nI i)), none, none, none] [] (0, 0) (St z E n K N R I (u2 (u2 J 113 0 (lN (uA F))) 113 1 (lN (lA F))))) (n := F 0 8) (by
    intro i hi
    try simp only
    rw [e_72_13]
    have a1 := s_101 (lx := lx) (z := z) (E := E) (n := n) hW hR1 hO hi
    have b1 := mxC_le hO hρ (i := i) (by omega)
    have b2 := (hρ.1 i hi).1
    have b3 := (hO.2.2.2.2.2.2.2.2.2.2.2.2.2.2.2.2.1 i hi).2.2.1
    rw [mxC]
    by_cases c : mxC ρ i < ρ i + 1
    · simp (disch := first | assumption | omega) [k_St, n_St, i_St, j_St, r_St, wI_St, wJ_St, k_S0, n_S0, i_S0, j_S0, r_S0, wI_S0, wJ_S0, cI_s, cJ_s, cV_s, nR_s, nQ_s, nQ_n, lt_s_, gd_T, gd_t, Option.map_some, lits, neg_mI, nI_add, pk_mul, nI_clamp, nI_eq, nI_leI, nI_ltI, nm_eq, mn_eq, nm_lt, mn_lt, nm_le, mn_le, m_eq, bI_0, bI_1, if_neg, if_pos, kp, q8, k15, a1, ca_901, c]
    · simp (disch := first | assumption | omega) [k_St, n_St, i_St, j_St, r_St, wI_St, wJ_St, k_S0, n_S0, i_S0, j_S0, r_S0, wI_S0, wJ_S0, cI_s, cJ_s, cV_s, nR_s, nQ_s, nQ_n, lt_s_, gd_T, gd_t, Option.map_some, lits, neg_mI, nI_add, pk_mul, nI_clamp, nI_eq, nI_leI, nI_ltI, nm_eq, mn_eq, nm_lt, mn_lt, nm_le, mn_le, m_eq, bI_0, bI_1, if_neg, if_pos, kp, q8, k15, a1, ca_901, c])
  try simp only at L
  have m0 : mxC ρ 0 = 0 := rfl
  rw [m0] at L
  have hm9 := mxC_le hO hρ (i := F 0 8) (Nat.le_refl _)
  have x0 : u2 (u2 J 113 0 (lN (uA F))) 113 1 (lN (lA F)) 113 0 = lN (uA F) := by rw [u2_k _ _ _ _ _ (by decide), u2_s]
  have x1 : u2 (u2 J 113 0 (lN (uA F))) 113 1 (lN (lA F)) 113 1 = lN (lA F) := by rw [u2_s]
  have L2 := loopN (X := fun i => Am lx 72 32 [some (.ref (z + 113)), some (.ref (z + p)), some (.ref (z + 15)), some (.int (nI (mxC ρ (F 0 8)))), some (.long (lN (smC (uA F) (lA F) (mxC ρ (F 0 8)) ρ i))), none, some (.int (nI i)), none] [] (0, 0) (St z E n K N R I (u2 (u2 J 113 0 (lN (uA F))) 113 1 (lN (lA F))))) (n := F 0 8) (by
    intro i hi
    try simp only
    rw [e_72_32]
    have a1 := s_101 (lx := lx) (z := z) (E := E) (n := n) hW hR1 hO hi
    have b1 := mxC_ge (ρ := ρ) (g := i) (i := F 0 8) hi
    have a2 : ∀ a : Nat, ∀ S : aH, Ca lx 74 [.long (lN a), .int (nI (ρ i + 1))] S = some (some (.long (lN (a ^ (ρ i + 1)))), S) := fun a S => s_74 a (by omega) S
    have a3 : ∀ a : Nat, ∀ S : aH, Ca lx 74 [.long (lN a), .int (nI (mxC ρ (F 0 8) - (ρ i + 1)))] S = some (some (.long (lN (a ^ (mxC ρ (F 0 8) - (ρ i + 1))))), S) := fun a S => s_74 a (by omega) S
    rw [smC]
    simp (disch := first | assumption | omega) [k_St, n_St, i_St, j_St, r_St, wI_St, wJ_St, k_S0, n_S0, i_S0, j_S0, r_S0, wI_S0, wJ_S0, cI_s, cJ_s, cV_s, nR_s, nQ_s, nQ_n, lt_s_, gd_T, gd_t, Option.map_some, lits, neg_mI, nI_add, pk_mul, nI_clamp, nI_eq, nI_leI, nI_ltI, nm_eq, mn_eq, nm_lt, mn_lt, nm_le, mn_le, m_eq, bI_0, bI_1, if_neg, if_pos, kp, q8, k15, k5, a1, x0, x1, a2, a3, pk_sub, lN_mul, lN_add])
  try simp only at L2
  have t0 : smC (uA F) (lA F) (mxC ρ (F 0 8)) ρ 0 = 0 := rfl
  rw [t0] at L2
  have sl := smC_le (ρ := ρ) (uA_le (F := F)) (lA_le (F := F)) hm9 (i := F 0 8) (fun g hg => mxC_ge hg)
  have ll : lA F ^ mxC ρ (F 0 8) ≤ 1000000000000000000 := pw_le lA_le hm9
  have l0 : 0 < lA F ^ mxC ρ (F 0 8) := Nat.pow_pos lA_p
  have e5 := s_73 (lx := lx) (z := z) (E := E) (n := n) (N := N) (R := R) (I := I) (J := u2 (u2 J 113 0 (lN (uA F))) 113 1 (lN (lA F))) k5 (o := smC (uA F) (lA F) (mxC ρ (F 0 8)) ρ (F 0 8)) (u := lA F ^ mxC ρ (F 0 8)) (by omega) (by omega) l0
  simp only [k_St, kp, k5, gd_t, i_St, q3, e1, l_100, e2, cV_s]
  have z0 : (0 : Int32) = nI 0 := rfl
  rw [z0, L, e_72_13]
  simp (disch := first | assumption | omega) [k_St, n_St, i_St, j_St, r_St, wI_St, wJ_St, k_S0, n_S0, i_S0, j_S0, r_S0, wI_S0, wJ_S0, cI_s, cJ_s, cV_s, nR_s, nQ_s, nQ_n, lt_s_, gd_T, gd_t, Option.map_some, lits, neg_mI, nI_add, pk_mul, nI_clamp, nI_eq, nI_leI, nI_ltI, nm_eq, mn_eq, nm_lt, mn_lt, nm_le, mn_le, m_eq, bI_0, bI_1, if_pos, kp, q8]
  rw [l_0, L2, e_72_32]
  have a4 : ∀ a : Nat, ∀ S : aH, Ca lx 74 [.long (lN a), .int (nI (mxC ρ (F 0 8)))] S = some (some (.long (lN (a ^ mxC ρ (F 0 8)))), S) := fun a S => s_74 a (by omega) S
  simp (disch := first | assumption | omega) [k_St, n_St, i_St, j_St, r_St, wI_St, wJ_St, k_S0, n_S0, i_S0, j_S0, r_S0, wI_S0, wJ_S0, cI_s, cJ_s, cV_s, nR_s, nQ_s, nQ_n, lt_s_, gd_T, gd_t, Option.map_some, lits, neg_mI, nI_add, pk_mul, nI_clamp, nI_eq, nI_leI, nI_ltI, nm_eq, mn_eq, nm_lt, mn_lt, nm_le, mn_le, m_eq, bI_0, bI_1, if_pos, kp, q8, k5, x1, a4, e5]
theorem o_149 (h : CW K N R I J p s F ρ) (b : Bool) : OJ lx z E n K N R I J f F ρ 149 301 [.int (bI b)] := by
  have hU : ∀ v, CW K N R (u2 I 0 11 v) J p s F ρ := fun v => CW_u h
  obtain ⟨hL, ⟨hW15, hW19, hP, hPs, hps, _⟩, h10, hF, hO, hR, hρ, _, h16⟩ := h
  have hL2 := hL
  obtain ⟨k0, _, r1, r2, _, _, _, _, r7, rp, _⟩ := hL
  have k5 : K 113 = 5 := hL2.2.2.2.2.2.2.2.2.2.2.2.2.2.2.2.2.2.2.2.2.2.2.2.2.2.2.2.2.2.2.2.2.2.2.2.2.2.2.2.2.2.2.2.2.2.2.2.2.2.2.2.2.2.2.2.2.2
  have o8 : F 0 8 ≤ 4 := hO.2.2.2.2.2.2.2.2.2.2.2.2.1
  have o3 : F 0 3 ≤ 100 := hO.2.2.2.2.2.1
  have hU0 := hU (nI 0)
  obtain ⟨_, _, _, hF0, _, hR0, _⟩ := hU0
  have e72 := s_72 (lx := lx) (z := z) (E := E) (n := n) k5 hP hF0 hW15 hR0 hO hρ (by omega)
  have hm9 := mxC_le hO hρ (i := F 0 8) (Nat.le_refl _)
  obtain ⟨mq1, mq2⟩ := mean_q (F := F) (ρ := ρ) (m := mxC ρ (F 0 8)) (i := F 0 8) (fun g hg => mxC_ge hg)
  refine ⟨0, lN ((if b then lA F ^ mxC ρ (F 0 8) else smC (uA F) (lA F) (mxC ρ (F 0 8)) ρ (F 0 8)) / Nat.gcd (smC (uA F) (lA F) (mxC ρ (F 0 8)) ρ (F 0 8)) (lA F ^ mxC ρ (F 0 8))), by decide, by decide, ⟨_, u2 (u2 (u2 (u2 J 113 0 (lN (uA F))) 113 1 (lN (lA F))) 113 0 (lN (smC (uA F) (lA F) (mxC ρ (F 0 8)) ρ (F 0 8) / Nat.gcd (smC (uA F) (lA F) (mxC ρ (F 0 8)) ρ (F 0 8)) (lA F ^ mxC ρ (F 0 8))))) 113 1 (lN (lA F ^ mxC ρ (F 0 8) / Nat.gcd (smC (uA F) (lA F) (mxC ρ (F 0 8)) ρ (F 0 8)) (lA F ^ mxC ρ (F 0 8)))), ?_, CQ_s (fun a ha => ?_)⟩, fun I2 J2 hM => ⟨_, ?_, MQ_1⟩⟩
  · rw [f_149]
    cases b
    · have x0 : ∀ q r : Int64, u2 (u2 (u2 (u2 J 113 0 (lN (uA F))) 113 1 (lN (lA F))) 113 0 q) 113 1 r 113 0 = q := fun q r => by rw [u2_k _ _ _ _ _ (by decide), u2_s]
      simp (disch := first | assumption | omega) [k_St, n_St, i_St, j_St, r_St, wI_St, wJ_St, k_S0, n_S0, i_S0, j_S0, r_S0, wI_S0, wJ_S0, cI_s, cJ_s, cV_s, nR_s, nQ_s, nQ_n, lt_s_, gd_T, gd_t, Option.map_some, lits, neg_mI, nI_add, pk_mul, nI_clamp, nI_eq, nI_leI, nI_ltI, nm_eq, mn_eq, nm_lt, mn_lt, nm_le, mn_le, m_eq, bI_0, bI_1, k0, h10, c_160t, r7, rp, r1, k5, e72, x0]
    · have x1 : ∀ q r : Int64, u2 (u2 (u2 (u2 J 113 0 (lN (uA F))) 113 1 (lN (lA F))) 113 0 q) 113 1 r 113 1 = r := fun q r => by rw [u2_s]
      simp (disch := first | assumption | omega) [k_St, n_St, i_St, j_St, r_St, wI_St, wJ_St, k_S0, n_S0, i_S0, j_S0, r_S0, wI_S0, wJ_S0, cI_s, cJ_s, cV_s, nR_s, nQ_s, nQ_n, lt_s_, gd_T, gd_t, Option.map_some, lits, neg_mI, nI_add, pk_mul, nI_clamp, nI_eq, nI_leI, nI_ltI, nm_eq, mn_eq, nm_lt, mn_lt, nm_le, mn_le, m_eq, bI_0, bI_1, k0, h10, c_160t, r7, rp, r1, k5, e72, x1]
  · rw [u2_a _ _ _ _ _ ha, u2_a _ _ _ _ _ ha, u2_a _ _ _ _ _ ha, u2_a _ _ _ _ _ ha]
  · rw [f_301]
    have hM0 := MV_0 hM
    have hv := hM0.2.1
    have q3' := hM0.1.2.2.2.1.1 3 (by decide)
    have q8' := hM0.1.2.2.2.1.1 8 (by decide)
    obtain ⟨⟨km, _, r16, r17, _, _, _, _, _, _, _, _, _, _, _, k134, k135, _, _, _, _, _, _, _, _, _, _, _, n134, n135, _⟩, ⟨f0, kf, _⟩, rf, _, _⟩ := hM.1
    have L := loopN (X := fun i => Am lx 301 16 [some (.ref (z + 132)), some (.int (bI b)), some (.int (nI (mxC ρ i))), some (.int (nI i)), none, none] [] (0, 0) (St z E n K N R (u2 I2 132 0 (nI 0)) J2)) (n := F 0 8) (by
      intro i hi
      try simp only
      rw [e_301_16]
      have b1 := mxC_le hO hρ (i := i) (by omega)
      have b2 := (hρ.1 i hi).1
      have b3 := (hO.2.2.2.2.2.2.2.2.2.2.2.2.2.2.2.2.1 i hi).2.2.1
      have vi := hv i (by omega)
      rw [mxC]
      by_cases c : mxC ρ i < ρ i + 1
      · simp (disch := first | assumption | omega) [k_St, n_St, i_St, j_St, r_St, wI_St, wJ_St, k_S0, n_S0, i_S0, j_S0, r_S0, wI_S0, wJ_S0, cI_s, cJ_s, cV_s, nR_s, nQ_s, nQ_n, lt_s_, gd_T, gd_t, Option.map_some, lits, neg_mI, nI_add, pk_mul, nI_clamp, nI_eq, nI_leI, nI_ltI, nm_eq, mn_eq, nm_lt, mn_lt, nm_le, mn_le, m_eq, bI_0, bI_1, if_neg, if_pos, km, rf, kf, q8', r16, k134, n134, vi, c]
      · simp (disch := first | assumption | omega) [k_St, n_St, i_St, j_St, r_St, wI_St, wJ_St, k_S0, n_S0, i_S0, j_S0, r_S0, wI_S0, wJ_S0, cI_s, cJ_s, cV_s, nR_s, nQ_s, nQ_n, lt_s_, gd_T, gd_t, Option.map_some, lits, neg_mI, nI_add, pk_mul, nI_clamp, nI_eq, nI_leI, nI_ltI, nm_eq, mn_eq, nm_lt, mn_lt, nm_le, mn_le, m_eq, bI_0, bI_1, if_neg, if_pos, km, rf, kf, q8', r16, k134, n134, vi, c])
    try simp only at L
    have m0 : mxC ρ 0 = 0 := rfl
    rw [m0] at L
    have e1 : (nI (100 - F 0 3)).toInt64 = lN (100 - F 0 3) := nI_l (by omega)
    have L2 := loopN (X := fun i => Am lx 301 43 [some (.ref (z + 132)), some (.int (bI b)), some (.int (nI (mxC ρ (F 0 8)))), some (.long (lN (smC (100 - F 0 3) 100 (mxC ρ (F 0 8)) ρ i))), none, some (.int (nI i))] [] (0, 0) (St z E n K N R (u2 I2 132 0 (nI 0)) J2)) (n := F 0 8) (by
      intro i hi
      try simp only
      rw [e_301_43]
      have b1 := mxC_ge (ρ := ρ) (g := i) (i := F 0 8) hi
      have vi := hv i (by omega)
      have a2 : ∀ a : Nat, ∀ S : aH, Ca lx 299 [.long (lN a), .int (nI (ρ i + 1))] S = some (some (.long (lN (a ^ (ρ i + 1)))), S) := fun a S => s_299 a (by omega) S
      have a3 : ∀ a : Nat, ∀ S : aH, Ca lx 299 [.long (lN a), .int (nI (mxC ρ (F 0 8) - ρ i - 1))] S = some (some (.long (lN (a ^ (mxC ρ (F 0 8) - ρ i - 1)))), S) := fun a S => s_299 a (by omega) S
      have a4 : mxC ρ (F 0 8) - (ρ i + 1) = mxC ρ (F 0 8) - ρ i - 1 := by omega
      rw [smC, a4]
      simp (disch := first | assumption | omega) [k_St, n_St, i_St, j_St, r_St, wI_St, wJ_St, k_S0, n_S0, i_S0, j_S0, r_S0, wI_S0, wJ_S0, cI_s, cJ_s, cV_s, nR_s, nQ_s, nQ_n, lt_s_, gd_T, gd_t, Option.map_some, lits, neg_mI, nI_add, pk_mul, nI_clamp, nI_eq, nI_leI, nI_ltI, nm_eq, mn_eq, nm_lt, mn_lt, nm_le, mn_le, m_eq, bI_0, bI_1, if_neg, if_pos, km, rf, kf, q8', q3', r16, k134, n134, vi, pk_sub, e1, a2, a3, l_100, lN_mul, lN_add])
    try simp only at L2
    have t0 : smC (100 - F 0 3) 100 (mxC ρ (F 0 8)) ρ 0 = 0 := rfl
    rw [t0] at L2
    have sl := smC_le (ρ := ρ) (u := 100 - F 0 3) (l := 100) (by omega) (by omega) hm9 (i := F 0 8) (fun g hg => mxC_ge hg)
    have ll : 100 ^ mxC ρ (F 0 8) ≤ 1000000000000000000 := pw_le (by omega) hm9
    have l0 : 0 < 100 ^ mxC ρ (F 0 8) := Nat.pow_pos (by omega)
    have e9 := d_190 (lx := lx) (z := z) (E := E) (n := n) (N := N) (R := R) (I := u2 I2 132 0 (nI 0)) (J := J2) km (o := smC (100 - F 0 3) 100 (mxC ρ (F 0 8)) ρ (F 0 8)) (u := 100 ^ mxC ρ (F 0 8)) (by omega) (by omega) l0 b
    have fin : (if b then 100 ^ mxC ρ (F 0 8) else smC (100 - F 0 3) 100 (mxC ρ (F 0 8)) ρ (F 0 8)) / Nat.gcd (smC (100 - F 0 3) 100 (mxC ρ (F 0 8)) ρ (F 0 8)) (100 ^ mxC ρ (F 0 8)) = (if b then lA F ^ mxC ρ (F 0 8) else smC (uA F) (lA F) (mxC ρ (F 0 8)) ρ (F 0 8)) / Nat.gcd (smC (uA F) (lA F) (mxC ρ (F 0 8)) ρ (F 0 8)) (lA F ^ mxC ρ (F 0 8)) := by
      cases b
      · exact mq1
      · exact mq2
    rw [fin] at e9
    have a4 : ∀ a : Nat, ∀ S : aH, Ca lx 299 [.long (lN a), .int (nI (mxC ρ (F 0 8)))] S = some (some (.long (lN (a ^ mxC ρ (F 0 8)))), S) := fun a S => s_299 a (by omega) S
    simp (disch := first | assumption | omega) [k_St, n_St, i_St, j_St, r_St, wI_St, wJ_St, k_S0, n_S0, i_S0, j_S0, r_S0, wI_S0, wJ_S0, cI_s, cJ_s, cV_s, nR_s, nQ_s, nQ_n, lt_s_, gd_T, gd_t, Option.map_some, lits, neg_mI, nI_add, pk_mul, nI_clamp, nI_eq, nI_leI, nI_ltI, nm_eq, mn_eq, nm_lt, mn_lt, nm_le, mn_le, m_eq, bI_0, bI_1, km, rf, L]
    rw [e_301_16]
    simp (disch := first | assumption | omega) [k_St, n_St, i_St, j_St, r_St, wI_St, wJ_St, k_S0, n_S0, i_S0, j_S0, r_S0, wI_S0, wJ_S0, cI_s, cJ_s, cV_s, nR_s, nQ_s, nQ_n, lt_s_, gd_T, gd_t, Option.map_some, lits, neg_mI, nI_add, pk_mul, nI_clamp, nI_eq, nI_leI, nI_ltI, nm_eq, mn_eq, nm_lt, mn_lt, nm_le, mn_le, m_eq, bI_0, bI_1, if_pos, km, rf, kf, q8']
    rw [l_0, L2, e_301_43]
    simp (disch := first | assumption | omega) [k_St, n_St, i_St, j_St, r_St, wI_St, wJ_St, k_S0, n_S0, i_S0, j_S0, r_S0, wI_S0, wJ_S0, cI_s, cJ_s, cV_s, nR_s, nQ_s, nQ_n, lt_s_, gd_T, gd_t, Option.map_some, lits, neg_mI, nI_add, pk_mul, nI_clamp, nI_eq, nI_leI, nI_ltI, nm_eq, mn_eq, nm_lt, mn_lt, nm_le, mn_le, m_eq, bI_0, bI_1, if_pos, km, rf, kf, q8', l_100, a4, e9]
end OP8
