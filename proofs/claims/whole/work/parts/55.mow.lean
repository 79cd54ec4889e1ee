section MOW
variable {z : Nat} {E : aEt} {n : Nat} {K N : Nat → Nat} {R : Nat → Nat → Option Nat} {I : Nat → Nat → Int32} {J : Nat → Nat → Int64} {lx : List Value → aH → aO} {f : Nat} {F : Nat → Nat → Nat} {ρ : Nat → Nat}
theorem s_232 (h : MD K N R I f F) {g k : Nat} (hg : g < F 0 8) (hk : k ≤ F 4 g) : Ca lx 232 [.ref (z + 132), .int (nI g), .int (nI k)] (St z E n K N R I J) = some (some (.int (nI (F 5 (g * 9 + k)))), (St z E n K N R I J)) := by
  rw [f_232]
  obtain ⟨⟨km, _⟩, ⟨f0, kf, _, _, _, _, r16, _, _, _, _, _, _, _, _, _, _, k5, _, _, _, _, _, _, _, _, _, _, n5, _⟩, rf, ⟨_, _, _, _, _, q5, _⟩, hO⟩ := h
  obtain ⟨o0, o0x, o1, o2, o2x, o3, o4, o4x, o5, o5x, o6, o7, o8, o9, oS, oD, oG, oH⟩ := hO
  have h8 := (oG g hg).2.2.1
  simp (disch := first | assumption | omega) [k_St, n_St, i_St, j_St, r_St, wI_St, wJ_St, k_S0, n_S0, i_S0, j_S0, r_S0, wI_S0, wJ_S0, cI_s, cJ_s, cV_s, nR_s, nQ_s, nQ_n, lt_s_, gd_T, gd_t, Option.map_some, lits, neg_mI, nI_add, pk_mul, nI_clamp, nI_eq, nI_leI, nI_ltI, nm_eq, mn_eq, nm_lt, mn_lt, nm_le, mn_le, m_eq, bI_0, bI_1, km, rf, kf, r16, k5, n5, q5 g k hg hk]
theorem s_233 (h : MD K N R I f F) (hρ : ROa F ρ) {g : Nat} (hg : g < F 0 8) : Ca lx 233 [.ref (z + 132), .int (nI g)] (St z E n K N R (pr I 135 145 ρ) J) = some (some (.int (nI (plc F ρ g))), St z E n K N R (pr I 135 145 ρ) J) := by
  rw [f_233]
  have o8 : F 0 8 ≤ 4 := h.2.2.2.2.2.2.2.2.2.2.2.2.2.2.2.2.1
  have e := s_232 (lx := lx) (z := z) (E := E) (n := n) (J := J) (MD_p (ρ := ρ) (m := 145) h (by decide : 135 < 147)) hg (hρ.1 g hg).1
  obtain ⟨⟨km, _, r16, r17, _, _, _, _, _, _, _, _, _, _, _, k134, k135, _, _, _, _, _, _, _, _, _, _, _, n134, n135, _⟩, _⟩ := h
  simp (disch := first | assumption | omega) [k_St, n_St, i_St, j_St, r_St, wI_St, wJ_St, k_S0, n_S0, i_S0, j_S0, r_S0, wI_S0, wJ_S0, cI_s, cJ_s, cV_s, nR_s, nQ_s, nQ_n, lt_s_, gd_T, gd_t, Option.map_some, lits, neg_mI, nI_add, pk_mul, nI_clamp, nI_eq, nI_leI, nI_ltI, nm_eq, mn_eq, nm_lt, mn_lt, nm_le, mn_le, m_eq, bI_0, bI_1, km, r17, k135, n135, pr_s, e]
  rfl
theorem s_234 (h : MD K N R I f F) (hρ : ROa F ρ) {g : Nat} (hg : g < F 0 8) : Ca lx 234 [.ref (z + 132), .int (nI g)] (St z E n K N R (pr I 135 145 ρ) J) = some (some (.int (bI (dgg F ρ g))), St z E n K N R (pr I 135 145 ρ) J) := by
  rw [f_234]
  obtain ⟨⟨km, _, r16, r17, _, _, _, _, _, _, _, _, _, _, _, k134, k135, _, _, _, _, _, _, _, _, _, _, _, n134, n135, _⟩, ⟨f0, kf, _, _, _, r15, _, _, _, _, _, _, _, _, _, _, k4, _, _, _, _, _, _, _, _, _, _, n4, _⟩, rf, ⟨_, _, _, _, q4, _⟩, hO⟩ := h
  obtain ⟨o0, o0x, o1, o2, o2x, o3, o4, o4x, o5, o5x, o6, o7, o8, o9, oS, oD, oG, oH⟩ := hO
  have h8 := (oG g hg).2.2.1
  obtain ⟨a1, a2, a3⟩ := hρ.1 g hg
  have p1 : pr I 135 145 ρ (f + 4) = I (f + 4) := pr_n (by omega)
  unfold dgg
  by_cases e : ρ (8 + g) = 0
  · by_cases e2 : ρ g < F 4 g
    · simp (disch := first | assumption | omega) [k_St, n_St, i_St, j_St, r_St, wI_St, wJ_St, k_S0, n_S0, i_S0, j_S0, r_S0, wI_S0, wJ_S0, cI_s, cJ_s, cV_s, nR_s, nQ_s, nQ_n, lt_s_, gd_T, gd_t, Option.map_some, lits, neg_mI, nI_add, pk_mul, nI_clamp, nI_eq, nI_leI, nI_ltI, nm_eq, mn_eq, nm_lt, mn_lt, nm_le, mn_le, m_eq, bI_0, bI_1, if_neg, km, r17, k135, n135, pr_s, rf, kf, r15, k4, n4, p1, q4 g hg, e, e2]; rfl
    · simp (disch := first | assumption | omega) [k_St, n_St, i_St, j_St, r_St, wI_St, wJ_St, k_S0, n_S0, i_S0, j_S0, r_S0, wI_S0, wJ_S0, cI_s, cJ_s, cV_s, nR_s, nQ_s, nQ_n, lt_s_, gd_T, gd_t, Option.map_some, lits, neg_mI, nI_add, pk_mul, nI_clamp, nI_eq, nI_leI, nI_ltI, nm_eq, mn_eq, nm_lt, mn_lt, nm_le, mn_le, m_eq, bI_0, bI_1, if_pos, km, r17, k135, n135, pr_s, rf, kf, r15, k4, n4, p1, q4 g hg, e, e2]; rfl
  · simp (disch := first | assumption | omega) [k_St, n_St, i_St, j_St, r_St, wI_St, wJ_St, k_S0, n_S0, i_S0, j_S0, r_S0, wI_S0, wJ_S0, cI_s, cJ_s, cV_s, nR_s, nQ_s, nQ_n, lt_s_, gd_T, gd_t, Option.map_some, lits, neg_mI, nI_add, pk_mul, nI_clamp, nI_eq, nI_leI, nI_ltI, nm_eq, mn_eq, nm_lt, mn_lt, nm_le, mn_le, m_eq, bI_0, bI_1, km, r17, k135, n135, pr_s, e]; rfl
theorem s_235 (h : MD K N R I f F) (hρ : ROa F ρ) {c : Nat} (hc : c < 64) : Ca lx 235 [.ref (z + 132), .int (nI c)] (St z E n K N R (pr I 135 145 ρ) J) = some (some (.int (nI (tks F ρ c))), St z E n K N R (pr I 135 145 ρ) J) := by
  rw [f_235]
  obtain ⟨⟨km, _, r16, r17, _, _, _, _, _, _, _, _, _, _, _, k134, k135, _, _, _, _, _, _, _, _, _, _, _, n134, n135, _⟩, ⟨f0, kf, r12, _, _, _, _, _, _, _, _, _, _, k1, _, _, _, _, _, _, _, _, _, _, n1, _⟩, rf, ⟨_, q1, _⟩, hO⟩ := h
  obtain ⟨a1, a2⟩ := hρ.2.2 c hc
  have p1 : pr I 135 145 ρ (f + 1) = I (f + 1) := pr_n (by omega)
  unfold tks
  by_cases e : ρ (17 + c) = 1
  · simp (disch := first | assumption | omega) [k_St, n_St, i_St, j_St, r_St, wI_St, wJ_St, k_S0, n_S0, i_S0, j_S0, r_S0, wI_S0, wJ_S0, cI_s, cJ_s, cV_s, nR_s, nQ_s, nQ_n, lt_s_, gd_T, gd_t, Option.map_some, lits, neg_mI, nI_add, pk_mul, nI_clamp, nI_eq, nI_leI, nI_ltI, nm_eq, mn_eq, nm_lt, mn_lt, nm_le, mn_le, m_eq, bI_0, bI_1, km, r17, k135, n135, pr_s, e]
  · simp (disch := first | assumption | omega) [k_St, n_St, i_St, j_St, r_St, wI_St, wJ_St, k_S0, n_S0, i_S0, j_S0, r_S0, wI_S0, wJ_S0, cI_s, cJ_s, cV_s, nR_s, nQ_s, nQ_n, lt_s_, gd_T, gd_t, Option.map_some, lits, neg_mI, nI_add, pk_mul, nI_clamp, nI_eq, nI_leI, nI_ltI, nm_eq, mn_eq, nm_lt, mn_lt, nm_le, mn_le, m_eq, bI_0, bI_1, km, r17, k135, n135, pr_s, rf, kf, r12, k1, n1, p1, q1 c hc, e]
theorem s_236 (h : MD K N R I f F) (hρ : ROa F ρ) {g : Nat} (hg : g < F 0 8) : Ca lx 236 [.ref (z + 132), .int (nI g)] (St z E n K N R (pr I 135 145 ρ) J) = some (none, St z E n K N R (pr I 135 145 (bgn F ρ g)) J) := by
  rw [f_236]
  have e1 := s_234 (lx := lx) (z := z) (E := E) (n := n) (J := J) h hρ hg
  have hO := h.2.2.2.2
  have o8 : F 0 8 ≤ 4 := hO.2.2.2.2.2.2.2.2.2.2.2.2.1
  have oG := hO.2.2.2.2.2.2.2.2.2.2.2.2.2.2.2.2.1 g hg
  have md := MD_p (ρ := ρ) (m := 145) h (by decide : 135 < 147)
  have h2 := h
  obtain ⟨⟨km, _, r16, r17, _, _, _, _, _, _, _, _, _, _, _, k134, k135, _, _, _, _, _, _, _, _, _, _, _, n134, n135, _⟩, _⟩ := h2
  unfold bgn
  cases hd : dgg F ρ g
  · rw [hd] at e1
    simp (disch := first | assumption | omega) [k_St, n_St, i_St, j_St, r_St, wI_St, wJ_St, k_S0, n_S0, i_S0, j_S0, r_S0, wI_S0, wJ_S0, cI_s, cJ_s, cV_s, nR_s, nQ_s, nQ_n, lt_s_, gd_T, gd_t, Option.map_some, lits, neg_mI, nI_add, pk_mul, nI_clamp, nI_eq, nI_leI, nI_ltI, nm_eq, mn_eq, nm_lt, mn_lt, nm_le, mn_le, m_eq, bI_0, bI_1, km, e1, e_236_18, r17, k135, n135, pr_u]
  · rw [hd] at e1
    have hlt : ρ g < F 4 g := by simp [dgg] at hd; exact hd.2
    have hS := oG.2.2.2 (ρ g + 1) (by omega)
    have hc := isS_lt hS
    have e2 := s_232 (lx := lx) (z := z) (E := E) (n := n) (J := J) md hg (show ρ g + 1 ≤ F 4 g by omega)
    have e3 := s_235 (lx := lx) (z := z) (E := E) (n := n) (J := J) h hρ hc
    have hl := tks_le hO hρ hS
    by_cases e0 : tks F ρ (F 5 (g * 9 + (ρ g + 1))) = 0
    · rw [e0] at e3
      simp (disch := first | assumption | omega) [k_St, n_St, i_St, j_St, r_St, wI_St, wJ_St, k_S0, n_S0, i_S0, j_S0, r_S0, wI_S0, wJ_S0, cI_s, cJ_s, cV_s, nR_s, nQ_s, nQ_n, lt_s_, gd_T, gd_t, Option.map_some, lits, neg_mI, nI_add, pk_mul, nI_clamp, nI_eq, nI_leI, nI_ltI, nm_eq, mn_eq, nm_lt, mn_lt, nm_le, mn_le, m_eq, bI_0, bI_1, km, e1, e2, e3, e0, e_236_18, r17, k135, n135, pr_s, pr_u]
    · simp (disch := first | assumption | omega) [k_St, n_St, i_St, j_St, r_St, wI_St, wJ_St, k_S0, n_S0, i_S0, j_S0, r_S0, wI_S0, wJ_S0, cI_s, cJ_s, cV_s, nR_s, nQ_s, nQ_n, lt_s_, gd_T, gd_t, Option.map_some, lits, neg_mI, nI_add, pk_mul, nI_clamp, nI_eq, nI_leI, nI_ltI, nm_eq, mn_eq, nm_lt, mn_lt, nm_le, mn_le, m_eq, bI_0, bI_1, km, e1, e2, e3, e0, e_236_18, r17, k135, n135, pr_s, pr_u]
theorem s_237 (h : MD K N R I f F) (hρ : ROk F ρ) (h16 : ρ 16 < 2000) : Ca lx 237 [.ref (z + 132)] (St z E n K N R (pr I 135 145 ρ) J) = some (some (.int (nI (msk (cam F ρ) (F 0 8)))), St z E n K N R (pr I 135 145 (ngt F ρ)) J) := by
  rw [f_237]
  have hO := h.2.2.2.2
  have o8 : F 0 8 ≤ 4 := hO.2.2.2.2.2.2.2.2.2.2.2.2.1
  have oG := hO.2.2.2.2.2.2.2.2.2.2.2.2.2.2.2.2.1
  have h1 := on1_ok hO hρ
  have h2 := h
  obtain ⟨⟨km, _, r16, r17, _, _, _, _, _, _, _, _, _, _, _, k134, k135, _, _, _, _, _, _, _, _, _, _, _, n134, n135, _⟩, ⟨f0, kf, _⟩, rf, ⟨q0, _⟩, _⟩ := h2
  have p0 : ∀ σ, pr I 135 145 σ f 8 = nI (F 0 8) := fun σ => by rw [pr_n (by omega)]; exact q0 8 (by decide)
  have L := loopN (X := fun i => Am lx 237 13 [some (.ref (z + 132)), some (.int (nI (msk (cam F ρ) i))), some (.int (nI i))] [] (0, 0) (St z E n K N R (pr I 135 145 (rA F (on1 ρ) i)) J)) (n := F 0 8) (by
    intro i hi
    try simp only
    rw [e_237_13]
    have ha := rA_ok hO (ROk_a h1) (i := i) (by omega)
    have e1 := s_234 (lx := lx) (z := z) (E := E) (n := n) (J := J) h ha hi
    have b := (ha.1 i hi).2.1
    have hm := msk_lt (cam F ρ) i
    have i4 : i < 4 := by omega
    have cd : cam F ρ i = cA F (rA F (on1 ρ) i) i := rfl
    rw [msk, cd, rA]
    unfold cA gA
    cases hd : dgg F (rA F (on1 ρ) i) i
    · rw [hd] at e1
      simp (disch := first | assumption | omega) [k_St, n_St, i_St, j_St, r_St, wI_St, wJ_St, k_S0, n_S0, i_S0, j_S0, r_S0, wI_S0, wJ_S0, cI_s, cJ_s, cV_s, nR_s, nQ_s, nQ_n, lt_s_, gd_T, gd_t, Option.map_some, lits, neg_mI, nI_add, pk_mul, nI_clamp, nI_eq, nI_leI, nI_ltI, nm_eq, mn_eq, nm_lt, mn_lt, nm_le, mn_le, m_eq, bI_0, bI_1, if_neg, km, rf, kf, p0, e1]
    · rw [hd] at e1
      have hlt : rA F (on1 ρ) i i < F 4 i := by simp [dgg] at hd; exact hd.2
      have hS := (oG i hi).2.2.2 (rA F (on1 ρ) i i + 1) (by omega)
      have hc := isS_lt hS
      have l4 : rA F (on1 ρ) i (4 + i) = on1 ρ (4 + i) := rA_o (fun q hq => by omega) (by omega)
      have l1 : 1 ≤ rA F (on1 ρ) i (4 + i) := by
        rw [l4]
        apply h1.2.2.2 i hi
        rw [← hd]
        exact (dgg_c (rA_o (fun q hq => by omega) (by omega)) (rA_o (fun q hq => by omega) (by omega))).symm
      have l8 := (oG i hi).2.2.1
      by_cases e0 : rA F (on1 ρ) i (4 + i) - 1 = 0
      · have e3 := s_232 (lx := lx) (z := z) (E := E) (n := n) (J := J) (MD_p (ρ := up (up (rA F (on1 ρ) i) (4 + i) (rA F (on1 ρ) i (4 + i) - 1)) i (rA F (on1 ρ) i i + 1)) (m := 145) h (by decide : 135 < 147)) hi (show rA F (on1 ρ) i i + 1 ≤ F 4 i by omega)
        have e4 : Ca lx 233 [.ref (z + 132), .int (nI i)] (St z E n K N R (pr I 135 145 (up (up (rA F (on1 ρ) i) (4 + i) 0) i (rA F (on1 ρ) i i + 1))) J) = some (some (.int (nI (F 5 (i * 9 + (rA F (on1 ρ) i i + 1))))), St z E n K N R (pr I 135 145 (up (up (rA F (on1 ρ) i) (4 + i) 0) i (rA F (on1 ρ) i i + 1))) J) := by
          rw [f_233]
          rw [e0] at e3
          simp (disch := first | assumption | omega) [k_St, n_St, i_St, j_St, r_St, wI_St, wJ_St, k_S0, n_S0, i_S0, j_S0, r_S0, wI_S0, wJ_S0, cI_s, cJ_s, cV_s, nR_s, nQ_s, nQ_n, lt_s_, gd_T, gd_t, Option.map_some, lits, neg_mI, nI_add, pk_mul, nI_clamp, nI_eq, nI_leI, nI_ltI, nm_eq, mn_eq, nm_lt, mn_lt, nm_le, mn_le, m_eq, bI_0, bI_1, km, r17, k135, n135, pr_s, e3, up_s]
        have n1 : i ≠ 4 + i := by omega
        simp (disch := first | assumption | omega) [k_St, n_St, i_St, j_St, r_St, wI_St, wJ_St, k_S0, n_S0, i_S0, j_S0, r_S0, wI_S0, wJ_S0, cI_s, cJ_s, cV_s, nR_s, nQ_s, nQ_n, lt_s_, gd_T, gd_t, Option.map_some, lits, neg_mI, nI_add, pk_mul, nI_clamp, nI_eq, nI_leI, nI_ltI, nm_eq, mn_eq, nm_lt, mn_lt, nm_le, mn_le, m_eq, bI_0, bI_1, if_neg, if_pos, km, rf, kf, p0, e1, r17, k135, n135, pr_s, pr_u, pk_sub, e0, up_s, up_n, e4, bt_o i4 hm]
      · simp (disch := first | assumption | omega) [k_St, n_St, i_St, j_St, r_St, wI_St, wJ_St, k_S0, n_S0, i_S0, j_S0, r_S0, wI_S0, wJ_S0, cI_s, cJ_s, cV_s, nR_s, nQ_s, nQ_n, lt_s_, gd_T, gd_t, Option.map_some, lits, neg_mI, nI_add, pk_mul, nI_clamp, nI_eq, nI_leI, nI_ltI, nm_eq, mn_eq, nm_lt, mn_lt, nm_le, mn_le, m_eq, bI_0, bI_1, if_neg, if_pos, km, rf, kf, p0, e1, r17, k135, n135, pr_s, pr_u, pk_sub, e0, up_s])
  have L2 := loopN (X := fun i => Am lx 237 69 [some (.ref (z + 132)), some (.int (nI (msk (cam F ρ) (F 0 8)))), some (.int (nI i))] [] (0, 0) (St z E n K N R (pr I 135 145 (rB F (rA F (on1 ρ) (F 0 8)) (cam F ρ) i)) J)) (n := F 0 8) (by
    intro i hi
    try simp only
    rw [e_237_69]
    have ha := rB_ok hO (rA_ok hO (ROk_a h1) (Nat.le_refl _)) (m := cam F ρ) (i := i) (by omega)
    have e1 := s_236 (lx := lx) (z := z) (E := E) (n := n) (J := J) h ha hi
    have e2 := s_188 (lx := lx) (msk_16 (cam F ρ) o8) (show i < 4 by omega)
    rw [msk_b _ o8 hi] at e2
    rw [rB]
    cases hc : cam F ρ i
    · rw [hc] at e2
      simp (disch := first | assumption | omega) [k_St, n_St, i_St, j_St, r_St, wI_St, wJ_St, k_S0, n_S0, i_S0, j_S0, r_S0, wI_S0, wJ_S0, cI_s, cJ_s, cV_s, nR_s, nQ_s, nQ_n, lt_s_, gd_T, gd_t, Option.map_some, lits, neg_mI, nI_add, pk_mul, nI_clamp, nI_eq, nI_leI, nI_ltI, nm_eq, mn_eq, nm_lt, mn_lt, nm_le, mn_le, m_eq, bI_0, bI_1, if_neg, km, rf, kf, p0, e2]
    · rw [hc] at e2
      simp (disch := first | assumption | omega) [k_St, n_St, i_St, j_St, r_St, wI_St, wJ_St, k_S0, n_S0, i_S0, j_S0, r_S0, wI_S0, wJ_S0, cI_s, cJ_s, cV_s, nR_s, nQ_s, nQ_n, lt_s_, gd_T, gd_t, Option.map_some, lits, neg_mI, nI_add, pk_mul, nI_clamp, nI_eq, nI_leI, nI_ltI, nm_eq, mn_eq, nm_lt, mn_lt, nm_le, mn_le, m_eq, bI_0, bI_1, if_neg, km, rf, kf, p0, e2, e1])
  try simp only at L L2
  have i0 : msk (cam F ρ) 0 = 0 := rfl
  rw [i0] at L
  have st : up ρ 16 (ρ 16 + 1) = rA F (on1 ρ) 0 := rfl
  simp (disch := first | assumption | omega) [k_St, n_St, i_St, j_St, r_St, wI_St, wJ_St, k_S0, n_S0, i_S0, j_S0, r_S0, wI_S0, wJ_S0, cI_s, cJ_s, cV_s, nR_s, nQ_s, nQ_n, lt_s_, gd_T, gd_t, Option.map_some, lits, neg_mI, nI_add, pk_mul, nI_clamp, nI_eq, nI_leI, nI_ltI, nm_eq, mn_eq, nm_lt, mn_lt, nm_le, mn_le, m_eq, bI_0, bI_1, km, r17, k135, n135, pr_s, pr_u, st, L]
  rw [e_237_13]
  simp (disch := first | assumption | omega) [k_St, n_St, i_St, j_St, r_St, wI_St, wJ_St, k_S0, n_S0, i_S0, j_S0, r_S0, wI_S0, wJ_S0, cI_s, cJ_s, cV_s, nR_s, nQ_s, nQ_n, lt_s_, gd_T, gd_t, Option.map_some, lits, neg_mI, nI_add, pk_mul, nI_clamp, nI_eq, nI_leI, nI_ltI, nm_eq, mn_eq, nm_lt, mn_lt, nm_le, mn_le, m_eq, bI_0, bI_1, if_pos, km, rf, kf, p0]
  have r0 : rA F (on1 ρ) (F 0 8) = rB F (rA F (on1 ρ) (F 0 8)) (cam F ρ) 0 := rfl
  rw [r0, L2, e_237_69]
  simp (disch := first | assumption | omega) [k_St, n_St, i_St, j_St, r_St, wI_St, wJ_St, k_S0, n_S0, i_S0, j_S0, r_S0, wI_S0, wJ_S0, cI_s, cJ_s, cV_s, nR_s, nQ_s, nQ_n, lt_s_, gd_T, gd_t, Option.map_some, lits, neg_mI, nI_add, pk_mul, nI_clamp, nI_eq, nI_leI, nI_ltI, nm_eq, mn_eq, nm_lt, mn_lt, nm_le, mn_le, m_eq, bI_0, bI_1, if_pos, km, rf, kf, p0]
  rfl
/-- nights go by -/
def ngs (F : Nat → Nat → Nat) (ρ : Nat → Nat) : Nat → (Nat → Nat)
  | 0 => ρ
  | i + 1 => ngt F (ngs F ρ i)
theorem ngs_ok (hO : FOk F) (hρ : ROk F ρ) : ∀ i, ROk F (ngs F ρ i)
  | 0 => hρ
  | i + 1 => ngt_ok hO (ngs_ok hO hρ i)
theorem ngs_16 (hO : FOk F) : ∀ i, ngs F ρ i 16 = ρ 16 + i
  | 0 => rfl
  | i + 1 => by rw [ngs, ngt_16 hO, ngs_16 hO i]; omega
theorem s_238 (h : MD K N R I f F) (hρ : ROk F ρ) (h16 : ρ 16 ≤ 999) (hv : ∀ k, k < 145 → I 134 k = nI (ρ k)) {m : Nat} (hm : m ≤ 60) : Ca lx 238 [.ref (z + 132), .int (nI m)] (St z E n K N R I J) = some (none, St z E n K N R (pr I 135 145 (ngs F ρ m)) J) := by
  rw [f_238]
  have hO := h.2.2.2.2
  have km := h.1.1
  have L := loopN (X := fun i => Am lx 238 5 [some (.ref (z + 132)), some (.int (nI m)), some (.int (nI i))] [] (0, 0) (St z E n K N R (pr I 135 145 (ngs F ρ i)) J)) (n := m) (by
    intro i hi
    try simp only
    rw [e_238_5]
    have e := s_237 (lx := lx) (z := z) (E := E) (n := n) (J := J) h (ngs_ok hO hρ i) (by rw [ngs_16 hO]; omega)
    simp (disch := first | assumption | omega) [k_St, n_St, i_St, j_St, r_St, wI_St, wJ_St, k_S0, n_S0, i_S0, j_S0, r_S0, wI_S0, wJ_S0, cI_s, cJ_s, cV_s, nR_s, nQ_s, nQ_n, lt_s_, gd_T, gd_t, Option.map_some, lits, neg_mI, nI_add, pk_mul, nI_clamp, nI_eq, nI_leI, nI_ltI, nm_eq, mn_eq, nm_lt, mn_lt, nm_le, mn_le, m_eq, bI_0, bI_1, if_neg, km, e, ngs])
  simp only [ngs] at L
  simp (disch := first | assumption | omega) [k_St, n_St, i_St, j_St, r_St, wI_St, wJ_St, k_S0, n_S0, i_S0, j_S0, r_S0, wI_S0, wJ_S0, cI_s, cJ_s, cV_s, nR_s, nQ_s, nQ_n, lt_s_, gd_T, gd_t, Option.map_some, lits, neg_mI, nI_add, pk_mul, nI_clamp, nI_eq, nI_leI, nI_ltI, nm_eq, mn_eq, nm_lt, mn_lt, nm_le, mn_le, m_eq, bI_0, bI_1, km, s_231 h hv, L]
  rw [e_238_5]
  simp (disch := first | assumption | omega) [k_St, n_St, i_St, j_St, r_St, wI_St, wJ_St, k_S0, n_S0, i_S0, j_S0, r_S0, wI_S0, wJ_S0, cI_s, cJ_s, cV_s, nR_s, nQ_s, nQ_n, lt_s_, gd_T, gd_t, Option.map_some, lits, neg_mI, nI_add, pk_mul, nI_clamp, nI_eq, nI_leI, nI_ltI, nm_eq, mn_eq, nm_lt, mn_lt, nm_le, mn_le, m_eq, bI_0, bI_1]
end MOW
