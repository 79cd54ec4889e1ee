section OP9
variable {z : Nat} {E : aEt} {n : Nat} {K N : Nat → Nat} {R : Nat → Nat → Option Nat} {I : Nat → Nat → Int32} {J : Nat → Nat → Int64} {lx : List Value → aH → aO} {p s f w : Nat} {F : Nat → Nat → Nat} {ρ : Nat → Nat}
theorem fl_s (F : Nat → Nat → Nat) (d i : Nat) : fl F d (i + 1) = (fl F d i || decide (dk d (i + 1) % 100 < F 0 3)) := rfl
theorem o_150 (h : CW K N R I J p s F ρ) (x : Int32) : OQ lx z E n K N R I J f F ρ 150 302 [.int x] := by
  have hU : ∀ v, CW K N R (u2 I 0 11 v) J p s F ρ := fun v => CW_u h
  obtain ⟨hL, ⟨hW15, hW19, hP, hPs, hps, _⟩, h10, hF, hO, hR, hρ, _, h16⟩ := h
  obtain ⟨k0, _, r1, r2, _, _, _, _, r7, rp, _⟩ := hL
  have o8 : F 0 8 ≤ 4 := hO.2.2.2.2.2.2.2.2.2.2.2.2.1
  have o3 : F 0 3 ≤ 100 := hO.2.2.2.2.2.1
  have kp := hP.1
  have k15 := hW15.1
  have t1 : nI 1 = bI true := rfl
  have t0 : nI 0 = bI false := rfl
  rcases rg_i x (n := 65537) (by omega) with c | ⟨d, hd, ed⟩
  · have c161 := c_161 (lx := lx) (z := z) (E := E) (n := n) (N := N) (R := R) (I := I) (J := J) k0 true false
    rw [← t1, ← t0] at c161
    refine ⟨2, mI 1, by decide, by decide, ⟨_, _, ?_, CQ_u⟩, fun I2 J2 hM => ⟨_, ?_, MQ_1⟩⟩
    · rw [f_150]
      by_cases c1 : x < nI 0
      · simp [k_St, n_St, i_St, j_St, r_St, wI_St, wJ_St, k_S0, n_S0, i_S0, j_S0, r_S0, wI_S0, wJ_S0, cI_s, cJ_s, cV_s, nR_s, nQ_s, nQ_n, lt_s_, gd_T, gd_t, Option.map_some, lits, neg_mI, nI_add, pk_mul, nI_clamp, nI_eq, nI_leI, nI_ltI, nm_eq, mn_eq, nm_lt, mn_lt, nm_le, mn_le, m_eq, bI_0, bI_1, k0, h10, c1, e_150_12, c161]
      · have c2 : nI 65537 ≤ x := by
          apply Int32.not_lt.mp
          intro c3
          have : rg x 65537 = true := by
            have : (0 : Int32) ≤ x := Int32.not_lt.mp c1
            simp [rg, this, c3]
          rw [c] at this; cases this
        simp [k_St, n_St, i_St, j_St, r_St, wI_St, wJ_St, k_S0, n_S0, i_S0, j_S0, r_S0, wI_S0, wJ_S0, cI_s, cJ_s, cV_s, nR_s, nQ_s, nQ_n, lt_s_, gd_T, gd_t, Option.map_some, lits, neg_mI, nI_add, pk_mul, nI_clamp, nI_eq, nI_leI, nI_ltI, nm_eq, mn_eq, nm_lt, mn_lt, nm_le, mn_le, m_eq, bI_0, bI_1, k0, h10, c1, c2, e_150_12, c161]
    · rw [f_302]
      have e87 := d_187 (lx := lx) x (m := 65536) (by omega)
      rw [c] at e87
      have km := hM.1.1.1
      have rf := hM.1.2.2.1
      have l6 : (65536 : Int32) = nI 65536 := rfl
      simp [k_St, n_St, i_St, j_St, r_St, wI_St, wJ_St, k_S0, n_S0, i_S0, j_S0, r_S0, wI_S0, wJ_S0, cI_s, cJ_s, cV_s, nR_s, nQ_s, nQ_n, lt_s_, gd_T, gd_t, Option.map_some, lits, neg_mI, nI_add, pk_mul, nI_clamp, nI_eq, nI_leI, nI_ltI, nm_eq, mn_eq, nm_lt, mn_lt, nm_le, mn_le, m_eq, bI_0, bI_1, km, rf, l6, e87, d_182]
  · subst ed
    have c161 := c_161 (lx := lx) (z := z) (E := E) (n := n) (N := N) (R := R) (I := I) (J := J) k0 true true
    rw [← t1] at c161
    have hU0 := hU (nI 0)
    obtain ⟨_, _, _, hF0, _, hR0, _⟩ := hU0
    have q8 := hF0.1 8 (by decide)
    have q3 := hF0.1 3 (by decide)
    have rho : ∀ g, g < F 0 8 → ρ g ≤ 8 := fun g hg => by
      have := (hρ.1 g hg).1
      have := (hO.2.2.2.2.2.2.2.2.2.2.2.2.2.2.2.2.1 g hg).2.2.1
      omega
    have oo : ∀ m : Nat, m < 16 → nI m ||| nI 0 = nI m := by
      intro m hm
      have : ∀ m : Fin 16, nI m.val ||| nI 0 = nI m.val := by decide +kernel
      exact this ⟨m, hm⟩
    refine ⟨0, nI (msk (fun g => !fl F (dS F ρ d g) (ρ g + 1)) (F 0 8)), by decide, by decide, ⟨_, _, ?_, CQ_u⟩, fun I2 J2 hM => ⟨_, ?_, MQ_1⟩⟩
    · rw [f_150]
      have L := loopN (X := fun g => Am lx 150 23 [some (.ref z), none, some (.int (nI (dS F ρ d g))), some (.int (nI (msk (fun g => !fl F (dS F ρ d g) (ρ g + 1)) g))), some (.int (nI g)), none, none] [] (0, 0) (St z E n K N R (u2 I 0 11 (nI 0)) J)) (n := F 0 8) (by
        intro g hg
        try simp only
        rw [e_150_23]
        have a1 := s_101 (lx := lx) (z := z) (E := E) (n := n) hW15 hR0 hO hg
        have hr := rho g hg
        have hD := dS_lt (F := F) (ρ := ρ) hd g
        have L2 := loopN (X := fun i => Am lx 150 33 [some (.ref z), none, some (.int (nI (dk (dS F ρ d g) i))), some (.int (nI (msk (fun g => !fl F (dS F ρ d g) (ρ g + 1)) g))), some (.int (nI g)), some (.int (bI (fl F (dS F ρ d g) i))), some (.int (nI i))] [] (0, 0) (St z E n K N R (u2 I 0 11 (nI 0)) J)) (n := ρ g + 1) (by
          intro i hi
          try simp only
          rw [e_150_33, fl_s]
          have hk := dk_lt hD i
          have e1 : dk (dS F ρ d g) (i + 1) = (75 * dk (dS F ρ d g) i + 74) % 65537 := rfl
          rw [e1]
          have hm : (75 * dk (dS F ρ d g) i + 74) % 65537 < 65537 := Nat.mod_lt _ (by omega)
          cases hfl : fl F (dS F ρ d g) i
          · by_cases c : (75 * dk (dS F ρ d g) i + 74) % 65537 % 100 < F 0 3
            · simp (disch := first | assumption | omega) [k_St, n_St, i_St, j_St, r_St, wI_St, wJ_St, k_S0, n_S0, i_S0, j_S0, r_S0, wI_S0, wJ_S0, cI_s, cJ_s, cV_s, nR_s, nQ_s, nQ_n, lt_s_, gd_T, gd_t, Option.map_some, lits, neg_mI, nI_add, pk_mul, nI_clamp, nI_eq, nI_leI, nI_ltI, nm_eq, mn_eq, nm_lt, mn_lt, nm_le, mn_le, m_eq, bI_0, bI_1, if_neg, if_pos, k0, r1, k15, a1, pk_rem, rp, kp, q3, c, e_150_57, bt__]
            · simp (disch := first | assumption | omega) [k_St, n_St, i_St, j_St, r_St, wI_St, wJ_St, k_S0, n_S0, i_S0, j_S0, r_S0, wI_S0, wJ_S0, cI_s, cJ_s, cV_s, nR_s, nQ_s, nQ_n, lt_s_, gd_T, gd_t, Option.map_some, lits, neg_mI, nI_add, pk_mul, nI_clamp, nI_eq, nI_leI, nI_ltI, nm_eq, mn_eq, nm_lt, mn_lt, nm_le, mn_le, m_eq, bI_0, bI_1, if_neg, if_pos, k0, r1, k15, a1, pk_rem, rp, kp, q3, c, bf_]
          · simp (disch := first | assumption | omega) [k_St, n_St, i_St, j_St, r_St, wI_St, wJ_St, k_S0, n_S0, i_S0, j_S0, r_S0, wI_S0, wJ_S0, cI_s, cJ_s, cV_s, nR_s, nQ_s, nQ_n, lt_s_, gd_T, gd_t, Option.map_some, lits, neg_mI, nI_add, pk_mul, nI_clamp, nI_eq, nI_leI, nI_ltI, nm_eq, mn_eq, nm_lt, mn_lt, nm_le, mn_le, m_eq, bI_0, bI_1, if_neg, if_pos, k0, r1, k15, a1, pk_rem, e_150_57, bt__])
        try simp only at L2
        have f0 : bI (fl F (dS F ρ d g) 0) = nI 0 := rfl
        have d0 : dk (dS F ρ d g) 0 = dS F ρ d g := rfl
        rw [f0, d0] at L2
        have hmk := msk_lt (fun g => !fl F (dS F ρ d g) (ρ g + 1)) g
        have g4 : g < 4 := by omega
        simp (disch := first | assumption | omega) [k_St, n_St, i_St, j_St, r_St, wI_St, wJ_St, k_S0, n_S0, i_S0, j_S0, r_S0, wI_S0, wJ_S0, cI_s, cJ_s, cV_s, nR_s, nQ_s, nQ_n, lt_s_, gd_T, gd_t, Option.map_some, lits, neg_mI, nI_add, pk_mul, nI_clamp, nI_eq, nI_leI, nI_ltI, nm_eq, mn_eq, nm_lt, mn_lt, nm_le, mn_le, m_eq, bI_0, bI_1, if_neg, k0, rp, kp, q8, L2]
        rw [e_150_33, msk, dS]
        cases hfl : fl F (dS F ρ d g) (ρ g + 1)
        · simp (disch := first | assumption | omega) [k_St, n_St, i_St, j_St, r_St, wI_St, wJ_St, k_S0, n_S0, i_S0, j_S0, r_S0, wI_S0, wJ_S0, cI_s, cJ_s, cV_s, nR_s, nQ_s, nQ_n, lt_s_, gd_T, gd_t, Option.map_some, lits, neg_mI, nI_add, pk_mul, nI_clamp, nI_eq, nI_leI, nI_ltI, nm_eq, mn_eq, nm_lt, mn_lt, nm_le, mn_le, m_eq, bI_0, bI_1, if_pos, k0, r1, k15, a1, e_150_72, bt_o g4 hmk]
        · simp (disch := first | assumption | omega) [k_St, n_St, i_St, j_St, r_St, wI_St, wJ_St, k_S0, n_S0, i_S0, j_S0, r_S0, wI_S0, wJ_S0, cI_s, cJ_s, cV_s, nR_s, nQ_s, nQ_n, lt_s_, gd_T, gd_t, Option.map_some, lits, neg_mI, nI_add, pk_mul, nI_clamp, nI_eq, nI_leI, nI_ltI, nm_eq, mn_eq, nm_lt, mn_lt, nm_le, mn_le, m_eq, bI_0, bI_1, if_pos, k0, r1, k15, a1, e_150_72, oo _ (msk_16 (fun g => !fl F (dS F ρ d g) (ρ g + 1)) (show g ≤ 4 by omega))])
      try simp only at L
      have m0 : msk (fun g => !fl F (dS F ρ d g) (ρ g + 1)) 0 = 0 := rfl
      have s0 : dS F ρ d 0 = d := rfl
      rw [m0, s0] at L
      simp (disch := first | assumption | omega) [k_St, n_St, i_St, j_St, r_St, wI_St, wJ_St, k_S0, n_S0, i_S0, j_S0, r_S0, wI_S0, wJ_S0, cI_s, cJ_s, cV_s, nR_s, nQ_s, nQ_n, lt_s_, gd_T, gd_t, Option.map_some, lits, neg_mI, nI_add, pk_mul, nI_clamp, nI_eq, nI_leI, nI_ltI, nm_eq, mn_eq, nm_lt, mn_lt, nm_le, mn_le, m_eq, bI_0, bI_1, if_neg, k0, h10, e_150_12, c161, L]
      rw [e_150_23]
      simp (disch := first | assumption | omega) [k_St, n_St, i_St, j_St, r_St, wI_St, wJ_St, k_S0, n_S0, i_S0, j_S0, r_S0, wI_S0, wJ_S0, cI_s, cJ_s, cV_s, nR_s, nQ_s, nQ_n, lt_s_, gd_T, gd_t, Option.map_some, lits, neg_mI, nI_add, pk_mul, nI_clamp, nI_eq, nI_leI, nI_ltI, nm_eq, mn_eq, nm_lt, mn_lt, nm_le, mn_le, m_eq, bI_0, bI_1, if_pos, k0, rp, kp, q8]
    · rw [f_302]
      have hM0 := MV_0 hM
      have e87 := d_187 (lx := lx) (nI d) (m := 65536) (by omega)
      rw [rg_t hd (by omega)] at e87
      have hv := hM0.2.1
      have q3' := hM0.1.2.2.2.1.1 3 (by decide)
      have q8' := hM0.1.2.2.2.1.1 8 (by decide)
      obtain ⟨⟨km, _, r16, r17, _, _, _, _, _, _, _, _, _, _, _, k134, k135, _, _, _, _, _, _, _, _, _, _, _, n134, n135, _⟩, ⟨f0, kf, _⟩, rf, _, _⟩ := hM.1
      have l6 : (65536 : Int32) = nI 65536 := rfl
      have l75 : (75 : Int64) = lN 75 := rfl
      have l74 : (74 : Int64) = lN 74 := rfl
      have l65 : (65537 : Int64) = lN 65537 := rfl
      have L := loopN (X := fun g => Am lx 302 26 [some (.ref (z + 132)), none, some (.int (nI (dS F ρ d g))), some (.int (nI (msk (fun g => !fl F (dS F ρ d g) (ρ g + 1)) g))), some (.int (nI g)), none, none] [] (0, 0) (St z E n K N R (u2 I2 132 0 (nI 0)) J2)) (n := F 0 8) (by
        intro g hg
        try simp only
        rw [e_302_26]
        have hr := rho g hg
        have hD := dS_lt (F := F) (ρ := ρ) hd g
        have vg := hv g (by omega)
        have L2 := loopN (X := fun i => Am lx 302 36 [some (.ref (z + 132)), none, some (.int (nI (dk (dS F ρ d g) i))), some (.int (nI (msk (fun g => !fl F (dS F ρ d g) (ρ g + 1)) g))), some (.int (nI g)), some (.int (bI (!fl F (dS F ρ d g) i))), some (.int (nI i))] [] (0, 0) (St z E n K N R (u2 I2 132 0 (nI 0)) J2)) (n := ρ g + 1) (by
          intro i hi
          try simp only
          rw [e_302_36, fl_s]
          have hk := dk_lt hD i
          have e1 : dk (dS F ρ d g) (i + 1) = (75 * dk (dS F ρ d g) i + 74) % 65537 := rfl
          have hm : (75 * dk (dS F ρ d g) i + 74) % 65537 < 65537 := Nat.mod_lt _ (by omega)
          have st : (((75 * (nI (dk (dS F ρ d g) i)).toInt64) + 74) - ((75 * (nI (dk (dS F ρ d g) i)).toInt64) + 74) / 65537 * 65537).toInt32 = nI (dk (dS F ρ d g) (i + 1)) := by
            rw [nI_l (by omega), l75, l74, l65, lN_mul, lN_add, pk_lRem (by omega) (by omega) (by omega), lN_i, e1]
          rw [st]
          rw [← e1] at hm
          by_cases c : dk (dS F ρ d g) (i + 1) % 100 < F 0 3
          · simp (disch := first | assumption | omega) [k_St, n_St, i_St, j_St, r_St, wI_St, wJ_St, k_S0, n_S0, i_S0, j_S0, r_S0, wI_S0, wJ_S0, cI_s, cJ_s, cV_s, nR_s, nQ_s, nQ_n, lt_s_, gd_T, gd_t, Option.map_some, lits, neg_mI, nI_add, pk_mul, nI_clamp, nI_eq, nI_leI, nI_ltI, nm_eq, mn_eq, nm_lt, mn_lt, nm_le, mn_le, m_eq, bI_0, bI_1, if_neg, if_pos, km, r16, k134, n134, vg, pk_rem, rf, kf, q3', c, bf_]
          · simp (disch := first | assumption | omega) [k_St, n_St, i_St, j_St, r_St, wI_St, wJ_St, k_S0, n_S0, i_S0, j_S0, r_S0, wI_S0, wJ_S0, cI_s, cJ_s, cV_s, nR_s, nQ_s, nQ_n, lt_s_, gd_T, gd_t, Option.map_some, lits, neg_mI, nI_add, pk_mul, nI_clamp, nI_eq, nI_leI, nI_ltI, nm_eq, mn_eq, nm_lt, mn_lt, nm_le, mn_le, m_eq, bI_0, bI_1, if_neg, if_pos, km, r16, k134, n134, vg, pk_rem, rf, kf, q3', c])
        try simp only at L2
        have f0 : bI (!fl F (dS F ρ d g) 0) = nI 1 := rfl
        have d0 : dk (dS F ρ d g) 0 = dS F ρ d g := rfl
        rw [f0, d0] at L2
        have hmk := msk_lt (fun g => !fl F (dS F ρ d g) (ρ g + 1)) g
        have g4 : g < 4 := by omega
        simp (disch := first | assumption | omega) [k_St, n_St, i_St, j_St, r_St, wI_St, wJ_St, k_S0, n_S0, i_S0, j_S0, r_S0, wI_S0, wJ_S0, cI_s, cJ_s, cV_s, nR_s, nQ_s, nQ_n, lt_s_, gd_T, gd_t, Option.map_some, lits, neg_mI, nI_add, pk_mul, nI_clamp, nI_eq, nI_leI, nI_ltI, nm_eq, mn_eq, nm_lt, mn_lt, nm_le, mn_le, m_eq, bI_0, bI_1, if_neg, km, rf, kf, q8', L2]
        rw [e_302_36, msk, dS]
        cases hfl : fl F (dS F ρ d g) (ρ g + 1)
        · simp (disch := first | assumption | omega) [k_St, n_St, i_St, j_St, r_St, wI_St, wJ_St, k_S0, n_S0, i_S0, j_S0, r_S0, wI_S0, wJ_S0, cI_s, cJ_s, cV_s, nR_s, nQ_s, nQ_n, lt_s_, gd_T, gd_t, Option.map_some, lits, neg_mI, nI_add, pk_mul, nI_clamp, nI_eq, nI_leI, nI_ltI, nm_eq, mn_eq, nm_lt, mn_lt, nm_le, mn_le, m_eq, bI_0, bI_1, if_pos, km, r16, k134, n134, vg, e_302_72, bt_o g4 hmk]
        · simp (disch := first | assumption | omega) [k_St, n_St, i_St, j_St, r_St, wI_St, wJ_St, k_S0, n_S0, i_S0, j_S0, r_S0, wI_S0, wJ_S0, cI_s, cJ_s, cV_s, nR_s, nQ_s, nQ_n, lt_s_, gd_T, gd_t, Option.map_some, lits, neg_mI, nI_add, pk_mul, nI_clamp, nI_eq, nI_leI, nI_ltI, nm_eq, mn_eq, nm_lt, mn_lt, nm_le, mn_le, m_eq, bI_0, bI_1, if_pos, km, r16, k134, n134, vg, e_302_72, oo _ (msk_16 (fun g => !fl F (dS F ρ d g) (ρ g + 1)) (show g ≤ 4 by omega))])
      try simp only at L
      have m0 : msk (fun g => !fl F (dS F ρ d g) (ρ g + 1)) 0 = 0 := rfl
      have s0 : dS F ρ d 0 = d := rfl
      rw [m0, s0] at L
      simp (disch := first | assumption | omega) [k_St, n_St, i_St, j_St, r_St, wI_St, wJ_St, k_S0, n_S0, i_S0, j_S0, r_S0, wI_S0, wJ_S0, cI_s, cJ_s, cV_s, nR_s, nQ_s, nQ_n, lt_s_, gd_T, gd_t, Option.map_some, lits, neg_mI, nI_add, pk_mul, nI_clamp, nI_eq, nI_leI, nI_ltI, nm_eq, mn_eq, nm_lt, mn_lt, nm_le, mn_le, m_eq, bI_0, bI_1, km, rf, l6, e87, L]
      rw [e_302_26]
      simp (disch := first | assumption | omega) [k_St, n_St, i_St, j_St, r_St, wI_St, wJ_St, k_S0, n_S0, i_S0, j_S0, r_S0, wI_S0, wJ_S0, cI_s, cJ_s, cV_s, nR_s, nQ_s, nQ_n, lt_s_, gd_T, gd_t, Option.map_some, lits, neg_mI, nI_add, pk_mul, nI_clamp, nI_eq, nI_leI, nI_ltI, nm_eq, mn_eq, nm_lt, mn_lt, nm_le, mn_le, m_eq, bI_0, bI_1, if_pos, km, rf, kf, q8', s_185]
end OP9
