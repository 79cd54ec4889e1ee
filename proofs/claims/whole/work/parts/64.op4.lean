section OP4
variable {z : Nat} {E : aEt} {n : Nat} {K N : Nat → Nat} {R : Nat → Nat → Option Nat} {I : Nat → Nat → Int32} {J : Nat → Nat → Int64} {lx : List Value → aH → aO} {p s f : Nat} {F : Nat → Nat → Nat} {ρ : Nat → Nat}
theorem o_123 (h : CW K N R I J p s F ρ) (x : Int32) : OQ lx z E n K N R I J f F ρ 123 249 [.int x] := by
  have hU : ∀ v, CW K N R (u2 I 0 11 v) J p s F ρ := fun v => CW_u h
  have e62 := c_162 (lx := lx) (z := z) (E := E) (n := n) h x
  obtain ⟨hL, _, _, hF, hO, hR, hρ, _, h16⟩ := h
  obtain ⟨k0, _, r1, r2, _, _, _, _, _, rp, _⟩ := hL
  have o8 : F 0 8 ≤ 4 := hO.2.2.2.2.2.2.2.2.2.2.2.2.1
  rcases rg_i x (n := F 0 8) (by omega) with c | ⟨g, hg, eg⟩
  · rw [c] at e62
    refine ⟨1, mI 1, by decide, by decide, ⟨_, _, ?_, CQ_u⟩, fun I2 J2 hM => ⟨_, ?_, MQ_1⟩⟩
    · rw [f_123]
      simp [k_St, n_St, i_St, j_St, r_St, wI_St, wJ_St, k_S0, n_S0, i_S0, j_S0, r_S0, wI_S0, wJ_S0, cI_s, cJ_s, cV_s, nR_s, nQ_s, nQ_n, lt_s_, gd_T, gd_t, Option.map_some, lits, neg_mI, nI_add, pk_mul, nI_clamp, nI_eq, nI_leI, nI_ltI, nm_eq, mn_eq, nm_lt, mn_lt, nm_le, mn_le, m_eq, bI_0, bI_1, k0, e62, c_160]
    · rw [f_249]
      have e := d_227 (lx := lx) (z := z) (E := E) (n := n) (J := J2) (MV_0 hM).1 x
      rw [c] at e
      have km := hM.1.1.1
      simp [k_St, n_St, i_St, j_St, r_St, wI_St, wJ_St, k_S0, n_S0, i_S0, j_S0, r_S0, wI_S0, wJ_S0, cI_s, cJ_s, cV_s, nR_s, nQ_s, nQ_n, lt_s_, gd_T, gd_t, Option.map_some, lits, neg_mI, nI_add, pk_mul, nI_clamp, nI_eq, nI_leI, nI_ltI, nm_eq, mn_eq, nm_lt, mn_lt, nm_le, mn_le, m_eq, bI_0, bI_1, km, e, d_182]
  · subst eg
    rw [rg_t hg (by omega)] at e62
    obtain ⟨I1, J1, e1, w1, f1⟩ := c_170 (lx := lx) (z := z) (E := E) (n := n) (hU (nI 0)) (what := 0) (g := g) (o := g) (by omega) (fun _ => hg) (fun e => by omega)
    obtain ⟨m, hm, m1, m2⟩ := ends_60 hO hρ hg
    have ef1 : fnd (fun i => soP 0 g g F (ngs F ρ i)) 61 = m := fnd_m (by simp [soP, m1]) (fun i hi => by simp [soP, m2 i hi]) hm
    rw [ef1, ef_m (by omega)] at e1
    refine ⟨0, nI m, by decide, by decide, ⟨I1, J1, ?_, CQ_f f1⟩, fun I2 J2 hM => ⟨_, ?_, MQ_p (ρ := ngs F ρ m)⟩⟩
    · rw [f_123]
      simp [k_St, n_St, i_St, j_St, r_St, wI_St, wJ_St, k_S0, n_S0, i_S0, j_S0, r_S0, wI_S0, wJ_S0, cI_s, cJ_s, cV_s, nR_s, nQ_s, nQ_n, lt_s_, gd_T, gd_t, Option.map_some, lits, neg_mI, nI_add, pk_mul, nI_clamp, nI_eq, nI_leI, nI_ltI, nm_eq, mn_eq, nm_lt, mn_lt, nm_le, mn_le, m_eq, bI_0, bI_1, k0, e62, c_160, e1]
    · rw [f_249]
      have hM0 := MV_0 hM
      have e := d_227 (lx := lx) (z := z) (E := E) (n := n) (J := J2) hM0.1 (nI g)
      rw [rg_t hg (by omega)] at e
      have km := hM.1.1.1
      have e231 := s_231 (lx := lx) (z := z) (E := E) (n := n) (J := J2) hM0.1 hM0.2.1
      have L := loopN (X := fun i => Am lx 249 16 [some (.ref (z + 132)), some (.int (nI g)), some (.int (nI i))] [] (0, 0) (St z E n K N R (pr (u2 I2 132 0 (nI 0)) 135 145 (ngs F ρ i)) J2)) (n := m) (by
        intro i hi
        try simp only
        rw [e_249_16]
        have a1 := s_234 (lx := lx) (z := z) (E := E) (n := n) (J := J2) hM0.1 (ROk_a (ngs_ok hO hρ i)) hg
        have a2 := s_237 (lx := lx) (z := z) (E := E) (n := n) (J := J2) hM0.1 (ngs_ok hO hρ i) (by rw [ngs_16 hO]; omega)
        rw [m2 i hi] at a1
        simp [k_St, n_St, i_St, j_St, r_St, wI_St, wJ_St, k_S0, n_S0, i_S0, j_S0, r_S0, wI_S0, wJ_S0, cI_s, cJ_s, cV_s, nR_s, nQ_s, nQ_n, lt_s_, gd_T, gd_t, Option.map_some, lits, neg_mI, nI_add, pk_mul, nI_clamp, nI_eq, nI_leI, nI_ltI, nm_eq, mn_eq, nm_lt, mn_lt, nm_le, mn_le, m_eq, bI_0, bI_1, km, a1, a2, ngs])
      try simp only at L
      have g0 : ngs F ρ 0 = ρ := rfl
      rw [g0] at L
      have a1 := s_234 (lx := lx) (z := z) (E := E) (n := n) (J := J2) hM0.1 (ROk_a (ngs_ok hO hρ m)) hg
      rw [m1] at a1
      simp [k_St, n_St, i_St, j_St, r_St, wI_St, wJ_St, k_S0, n_S0, i_S0, j_S0, r_S0, wI_S0, wJ_S0, cI_s, cJ_s, cV_s, nR_s, nQ_s, nQ_n, lt_s_, gd_T, gd_t, Option.map_some, lits, neg_mI, nI_add, pk_mul, nI_clamp, nI_eq, nI_leI, nI_ltI, nm_eq, mn_eq, nm_lt, mn_lt, nm_le, mn_le, m_eq, bI_0, bI_1, km, e, e231, L]
      rw [e_249_16]
      simp [k_St, n_St, i_St, j_St, r_St, wI_St, wJ_St, k_S0, n_S0, i_S0, j_S0, r_S0, wI_S0, wJ_S0, cI_s, cJ_s, cV_s, nR_s, nQ_s, nQ_n, lt_s_, gd_T, gd_t, Option.map_some, lits, neg_mI, nI_add, pk_mul, nI_clamp, nI_eq, nI_leI, nI_ltI, nm_eq, mn_eq, nm_lt, mn_lt, nm_le, mn_le, m_eq, bI_0, bI_1, km, a1, s_185]
theorem o_124 (h : CW K N R I J p s F ρ) (x y : Int32) : OQ lx z E n K N R I J f F ρ 124 251 [.int x, .int y] := by
  have hU : ∀ v, CW K N R (u2 I 0 11 v) J p s F ρ := fun v => CW_u h
  have e62 := c_162 (lx := lx) (z := z) (E := E) (n := n) h x
  have e62' := c_162 (lx := lx) (z := z) (E := E) (n := n) h y
  obtain ⟨hL, ⟨hW15, hW19, hP, hPs, hps, _⟩, _, hF, hO, hR, hρ, _, h16⟩ := h
  obtain ⟨k0, _, r1, r2, _, _, _, _, _, rp, _⟩ := hL
  have kp := hP.1
  have o8 : F 0 8 ≤ 4 := hO.2.2.2.2.2.2.2.2.2.2.2.2.1
  have oG := hO.2.2.2.2.2.2.2.2.2.2.2.2.2.2.2.2.1
  rcases rg_i x (n := F 0 8) (by omega) with c | ⟨g, hg, eg⟩
  · rw [c] at e62
    refine ⟨1, mI 1, by decide, by decide, ⟨_, _, ?_, CQ_u⟩, fun I2 J2 hM => ⟨_, ?_, MQ_1⟩⟩
    · rw [f_124]
      simp [k_St, n_St, i_St, j_St, r_St, wI_St, wJ_St, k_S0, n_S0, i_S0, j_S0, r_S0, wI_S0, wJ_S0, cI_s, cJ_s, cV_s, nR_s, nQ_s, nQ_n, lt_s_, gd_T, gd_t, Option.map_some, lits, neg_mI, nI_add, pk_mul, nI_clamp, nI_eq, nI_leI, nI_ltI, nm_eq, mn_eq, nm_lt, mn_lt, nm_le, mn_le, m_eq, bI_0, bI_1, k0, e62, e_124_24, c_160f]
    · rw [f_251]
      have e := d_227 (lx := lx) (z := z) (E := E) (n := n) (J := J2) (MV_0 hM).1 x
      rw [c] at e
      have km := hM.1.1.1
      simp [k_St, n_St, i_St, j_St, r_St, wI_St, wJ_St, k_S0, n_S0, i_S0, j_S0, r_S0, wI_S0, wJ_S0, cI_s, cJ_s, cV_s, nR_s, nQ_s, nQ_n, lt_s_, gd_T, gd_t, Option.map_some, lits, neg_mI, nI_add, pk_mul, nI_clamp, nI_eq, nI_leI, nI_ltI, nm_eq, mn_eq, nm_lt, mn_lt, nm_le, mn_le, m_eq, bI_0, bI_1, km, e, e_251_23, d_182]
  · subst eg
    rw [rg_t hg (by omega)] at e62
    rcases rg_i y (n := F 0 8) (by omega) with c | ⟨o, ho, eo⟩
    · rw [c] at e62'
      refine ⟨1, mI 1, by decide, by decide, ⟨_, _, ?_, CQ_u⟩, fun I2 J2 hM => ⟨_, ?_, MQ_1⟩⟩
      · rw [f_124]
        simp [k_St, n_St, i_St, j_St, r_St, wI_St, wJ_St, k_S0, n_S0, i_S0, j_S0, r_S0, wI_S0, wJ_S0, cI_s, cJ_s, cV_s, nR_s, nQ_s, nQ_n, lt_s_, gd_T, gd_t, Option.map_some, lits, neg_mI, nI_add, pk_mul, nI_clamp, nI_eq, nI_leI, nI_ltI, nm_eq, mn_eq, nm_lt, mn_lt, nm_le, mn_le, m_eq, bI_0, bI_1, k0, e62, e62', e_124_24, c_160f]
      · rw [f_251]
        have e := d_227 (lx := lx) (z := z) (E := E) (n := n) (J := J2) (MV_0 hM).1 (nI g)
        rw [rg_t hg (by omega)] at e
        have e' := d_227 (lx := lx) (z := z) (E := E) (n := n) (J := J2) (MV_0 hM).1 y
        rw [c] at e'
        have km := hM.1.1.1
        simp [k_St, n_St, i_St, j_St, r_St, wI_St, wJ_St, k_S0, n_S0, i_S0, j_S0, r_S0, wI_S0, wJ_S0, cI_s, cJ_s, cV_s, nR_s, nQ_s, nQ_n, lt_s_, gd_T, gd_t, Option.map_some, lits, neg_mI, nI_add, pk_mul, nI_clamp, nI_eq, nI_leI, nI_ltI, nm_eq, mn_eq, nm_lt, mn_lt, nm_le, mn_le, m_eq, bI_0, bI_1, km, e, e', e_251_23, d_182]
    · subst eo
      rw [rg_t ho (by omega)] at e62'
      obtain ⟨_, _, _, pr3, _, _, _, _, _, _, _, pk3, _, _, _, _, _, _, _, pn3, _⟩ := id hP
      have p3 := hF.2.2.2.1 g hg
      have p3' := hF.2.2.2.1 o ho
      have b1 := (oG g hg).1
      have b2 := (oG o ho).1
      by_cases c : F 3 g = F 3 o
      · refine ⟨1, mI 1, by decide, by decide, ⟨_, _, ?_, CQ_u⟩, fun I2 J2 hM => ⟨_, ?_, MQ_1⟩⟩
        · rw [f_124]
          simp (disch := first | assumption | omega) [k_St, n_St, i_St, j_St, r_St, wI_St, wJ_St, k_S0, n_S0, i_S0, j_S0, r_S0, wI_S0, wJ_S0, cI_s, cJ_s, cV_s, nR_s, nQ_s, nQ_n, lt_s_, gd_T, gd_t, Option.map_some, lits, neg_mI, nI_add, pk_mul, nI_clamp, nI_eq, nI_leI, nI_ltI, nm_eq, mn_eq, nm_lt, mn_lt, nm_le, mn_le, m_eq, bI_0, bI_1, k0, e62, e62', e_124_24, c_160f, rp, kp, pr3, pk3, pn3, p3, p3', c]
        · rw [f_251]
          have e := d_227 (lx := lx) (z := z) (E := E) (n := n) (J := J2) (MV_0 hM).1 (nI g)
          rw [rg_t hg (by omega)] at e
          have e' := d_227 (lx := lx) (z := z) (E := E) (n := n) (J := J2) (MV_0 hM).1 (nI o)
          rw [rg_t ho (by omega)] at e'
          obtain ⟨⟨km, _⟩, ⟨f0, kf, _, _, r14, _, _, _, _, _, _, _, _, _, _, k3, _, _, _, _, _, _, _, _, _, _, n3, _⟩, rf, ⟨_, _, _, q3, _⟩, _⟩ := hM.1
          have x3 : u2 I2 132 0 (nI 0) (f + 3) = I2 (f + 3) := u2_a _ _ _ _ _ (by omega)
          simp (disch := first | assumption | omega) [k_St, n_St, i_St, j_St, r_St, wI_St, wJ_St, k_S0, n_S0, i_S0, j_S0, r_S0, wI_S0, wJ_S0, cI_s, cJ_s, cV_s, nR_s, nQ_s, nQ_n, lt_s_, gd_T, gd_t, Option.map_some, lits, neg_mI, nI_add, pk_mul, nI_clamp, nI_eq, nI_leI, nI_ltI, nm_eq, mn_eq, nm_lt, mn_lt, nm_le, mn_le, m_eq, bI_0, bI_1, km, e, e', e_251_23, d_182, rf, kf, r14, k3, n3, x3, q3 g hg, q3 o ho, c]
      · obtain ⟨I1, J1, e1, w1, f1⟩ := c_170 (lx := lx) (z := z) (E := E) (n := n) (hU (nI 0)) (what := 1) (g := g) (o := o) (by omega) (fun _ => hg) (fun _ => ho)
        refine ⟨0, ef (fnd (fun i => soP 1 g o F (ngs F ρ i)) 61), by decide, by decide, ⟨I1, J1, ?_, CQ_f f1⟩, fun I2 J2 hM => ⟨_, ?_, MQ_p (ρ := ngs F ρ (fnd (fun i => soP 1 g o F (ngs F ρ i)) 61))⟩⟩
        · rw [f_124]
          simp (disch := first | assumption | omega) [k_St, n_St, i_St, j_St, r_St, wI_St, wJ_St, k_S0, n_S0, i_S0, j_S0, r_S0, wI_S0, wJ_S0, cI_s, cJ_s, cV_s, nR_s, nQ_s, nQ_n, lt_s_, gd_T, gd_t, Option.map_some, lits, neg_mI, nI_add, pk_mul, nI_clamp, nI_eq, nI_leI, nI_ltI, nm_eq, mn_eq, nm_lt, mn_lt, nm_le, mn_le, m_eq, bI_0, bI_1, k0, e62, e62', e_124_24, c_160t, rp, kp, pr3, pk3, pn3, p3, p3', c, e1]
        · rw [f_251]
          have hM0 := MV_0 hM
          have e := d_227 (lx := lx) (z := z) (E := E) (n := n) (J := J2) hM0.1 (nI g)
          rw [rg_t hg (by omega)] at e
          have e' := d_227 (lx := lx) (z := z) (E := E) (n := n) (J := J2) hM0.1 (nI o)
          rw [rg_t ho (by omega)] at e'
          have e231 := s_231 (lx := lx) (z := z) (E := E) (n := n) (J := J2) hM0.1 hM0.2.1
          obtain ⟨⟨km, _⟩, ⟨f0, kf, _, _, r14, _, _, _, _, _, _, _, _, _, _, k3, _, _, _, _, _, _, _, _, _, _, n3, _⟩, rf, ⟨_, _, _, q3, _⟩, _⟩ := hM.1
          have x3 : u2 I2 132 0 (nI 0) (f + 3) = I2 (f + 3) := u2_a _ _ _ _ _ (by omega)
          have bs : ∀ i, bkP F (ngs F ρ i) g o = soP 1 g o F (ngs F ρ i) := fun i => by simp [bkP, soP, c]
          have st : ∀ i, i ≤ 60 → soP 1 g o F (ngs F ρ i) = false → Am lx 251 32 [some (.ref (z + 132)), some (.int (nI g)), some (.int (nI o)), some (.int (nI i))] [] (0, 0) (St z E n K N R (pr (u2 I2 132 0 (nI 0)) 135 145 (ngs F ρ i)) J2) = Am lx 251 32 [some (.ref (z + 132)), some (.int (nI g)), some (.int (nI o)), some (.int (nI (i + 1)))] [] (0, 0) (St z E n K N R (pr (u2 I2 132 0 (nI 0)) 135 145 (ngs F ρ (i + 1))) J2) := by
            intro i hi hq
            rw [e_251_32]
            have a1 := s_250 (lx := lx) (z := z) (E := E) (n := n) (J := J2) hM0.1 (ROk_a (ngs_ok hO hρ i)) hg ho
            rw [bs, hq] at a1
            have a2 := s_237 (lx := lx) (z := z) (E := E) (n := n) (J := J2) hM0.1 (ngs_ok hO hρ i) (by rw [ngs_16 hO]; omega)
            simp (disch := first | assumption | omega) [k_St, n_St, i_St, j_St, r_St, wI_St, wJ_St, k_S0, n_S0, i_S0, j_S0, r_S0, wI_S0, wJ_S0, cI_s, cJ_s, cV_s, nR_s, nQ_s, nQ_n, lt_s_, gd_T, gd_t, Option.map_some, lits, neg_mI, nI_add, pk_mul, nI_clamp, nI_eq, nI_leI, nI_ltI, nm_eq, mn_eq, nm_lt, mn_lt, nm_le, mn_le, m_eq, bI_0, bI_1, if_neg, km, a1, a2, ngs]
          have g0 : ngs F ρ 0 = ρ := rfl
          rcases first_ (fun i => soP 1 g o F (ngs F ρ i)) 61 with hf | ⟨m, hm, h1, h2⟩
          · have L := loopN (X := fun i => Am lx 251 32 [some (.ref (z + 132)), some (.int (nI g)), some (.int (nI o)), some (.int (nI i))] [] (0, 0) (St z E n K N R (pr (u2 I2 132 0 (nI 0)) 135 145 (ngs F ρ i)) J2)) (n := 61) (fun i hi => st i (by omega) (hf i hi))
            try simp only at L
            rw [g0] at L
            rw [fnd_n hf]
            simp (disch := first | assumption | omega) [k_St, n_St, i_St, j_St, r_St, wI_St, wJ_St, k_S0, n_S0, i_S0, j_S0, r_S0, wI_S0, wJ_S0, cI_s, cJ_s, cV_s, nR_s, nQ_s, nQ_n, lt_s_, gd_T, gd_t, Option.map_some, lits, neg_mI, nI_add, pk_mul, nI_clamp, nI_eq, nI_leI, nI_ltI, nm_eq, mn_eq, nm_lt, mn_lt, nm_le, mn_le, m_eq, bI_0, bI_1, km, e, e', rf, kf, r14, k3, n3, x3, q3 g hg, q3 o ho, c, e231, L]
            rw [e_251_32]
            simp (disch := first | assumption | omega) [k_St, n_St, i_St, j_St, r_St, wI_St, wJ_St, k_S0, n_S0, i_S0, j_S0, r_S0, wI_S0, wJ_S0, cI_s, cJ_s, cV_s, nR_s, nQ_s, nQ_n, lt_s_, gd_T, gd_t, Option.map_some, lits, neg_mI, nI_add, pk_mul, nI_clamp, nI_eq, nI_leI, nI_ltI, nm_eq, mn_eq, nm_lt, mn_lt, nm_le, mn_le, m_eq, bI_0, bI_1, if_pos, km, s_185]
            rfl
          · have L := loopN (X := fun i => Am lx 251 32 [some (.ref (z + 132)), some (.int (nI g)), some (.int (nI o)), some (.int (nI i))] [] (0, 0) (St z E n K N R (pr (u2 I2 132 0 (nI 0)) 135 145 (ngs F ρ i)) J2)) (n := m) (fun i hi => st i (by omega) (h2 i hi))
            try simp only at L
            rw [g0] at L
            rw [fnd_m h1 h2 hm, ef_m (by omega)]
            have a1 := s_250 (lx := lx) (z := z) (E := E) (n := n) (J := J2) hM0.1 (ROk_a (ngs_ok hO hρ m)) hg ho
            try simp only at h1
            rw [bs, h1] at a1
            simp (disch := first | assumption | omega) [k_St, n_St, i_St, j_St, r_St, wI_St, wJ_St, k_S0, n_S0, i_S0, j_S0, r_S0, wI_S0, wJ_S0, cI_s, cJ_s, cV_s, nR_s, nQ_s, nQ_n, lt_s_, gd_T, gd_t, Option.map_some, lits, neg_mI, nI_add, pk_mul, nI_clamp, nI_eq, nI_leI, nI_ltI, nm_eq, mn_eq, nm_lt, mn_lt, nm_le, mn_le, m_eq, bI_0, bI_1, km, e, e', rf, kf, r14, k3, n3, x3, q3 g hg, q3 o ho, c, e231, L]
            rw [e_251_32]
            simp (disch := first | assumption | omega) [k_St, n_St, i_St, j_St, r_St, wI_St, wJ_St, k_S0, n_S0, i_S0, j_S0, r_S0, wI_S0, wJ_S0, cI_s, cJ_s, cV_s, nR_s, nQ_s, nQ_n, lt_s_, gd_T, gd_t, Option.map_some, lits, neg_mI, nI_add, pk_mul, nI_clamp, nI_eq, nI_leI, nI_ltI, nm_eq, mn_eq, nm_lt, mn_lt, nm_le, mn_le, m_eq, bI_0, bI_1, if_neg, km, a1, s_185]
theorem o_125 (h : CW K N R I J p s F ρ) : OQ lx z E n K N R I J f F ρ 125 254 [] := by
  have hU : ∀ v, CW K N R (u2 I 0 11 v) J p s F ρ := fun v => CW_u h
  obtain ⟨hL, _, h10, hF, hO, hR, hρ, _, h16⟩ := h
  obtain ⟨k0, _, r1, r2, _, _, _, _, _, rp, _⟩ := hL
  obtain ⟨I1, J1, e1, w1, f1⟩ := c_170 (lx := lx) (z := z) (E := E) (n := n) (hU (nI 0)) (what := 2) (g := 0) (o := 0) (by omega) (fun e => by omega) (fun e => by omega)
  have ep : (fun i => soP 2 0 0 F (ngs F ρ i)) = fun i => bkA F (ngs F ρ i) := by funext i; simp [soP]
  rw [ep] at e1
  refine ⟨0, ef (fnd (fun i => bkA F (ngs F ρ i)) 61), by decide, by decide, ⟨I1, J1, ?_, CQ_f f1⟩, fun I2 J2 hM => ⟨_, ?_, MQ_p (ρ := ngs F ρ (fnd (fun i => bkA F (ngs F ρ i)) 61))⟩⟩
  · rw [f_125]
    simp [k_St, n_St, i_St, j_St, r_St, wI_St, wJ_St, k_S0, n_S0, i_S0, j_S0, r_S0, wI_S0, wJ_S0, cI_s, cJ_s, cV_s, nR_s, nQ_s, nQ_n, lt_s_, gd_T, gd_t, Option.map_some, lits, neg_mI, nI_add, pk_mul, nI_clamp, nI_eq, nI_leI, nI_ltI, nm_eq, mn_eq, nm_lt, mn_lt, nm_le, mn_le, m_eq, bI_0, bI_1, k0, h10, c_160t, e1]
  · rw [f_254]
    have hM0 := MV_0 hM
    have e := s_253 (lx := lx) (z := z) (E := E) (n := n) (J := J2) hM0.1 hρ h16 hM0.2.1
    have km := hM.1.1.1
    have rf := hM.1.2.2.1
    simp [k_St, n_St, i_St, j_St, r_St, wI_St, wJ_St, k_S0, n_S0, i_S0, j_S0, r_S0, wI_S0, wJ_S0, cI_s, cJ_s, cV_s, nR_s, nQ_s, nQ_n, lt_s_, gd_T, gd_t, Option.map_some, lits, neg_mI, nI_add, pk_mul, nI_clamp, nI_eq, nI_leI, nI_ltI, nm_eq, mn_eq, nm_lt, mn_lt, nm_le, mn_le, m_eq, bI_0, bI_1, km, rf, e, s_185]
theorem o_126 (h : CW K N R I J p s F ρ) : OQ lx z E n K N R I J f F ρ 126 255 [] := by
  have hU : ∀ v, CW K N R (u2 I 0 11 v) J p s F ρ := fun v => CW_u h
  obtain ⟨hL, ⟨hW15, hW19, hP, hPs, hps, _⟩, h10, hF, hO, hR, hρ, _, h16⟩ := h
  obtain ⟨k0, _, r1, r2, _, _, _, _, _, rp, _⟩ := hL
  have o8 : F 0 8 ≤ 4 := hO.2.2.2.2.2.2.2.2.2.2.2.2.1
  have k19 := hW19.1
  obtain ⟨I1, J1, e1, w1, f1⟩ := c_170 (lx := lx) (z := z) (E := E) (n := n) (hU (nI 0)) (what := 2) (g := 0) (o := 0) (by omega) (fun e => by omega) (fun e => by omega)
  have ep : (fun i => soP 2 0 0 F (ngs F ρ i)) = fun i => bkA F (ngs F ρ i) := by funext i; simp [soP]
  rw [ep] at e1 w1
  rcases first_ (fun i => bkA F (ngs F ρ i)) 61 with hf | ⟨m, hm, h1, h2⟩
  · refine ⟨0, mI 2, by decide, by decide, ⟨I1, J1, ?_, CQ_f f1⟩, fun I2 J2 hM => ⟨_, ?_, MQ_p (ρ := ngs F ρ (fnd (fun i => bkA F (ngs F ρ i)) 61))⟩⟩
    · rw [fnd_n hf] at e1
      have e2 : ef 61 = mI 2 := rfl
      rw [e2] at e1
      rw [f_126]
      simp (disch := first | assumption | omega) [k_St, n_St, i_St, j_St, r_St, wI_St, wJ_St, k_S0, n_S0, i_S0, j_S0, r_S0, wI_S0, wJ_S0, cI_s, cJ_s, cV_s, nR_s, nQ_s, nQ_n, lt_s_, gd_T, gd_t, Option.map_some, lits, neg_mI, nI_add, pk_mul, nI_clamp, nI_eq, nI_leI, nI_ltI, nm_eq, mn_eq, nm_lt, mn_lt, nm_le, mn_le, m_eq, bI_0, bI_1, k0, h10, c_160t, e1]
    · rw [f_255]
      have hM0 := MV_0 hM
      have e := s_253 (lx := lx) (z := z) (E := E) (n := n) (J := J2) hM0.1 hρ h16 hM0.2.1
      have e2 : ef (fnd (fun i => bkA F (ngs F ρ i)) 61) = mI 2 := by rw [fnd_n hf]; rfl
      rw [e2] at e
      have km := hM.1.1.1
      have rf := hM.1.2.2.1
      simp [k_St, n_St, i_St, j_St, r_St, wI_St, wJ_St, k_S0, n_S0, i_S0, j_S0, r_S0, wI_S0, wJ_S0, cI_s, cJ_s, cV_s, nR_s, nQ_s, nQ_n, lt_s_, gd_T, gd_t, Option.map_some, lits, neg_mI, nI_add, pk_mul, nI_clamp, nI_eq, nI_leI, nI_ltI, nm_eq, mn_eq, nm_lt, mn_lt, nm_le, mn_le, m_eq, bI_0, bI_1, km, rf, e, e_255_20, s_185]
  · have hm' := fnd_m h1 h2 hm
    try simp only at h1
    obtain ⟨x, hx⟩ : ∃ x, fps F (ngs F ρ m) = some x := by
      unfold bkA at h1
      exact Option.isSome_iff_exists.mp h1
    have hl := fpS_lt _ o8 _ _ _ x hx
    rw [hm'] at e1 w1
    rw [ef_m (by omega)] at e1
    have hF1 := PI_w (hU (nI 0)).2.2.2.1 (show 19 + 3 < p by omega) f1
    have e3 := s_106 (lx := lx) (z := z) (E := E) (n := n) hP hF1 hW19 w1 hO (ROk_a (ngs_ok hO hρ m))
    rw [hx] at e3
    refine ⟨0, nI x, by decide, by decide, ⟨I1, J1, ?_, CQ_f f1⟩, fun I2 J2 hM => ⟨_, ?_, MQ_p (ρ := ngs F ρ m)⟩⟩
    · rw [f_126]
      simp (disch := first | assumption | omega) [k_St, n_St, i_St, j_St, r_St, wI_St, wJ_St, k_S0, n_S0, i_S0, j_S0, r_S0, wI_S0, wJ_S0, cI_s, cJ_s, cV_s, nR_s, nQ_s, nQ_n, lt_s_, gd_T, gd_t, Option.map_some, lits, neg_mI, nI_add, pk_mul, nI_clamp, nI_eq, nI_leI, nI_ltI, nm_eq, mn_eq, nm_lt, mn_lt, nm_le, mn_le, m_eq, bI_0, bI_1, k0, h10, c_160t, e1, r2, rp, k19, e3, ofp]
    · rw [f_255]
      have hM0 := MV_0 hM
      have e := s_253 (lx := lx) (z := z) (E := E) (n := n) (J := J2) hM0.1 hρ h16 hM0.2.1
      rw [hm', ef_m (by omega)] at e
      have e4 := s_252 (lx := lx) (z := z) (E := E) (n := n) (J := J2) hM0.1 (ROk_a (ngs_ok hO hρ m))
      rw [hx] at e4
      have km := hM.1.1.1
      have rf := hM.1.2.2.1
      simp (disch := first | assumption | omega) [k_St, n_St, i_St, j_St, r_St, wI_St, wJ_St, k_S0, n_S0, i_S0, j_S0, r_S0, wI_S0, wJ_S0, cI_s, cJ_s, cV_s, nR_s, nQ_s, nQ_n, lt_s_, gd_T, gd_t, Option.map_some, lits, neg_mI, nI_add, pk_mul, nI_clamp, nI_eq, nI_leI, nI_ltI, nm_eq, mn_eq, nm_lt, mn_lt, nm_le, mn_le, m_eq, bI_0, bI_1, km, rf, e, e4, ofp, e_255_20, s_185]
end OP4
