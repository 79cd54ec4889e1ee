section OP5
variable {z : Nat} {E : aEt} {n : Nat} {K N : Nat → Nat} {R : Nat → Nat → Option Nat} {I : Nat → Nat → Int32} {J : Nat → Nat → Int64} {lx : List Value → aH → aO} {p s f w : Nat} {F : Nat → Nat → Nat} {ρ : Nat → Nat}
theorem o_127 (h : CW K N R I J p s F ρ) (x y : Int32) : OQ lx z E n K N R I J f F ρ 127 257 [.int x, .int y] := by
  have hU : ∀ v, CW K N R (u2 I 0 11 v) J p s F ρ := fun v => CW_u h
  have e62 := c_163 (lx := lx) (z := z) (E := E) (n := n) h x
  have e66 := c_166 (lx := lx) y
  obtain ⟨hL, ⟨hW15, hW19, hP, hPs, hps, _⟩, _, hF, hO, hR, hρ, _, h16⟩ := h
  obtain ⟨k0, _, r1, r2, _, _, _, _, _, rp, _⟩ := hL
  have o8 : F 0 8 ≤ 4 := hO.2.2.2.2.2.2.2.2.2.2.2.2.1
  have o7 : F 0 7 ≤ 4 := hO.2.2.2.2.2.2.2.2.2.2.2.1
  rcases rg_i x (n := F 0 7) (by omega) with c | ⟨g, hg, eg⟩
  · rw [c] at e62
    refine ⟨1, mI 1, by decide, by decide, ⟨_, _, ?_, CQ_u⟩, fun I2 J2 hM => ⟨_, ?_, MQ_1⟩⟩
    · rw [f_127]
      simp [k_St, n_St, i_St, j_St, r_St, wI_St, wJ_St, k_S0, n_S0, i_S0, j_S0, r_S0, wI_S0, wJ_S0, cI_s, cJ_s, cV_s, nR_s, nQ_s, nQ_n, lt_s_, gd_T, gd_t, Option.map_some, lits, neg_mI, nI_add, pk_mul, nI_clamp, nI_eq, nI_leI, nI_ltI, nm_eq, mn_eq, nm_lt, mn_lt, nm_le, mn_le, m_eq, bI_0, bI_1, k0, e62, e66, c_161]
    · rw [f_257]
      have e := d_228 (lx := lx) (z := z) (E := E) (n := n) (J := J2) (MV_0 hM).1 x
      rw [c] at e
      have km := hM.1.1.1
      simp (disch := first | assumption | omega) [k_St, n_St, i_St, j_St, r_St, wI_St, wJ_St, k_S0, n_S0, i_S0, j_S0, r_S0, wI_S0, wJ_S0, cI_s, cJ_s, cV_s, nR_s, nQ_s, nQ_n, lt_s_, gd_T, gd_t, Option.map_some, lits, neg_mI, nI_add, pk_mul, nI_clamp, nI_eq, nI_leI, nI_ltI, nm_eq, mn_eq, nm_lt, mn_lt, nm_le, mn_le, m_eq, bI_0, bI_1, if_neg, km, e, d_239, d_182]
  · subst eg
    rw [rg_t hg (by omega)] at e62
    rcases rg_i y (n := 61) (by omega) with c | ⟨m, hm, em⟩
    · rw [c] at e66
      refine ⟨2, mI 1, by decide, by decide, ⟨_, _, ?_, CQ_u⟩, fun I2 J2 hM => ⟨_, ?_, MQ_1⟩⟩
      · rw [f_127]
        simp [k_St, n_St, i_St, j_St, r_St, wI_St, wJ_St, k_S0, n_S0, i_S0, j_S0, r_S0, wI_S0, wJ_S0, cI_s, cJ_s, cV_s, nR_s, nQ_s, nQ_n, lt_s_, gd_T, gd_t, Option.map_some, lits, neg_mI, nI_add, pk_mul, nI_clamp, nI_eq, nI_leI, nI_ltI, nm_eq, mn_eq, nm_lt, mn_lt, nm_le, mn_le, m_eq, bI_0, bI_1, k0, e62, e66, c_161]
      · rw [f_257]
        have e := d_228 (lx := lx) (z := z) (E := E) (n := n) (J := J2) (MV_0 hM).1 (nI g)
        rw [rg_t hg (by omega)] at e
        have km := hM.1.1.1
        simp (disch := first | assumption | omega) [k_St, n_St, i_St, j_St, r_St, wI_St, wJ_St, k_S0, n_S0, i_S0, j_S0, r_S0, wI_S0, wJ_S0, cI_s, cJ_s, cV_s, nR_s, nQ_s, nQ_n, lt_s_, gd_T, gd_t, Option.map_some, lits, neg_mI, nI_add, pk_mul, nI_clamp, nI_eq, nI_leI, nI_ltI, nm_eq, mn_eq, nm_lt, mn_lt, nm_le, mn_le, m_eq, bI_0, bI_1, if_neg, km, e, d_239, c, d_182]
    · subst em
      rw [rg_t hm (by omega)] at e66
      obtain ⟨I1, J1, e1, w1, f1⟩ := c_169 (lx := lx) (z := z) (E := E) (n := n) (hU (nI 0)) (show m ≤ 60 by omega)
      have hF1 := PI_w (hU (nI 0)).2.2.2.1 (show 19 + 3 < p by omega) f1
      have hσ := ngs_ok hO hρ m
      have e2 := s_107 (lx := lx) (z := z) (E := E) (n := n) hP hF1 hW19 w1 hO hσ hg
      have k19 := hW19.1
      refine ⟨0, eN (npk F (ngs F ρ m) g (F 0 8)), by decide, by decide, ⟨I1, J1, ?_, CQ_f f1⟩, fun I2 J2 hM => ⟨_, ?_, MQ_p (ρ := ngs F ρ m)⟩⟩
      · rw [f_127]
        simp [k_St, n_St, i_St, j_St, r_St, wI_St, wJ_St, k_S0, n_S0, i_S0, j_S0, r_S0, wI_S0, wJ_S0, cI_s, cJ_s, cV_s, nR_s, nQ_s, nQ_n, lt_s_, gd_T, gd_t, Option.map_some, lits, neg_mI, nI_add, pk_mul, nI_clamp, nI_eq, nI_leI, nI_ltI, nm_eq, mn_eq, nm_lt, mn_lt, nm_le, mn_le, m_eq, bI_0, bI_1, k0, e62, e66, c_161, e1, r2, rp, k19, e2]
      · rw [f_257]
        have hM0 := MV_0 hM
        have e := d_228 (lx := lx) (z := z) (E := E) (n := n) (J := J2) hM0.1 (nI g)
        rw [rg_t hg (by omega)] at e
        have e38 := s_238 (lx := lx) (z := z) (E := E) (n := n) (J := J2) hM0.1 hρ h16 hM0.2.1 (show m ≤ 60 by omega)
        obtain ⟨⟨km, _, r16, r17, _, _, _, _, _, _, _, _, _, _, _, k134, k135, _, _, _, _, _, _, _, _, _, _, _, n134, n135, _⟩, ⟨f0, kf, _⟩, rf, ⟨q0, _⟩, _⟩ := hM0.1
        have q8 : pr (u2 I2 132 0 (nI 0)) 135 145 (ngs F ρ m) f 8 = nI (F 0 8) := by rw [pr_n (by omega)]; exact q0 8 (by decide)
        have L := loopN (X := fun i => Am lx 257 24 [some (.ref (z + 132)), some (.int (nI g)), none, none, some (.int (eN (npk F (ngs F ρ m) g i))), some (.int (nI i)), none] [] (0, 0) (St z E n K N R (pr (u2 I2 132 0 (nI 0)) 135 145 (ngs F ρ m)) J2)) (n := F 0 8) (by
          intro i hi
          try simp only
          rw [e_257_24]
          have a1 := s_256 (lx := lx) (z := z) (E := E) (n := n) (J := J2) hM0.1 (ROk_a hσ) hg hi
          have a2 := s_233 (lx := lx) (z := z) (E := E) (n := n) (J := J2) hM0.1 (ROk_a hσ) hi
          have l1 := plc_l hO (ROk_a hσ) hi
          have l2 := isS_lt (hσ.2.1 g hg)
          have a3 := s_191 (lx := lx) l2 l1
          rw [apt_c] at a3
          have ha := apt_le l1 l2
          have hl := npk_le hO (ROk_a hσ) hg (i := i) (by omega)
          rw [npk]
          by_cases c1 : (dgg F (ngs F ρ m) i && decide (apt (plc F (ngs F ρ m) i) (ngs F ρ m (12 + g)) ≤ F 0 0)) = true
          · rw [c1] at a1 ⊢
            by_cases c3 : npk F (ngs F ρ m) g i = 99
            · have c4 : apt (plc F (ngs F ρ m) i) (ngs F ρ m (12 + g)) < 99 := by omega
              have c5 : apt (plc F (ngs F ρ m) i) (ngs F ρ m (12 + g)) ≠ 99 := by omega
              simp (disch := first | assumption | omega) [k_St, n_St, i_St, j_St, r_St, wI_St, wJ_St, k_S0, n_S0, i_S0, j_S0, r_S0, wI_S0, wJ_S0, cI_s, cJ_s, cV_s, nR_s, nQ_s, nQ_n, lt_s_, gd_T, gd_t, Option.map_some, lits, neg_mI, nI_add, pk_mul, nI_clamp, nI_eq, nI_leI, nI_ltI, nm_eq, mn_eq, nm_lt, mn_lt, nm_le, mn_le, m_eq, bI_0, bI_1, if_neg, if_pos, km, rf, kf, q8, a1, r17, k135, n135, pr_s, a2, a3, c3, c4, c5, eN, e_257_53]
            · by_cases c4 : apt (plc F (ngs F ρ m) i) (ngs F ρ m (12 + g)) < npk F (ngs F ρ m) g i
              · have c5 : apt (plc F (ngs F ρ m) i) (ngs F ρ m (12 + g)) ≠ 99 := by omega
                simp (disch := first | assumption | omega) [k_St, n_St, i_St, j_St, r_St, wI_St, wJ_St, k_S0, n_S0, i_S0, j_S0, r_S0, wI_S0, wJ_S0, cI_s, cJ_s, cV_s, nR_s, nQ_s, nQ_n, lt_s_, gd_T, gd_t, Option.map_some, lits, neg_mI, nI_add, pk_mul, nI_clamp, nI_eq, nI_leI, nI_ltI, nm_eq, mn_eq, nm_lt, mn_lt, nm_le, mn_le, m_eq, bI_0, bI_1, if_neg, if_pos, km, rf, kf, q8, a1, r17, k135, n135, pr_s, a2, a3, c3, c4, c5, eN, e_257_53]
              · simp (disch := first | assumption | omega) [k_St, n_St, i_St, j_St, r_St, wI_St, wJ_St, k_S0, n_S0, i_S0, j_S0, r_S0, wI_S0, wJ_S0, cI_s, cJ_s, cV_s, nR_s, nQ_s, nQ_n, lt_s_, gd_T, gd_t, Option.map_some, lits, neg_mI, nI_add, pk_mul, nI_clamp, nI_eq, nI_leI, nI_ltI, nm_eq, mn_eq, nm_lt, mn_lt, nm_le, mn_le, m_eq, bI_0, bI_1, if_neg, if_pos, km, rf, kf, q8, a1, r17, k135, n135, pr_s, a2, a3, c3, c4, eN, e_257_53]
          · have c1' : (dgg F (ngs F ρ m) i && decide (apt (plc F (ngs F ρ m) i) (ngs F ρ m (12 + g)) ≤ F 0 0)) = false := by
              cases e : (dgg F (ngs F ρ m) i && decide (apt (plc F (ngs F ρ m) i) (ngs F ρ m (12 + g)) ≤ F 0 0))
              · rfl
              · exact absurd e c1
            rw [c1'] at a1 ⊢
            simp (disch := first | assumption | omega) [k_St, n_St, i_St, j_St, r_St, wI_St, wJ_St, k_S0, n_S0, i_S0, j_S0, r_S0, wI_S0, wJ_S0, cI_s, cJ_s, cV_s, nR_s, nQ_s, nQ_n, lt_s_, gd_T, gd_t, Option.map_some, lits, neg_mI, nI_add, pk_mul, nI_clamp, nI_eq, nI_leI, nI_ltI, nm_eq, mn_eq, nm_lt, mn_lt, nm_le, mn_le, m_eq, bI_0, bI_1, if_neg, if_pos, km, rf, kf, q8, a1])
        try simp only at L
        have e0 : eN (npk F (ngs F ρ m) g 0) = mI 2 := rfl
        rw [e0] at L
        simp (disch := first | assumption | omega) [k_St, n_St, i_St, j_St, r_St, wI_St, wJ_St, k_S0, n_S0, i_S0, j_S0, r_S0, wI_S0, wJ_S0, cI_s, cJ_s, cV_s, nR_s, nQ_s, nQ_n, lt_s_, gd_T, gd_t, Option.map_some, lits, neg_mI, nI_add, pk_mul, nI_clamp, nI_eq, nI_leI, nI_ltI, nm_eq, mn_eq, nm_lt, mn_lt, nm_le, mn_le, m_eq, bI_0, bI_1, km, e, d_239, rg_t hm (show 61 < 2 ^ 31 by omega), e38, L]
        rw [e_257_24]
        simp (disch := first | assumption | omega) [k_St, n_St, i_St, j_St, r_St, wI_St, wJ_St, k_S0, n_S0, i_S0, j_S0, r_S0, wI_S0, wJ_S0, cI_s, cJ_s, cV_s, nR_s, nQ_s, nQ_n, lt_s_, gd_T, gd_t, Option.map_some, lits, neg_mI, nI_add, pk_mul, nI_clamp, nI_eq, nI_leI, nI_ltI, nm_eq, mn_eq, nm_lt, mn_lt, nm_le, mn_le, m_eq, bI_0, bI_1, if_pos, km, rf, kf, q8, s_185]
theorem o_128 (h : CW K N R I J p s F ρ) (x : Int32) : OQ lx z E n K N R I J f F ρ 128 258 [.int x] := by
  have hU : ∀ v, CW K N R (u2 I 0 11 v) J p s F ρ := fun v => CW_u h
  have e62 := c_162 (lx := lx) (z := z) (E := E) (n := n) h x
  obtain ⟨hL, _, _, hF, hO, hR, hρ, _, h16⟩ := h
  obtain ⟨k0, _, r1, r2, _, _, _, _, _, rp, _⟩ := hL
  have o8 : F 0 8 ≤ 4 := hO.2.2.2.2.2.2.2.2.2.2.2.2.1
  have o7 : F 0 7 ≤ 4 := hO.2.2.2.2.2.2.2.2.2.2.2.1
  rcases rg_i x (n := F 0 8) (by omega) with c | ⟨g, hg, eg⟩
  · rw [c] at e62
    refine ⟨1, mI 1, by decide, by decide, ⟨_, _, ?_, CQ_u⟩, fun I2 J2 hM => ⟨_, ?_, MQ_1⟩⟩
    · rw [f_128]
      simp [k_St, n_St, i_St, j_St, r_St, wI_St, wJ_St, k_S0, n_S0, i_S0, j_S0, r_S0, wI_S0, wJ_S0, cI_s, cJ_s, cV_s, nR_s, nQ_s, nQ_n, lt_s_, gd_T, gd_t, Option.map_some, lits, neg_mI, nI_add, pk_mul, nI_clamp, nI_eq, nI_leI, nI_ltI, nm_eq, mn_eq, nm_lt, mn_lt, nm_le, mn_le, m_eq, bI_0, bI_1, k0, e62, c_160]
    · rw [f_258]
      have e := d_227 (lx := lx) (z := z) (E := E) (n := n) (J := J2) (MV_0 hM).1 x
      rw [c] at e
      have km := hM.1.1.1
      simp [k_St, n_St, i_St, j_St, r_St, wI_St, wJ_St, k_S0, n_S0, i_S0, j_S0, r_S0, wI_S0, wJ_S0, cI_s, cJ_s, cV_s, nR_s, nQ_s, nQ_n, lt_s_, gd_T, gd_t, Option.map_some, lits, neg_mI, nI_add, pk_mul, nI_clamp, nI_eq, nI_leI, nI_ltI, nm_eq, mn_eq, nm_lt, mn_lt, nm_le, mn_le, m_eq, bI_0, bI_1, km, e, d_182]
  · subst eg
    rw [rg_t hg (by omega)] at e62
    obtain ⟨I1, J1, e1, w1, f1⟩ := c_170 (lx := lx) (z := z) (E := E) (n := n) (hU (nI 0)) (what := 3) (g := g) (o := g) (by omega) (fun _ => hg) (fun e => by omega)
    have ep : (fun i => soP 3 g g F (ngs F ρ i)) = fun i => hrd F (ngs F ρ i) g := by funext i; simp [soP]
    rw [ep] at e1
    refine ⟨0, ef (fnd (fun i => hrd F (ngs F ρ i) g) 61), by decide, by decide, ⟨I1, J1, ?_, CQ_f f1⟩, fun I2 J2 hM => ⟨_, ?_, MQ_p (ρ := ngs F ρ (fnd (fun i => hrd F (ngs F ρ i) g) 61))⟩⟩
    · rw [f_128]
      simp [k_St, n_St, i_St, j_St, r_St, wI_St, wJ_St, k_S0, n_S0, i_S0, j_S0, r_S0, wI_S0, wJ_S0, cI_s, cJ_s, cV_s, nR_s, nQ_s, nQ_n, lt_s_, gd_T, gd_t, Option.map_some, lits, neg_mI, nI_add, pk_mul, nI_clamp, nI_eq, nI_leI, nI_ltI, nm_eq, mn_eq, nm_lt, mn_lt, nm_le, mn_le, m_eq, bI_0, bI_1, k0, e62, c_160, e1]
    · rw [f_258]
      have hM0 := MV_0 hM
      have e := d_227 (lx := lx) (z := z) (E := E) (n := n) (J := J2) hM0.1 (nI g)
      rw [rg_t hg (by omega)] at e
      have e231 := s_231 (lx := lx) (z := z) (E := E) (n := n) (J := J2) hM0.1 hM0.2.1
      obtain ⟨⟨km, _⟩, ⟨f0, kf, _⟩, rf, ⟨q0, _⟩, _⟩ := hM0.1
      have q7 : ∀ σ, pr (u2 I2 132 0 (nI 0)) 135 145 σ f 7 = nI (F 0 7) := fun σ => by rw [pr_n (by omega)]; exact q0 7 (by decide)
      have inn : ∀ i, i ≤ 60 → Am lx 258 16 [some (.ref (z + 132)), some (.int (nI g)), some (.int (nI i)), none] [] (0, 0) (St z E n K N R (pr (u2 I2 132 0 (nI 0)) 135 145 (ngs F ρ i)) J2) = if hrd F (ngs F ρ i) g then some (some (.int (nI i)), St z E n K N R (u2 (u2 (pr (u2 I2 132 0 (nI 0)) 135 145 (ngs F ρ i)) 132 1 (nI 0)) 132 2 (mI 1)) J2) else Am lx 258 16 [some (.ref (z + 132)), some (.int (nI g)), some (.int (nI (i + 1))), none] [] (0, 0) (St z E n K N R (pr (u2 I2 132 0 (nI 0)) 135 145 (ngs F ρ (i + 1))) J2) := by
        intro i hi
        rw [e_258_16]
        simp (disch := first | assumption | omega) [k_St, n_St, i_St, j_St, r_St, wI_St, wJ_St, k_S0, n_S0, i_S0, j_S0, r_S0, wI_S0, wJ_S0, cI_s, cJ_s, cV_s, nR_s, nQ_s, nQ_n, lt_s_, gd_T, gd_t, Option.map_some, lits, neg_mI, nI_add, pk_mul, nI_clamp, nI_eq, nI_leI, nI_ltI, nm_eq, mn_eq, nm_lt, mn_lt, nm_le, mn_le, m_eq, bI_0, bI_1, if_neg]
        have hσ := ngs_ok hO hρ i
        have a2 := s_237 (lx := lx) (z := z) (E := E) (n := n) (J := J2) hM0.1 hσ (by rw [ngs_16 hO]; omega)
        have st : ∀ d, d < F 0 7 → Am lx 258 22 [some (.ref (z + 132)), some (.int (nI g)), some (.int (nI i)), some (.int (nI d))] [] (0, 0) (St z E n K N R (pr (u2 I2 132 0 (nI 0)) 135 145 (ngs F ρ i)) J2) = if dgg F (ngs F ρ i) g && decide (apt (plc F (ngs F ρ i) g) (ngs F ρ i (12 + d)) ≤ F 0 0) then some (some (.int (nI i)), St z E n K N R (u2 (u2 (pr (u2 I2 132 0 (nI 0)) 135 145 (ngs F ρ i)) 132 1 (nI 0)) 132 2 (mI 1)) J2) else Am lx 258 22 [some (.ref (z + 132)), some (.int (nI g)), some (.int (nI i)), some (.int (nI (d + 1)))] [] (0, 0) (St z E n K N R (pr (u2 I2 132 0 (nI 0)) 135 145 (ngs F ρ i)) J2) := by
          intro d hd
          rw [e_258_22]
          have a1 := s_256 (lx := lx) (z := z) (E := E) (n := n) (J := J2) hM0.1 (ROk_a hσ) hd hg
          cases c1 : (dgg F (ngs F ρ i) g && decide (apt (plc F (ngs F ρ i) g) (ngs F ρ i (12 + d)) ≤ F 0 0))
          · rw [c1] at a1
            simp (disch := first | assumption | omega) [k_St, n_St, i_St, j_St, r_St, wI_St, wJ_St, k_S0, n_S0, i_S0, j_S0, r_S0, wI_S0, wJ_S0, cI_s, cJ_s, cV_s, nR_s, nQ_s, nQ_n, lt_s_, gd_T, gd_t, Option.map_some, lits, neg_mI, nI_add, pk_mul, nI_clamp, nI_eq, nI_leI, nI_ltI, nm_eq, mn_eq, nm_lt, mn_lt, nm_le, mn_le, m_eq, bI_0, bI_1, if_neg, km, rf, kf, q7, a1]
          · rw [c1] at a1
            simp (disch := first | assumption | omega) [k_St, n_St, i_St, j_St, r_St, wI_St, wJ_St, k_S0, n_S0, i_S0, j_S0, r_S0, wI_S0, wJ_S0, cI_s, cJ_s, cV_s, nR_s, nQ_s, nQ_n, lt_s_, gd_T, gd_t, Option.map_some, lits, neg_mI, nI_add, pk_mul, nI_clamp, nI_eq, nI_leI, nI_ltI, nm_eq, mn_eq, nm_lt, mn_lt, nm_le, mn_le, m_eq, bI_0, bI_1, if_neg, km, rf, kf, q7, a1, s_185]
        unfold hrd ovr
        rcases first_ (fun d => dgg F (ngs F ρ i) g && decide (apt (plc F (ngs F ρ i) g) (ngs F ρ i (12 + d)) ≤ F 0 0)) (F 0 7) with hf | ⟨m, hm, h1, h2⟩
        · have L := loopN (X := fun d => Am lx 258 22 [some (.ref (z + 132)), some (.int (nI g)), some (.int (nI i)), some (.int (nI d))] [] (0, 0) (St z E n K N R (pr (u2 I2 132 0 (nI 0)) 135 145 (ngs F ρ i)) J2)) (n := F 0 7) (by
            intro d hd
            try simp only
            have := hf d hd
            try simp only at this
            rw [st d hd, this]; simp)
          try simp only at L
          have hn : (dgg F (ngs F ρ i) g && anyB (fun d => decide (apt (plc F (ngs F ρ i) g) (ngs F ρ i (12 + d)) ≤ F 0 0)) (F 0 7)) = false := by
            cases c1 : dgg F (ngs F ρ i) g
            · rfl
            · rw [Bool.true_and]
              apply anyB_f.mpr
              intro d hd
              have := hf d hd
              rw [c1] at this
              simpa using this
          rw [hn, L, e_258_22]
          simp (disch := first | assumption | omega) [k_St, n_St, i_St, j_St, r_St, wI_St, wJ_St, k_S0, n_S0, i_S0, j_S0, r_S0, wI_S0, wJ_S0, cI_s, cJ_s, cV_s, nR_s, nQ_s, nQ_n, lt_s_, gd_T, gd_t, Option.map_some, lits, neg_mI, nI_add, pk_mul, nI_clamp, nI_eq, nI_leI, nI_ltI, nm_eq, mn_eq, nm_lt, mn_lt, nm_le, mn_le, m_eq, bI_0, bI_1, if_pos, km, rf, kf, q7, a2, ngs]
        · have L := loopN (X := fun d => Am lx 258 22 [some (.ref (z + 132)), some (.int (nI g)), some (.int (nI i)), some (.int (nI d))] [] (0, 0) (St z E n K N R (pr (u2 I2 132 0 (nI 0)) 135 145 (ngs F ρ i)) J2)) (n := m) (by
            intro d hd
            try simp only
            have := h2 d hd
            try simp only at this
            rw [st d (by omega), this]; simp)
          try simp only at L h1
          have hn : (dgg F (ngs F ρ i) g && anyB (fun d => decide (apt (plc F (ngs F ρ i) g) (ngs F ρ i (12 + d)) ≤ F 0 0)) (F 0 7)) = true := by
            simp only [Bool.and_eq_true] at h1 ⊢
            exact ⟨h1.1, anyB_m hm h1.2⟩
          rw [hn, L, st m hm, h1]; simp
      have g0 : ngs F ρ 0 = ρ := rfl
      rcases first_ (fun i => hrd F (ngs F ρ i) g) 61 with hf | ⟨m, hm, h1, h2⟩
      · have L := loopN (X := fun i => Am lx 258 16 [some (.ref (z + 132)), some (.int (nI g)), some (.int (nI i)), none] [] (0, 0) (St z E n K N R (pr (u2 I2 132 0 (nI 0)) 135 145 (ngs F ρ i)) J2)) (n := 61) (by
          intro i hi
          try simp only
          have := hf i hi
          try simp only at this
          rw [inn i (by omega), this]; simp)
        try simp only at L
        rw [g0] at L
        rw [fnd_n hf]
        simp (disch := first | assumption | omega) [k_St, n_St, i_St, j_St, r_St, wI_St, wJ_St, k_S0, n_S0, i_S0, j_S0, r_S0, wI_S0, wJ_S0, cI_s, cJ_s, cV_s, nR_s, nQ_s, nQ_n, lt_s_, gd_T, gd_t, Option.map_some, lits, neg_mI, nI_add, pk_mul, nI_clamp, nI_eq, nI_leI, nI_ltI, nm_eq, mn_eq, nm_lt, mn_lt, nm_le, mn_le, m_eq, bI_0, bI_1, km, e, e231, L]
        rw [e_258_16]
        simp (disch := first | assumption | omega) [k_St, n_St, i_St, j_St, r_St, wI_St, wJ_St, k_S0, n_S0, i_S0, j_S0, r_S0, wI_S0, wJ_S0, cI_s, cJ_s, cV_s, nR_s, nQ_s, nQ_n, lt_s_, gd_T, gd_t, Option.map_some, lits, neg_mI, nI_add, pk_mul, nI_clamp, nI_eq, nI_leI, nI_ltI, nm_eq, mn_eq, nm_lt, mn_lt, nm_le, mn_le, m_eq, bI_0, bI_1, if_pos, km, s_185]
        rfl
      · have L := loopN (X := fun i => Am lx 258 16 [some (.ref (z + 132)), some (.int (nI g)), some (.int (nI i)), none] [] (0, 0) (St z E n K N R (pr (u2 I2 132 0 (nI 0)) 135 145 (ngs F ρ i)) J2)) (n := m) (by
          intro i hi
          try simp only
          have := h2 i hi
          try simp only at this
          rw [inn i (by omega), this]; simp)
        try simp only at L h1
        rw [g0] at L
        rw [fnd_m (Q := fun i => hrd F (ngs F ρ i) g) h1 h2 hm, ef_m (by omega)]
        simp (disch := first | assumption | omega) [k_St, n_St, i_St, j_St, r_St, wI_St, wJ_St, k_S0, n_S0, i_S0, j_S0, r_S0, wI_S0, wJ_S0, cI_s, cJ_s, cV_s, nR_s, nQ_s, nQ_n, lt_s_, gd_T, gd_t, Option.map_some, lits, neg_mI, nI_add, pk_mul, nI_clamp, nI_eq, nI_leI, nI_ltI, nm_eq, mn_eq, nm_lt, mn_lt, nm_le, mn_le, m_eq, bI_0, bI_1, km, e, e231, L]
        rw [inn m (by omega), h1]
        simp
theorem o_135 (h : CW K N R I J p s F ρ) (x y r : Int32) : OQ lx z E n K N R I J f F ρ 135 277 [.int x, .int y, .int r] := by
  have hU : ∀ v, CW K N R (u2 I 0 11 v) J p s F ρ := fun v => CW_u h
  have e65 := c_165 (lx := lx) (z := z) (E := E) (n := n) h x y
  have e67 := c_167 (lx := lx) r
  obtain ⟨hL, ⟨hW15, hW19, hP, hPs, hps, _⟩, _, hF, hO, hR, hρ, _, h16⟩ := h
  obtain ⟨k0, _, r1, r2, _, _, _, _, _, rp, _⟩ := hL
  have k15 := hW15.1
  rcases hs_i hO x y with c | ⟨a, b, ha, hb, ea, eb, l, hi, ht⟩
  · rw [c] at e65
    refine ⟨1, mI 1, by decide, by decide, ⟨_, _, ?_, CQ_u⟩, fun I2 J2 hM => ⟨_, ?_, MQ_1⟩⟩
    · rw [f_135]
      simp [k_St, n_St, i_St, j_St, r_St, wI_St, wJ_St, k_S0, n_S0, i_S0, j_S0, r_S0, wI_S0, wJ_S0, cI_s, cJ_s, cV_s, nR_s, nQ_s, nQ_n, lt_s_, gd_T, gd_t, Option.map_some, lits, neg_mI, nI_add, pk_mul, nI_clamp, nI_eq, nI_leI, nI_ltI, nm_eq, mn_eq, nm_lt, mn_lt, nm_le, mn_le, m_eq, bI_0, bI_1, k0, e65, e67, c_161]
    · rw [f_277]
      have e := d_276 (lx := lx) (z := z) (E := E) (n := n) (J := J2) (MV_0 hM).1 x y r
      rw [c] at e
      have km := hM.1.1.1
      simp (disch := first | assumption | omega) [k_St, n_St, i_St, j_St, r_St, wI_St, wJ_St, k_S0, n_S0, i_S0, j_S0, r_S0, wI_S0, wJ_S0, cI_s, cJ_s, cV_s, nR_s, nQ_s, nQ_n, lt_s_, gd_T, gd_t, Option.map_some, lits, neg_mI, nI_add, pk_mul, nI_clamp, nI_eq, nI_leI, nI_ltI, nm_eq, mn_eq, nm_lt, mn_lt, nm_le, mn_le, m_eq, bI_0, bI_1, if_neg, km, e, d_182]
  · rcases rg_i r (n := 3) (by omega) with c | ⟨q, hq, eq⟩
    · rw [c] at e67
      rw [ht] at e65
      refine ⟨2, mI 1, by decide, by decide, ⟨_, _, ?_, CQ_u⟩, fun I2 J2 hM => ⟨_, ?_, MQ_1⟩⟩
      · rw [f_135]
        simp [k_St, n_St, i_St, j_St, r_St, wI_St, wJ_St, k_S0, n_S0, i_S0, j_S0, r_S0, wI_S0, wJ_S0, cI_s, cJ_s, cV_s, nR_s, nQ_s, nQ_n, lt_s_, gd_T, gd_t, Option.map_some, lits, neg_mI, nI_add, pk_mul, nI_clamp, nI_eq, nI_leI, nI_ltI, nm_eq, mn_eq, nm_lt, mn_lt, nm_le, mn_le, m_eq, bI_0, bI_1, k0, e65, e67, c_161]
      · rw [f_277]
        have e := d_276 (lx := lx) (z := z) (E := E) (n := n) (J := J2) (MV_0 hM).1 x y r
        rw [c, ht] at e
        have km := hM.1.1.1
        simp (disch := first | assumption | omega) [k_St, n_St, i_St, j_St, r_St, wI_St, wJ_St, k_S0, n_S0, i_S0, j_S0, r_S0, wI_S0, wJ_S0, cI_s, cJ_s, cV_s, nR_s, nQ_s, nQ_n, lt_s_, gd_T, gd_t, Option.map_some, lits, neg_mI, nI_add, pk_mul, nI_clamp, nI_eq, nI_leI, nI_ltI, nm_eq, mn_eq, nm_lt, mn_lt, nm_le, mn_le, m_eq, bI_0, bI_1, if_neg, km, e, d_182]
    · subst eq
      rw [rg_t hq (by omega)] at e67
      rw [ht] at e65
      have hU0 := hU (nI 0)
      obtain ⟨_, _, _, hF0, _, hR0, _⟩ := hU0
      have e4 := s_104 (lx := lx) (z := z) (E := E) (n := n) hP hF0 hW15 hR0 hO (ROk_a hρ) l (show q ≤ 2 by omega)
      refine ⟨0, nI (msk (fun g => nrP F ρ (8 * b + a) q g && !decide (ρ (8 + g) = 1)) (F 0 8)), by decide, by decide, ⟨_, _, ?_, CQ_u⟩, fun I2 J2 hM => ⟨_, ?_, MQ_p (ρ := ρ)⟩⟩
      · rw [f_135]
        subst ea eb
        simp [k_St, n_St, i_St, j_St, r_St, wI_St, wJ_St, k_S0, n_S0, i_S0, j_S0, r_S0, wI_S0, wJ_S0, cI_s, cJ_s, cV_s, nR_s, nQ_s, nQ_n, lt_s_, gd_T, gd_t, Option.map_some, lits, neg_mI, nI_add, pk_mul, nI_clamp, nI_eq, nI_leI, nI_ltI, nm_eq, mn_eq, nm_lt, mn_lt, nm_le, mn_le, m_eq, bI_0, bI_1, k0, e65, e67, c_161, r1, rp, s_0, k15, e4]
      · rw [f_277]
        have hM0 := MV_0 hM
        have e := d_276 (lx := lx) (z := z) (E := E) (n := n) (J := J2) hM0.1 x y (nI q)
        rw [rg_t hq (by omega), ht] at e
        have e231 := s_231 (lx := lx) (z := z) (E := E) (n := n) (J := J2) hM0.1 hM0.2.1
        have e275 := s_275 (lx := lx) (z := z) (E := E) (n := n) (J := J2) hM0.1 (ROk_a hρ) l (show q ≤ 2 by omega)
        have km := hM.1.1.1
        subst ea eb
        simp (disch := first | assumption | omega) [k_St, n_St, i_St, j_St, r_St, wI_St, wJ_St, k_S0, n_S0, i_S0, j_S0, r_S0, wI_S0, wJ_S0, cI_s, cJ_s, cV_s, nR_s, nQ_s, nQ_n, lt_s_, gd_T, gd_t, Option.map_some, lits, neg_mI, nI_add, pk_mul, nI_clamp, nI_eq, nI_leI, nI_ltI, nm_eq, mn_eq, nm_lt, mn_lt, nm_le, mn_le, m_eq, bI_0, bI_1, if_pos, km, e, e231, s_229, e275, s_185]
end OP5
