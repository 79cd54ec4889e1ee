section OP3
variable {z : Nat} {E : aEt} {n : Nat} {K N : Nat → Nat} {R : Nat → Nat → Option Nat} {I : Nat → Nat → Int32} {J : Nat → Nat → Int64} {lx : List Value → aH → aO} {p s f : Nat} {F : Nat → Nat → Nat} {ρ : Nat → Nat}
theorem o_117 (h : CW K N R I J p s F ρ) (x w : Int32) : OQ lx z E n K N R I J f F ρ 117 242 [.int x, .int w] := by
  have hU : ∀ v, CW K N R (u2 I 0 11 v) J p s F ρ := fun v => CW_u h
  have e62 := c_162 (lx := lx) (z := z) (E := E) (n := n) h x
  obtain ⟨hL, ⟨hW15, hW19, hP, hPs, hps, _⟩, _, hF, hO, hR, hρ, _⟩ := h
  obtain ⟨k0, _, r1, r2, _, _, _, _, _, rp, _⟩ := hL
  have o8 : F 0 8 ≤ 4 := hO.2.2.2.2.2.2.2.2.2.2.2.2.1
  have kp := hP.1
  rcases rg_i x (n := F 0 8) (by omega) with c | ⟨g, hg, eg⟩
  · rw [c] at e62
    refine ⟨1, mI 1, by decide, by decide, ⟨_, _, ?_, CQ_u⟩, fun I2 J2 hM => ⟨_, ?_, MQ_1⟩⟩
    · rw [f_117]
      simp [k_St, n_St, i_St, j_St, r_St, wI_St, wJ_St, k_S0, n_S0, i_S0, j_S0, r_S0, wI_S0, wJ_S0, cI_s, cJ_s, cV_s, nR_s, nQ_s, nQ_n, lt_s_, gd_T, gd_t, Option.map_some, lits, neg_mI, nI_add, pk_mul, nI_clamp, nI_eq, nI_leI, nI_ltI, nm_eq, mn_eq, nm_lt, mn_lt, nm_le, mn_le, m_eq, bI_0, bI_1, k0, e62, e_117_14, c_160f]
    · rw [f_242]
      have e := d_227 (lx := lx) (z := z) (E := E) (n := n) (J := J2) (MV_0 hM).1 x
      rw [c] at e
      have km := hM.1.1.1
      simp [k_St, n_St, i_St, j_St, r_St, wI_St, wJ_St, k_S0, n_S0, i_S0, j_S0, r_S0, wI_S0, wJ_S0, cI_s, cJ_s, cV_s, nR_s, nQ_s, nQ_n, lt_s_, gd_T, gd_t, Option.map_some, lits, neg_mI, nI_add, pk_mul, nI_clamp, nI_eq, nI_leI, nI_ltI, nm_eq, mn_eq, nm_lt, mn_lt, nm_le, mn_le, m_eq, bI_0, bI_1, km, e, e_242_13, d_182]
  · subst eg
    rw [rg_t hg (by omega)] at e62
    rcases rg_i w (n := 6) (by omega) with c | ⟨q, hq, eq⟩
    · refine ⟨1, mI 1, by decide, by decide, ⟨_, _, ?_, CQ_u⟩, fun I2 J2 hM => ⟨_, ?_, MQ_1⟩⟩
      · rw [f_117]
        rcases rg_f (m := 5) c (by omega) with c2 | c2
        · have c2' : w < nI 0 := c2
          simp [k_St, n_St, i_St, j_St, r_St, wI_St, wJ_St, k_S0, n_S0, i_S0, j_S0, r_S0, wI_S0, wJ_S0, cI_s, cJ_s, cV_s, nR_s, nQ_s, nQ_n, lt_s_, gd_T, gd_t, Option.map_some, lits, neg_mI, nI_add, pk_mul, nI_clamp, nI_eq, nI_leI, nI_ltI, nm_eq, mn_eq, nm_lt, mn_lt, nm_le, mn_le, m_eq, bI_0, bI_1, k0, e62, e_117_14, c_160f, c2']
        · simp [k_St, n_St, i_St, j_St, r_St, wI_St, wJ_St, k_S0, n_S0, i_S0, j_S0, r_S0, wI_S0, wJ_S0, cI_s, cJ_s, cV_s, nR_s, nQ_s, nQ_n, lt_s_, gd_T, gd_t, Option.map_some, lits, neg_mI, nI_add, pk_mul, nI_clamp, nI_eq, nI_leI, nI_ltI, nm_eq, mn_eq, nm_lt, mn_lt, nm_le, mn_le, m_eq, bI_0, bI_1, k0, e62, e_117_14, c_160f, c2]
      · rw [f_242]
        have e := d_227 (lx := lx) (z := z) (E := E) (n := n) (J := J2) (MV_0 hM).1 (nI g)
        rw [rg_t hg (by omega)] at e
        have e87 := d_187 (lx := lx) w (m := 5) (by omega)
        rw [c] at e87
        have km := hM.1.1.1
        simp [k_St, n_St, i_St, j_St, r_St, wI_St, wJ_St, k_S0, n_S0, i_S0, j_S0, r_S0, wI_S0, wJ_S0, cI_s, cJ_s, cV_s, nR_s, nQ_s, nQ_n, lt_s_, gd_T, gd_t, Option.map_some, lits, neg_mI, nI_add, pk_mul, nI_clamp, nI_eq, nI_leI, nI_ltI, nm_eq, mn_eq, nm_lt, mn_lt, nm_le, mn_le, m_eq, bI_0, bI_1, km, e, e87, e_242_13, d_182]
    · subst eq
      have hU0 := hU (nI 0)
      obtain ⟨_, _, _, hF0, _, hR0, _⟩ := hU0
      have s100 := s_100 (lx := lx) (z := z) (E := E) (n := n) hP hF0 hW15 hR0 hO (ROk_a hρ) hg
      have l1 := plc_l hO (ROk_a hρ) hg
      have s3 := s_3 (lx := lx) l1
      have k15 := hW15.1
      have hW' := hW15
      obtain ⟨_, wr1, wr2, wr3, wk1, wk2, wk3, wn1, wn2, wn3⟩ := hW'
      obtain ⟨_, _, _, pr3, pr4, _, _, _, _, _, _, pk3, pk4, _, _, _, _, _, _, pn3, pn4, _⟩ := id hP
      have p3 := hF0.2.2.2.1 g hg
      have p4 := hF0.2.2.2.2.1 g hg
      have w1 := hR0.1 g hg
      have w2 := hR0.2.1 g hg
      have w4 := hR0.2.2.2.1
      have bv := bt_v (msk_16 (fun g => decide (ρ (8 + g) = 1)) o8) (show g < 4 by omega)
      rw [msk_b _ o8 hg] at bv
      have v1 := hρ.1 g hg
      refine ⟨0, if q = 0 then nI (F 3 g) else if q = 1 then nI (whl (plc F ρ g)) else if q = 2 then nI (ρ g) else if q = 3 then nI (if dgg F ρ g then ρ (4 + g) else 0) else if q = 4 then nI (ρ (8 + g)) else nI (F 4 g), by decide, by decide, ⟨_, _, ?_, CQ_u⟩, fun I2 J2 hM => ⟨_, ?_, MQ_p (ρ := ρ)⟩⟩
      · rw [f_117]
        have qs : q = 0 ∨ q = 1 ∨ q = 2 ∨ q = 3 ∨ q = 4 ∨ q = 5 := by omega
        rcases qs with e | e | e | e | e | e <;> subst e
        · simp (disch := first | assumption | omega) [k_St, n_St, i_St, j_St, r_St, wI_St, wJ_St, k_S0, n_S0, i_S0, j_S0, r_S0, wI_S0, wJ_S0, cI_s, cJ_s, cV_s, nR_s, nQ_s, nQ_n, lt_s_, gd_T, gd_t, Option.map_some, lits, neg_mI, nI_add, pk_mul, nI_clamp, nI_eq, nI_leI, nI_ltI, nm_eq, mn_eq, nm_lt, mn_lt, nm_le, mn_le, m_eq, bI_0, bI_1, k0, rp, kp, e62, e_117_14, c_160t, pr3, pk3, pn3, p3]
        · simp (disch := first | assumption | omega) [k_St, n_St, i_St, j_St, r_St, wI_St, wJ_St, k_S0, n_S0, i_S0, j_S0, r_S0, wI_S0, wJ_S0, cI_s, cJ_s, cV_s, nR_s, nQ_s, nQ_n, lt_s_, gd_T, gd_t, Option.map_some, lits, neg_mI, nI_add, pk_mul, nI_clamp, nI_eq, nI_leI, nI_ltI, nm_eq, mn_eq, nm_lt, mn_lt, nm_le, mn_le, m_eq, bI_0, bI_1, k0, rp, r1, k15, kp, e62, e_117_14, c_160t, s100, s3]
        · simp (disch := first | assumption | omega) [k_St, n_St, i_St, j_St, r_St, wI_St, wJ_St, k_S0, n_S0, i_S0, j_S0, r_S0, wI_S0, wJ_S0, cI_s, cJ_s, cV_s, nR_s, nQ_s, nQ_n, lt_s_, gd_T, gd_t, Option.map_some, lits, neg_mI, nI_add, pk_mul, nI_clamp, nI_eq, nI_leI, nI_ltI, nm_eq, mn_eq, nm_lt, mn_lt, nm_le, mn_le, m_eq, bI_0, bI_1, k0, rp, r1, k15, kp, e62, e_117_14, c_160t, wr1, wk1, wn1, w1]
        · simp (disch := first | assumption | omega) [k_St, n_St, i_St, j_St, r_St, wI_St, wJ_St, k_S0, n_S0, i_S0, j_S0, r_S0, wI_S0, wJ_S0, cI_s, cJ_s, cV_s, nR_s, nQ_s, nQ_n, lt_s_, gd_T, gd_t, Option.map_some, lits, neg_mI, nI_add, pk_mul, nI_clamp, nI_eq, nI_leI, nI_ltI, nm_eq, mn_eq, nm_lt, mn_lt, nm_le, mn_le, m_eq, bI_0, bI_1, k0, rp, r1, k15, kp, e62, e_117_14, c_160t, wr2, wk2, wn2, w2]
        · by_cases c : ρ (8 + g) = 1
          · simp only [c, decide_true] at bv
            simp (disch := first | assumption | omega) [k_St, n_St, i_St, j_St, r_St, wI_St, wJ_St, k_S0, n_S0, i_S0, j_S0, r_S0, wI_S0, wJ_S0, cI_s, cJ_s, cV_s, nR_s, nQ_s, nQ_n, lt_s_, gd_T, gd_t, Option.map_some, lits, neg_mI, nI_add, pk_mul, nI_clamp, nI_eq, nI_leI, nI_ltI, nm_eq, mn_eq, nm_lt, mn_lt, nm_le, mn_le, m_eq, bI_0, bI_1, k0, rp, r1, k15, kp, e62, e_117_14, c_160t, w4, bv, c]
          · simp only [c, decide_false] at bv
            have c0 : ρ (8 + g) = 0 := by omega
            simp (disch := first | assumption | omega) [k_St, n_St, i_St, j_St, r_St, wI_St, wJ_St, k_S0, n_S0, i_S0, j_S0, r_S0, wI_S0, wJ_S0, cI_s, cJ_s, cV_s, nR_s, nQ_s, nQ_n, lt_s_, gd_T, gd_t, Option.map_some, lits, neg_mI, nI_add, pk_mul, nI_clamp, nI_eq, nI_leI, nI_ltI, nm_eq, mn_eq, nm_lt, mn_lt, nm_le, mn_le, m_eq, bI_0, bI_1, k0, rp, r1, k15, kp, e62, e_117_14, c_160t, w4, bv, c0]
        · simp (disch := first | assumption | omega) [k_St, n_St, i_St, j_St, r_St, wI_St, wJ_St, k_S0, n_S0, i_S0, j_S0, r_S0, wI_S0, wJ_S0, cI_s, cJ_s, cV_s, nR_s, nQ_s, nQ_n, lt_s_, gd_T, gd_t, Option.map_some, lits, neg_mI, nI_add, pk_mul, nI_clamp, nI_eq, nI_leI, nI_ltI, nm_eq, mn_eq, nm_lt, mn_lt, nm_le, mn_le, m_eq, bI_0, bI_1, k0, rp, kp, e62, e_117_14, c_160t, pr4, pk4, pn4, p4]
      · rw [f_242]
        have hM0 := MV_0 hM
        have e := d_227 (lx := lx) (z := z) (E := E) (n := n) (J := J2) hM0.1 (nI g)
        rw [rg_t hg (by omega)] at e
        have e87 := d_187 (lx := lx) (nI q) (m := 5) (by omega)
        rw [rg_t hq (by omega)] at e87
        have e231 := s_231 (lx := lx) (z := z) (E := E) (n := n) (J := J2) hM0.1 hM0.2.1
        have e233 := s_233 (lx := lx) (z := z) (E := E) (n := n) (J := J2) hM0.1 (ROk_a hρ) hg
        have e234 := s_234 (lx := lx) (z := z) (E := E) (n := n) (J := J2) hM0.1 (ROk_a hρ) hg
        have s230 := s_230 (lx := lx) l1
        obtain ⟨⟨km, _, r16, r17, _, _, _, _, _, _, _, _, _, _, _, k134, k135, _, _, _, _, _, _, _, _, _, _, _, n134, n135, _⟩, ⟨f0, kf, _, _, r14, r15, _, _, _, _, _, _, _, _, _, kf3, kf4, _, _, _, _, _, _, _, _, _, nf3, nf4, _⟩, rf, ⟨_, _, _, q3, q4, _⟩, _⟩ := hM.1
        have x3 : pr (u2 I2 132 0 (nI 0)) 135 145 ρ (f + 3) g = nI (F 3 g) := by
          rw [pr_n (by omega), u2_a _ _ _ _ _ (by omega)]; exact q3 _ hg
        have x4 : pr (u2 I2 132 0 (nI 0)) 135 145 ρ (f + 4) g = nI (F 4 g) := by
          rw [pr_n (by omega), u2_a _ _ _ _ _ (by omega)]; exact q4 _ hg
        have qs : q = 0 ∨ q = 1 ∨ q = 2 ∨ q = 3 ∨ q = 4 ∨ q = 5 := by omega
        rcases qs with e' | e' | e' | e' | e' | e' <;> subst e'
        · simp (disch := first | assumption | omega) [k_St, n_St, i_St, j_St, r_St, wI_St, wJ_St, k_S0, n_S0, i_S0, j_S0, r_S0, wI_S0, wJ_S0, cI_s, cJ_s, cV_s, nR_s, nQ_s, nQ_n, lt_s_, gd_T, gd_t, Option.map_some, lits, neg_mI, nI_add, pk_mul, nI_clamp, nI_eq, nI_leI, nI_ltI, nm_eq, mn_eq, nm_lt, mn_lt, nm_le, mn_le, m_eq, bI_0, bI_1, km, e, e87, e231, rf, kf, r14, kf3, nf3, x3, s_185]
        · simp (disch := first | assumption | omega) [k_St, n_St, i_St, j_St, r_St, wI_St, wJ_St, k_S0, n_S0, i_S0, j_S0, r_S0, wI_S0, wJ_S0, cI_s, cJ_s, cV_s, nR_s, nQ_s, nQ_n, lt_s_, gd_T, gd_t, Option.map_some, lits, neg_mI, nI_add, pk_mul, nI_clamp, nI_eq, nI_leI, nI_ltI, nm_eq, mn_eq, nm_lt, mn_lt, nm_le, mn_le, m_eq, bI_0, bI_1, km, e, e87, e231, e233, s230, s_185]
        · simp (disch := first | assumption | omega) [k_St, n_St, i_St, j_St, r_St, wI_St, wJ_St, k_S0, n_S0, i_S0, j_S0, r_S0, wI_S0, wJ_S0, cI_s, cJ_s, cV_s, nR_s, nQ_s, nQ_n, lt_s_, gd_T, gd_t, Option.map_some, lits, neg_mI, nI_add, pk_mul, nI_clamp, nI_eq, nI_leI, nI_ltI, nm_eq, mn_eq, nm_lt, mn_lt, nm_le, mn_le, m_eq, bI_0, bI_1, km, e, e87, e231, r17, k135, n135, pr_s, s_185]
        · cases hd : dgg F ρ g
          · rw [hd] at e234
            simp (disch := first | assumption | omega) [k_St, n_St, i_St, j_St, r_St, wI_St, wJ_St, k_S0, n_S0, i_S0, j_S0, r_S0, wI_S0, wJ_S0, cI_s, cJ_s, cV_s, nR_s, nQ_s, nQ_n, lt_s_, gd_T, gd_t, Option.map_some, lits, neg_mI, nI_add, pk_mul, nI_clamp, nI_eq, nI_leI, nI_ltI, nm_eq, mn_eq, nm_lt, mn_lt, nm_le, mn_le, m_eq, bI_0, bI_1, km, e, e87, e231, e234, e_242_57, s_185]
          · rw [hd] at e234
            simp (disch := first | assumption | omega) [k_St, n_St, i_St, j_St, r_St, wI_St, wJ_St, k_S0, n_S0, i_S0, j_S0, r_S0, wI_S0, wJ_S0, cI_s, cJ_s, cV_s, nR_s, nQ_s, nQ_n, lt_s_, gd_T, gd_t, Option.map_some, lits, neg_mI, nI_add, pk_mul, nI_clamp, nI_eq, nI_leI, nI_ltI, nm_eq, mn_eq, nm_lt, mn_lt, nm_le, mn_le, m_eq, bI_0, bI_1, km, e, e87, e231, e234, e_242_57, r17, k135, n135, pr_s, s_185]
        · simp (disch := first | assumption | omega) [k_St, n_St, i_St, j_St, r_St, wI_St, wJ_St, k_S0, n_S0, i_S0, j_S0, r_S0, wI_S0, wJ_S0, cI_s, cJ_s, cV_s, nR_s, nQ_s, nQ_n, lt_s_, gd_T, gd_t, Option.map_some, lits, neg_mI, nI_add, pk_mul, nI_clamp, nI_eq, nI_leI, nI_ltI, nm_eq, mn_eq, nm_lt, mn_lt, nm_le, mn_le, m_eq, bI_0, bI_1, km, e, e87, e231, r17, k135, n135, pr_s, s_185]
        · simp (disch := first | assumption | omega) [k_St, n_St, i_St, j_St, r_St, wI_St, wJ_St, k_S0, n_S0, i_S0, j_S0, r_S0, wI_S0, wJ_S0, cI_s, cJ_s, cV_s, nR_s, nQ_s, nQ_n, lt_s_, gd_T, gd_t, Option.map_some, lits, neg_mI, nI_add, pk_mul, nI_clamp, nI_eq, nI_leI, nI_ltI, nm_eq, mn_eq, nm_lt, mn_lt, nm_le, mn_le, m_eq, bI_0, bI_1, km, e, e87, e231, rf, kf, r15, kf4, nf4, x4, s_185]
theorem o_118 (h : CW K N R I J p s F ρ) (x : Int32) : OQ lx z E n K N R I J f F ρ 118 243 [.int x] := by
  have hU : ∀ v, CW K N R (u2 I 0 11 v) J p s F ρ := fun v => CW_u h
  have e62 := c_163 (lx := lx) (z := z) (E := E) (n := n) h x
  obtain ⟨hL, ⟨hW15, hW19, hP, hPs, hps, _⟩, _, hF, hO, hR, hρ, _⟩ := h
  obtain ⟨k0, _, r1, r2, _, _, _, _, _, rp, _⟩ := hL
  have o7 : F 0 7 ≤ 4 := hO.2.2.2.2.2.2.2.2.2.2.2.1
  rcases rg_i x (n := F 0 7) (by omega) with c | ⟨g, hg, eg⟩
  · rw [c] at e62
    refine ⟨1, mI 1, by decide, by decide, ⟨_, _, ?_, CQ_u⟩, fun I2 J2 hM => ⟨_, ?_, MQ_1⟩⟩
    · rw [f_118]
      simp [k_St, n_St, i_St, j_St, r_St, wI_St, wJ_St, k_S0, n_S0, i_S0, j_S0, r_S0, wI_S0, wJ_S0, cI_s, cJ_s, cV_s, nR_s, nQ_s, nQ_n, lt_s_, gd_T, gd_t, Option.map_some, lits, neg_mI, nI_add, pk_mul, nI_clamp, nI_eq, nI_leI, nI_ltI, nm_eq, mn_eq, nm_lt, mn_lt, nm_le, mn_le, m_eq, bI_0, bI_1, k0, e62, c_160]
    · rw [f_243]
      have e := d_228 (lx := lx) (z := z) (E := E) (n := n) (J := J2) (MV_0 hM).1 x
      rw [c] at e
      have km := hM.1.1.1
      simp [k_St, n_St, i_St, j_St, r_St, wI_St, wJ_St, k_S0, n_S0, i_S0, j_S0, r_S0, wI_S0, wJ_S0, cI_s, cJ_s, cV_s, nR_s, nQ_s, nQ_n, lt_s_, gd_T, gd_t, Option.map_some, lits, neg_mI, nI_add, pk_mul, nI_clamp, nI_eq, nI_leI, nI_ltI, nm_eq, mn_eq, nm_lt, mn_lt, nm_le, mn_le, m_eq, bI_0, bI_1, km, e, d_182]
  · subst eg
    rw [rg_t hg (by omega)] at e62
    have hU0 := hU (nI 0)
    obtain ⟨_, _, _, hF0, _, hR0, _⟩ := hU0
    have k15 := hW15.1
    obtain ⟨_, wr1, wr2, wr3, wk1, wk2, wk3, wn1, wn2, wn3⟩ := hW15
    have w3 := hR0.2.2.1 g hg
    have l1 := isS_lt (hρ.2.1 g hg)
    have s3 := s_3 (lx := lx) l1
    have s230 := s_230 (lx := lx) l1
    refine ⟨0, nI (whl (ρ (12 + g))), by decide, by decide, ⟨_, _, ?_, CQ_u⟩, fun I2 J2 hM => ⟨_, ?_, MQ_1⟩⟩
    · rw [f_118]
      simp (disch := first | assumption | omega) [k_St, n_St, i_St, j_St, r_St, wI_St, wJ_St, k_S0, n_S0, i_S0, j_S0, r_S0, wI_S0, wJ_S0, cI_s, cJ_s, cV_s, nR_s, nQ_s, nQ_n, lt_s_, gd_T, gd_t, Option.map_some, lits, neg_mI, nI_add, pk_mul, nI_clamp, nI_eq, nI_leI, nI_ltI, nm_eq, mn_eq, nm_lt, mn_lt, nm_le, mn_le, m_eq, bI_0, bI_1, k0, r1, k15, e62, c_160, wr3, wk3, wn3, w3, s3]
    · rw [f_243]
      have hM0 := MV_0 hM
      have e := d_228 (lx := lx) (z := z) (E := E) (n := n) (J := J2) hM0.1 (nI g)
      rw [rg_t hg (by omega)] at e
      have v12 := hM0.2.1 (12 + g) (by omega)
      obtain ⟨⟨km, _, r16, r17, _, _, _, _, _, _, _, _, _, _, _, k134, k135, _, _, _, _, _, _, _, _, _, _, _, n134, n135, _⟩, _⟩ := hM.1
      simp (disch := first | assumption | omega) [k_St, n_St, i_St, j_St, r_St, wI_St, wJ_St, k_S0, n_S0, i_S0, j_S0, r_S0, wI_S0, wJ_S0, cI_s, cJ_s, cV_s, nR_s, nQ_s, nQ_n, lt_s_, gd_T, gd_t, Option.map_some, lits, neg_mI, nI_add, pk_mul, nI_clamp, nI_eq, nI_leI, nI_ltI, nm_eq, mn_eq, nm_lt, mn_lt, nm_le, mn_le, m_eq, bI_0, bI_1, km, e, r16, k134, n134, v12, s230, s_185]
theorem o_120 (h : CW K N R I J p s F ρ) (x y x' y' : Int32) : OQ lx z E n K N R I J f F ρ 120 246 [.int x, .int y, .int x', .int y'] := by
  have e24 := c_24 (lx := lx) (z := z) (E := E) (n := n) h x y
  have e24' := c_24 (lx := lx) (z := z) (E := E) (n := n) h x' y'
  obtain ⟨hL, ⟨hW15, hW19, hP, hPs, hps, _⟩, _, hF, hO, hR, hρ, _⟩ := h
  obtain ⟨k0, _, r1, r2, _, _, _, _, _, rp, _⟩ := hL
  have kp := hP.1
  rcases hl_i hO x y with c | ⟨a, b, ha, hb, ea, eb, l, hi, ht⟩
  · rw [c] at e24
    refine ⟨1, mI 1, by decide, by decide, ⟨_, _, ?_, CQ_u⟩, fun I2 J2 hM => ⟨_, ?_, MQ_1⟩⟩
    · rw [f_120]
      simp [k_St, n_St, i_St, j_St, r_St, wI_St, wJ_St, k_S0, n_S0, i_S0, j_S0, r_S0, wI_S0, wJ_S0, cI_s, cJ_s, cV_s, nR_s, nQ_s, nQ_n, lt_s_, gd_T, gd_t, Option.map_some, lits, neg_mI, nI_add, pk_mul, nI_clamp, nI_eq, nI_leI, nI_ltI, nm_eq, mn_eq, nm_lt, mn_lt, nm_le, mn_le, m_eq, bI_0, bI_1, k0, rp, kp, e24, e_120_17, c_160f]
    · rw [f_246]
      have e := d_226 (lx := lx) (z := z) (E := E) (n := n) (J := J2) (MV_0 hM).1 x y
      rw [c] at e
      have km := hM.1.1.1
      simp [k_St, n_St, i_St, j_St, r_St, wI_St, wJ_St, k_S0, n_S0, i_S0, j_S0, r_S0, wI_S0, wJ_S0, cI_s, cJ_s, cV_s, nR_s, nQ_s, nQ_n, lt_s_, gd_T, gd_t, Option.map_some, lits, neg_mI, nI_add, pk_mul, nI_clamp, nI_eq, nI_leI, nI_ltI, nm_eq, mn_eq, nm_lt, mn_lt, nm_le, mn_le, m_eq, bI_0, bI_1, km, e, e_246_24, d_182]
  · rcases hl_i hO x' y' with c | ⟨a', b', ha', hb', ea', eb', l', hi', ht'⟩
    · rw [c] at e24'
      rw [ht] at e24
      refine ⟨1, mI 1, by decide, by decide, ⟨_, _, ?_, CQ_u⟩, fun I2 J2 hM => ⟨_, ?_, MQ_1⟩⟩
      · rw [f_120]
        simp [k_St, n_St, i_St, j_St, r_St, wI_St, wJ_St, k_S0, n_S0, i_S0, j_S0, r_S0, wI_S0, wJ_S0, cI_s, cJ_s, cV_s, nR_s, nQ_s, nQ_n, lt_s_, gd_T, gd_t, Option.map_some, lits, neg_mI, nI_add, pk_mul, nI_clamp, nI_eq, nI_leI, nI_ltI, nm_eq, mn_eq, nm_lt, mn_lt, nm_le, mn_le, m_eq, bI_0, bI_1, k0, rp, kp, e24, e24', e_120_17, c_160f]
      · rw [f_246]
        have e := d_226 (lx := lx) (z := z) (E := E) (n := n) (J := J2) (MV_0 hM).1 x y
        have e' := d_226 (lx := lx) (z := z) (E := E) (n := n) (J := J2) (MV_0 hM).1 x' y'
        rw [c] at e'
        rw [ht] at e
        have km := hM.1.1.1
        simp [k_St, n_St, i_St, j_St, r_St, wI_St, wJ_St, k_S0, n_S0, i_S0, j_S0, r_S0, wI_S0, wJ_S0, cI_s, cJ_s, cV_s, nR_s, nQ_s, nQ_n, lt_s_, gd_T, gd_t, Option.map_some, lits, neg_mI, nI_add, pk_mul, nI_clamp, nI_eq, nI_leI, nI_ltI, nm_eq, mn_eq, nm_lt, mn_lt, nm_le, mn_le, m_eq, bI_0, bI_1, km, e, e', e_246_24, d_182]
    · rw [ht'] at e24'
      rw [ht] at e24
      refine ⟨0, nI (apt (8 * b + a) (8 * b' + a')), by decide, by decide, ⟨_, _, ?_, CQ_u⟩, fun I2 J2 hM => ⟨_, ?_, MQ_1⟩⟩
      · rw [f_120]
        subst ea eb ea' eb'
        simp [k_St, n_St, i_St, j_St, r_St, wI_St, wJ_St, k_S0, n_S0, i_S0, j_S0, r_S0, wI_S0, wJ_S0, cI_s, cJ_s, cV_s, nR_s, nQ_s, nQ_n, lt_s_, gd_T, gd_t, Option.map_some, lits, neg_mI, nI_add, pk_mul, nI_clamp, nI_eq, nI_leI, nI_ltI, nm_eq, mn_eq, nm_lt, mn_lt, nm_le, mn_le, m_eq, bI_0, bI_1, k0, rp, kp, e24, e24', e_120_17, c_160t, s_0, s_4 l l']
      · rw [f_246]
        have e := d_226 (lx := lx) (z := z) (E := E) (n := n) (J := J2) (MV_0 hM).1 x y
        have e' := d_226 (lx := lx) (z := z) (E := E) (n := n) (J := J2) (MV_0 hM).1 x' y'
        rw [ht'] at e'
        rw [ht] at e
        subst ea eb ea' eb'
        have km := hM.1.1.1
        simp [k_St, n_St, i_St, j_St, r_St, wI_St, wJ_St, k_S0, n_S0, i_S0, j_S0, r_S0, wI_S0, wJ_S0, cI_s, cJ_s, cV_s, nR_s, nQ_s, nQ_n, lt_s_, gd_T, gd_t, Option.map_some, lits, neg_mI, nI_add, pk_mul, nI_clamp, nI_eq, nI_leI, nI_ltI, nm_eq, mn_eq, nm_lt, mn_lt, nm_le, mn_le, m_eq, bI_0, bI_1, km, e, e', s_229, s_191 l l', s_185]
/-- a call over a gallery and a night -/
theorem o_121 (h : CW K N R I J p s F ρ) (x y : Int32) : OQ lx z E n K N R I J f F ρ 121 247 [.int x, .int y] := by
  have hU : ∀ v, CW K N R (u2 I 0 11 v) J p s F ρ := fun v => CW_u h
  have e62 := c_162 (lx := lx) (z := z) (E := E) (n := n) h x
  have e66 := c_166 (lx := lx) y
  obtain ⟨hL, ⟨hW15, hW19, hP, hPs, hps, _⟩, _, hF, hO, hR, hρ, _, h16⟩ := h
  obtain ⟨k0, _, r1, r2, _, _, _, _, _, rp, _⟩ := hL
  have o8 : F 0 8 ≤ 4 := hO.2.2.2.2.2.2.2.2.2.2.2.2.1
  rcases rg_i x (n := F 0 8) (by omega) with c | ⟨g, hg, eg⟩
  · rw [c] at e62
    refine ⟨1, mI 1, by decide, by decide, ⟨_, _, ?_, CQ_u⟩, fun I2 J2 hM => ⟨_, ?_, MQ_1⟩⟩
    · rw [f_121]
      simp [k_St, n_St, i_St, j_St, r_St, wI_St, wJ_St, k_S0, n_S0, i_S0, j_S0, r_S0, wI_S0, wJ_S0, cI_s, cJ_s, cV_s, nR_s, nQ_s, nQ_n, lt_s_, gd_T, gd_t, Option.map_some, lits, neg_mI, nI_add, pk_mul, nI_clamp, nI_eq, nI_leI, nI_ltI, nm_eq, mn_eq, nm_lt, mn_lt, nm_le, mn_le, m_eq, bI_0, bI_1, k0, e62, e66, c_161]
    · rw [f_247]
      have e := d_227 (lx := lx) (z := z) (E := E) (n := n) (J := J2) (MV_0 hM).1 x
      rw [c] at e
      have km := hM.1.1.1
      simp (disch := first | assumption | omega) [k_St, n_St, i_St, j_St, r_St, wI_St, wJ_St, k_S0, n_S0, i_S0, j_S0, r_S0, wI_S0, wJ_S0, cI_s, cJ_s, cV_s, nR_s, nQ_s, nQ_n, lt_s_, gd_T, gd_t, Option.map_some, lits, neg_mI, nI_add, pk_mul, nI_clamp, nI_eq, nI_leI, nI_ltI, nm_eq, mn_eq, nm_lt, mn_lt, nm_le, mn_le, m_eq, bI_0, bI_1, if_neg, km, e, d_239, d_182]
  · subst eg
    rw [rg_t hg (by omega)] at e62
    rcases rg_i y (n := 61) (by omega) with c | ⟨m, hm, em⟩
    · rw [c] at e66
      refine ⟨2, mI 1, by decide, by decide, ⟨_, _, ?_, CQ_u⟩, fun I2 J2 hM => ⟨_, ?_, MQ_1⟩⟩
      · rw [f_121]
        simp [k_St, n_St, i_St, j_St, r_St, wI_St, wJ_St, k_S0, n_S0, i_S0, j_S0, r_S0, wI_S0, wJ_S0, cI_s, cJ_s, cV_s, nR_s, nQ_s, nQ_n, lt_s_, gd_T, gd_t, Option.map_some, lits, neg_mI, nI_add, pk_mul, nI_clamp, nI_eq, nI_leI, nI_ltI, nm_eq, mn_eq, nm_lt, mn_lt, nm_le, mn_le, m_eq, bI_0, bI_1, k0, e62, e66, c_161]
      · rw [f_247]
        have e := d_227 (lx := lx) (z := z) (E := E) (n := n) (J := J2) (MV_0 hM).1 (nI g)
        rw [rg_t hg (by omega)] at e
        have km := hM.1.1.1
        simp (disch := first | assumption | omega) [k_St, n_St, i_St, j_St, r_St, wI_St, wJ_St, k_S0, n_S0, i_S0, j_S0, r_S0, wI_S0, wJ_S0, cI_s, cJ_s, cV_s, nR_s, nQ_s, nQ_n, lt_s_, gd_T, gd_t, Option.map_some, lits, neg_mI, nI_add, pk_mul, nI_clamp, nI_eq, nI_leI, nI_ltI, nm_eq, mn_eq, nm_lt, mn_lt, nm_le, mn_le, m_eq, bI_0, bI_1, if_neg, km, e, d_239, c, d_182]
    · subst em
      rw [rg_t hm (by omega)] at e66
      obtain ⟨I1, J1, e1, w1, f1⟩ := c_169 (lx := lx) (z := z) (E := E) (n := n) (hU (nI 0)) (show m ≤ 60 by omega)
      have hF1 := PI_w (hU (nI 0)).2.2.2.1 (show 19 + 3 < p by omega) f1
      have e2 := s_100 (lx := lx) (z := z) (E := E) (n := n) hP hF1 hW19 w1 hO (ROk_a (ngs_ok hO hρ m)) hg
      have l1 := plc_l hO (ROk_a (ngs_ok hO hρ m)) hg
      have s3 := s_3 (lx := lx) l1
      have s230 := s_230 (lx := lx) l1
      have k19 := hW19.1
      refine ⟨0, nI (whl (plc F (ngs F ρ m) g)), by decide, by decide, ⟨I1, J1, ?_, CQ_f f1⟩, fun I2 J2 hM => ⟨_, ?_, MQ_p (ρ := ngs F ρ m)⟩⟩
      · rw [f_121]
        simp [k_St, n_St, i_St, j_St, r_St, wI_St, wJ_St, k_S0, n_S0, i_S0, j_S0, r_S0, wI_S0, wJ_S0, cI_s, cJ_s, cV_s, nR_s, nQ_s, nQ_n, lt_s_, gd_T, gd_t, Option.map_some, lits, neg_mI, nI_add, pk_mul, nI_clamp, nI_eq, nI_leI, nI_ltI, nm_eq, mn_eq, nm_lt, mn_lt, nm_le, mn_le, m_eq, bI_0, bI_1, k0, e62, e66, c_161, e1, r2, rp, k19, e2, s3]
      · rw [f_247]
        have hM0 := MV_0 hM
        have e := d_227 (lx := lx) (z := z) (E := E) (n := n) (J := J2) hM0.1 (nI g)
        rw [rg_t hg (by omega)] at e
        have km := hM.1.1.1
        have e38 := s_238 (lx := lx) (z := z) (E := E) (n := n) (J := J2) hM0.1 hρ h16 hM0.2.1 (show m ≤ 60 by omega)
        have e233 := s_233 (lx := lx) (z := z) (E := E) (n := n) (J := J2) hM0.1 (ROk_a (ngs_ok hO hρ m)) hg
        simp (disch := first | assumption | omega) [k_St, n_St, i_St, j_St, r_St, wI_St, wJ_St, k_S0, n_S0, i_S0, j_S0, r_S0, wI_S0, wJ_S0, cI_s, cJ_s, cV_s, nR_s, nQ_s, nQ_n, lt_s_, gd_T, gd_t, Option.map_some, lits, neg_mI, nI_add, pk_mul, nI_clamp, nI_eq, nI_leI, nI_ltI, nm_eq, mn_eq, nm_lt, mn_lt, nm_le, mn_le, m_eq, bI_0, bI_1, km, e, d_239, rg_t hm (show 61 < 2 ^ 31 by omega), e38, e233, s230, s_185]
end OP3
