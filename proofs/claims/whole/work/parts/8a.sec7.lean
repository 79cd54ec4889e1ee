section SEC7
variable {z : Nat} {E : aEt} {n : Nat} {K N : Nat → Nat} {R : Nat → Nat → Option Nat} {I : Nat → Nat → Int32} {J : Nat → Nat → Int64} {lx : List Value → aH → aO} {p s f : Nat} {F : Nat → Nat → Nat} {ρ : Nat → Nat} {I' : Nat → Nat → Int32}
theorem nI_un (x : Int32) : nI x.toBitVec.toNat = x := by
  rw [← Int32.toBitVec_inj]
  show BitVec.ofNat 32 x.toBitVec.toNat = x.toBitVec
  simp
theorem MQ_y {t : Nat} {I1 Ic : Nat → Nat → Int32} {T : Nat → Nat} {v : Int32} (m : MFt (u2 I 132 0 (nI 0)) I1 F) (hy : YY I1 Ic T v) : MQr t I (u2 (u2 Ic 132 1 (nI t)) 132 2 (mI 1)) :=
  MQ_f m (fun a h1 h2 => hy.2.2.1 a h1 (fun e => h2 (by unfold scM; omega)) (fun e => h2 (by unfold scM; omega))) (fun k _ _ k3 => hy.2.2.2 k k3)
theorem o_142 (h : CW K N R I J p s F ρ) (hS : CSc I F) (m : Int32) : OQ lx z E n K N R I J f F ρ 142 290 [.int m] := by
  have h0 : CW K N R (u2 I 0 11 (nI 0)) J p s F ρ := CW_u h
  have e66 := c_166 (lx := lx) m
  obtain ⟨hL, ⟨hW15, hW19, hP, hPs, hps, _⟩, h10, hF, hO, hR, hρ, _, h16⟩ := h
  have hL' := hL
  unfold CL at hL'
  have k0 : K 0 = 9 := by simp [hL']
  have r6 : R 0 6 = some 108 := by simp [hL']
  have rp : R 0 8 = some p := by simp [hL']
  have k4 : K 108 = 4 := by simp [hL']
  have t1 : nI 1 = bI true := rfl
  have fl := fct_l F
  have qc : ∀ v, u2 I 0 11 v 108 2 = nI (fct F) := fun v => by rw [u2_a _ _ _ _ _ (by decide)]; exact hS.1
  rcases rg_i m (n := 61) (by omega) with c | ⟨q, hq, eq⟩
  · have c161 := c_161 (lx := lx) (z := z) (E := E) (n := n) (N := N) (R := R) (I := I) (J := J) k0 true false
    rw [← t1] at c161
    rw [c] at e66
    refine ⟨2, mI 1, by decide, by decide, ⟨_, _, ?_, CQ_u⟩, fun I2 J2 hM => ⟨_, ?_, MQ_1⟩⟩
    · rw [f_142]
      simp [k_St, n_St, i_St, j_St, r_St, wI_St, wJ_St, k_S0, n_S0, i_S0, j_S0, r_S0, wI_S0, wJ_S0, cI_s, cJ_s, cV_s, nR_s, nQ_s, nQ_n, lt_s_, gd_T, gd_t, Option.map_some, lits, neg_mI, nI_add, pk_mul, nI_clamp, nI_eq, nI_leI, nI_ltI, nm_eq, mn_eq, nm_lt, mn_lt, nm_le, mn_le, m_eq, bI_0, bI_1, k0, h10, e66, c161]
    · rw [f_290]
      have km := hM.1.1.1
      have rf := hM.1.2.2.1
      have e39 := d_239 (lx := lx) true m
      rw [c, ← t1] at e39
      simp (disch := first | assumption | omega) [k_St, n_St, i_St, j_St, r_St, wI_St, wJ_St, k_S0, n_S0, i_S0, j_S0, r_S0, wI_S0, wJ_S0, cI_s, cJ_s, cV_s, nR_s, nQ_s, nQ_n, lt_s_, gd_T, gd_t, Option.map_some, lits, neg_mI, nI_add, pk_mul, nI_clamp, nI_eq, nI_leI, nI_ltI, nm_eq, mn_eq, nm_lt, mn_lt, nm_le, mn_le, m_eq, bI_0, bI_1, if_neg, km, rf, e_290_11, e39, d_182]
  · subst eq
    have c161 := c_161 (lx := lx) (z := z) (E := E) (n := n) (N := N) (R := R) (I := I) (J := J) k0 true true
    rw [← t1] at c161
    rw [rg_t hq (by omega), ← t1] at e66
    have hwl : F 0 6 < 64 := isS_lt hO.2.2.2.2.2.2.2.2.2.2.1
    have bl := bdF_s F (TA F q) hO.2.2.2.2.2.2.2.2.2.2.1 64 (Nat.le_refl _) hwl
    have mod : ∀ I2 J2, MV K N R I2 f F ρ → MA lx z E n K N R I2 J2 290 [.int (nI q)] 0 (.int (if fct F = 0 then mI 2 else nI (whl (bdF F (TA F q) 64).1))) := by
      intro I2 J2 hM
      have hM0 := MV_0 hM
      obtain ⟨I1, Ic, e1, m1, hy⟩ := d_289 (lx := lx) (z := z) (E := E) (n := n) (J := J2) hM0.1 (show q ≤ 60 by omega)
      refine ⟨_, ?_, MQ_y (t := 0) m1 hy⟩
      have e39 := d_239 (lx := lx) true (nI q)
      rw [rg_t hq (by omega), ← t1] at e39
      have rf := hM.1.2.2.1
      have km := hM.1.1.1
      rw [f_290]
      by_cases c0 : fct F = 0
      · rw [if_pos c0] at e1
        simp (disch := first | assumption | omega) [k_St, n_St, i_St, j_St, r_St, wI_St, wJ_St, k_S0, n_S0, i_S0, j_S0, r_S0, wI_S0, wJ_S0, cI_s, cJ_s, cV_s, nR_s, nQ_s, nQ_n, lt_s_, gd_T, gd_t, Option.map_some, lits, neg_mI, nI_add, pk_mul, nI_clamp, nI_eq, nI_leI, nI_ltI, nm_eq, mn_eq, nm_lt, mn_lt, nm_le, mn_le, m_eq, bI_0, bI_1, km, rf, e_290_11, e39, e1, c0, e_290_33, s_185]
      · rw [if_neg c0] at e1
        have mo : moI (bdF F (TA F q) 64).1 = nI (bdF F (TA F q) 64).1 := by unfold moI; rw [if_neg (by omega)]
        rw [mo] at e1
        simp (disch := first | assumption | omega) [k_St, n_St, i_St, j_St, r_St, wI_St, wJ_St, k_S0, n_S0, i_S0, j_S0, r_S0, wI_S0, wJ_S0, cI_s, cJ_s, cV_s, nR_s, nQ_s, nQ_n, lt_s_, gd_T, gd_t, Option.map_some, lits, neg_mI, nI_add, pk_mul, nI_clamp, nI_eq, nI_leI, nI_ltI, nm_eq, mn_eq, nm_lt, mn_lt, nm_le, mn_le, m_eq, bI_0, bI_1, km, rf, e_290_11, e39, e1, c0, s_230 bl, e_290_33, s_185]
    by_cases c0 : fct F = 0
    · refine ⟨0, mI 2, by decide, by decide, ⟨_, _, ?_, CQ_u⟩, fun I2 J2 hM => ?_⟩
      · rw [f_142]
        have qc0 := qc (nI 0)
        rw [c0] at qc0
        simp (disch := first | assumption | omega) [k_St, n_St, i_St, j_St, r_St, wI_St, wJ_St, k_S0, n_S0, i_S0, j_S0, r_S0, wI_S0, wJ_S0, cI_s, cJ_s, cV_s, nR_s, nQ_s, nQ_n, lt_s_, gd_T, gd_t, Option.map_some, lits, neg_mI, nI_add, pk_mul, nI_clamp, nI_eq, nI_leI, nI_ltI, nm_eq, mn_eq, nm_lt, mn_lt, nm_le, mn_le, m_eq, bI_0, bI_1, k0, h10, e66, c161, r6, k4, qc0]
      · have := mod I2 J2 hM
        rw [if_pos c0] at this; exact this
    · have e65 := c_65 (lx := lx) (z := z) (E := E) (n := n) hL hP h0.2.2.2.1 hO (CSc_u hS) (by omega) (show q ≤ 60 by omega)
      have gg : pr (pr (u2 I 0 11 (nI 0)) 111 64 (TA F q)) 112 15 (fun k => (u2 I 0 11 (nI 0) 112 k).toBitVec.toNat) = pr (u2 I 0 11 (nI 0)) 111 64 (TA F q) := pr_i (fun k hk => by rw [pr_n (by decide), nI_un])
      obtain ⟨g', e68⟩ := c_68 (lx := lx) (z := z) (E := E) (n := n) (T := TA F q) hL hP h0.2.2.2.1 (by omega) (TA_le F q) (fun k => (u2 I 0 11 (nI 0) 112 k).toBitVec.toNat)
      rw [gg, oI_lt bl] at e68
      refine ⟨0, nI (whl (bdF F (TA F q) 64).1), by decide, by decide, ⟨_, _, ?_, CQ_tt (T := TA F q) (g := g')⟩, fun I2 J2 hM => ?_⟩
      · rw [f_142]
        simp (disch := first | assumption | omega) [k_St, n_St, i_St, j_St, r_St, wI_St, wJ_St, k_S0, n_S0, i_S0, j_S0, r_S0, wI_S0, wJ_S0, cI_s, cJ_s, cV_s, nR_s, nQ_s, nQ_n, lt_s_, gd_T, gd_t, Option.map_some, lits, neg_mI, nI_add, pk_mul, nI_clamp, nI_eq, nI_leI, nI_ltI, nm_eq, mn_eq, nm_lt, mn_lt, nm_le, mn_le, m_eq, bI_0, bI_1, k0, h10, e66, c161, r6, k4, qc, c0, rp, e65, e68, s_3 bl]
      · have := mod I2 J2 hM
        rw [if_neg c0] at this; exact this
theorem o_143 (h : CW K N R I J p s F ρ) (hS : CSc I F) (m : Int32) : OQ lx z E n K N R I J f F ρ 143 291 [.int m] := by
  have h0 : CW K N R (u2 I 0 11 (nI 0)) J p s F ρ := CW_u h
  have e66 := c_166 (lx := lx) m
  obtain ⟨hL, ⟨hW15, hW19, hP, hPs, hps, _⟩, h10, hF, hO, hR, hρ, _, h16⟩ := h
  have hL' := hL
  unfold CL at hL'
  have k0 : K 0 = 9 := by simp [hL']
  have r6 : R 0 6 = some 108 := by simp [hL']
  have rp : R 0 8 = some p := by simp [hL']
  have k4 : K 108 = 4 := by simp [hL']
  have t1 : nI 1 = bI true := rfl
  have fl := fct_l F
  have qc : ∀ v, u2 I 0 11 v 108 2 = nI (fct F) := fun v => by rw [u2_a _ _ _ _ _ (by decide)]; exact hS.1
  rcases rg_i m (n := 61) (by omega) with c | ⟨q, hq, eq⟩
  · have c161 := c_161 (lx := lx) (z := z) (E := E) (n := n) (N := N) (R := R) (I := I) (J := J) k0 true false
    rw [← t1] at c161
    rw [c] at e66
    refine ⟨2, mI 1, by decide, by decide, ⟨_, _, ?_, CQ_u⟩, fun I2 J2 hM => ⟨_, ?_, MQ_1⟩⟩
    · rw [f_143]
      simp [k_St, n_St, i_St, j_St, r_St, wI_St, wJ_St, k_S0, n_S0, i_S0, j_S0, r_S0, wI_S0, wJ_S0, cI_s, cJ_s, cV_s, nR_s, nQ_s, nQ_n, lt_s_, gd_T, gd_t, Option.map_some, lits, neg_mI, nI_add, pk_mul, nI_clamp, nI_eq, nI_leI, nI_ltI, nm_eq, mn_eq, nm_lt, mn_lt, nm_le, mn_le, m_eq, bI_0, bI_1, k0, h10, e66, c161]
    · rw [f_291]
      have km := hM.1.1.1
      have rf := hM.1.2.2.1
      have e39 := d_239 (lx := lx) true m
      rw [c, ← t1] at e39
      simp (disch := first | assumption | omega) [k_St, n_St, i_St, j_St, r_St, wI_St, wJ_St, k_S0, n_S0, i_S0, j_S0, r_S0, wI_S0, wJ_S0, cI_s, cJ_s, cV_s, nR_s, nQ_s, nQ_n, lt_s_, gd_T, gd_t, Option.map_some, lits, neg_mI, nI_add, pk_mul, nI_clamp, nI_eq, nI_leI, nI_ltI, nm_eq, mn_eq, nm_lt, mn_lt, nm_le, mn_le, m_eq, bI_0, bI_1, if_neg, km, rf, e_291_11, e39, d_182]
  · subst eq
    have c161 := c_161 (lx := lx) (z := z) (E := E) (n := n) (N := N) (R := R) (I := I) (J := J) k0 true true
    rw [← t1] at c161
    rw [rg_t hq (by omega), ← t1] at e66
    have hwl : F 0 6 < 64 := isS_lt hO.2.2.2.2.2.2.2.2.2.2.1
    have bl := bdF_s F (TA F q) hO.2.2.2.2.2.2.2.2.2.2.1 64 (Nat.le_refl _) hwl
    have b2 : (bdF F (TA F q) 64).2 = lvA (TA F q) (bdF F (TA F q) 64).1 := by
      rcases bdF_l F (TA F q) 64 (Nat.le_refl _) with e | e
      · omega
      · exact e.2
    have mod : ∀ I2 J2, MV K N R I2 f F ρ → MA lx z E n K N R I2 J2 291 [.int (nI q)] 0 (.int (if fct F = 0 then mI 2 else nI (bdF F (TA F q) 64).2)) := by
      intro I2 J2 hM
      have hM0 := MV_0 hM
      obtain ⟨I1, Ic, e1, m1, hy⟩ := d_289 (lx := lx) (z := z) (E := E) (n := n) (J := J2) hM0.1 (show q ≤ 60 by omega)
      refine ⟨_, ?_, MQ_y (t := 0) m1 hy⟩
      have e39 := d_239 (lx := lx) true (nI q)
      rw [rg_t hq (by omega), ← t1] at e39
      have rf := hM.1.2.2.1
      have km := hM.1.1.1
      have y2 := hy.2.1
      have mv : moV (bdF F (TA F q) 64) = nI (bdF F (TA F q) 64).2 := by unfold moV; rw [if_neg (by omega)]
      rw [mv] at y2
      rw [f_291]
      simp (disch := first | assumption | omega) [k_St, n_St, i_St, j_St, r_St, wI_St, wJ_St, k_S0, n_S0, i_S0, j_S0, r_S0, wI_S0, wJ_S0, cI_s, cJ_s, cV_s, nR_s, nQ_s, nQ_n, lt_s_, gd_T, gd_t, Option.map_some, lits, neg_mI, nI_add, pk_mul, nI_clamp, nI_eq, nI_leI, nI_ltI, nm_eq, mn_eq, nm_lt, mn_lt, nm_le, mn_le, m_eq, bI_0, bI_1, km, rf, e_291_11, e39, e1, y2, s_185]
    by_cases c0 : fct F = 0
    · refine ⟨0, mI 2, by decide, by decide, ⟨_, _, ?_, CQ_u⟩, fun I2 J2 hM => ?_⟩
      · rw [f_143]
        have qc0 := qc (nI 0)
        rw [c0] at qc0
        simp (disch := first | assumption | omega) [k_St, n_St, i_St, j_St, r_St, wI_St, wJ_St, k_S0, n_S0, i_S0, j_S0, r_S0, wI_S0, wJ_S0, cI_s, cJ_s, cV_s, nR_s, nQ_s, nQ_n, lt_s_, gd_T, gd_t, Option.map_some, lits, neg_mI, nI_add, pk_mul, nI_clamp, nI_eq, nI_leI, nI_ltI, nm_eq, mn_eq, nm_lt, mn_lt, nm_le, mn_le, m_eq, bI_0, bI_1, k0, h10, e66, c161, r6, k4, qc0]
      · have := mod I2 J2 hM
        rw [if_pos c0] at this; exact this
    · have e65 := c_65 (lx := lx) (z := z) (E := E) (n := n) hL hP h0.2.2.2.1 hO (CSc_u hS) (by omega) (show q ≤ 60 by omega)
      have gg : pr (pr (u2 I 0 11 (nI 0)) 111 64 (TA F q)) 112 15 (fun k => (u2 I 0 11 (nI 0) 112 k).toBitVec.toNat) = pr (u2 I 0 11 (nI 0)) 111 64 (TA F q) := pr_i (fun k hk => by rw [pr_n (by decide), nI_un])
      obtain ⟨g', e68⟩ := c_68 (lx := lx) (z := z) (E := E) (n := n) (T := TA F q) hL hP h0.2.2.2.1 (by omega) (TA_le F q) (fun k => (u2 I 0 11 (nI 0) 112 k).toBitVec.toNat)
      rw [gg, oI_lt bl] at e68
      have e69 := c_69 (lx := lx) (z := z) (E := E) (n := n) (N := N) (R := R) (I := u2 I 0 11 (nI 0)) (J := J) (T := TA F q) hL (TA_le F q) bl g'
      rw [← b2] at e69
      refine ⟨0, nI (bdF F (TA F q) 64).2, by decide, by decide, ⟨_, _, ?_, CQ_tt (T := TA F q) (g := bfA (TA F q) (bdF F (TA F q) 64).1 64)⟩, fun I2 J2 hM => ?_⟩
      · rw [f_143]
        simp (disch := first | assumption | omega) [k_St, n_St, i_St, j_St, r_St, wI_St, wJ_St, k_S0, n_S0, i_S0, j_S0, r_S0, wI_S0, wJ_S0, cI_s, cJ_s, cV_s, nR_s, nQ_s, nQ_n, lt_s_, gd_T, gd_t, Option.map_some, lits, neg_mI, nI_add, pk_mul, nI_clamp, nI_eq, nI_leI, nI_ltI, nm_eq, mn_eq, nm_lt, mn_lt, nm_le, mn_le, m_eq, bI_0, bI_1, k0, h10, e66, c161, r6, k4, qc, c0, rp, e65, e68, e69]
      · have := mod I2 J2 hM
        rw [if_neg c0] at this; exact this
theorem o_144 (h : CW K N R I J p s F ρ) (hS : CSc I F) (x y : Int32) : OQ lx z E n K N R I J f F ρ 144 292 [.int x, .int y] := by
  have hC := h
  have h0 : CW K N R (u2 I 0 11 (nI 0)) J p s F ρ := CW_u h
  have e62 := c_162 (lx := lx) (z := z) (E := E) (n := n) h x
  have e64 := c_164 (lx := lx) (z := z) (E := E) (n := n) (N := N) (R := R) (J := J) h.1 hS y
  obtain ⟨hL, ⟨hW15, hW19, hP, hPs, hps, _⟩, h10, hF, hO, hR, hρ, _, h16⟩ := h
  have hL' := hL
  unfold CL at hL'
  have k0 : K 0 = 9 := by simp [hL']
  have r1 : R 0 1 = some 15 := by simp [hL']
  have r4 : R 0 4 = some 102 := by simp [hL']
  have r6 : R 0 6 = some 108 := by simp [hL']
  have rp : R 0 8 = some p := by simp [hL']
  have k4 : K 108 = 4 := by simp [hL']
  have k7 : K 102 = 7 := by simp [hL']
  have kp := hP.1
  have k15 := hW15.1
  have o8 : F 0 8 ≤ 4 := hO.2.2.2.2.2.2.2.2.2.2.2.2.1
  have fl := fct_l F
  by_cases hb : rg x (F 0 8) = true ∧ rg y (fct F) = true
  · obtain ⟨g, hg, eg⟩ := nI_m0 hb.1 (by omega)
    obtain ⟨q, hq, eq⟩ := nI_m0 hb.2 (by omega)
    subst eg eq
    rw [hb.1] at e62
    rw [hb.2] at e64
    have e100 := s_100 (lx := lx) (z := z) (E := E) (n := n) hP h0.2.2.2.1 hW15 h0.2.2.2.2.2.1 hO (ROk_a hρ) hg
    have pS := plc_S hO (ROk_a hρ) hg
    have l := isS_lt pS
    obtain ⟨D, sq, e88, da, db⟩ := c_88 (lx := lx) (z := z) (E := E) (n := n) (O := opn F ρ false) (x := J p 10) (fr := plc F ρ g) h0 (fun c hc => by rw [opn_f]; exact hF.2.2.2.2.2.2.2 c hc) (fun c hc => opn_S hc) l
    obtain ⟨hF1, _⟩ := way_P (D := D) h0 (sto sq)
    have hS1 : CSc (pl (u2 I 0 11 (nI 0)) D) F := ⟨by rw [pl_n (by decide)]; exact (CSc_u hS).1, fun k hk => by rw [pl_n (by decide), pl_n (by decide)]; exact (CSc_u hS).2 k hk⟩
    have st : ∀ m, m ≤ 60 → Am lx 144 36 [some (.ref z), none, some (.int (nI q)), some (.int (nI m)), none] [] (0, 0) (St z E n K N R (pl (u2 I 0 11 (nI 0)) D) (u2 J 102 1 (sto sq))) = if D (pkA F m q) ≤ m then some (some (.int (nI m)), St z E n K N R (pl (u2 I 0 11 (nI 0)) D) (u2 J 102 1 (sto sq))) else Am lx 144 36 [some (.ref z), none, some (.int (nI q)), some (.int (nI (m + 1))), none] [] (0, 0) (St z E n K N R (pl (u2 I 0 11 (nI 0)) D) (u2 J 102 1 (sto sq))) := by
      intro m hm
      have e6 := s_64 (lx := lx) (z := z) (E := E) (n := n) hL hP hF1 hO hS1 hq hm
      have pl1 := isS_lt (pk_S (m := m) hq)
      have e91 := c_91 (lx := lx) (z := z) (E := E) (n := n) (N := N) (R := R) (I := u2 I 0 11 (nI 0)) (J := u2 J 102 1 (sto sq)) (D := D) hL pl1
      have dl := ways_le da db pl1
      rw [e_144_36]
      by_cases c1 : D (pkA F m q) = 9999
      · have l1 : leI (D (pkA F m q)) = mI 2 := by unfold leI; rw [if_pos c1]
        rw [l1] at e91
        have c2 : ¬ D (pkA F m q) ≤ m := by omega
        simp (disch := first | assumption | omega) [k_St, n_St, i_St, j_St, r_St, wI_St, wJ_St, k_S0, n_S0, i_S0, j_S0, r_S0, wI_S0, wJ_S0, cI_s, cJ_s, cV_s, nR_s, nQ_s, nQ_n, lt_s_, gd_T, gd_t, Option.map_some, lits, neg_mI, nI_add, pk_mul, nI_clamp, nI_eq, nI_leI, nI_ltI, nm_eq, mn_eq, nm_lt, mn_lt, nm_le, mn_le, m_eq, bI_0, bI_1, if_neg, k0, r4, r6, rp, k4, e6, k7, e91, c2]
      · have l1 : leI (D (pkA F m q)) = nI (D (pkA F m q)) := by unfold leI; rw [if_neg c1]
        rw [l1] at e91
        by_cases c2 : D (pkA F m q) ≤ m
        · simp (disch := first | assumption | omega) [k_St, n_St, i_St, j_St, r_St, wI_St, wJ_St, k_S0, n_S0, i_S0, j_S0, r_S0, wI_S0, wJ_S0, cI_s, cJ_s, cV_s, nR_s, nQ_s, nQ_n, lt_s_, gd_T, gd_t, Option.map_some, lits, neg_mI, nI_add, pk_mul, nI_clamp, nI_eq, nI_leI, nI_ltI, nm_eq, mn_eq, nm_lt, mn_lt, nm_le, mn_le, m_eq, bI_0, bI_1, if_neg, k0, r4, r6, rp, k4, e6, k7, e91, c2]
        · simp (disch := first | assumption | omega) [k_St, n_St, i_St, j_St, r_St, wI_St, wJ_St, k_S0, n_S0, i_S0, j_S0, r_S0, wI_S0, wJ_S0, cI_s, cJ_s, cV_s, nR_s, nQ_s, nQ_n, lt_s_, gd_T, gd_t, Option.map_some, lits, neg_mI, nI_add, pk_mul, nI_clamp, nI_eq, nI_leI, nI_ltI, nm_eq, mn_eq, nm_lt, mn_lt, nm_le, mn_le, m_eq, bI_0, bI_1, if_neg, if_pos, k0, r4, r6, rp, k4, e6, k7, e91, c2]
    have fa1 := fa_l hq
    have mod : ∀ I2 J2, MV K N R I2 f F ρ → ∀ v, v = ef (fnd (fun i => decide (D (pkA F i q) ≤ i)) 61) → MA lx z E n K N R I2 J2 292 [.int (nI g), .int (nI q)] 0 (.int v) := by
      intro I2 J2 hM v hv
      have hM0 := MV_0 hM
      obtain ⟨I1, e1, m1⟩ := d_283 (lx := lx) (z := z) (E := E) (n := n) (J := J2) hM0.1 (nI q)
      rw [hb.2, nI_clamp (by omega)] at e1
      have md1 := MFt_D hM0.1 m1
      have v1 : ∀ k, k < 145 → I1 134 k = nI (ρ k) := fun k hk => by rw [m1.2.2.1 134 (by decide) (by decide)]; exact hM0.2.1 k hk
      have e27 := d_227 (lx := lx) (z := z) (E := E) (n := n) (J := J2) md1 (nI g)
      rw [hb.1] at e27
      have e231 := s_231 (lx := lx) (z := z) (E := E) (n := n) (J := J2) md1 v1
      have e233 := s_233 (lx := lx) (z := z) (E := E) (n := n) (J := J2) md1 (ROk_a hρ) hg
      have hMp := MD_p (ρ := ρ) (m := 145) md1 (show 135 < 147 by decide)
      have hvp : ∀ k, k < 145 → pr I1 135 145 ρ 134 k = nI (ρ k) := fun k hk => by rw [pr_n (by decide)]; exact v1 k hk
      obtain ⟨D', e260, da', db'⟩ := d_260 (lx := lx) (z := z) (E := E) (n := n) (J := J2) hMp hρ hvp false l (isS_in pS)
      rw [bf_] at e260
      have hMq : MD K N R (pr (pr (pr I1 135 145 ρ) 138 64 D') 135 145 ρ) f F := MD_p (MD_p hMp (by decide)) (by decide)
      refine ⟨_, ?_, MQ_f (t := 0) (I2 := pr (pr (pr I1 135 145 ρ) 138 64 D') 135 145 ρ) m1 (fun a _ h2 => by rw [pr_n (fun e => h2 (by unfold scM; omega)), pr_n (fun e => h2 (by unfold scM; omega)), pr_n (fun e => h2 (by unfold scM; omega))]) (fun k _ _ _ => by rw [pr_n (by decide), pr_n (by decide), pr_n (by decide)])⟩
      obtain ⟨km, _, _, _, _, _, r22, _, _, _, _, _, _, _, _, _, _, _, _, k138, _, _, _, _, _, _, _, _, _, _, _, _, n138, _⟩ := hM.1.1
      have sm : ∀ m, m ≤ 60 → Am lx 292 30 [some (.ref (z + 132)), none, none, some (.int (nI (fa F 320 q))), some (.int (nI m))] [] (0, 0) (St z E n K N R (pr (pr (pr I1 135 145 ρ) 138 64 D') 135 145 ρ) J2) = if D (pkA F m q) ≤ m then some (some (.int (nI m)), St z E n K N R (u2 (u2 (pr (pr (pr I1 135 145 ρ) 138 64 D') 135 145 ρ) 132 1 (nI 0)) 132 2 (mI 1)) J2) else Am lx 292 30 [some (.ref (z + 132)), none, none, some (.int (nI (fa F 320 q))), some (.int (nI (m + 1)))] [] (0, 0) (St z E n K N R (pr (pr (pr I1 135 145 ρ) 138 64 D') 135 145 ρ) J2) := by
        intro m hm
        have e79 := s_279 (lx := lx) (z := z) (E := E) (n := n) (J := J2) hMq fa1.1 fa1.2 hm
        have pe : stp F (fa F 320 q % 5) (m / F 0 2) (fa F 320 q / 5) = pkA F m q := rfl
        rw [pe] at e79
        have pl1 := isS_lt (pk_S (m := m) hq)
        have x1 : pr (pr (pr I1 135 145 ρ) 138 64 D') 135 145 ρ 138 (pkA F m q) = nI (D (pkA F m q)) := by
          rw [pr_n (by decide), pr_s pl1, ways_eq da db da' db' pl1]
        have dl := ways_le da db pl1
        rw [e_292_30]
        by_cases c2 : D (pkA F m q) ≤ m
        · simp (disch := first | assumption | omega) [k_St, n_St, i_St, j_St, r_St, wI_St, wJ_St, k_S0, n_S0, i_S0, j_S0, r_S0, wI_S0, wJ_S0, cI_s, cJ_s, cV_s, nR_s, nQ_s, nQ_n, lt_s_, gd_T, gd_t, Option.map_some, lits, neg_mI, nI_add, pk_mul, nI_clamp, nI_eq, nI_leI, nI_ltI, nm_eq, mn_eq, nm_lt, mn_lt, nm_le, mn_le, m_eq, bI_0, bI_1, if_neg, km, r22, e79, k138, n138, x1, c2, s_185]
        · simp (disch := first | assumption | omega) [k_St, n_St, i_St, j_St, r_St, wI_St, wJ_St, k_S0, n_S0, i_S0, j_S0, r_S0, wI_S0, wJ_S0, cI_s, cJ_s, cV_s, nR_s, nQ_s, nQ_n, lt_s_, gd_T, gd_t, Option.map_some, lits, neg_mI, nI_add, pk_mul, nI_clamp, nI_eq, nI_leI, nI_ltI, nm_eq, mn_eq, nm_lt, mn_lt, nm_le, mn_le, m_eq, bI_0, bI_1, if_neg, if_pos, km, r22, e79, k138, n138, x1, c2]
      have e27' : fa F 320 q < 2 ^ 31 := by omega
      rw [f_292, hv]
      rcases first_ (fun i => decide (D (pkA F i q) ≤ i)) 61 with hf | ⟨m, hm, c1, c2⟩
      · have L := loopN (X := fun m => Am lx 292 30 [some (.ref (z + 132)), none, none, some (.int (nI (fa F 320 q))), some (.int (nI m))] [] (0, 0) (St z E n K N R (pr (pr (pr I1 135 145 ρ) 138 64 D') 135 145 ρ) J2)) (n := 61) (by
          intro m hm
          try simp only
          rw [sm m (by omega), if_neg (by simpa using hf m hm)])
        try simp only at L
        rw [fnd_n hf]
        simp (disch := first | assumption | omega) [k_St, n_St, i_St, j_St, r_St, wI_St, wJ_St, k_S0, n_S0, i_S0, j_S0, r_S0, wI_S0, wJ_S0, cI_s, cJ_s, cV_s, nR_s, nQ_s, nQ_n, lt_s_, gd_T, gd_t, Option.map_some, lits, neg_mI, nI_add, pk_mul, nI_clamp, nI_eq, nI_leI, nI_ltI, nm_eq, mn_eq, nm_lt, mn_lt, nm_le, mn_le, m_eq, bI_0, bI_1, km, e1, e27, e231, e233, e260, L]
        rw [e_292_30]
        simp (disch := first | assumption | omega) [k_St, n_St, i_St, j_St, r_St, wI_St, wJ_St, k_S0, n_S0, i_S0, j_S0, r_S0, wI_S0, wJ_S0, cI_s, cJ_s, cV_s, nR_s, nQ_s, nQ_n, lt_s_, gd_T, gd_t, Option.map_some, lits, neg_mI, nI_add, pk_mul, nI_clamp, nI_eq, nI_leI, nI_ltI, nm_eq, mn_eq, nm_lt, mn_lt, nm_le, mn_le, m_eq, bI_0, bI_1, if_pos, km, s_185]
        rfl
      · have L := loopN (X := fun m => Am lx 292 30 [some (.ref (z + 132)), none, none, some (.int (nI (fa F 320 q))), some (.int (nI m))] [] (0, 0) (St z E n K N R (pr (pr (pr I1 135 145 ρ) 138 64 D') 135 145 ρ) J2)) (n := m) (by
          intro i hi
          try simp only
          rw [sm i (by omega), if_neg (by simpa using c2 i hi)])
        try simp only at L
        rw [fnd_m (Q := fun i => decide (D (pkA F i q) ≤ i)) c1 c2 hm, ef_m (by omega)]
        simp (disch := first | assumption | omega) [k_St, n_St, i_St, j_St, r_St, wI_St, wJ_St, k_S0, n_S0, i_S0, j_S0, r_S0, wI_S0, wJ_S0, cI_s, cJ_s, cV_s, nR_s, nQ_s, nQ_n, lt_s_, gd_T, gd_t, Option.map_some, lits, neg_mI, nI_add, pk_mul, nI_clamp, nI_eq, nI_leI, nI_ltI, nm_eq, mn_eq, nm_lt, mn_lt, nm_le, mn_le, m_eq, bI_0, bI_1, km, e1, e27, e231, e233, e260, L]
        rw [sm m (by omega), if_pos (by simpa using c1)]
    refine ⟨0, ef (fnd (fun i => decide (D (pkA F i q) ≤ i)) 61), by decide, by decide, ⟨_, _, ?_, CQ_l (D := D) (q := sto sq)⟩, fun I2 J2 hM => mod I2 J2 hM _ rfl⟩
    rw [f_144]
    rcases first_ (fun i => decide (D (pkA F i q) ≤ i)) 61 with hf | ⟨m, hm, c1, c2⟩
    · have L := loopN (X := fun m => Am lx 144 36 [some (.ref z), none, some (.int (nI q)), some (.int (nI m)), none] [] (0, 0) (St z E n K N R (pl (u2 I 0 11 (nI 0)) D) (u2 J 102 1 (sto sq)))) (n := 61) (by
        intro m hm
        try simp only
        rw [st m (by omega), if_neg (by simpa using hf m hm)])
      try simp only at L
      rw [fnd_n hf]
      simp (disch := first | assumption | omega) [k_St, n_St, i_St, j_St, r_St, wI_St, wJ_St, k_S0, n_S0, i_S0, j_S0, r_S0, wI_S0, wJ_S0, cI_s, cJ_s, cV_s, nR_s, nQ_s, nQ_n, lt_s_, gd_T, gd_t, Option.map_some, lits, neg_mI, nI_add, pk_mul, nI_clamp, nI_eq, nI_leI, nI_ltI, nm_eq, mn_eq, nm_lt, mn_lt, nm_le, mn_le, m_eq, bI_0, bI_1, k0, e62, e64, e_144_13, c_160t, r4, r1, rp, k15, e100, kp, k7, e88, L]
      rw [e_144_36]
      simp (disch := first | assumption | omega) [k_St, n_St, i_St, j_St, r_St, wI_St, wJ_St, k_S0, n_S0, i_S0, j_S0, r_S0, wI_S0, wJ_S0, cI_s, cJ_s, cV_s, nR_s, nQ_s, nQ_n, lt_s_, gd_T, gd_t, Option.map_some, lits, neg_mI, nI_add, pk_mul, nI_clamp, nI_eq, nI_leI, nI_ltI, nm_eq, mn_eq, nm_lt, mn_lt, nm_le, mn_le, m_eq, bI_0, bI_1, if_pos]
      rfl
    · have L := loopN (X := fun m => Am lx 144 36 [some (.ref z), none, some (.int (nI q)), some (.int (nI m)), none] [] (0, 0) (St z E n K N R (pl (u2 I 0 11 (nI 0)) D) (u2 J 102 1 (sto sq)))) (n := m) (by
        intro i hi
        try simp only
        rw [st i (by omega), if_neg (by simpa using c2 i hi)])
      try simp only at L
      rw [fnd_m (Q := fun i => decide (D (pkA F i q) ≤ i)) c1 c2 hm, ef_m (by omega)]
      simp (disch := first | assumption | omega) [k_St, n_St, i_St, j_St, r_St, wI_St, wJ_St, k_S0, n_S0, i_S0, j_S0, r_S0, wI_S0, wJ_S0, cI_s, cJ_s, cV_s, nR_s, nQ_s, nQ_n, lt_s_, gd_T, gd_t, Option.map_some, lits, neg_mI, nI_add, pk_mul, nI_clamp, nI_eq, nI_leI, nI_ltI, nm_eq, mn_eq, nm_lt, mn_lt, nm_le, mn_le, m_eq, bI_0, bI_1, k0, e62, e64, e_144_13, c_160t, r4, r1, rp, k15, e100, kp, k7, e88, L]
      rw [st m (by omega), if_pos (by simpa using c1)]
  · refine ⟨1, mI 1, by decide, by decide, ⟨_, _, ?_, CQ_u⟩, fun I2 J2 hM => ?_⟩
    · rw [f_144]
      cases c1 : rg x (F 0 8)
      · rw [c1] at e62
        simp [k_St, n_St, i_St, j_St, r_St, wI_St, wJ_St, k_S0, n_S0, i_S0, j_S0, r_S0, wI_S0, wJ_S0, cI_s, cJ_s, cV_s, nR_s, nQ_s, nQ_n, lt_s_, gd_T, gd_t, Option.map_some, lits, neg_mI, nI_add, pk_mul, nI_clamp, nI_eq, nI_leI, nI_ltI, nm_eq, mn_eq, nm_lt, mn_lt, nm_le, mn_le, m_eq, bI_0, bI_1, k0, e62, e_144_13, c_160f]
      · cases c2 : rg y (fct F)
        · rw [c1] at e62
          rw [c2] at e64
          simp [k_St, n_St, i_St, j_St, r_St, wI_St, wJ_St, k_S0, n_S0, i_S0, j_S0, r_S0, wI_S0, wJ_S0, cI_s, cJ_s, cV_s, nR_s, nQ_s, nQ_n, lt_s_, gd_T, gd_t, Option.map_some, lits, neg_mI, nI_add, pk_mul, nI_clamp, nI_eq, nI_leI, nI_ltI, nm_eq, mn_eq, nm_lt, mn_lt, nm_le, mn_le, m_eq, bI_0, bI_1, k0, e62, e64, e_144_13, c_160f]
        · exact absurd ⟨c1, c2⟩ hb
    · have hM0 := MV_0 hM
      obtain ⟨I1, e1, m1⟩ := d_283 (lx := lx) (z := z) (E := E) (n := n) (J := J2) hM0.1 y
      refine ⟨_, ?_, MQ_f (t := 1) m1 (fun a _ _ => rfl) (fun k _ _ _ => rfl)⟩
      have e27 := d_227 (lx := lx) (z := z) (E := E) (n := n) (J := J2) (MFt_D hM0.1 m1) x
      have km := hM.1.1.1
      rw [f_292]
      cases c1 : rg x (F 0 8)
      · rw [c1] at e27
        simp [k_St, n_St, i_St, j_St, r_St, wI_St, wJ_St, k_S0, n_S0, i_S0, j_S0, r_S0, wI_S0, wJ_S0, cI_s, cJ_s, cV_s, nR_s, nQ_s, nQ_n, lt_s_, gd_T, gd_t, Option.map_some, lits, neg_mI, nI_add, pk_mul, nI_clamp, nI_eq, nI_leI, nI_ltI, nm_eq, mn_eq, nm_lt, mn_lt, nm_le, mn_le, m_eq, bI_0, bI_1, km, e1, e27, e_292_15, d_182]
      · cases c2 : rg y (fct F)
        · rw [c1] at e27
          rw [c2] at e1
          simp [k_St, n_St, i_St, j_St, r_St, wI_St, wJ_St, k_S0, n_S0, i_S0, j_S0, r_S0, wI_S0, wJ_S0, cI_s, cJ_s, cV_s, nR_s, nQ_s, nQ_n, lt_s_, gd_T, gd_t, Option.map_some, lits, neg_mI, nI_add, pk_mul, nI_clamp, nI_eq, nI_leI, nI_ltI, nm_eq, mn_eq, nm_lt, mn_lt, nm_le, mn_le, m_eq, bI_0, bI_1, km, e1, e27, e_292_15, d_182]
        · exact absurd ⟨c1, c2⟩ hb
end SEC7
