section SEC5
variable {z : Nat} {E : aEt} {n : Nat} {K N : Nat → Nat} {R : Nat → Nat → Option Nat} {I : Nat → Nat → Int32} {J : Nat → Nat → Int64} {lx : List Value → aH → aO} {p s f : Nat} {F : Nat → Nat → Nat} {ρ : Nat → Nat} {I' : Nat → Nat → Int32}
theorem CSc_u {v : Int32} (h : CSc I F) : CSc (u2 I 0 11 v) F := ⟨by rw [u2_a _ _ _ _ _ (by decide)]; exact h.1, fun k hk => by rw [u2_a _ _ _ _ _ (by decide), u2_a _ _ _ _ _ (by decide)]; exact h.2 k hk⟩
theorem CQ_t {t : Nat} {T : Nat → Nat} : CQ t I (pr (u2 I 0 11 (nI t)) 111 64 T) J J :=
  CQ_w (fun a ha => ⟨pr_n (fun e => ha (by unfold scC; omega)), rfl⟩)
theorem CQ_tt {t : Nat} {T g : Nat → Nat} : CQ t I (pr (pr (u2 I 0 11 (nI t)) 111 64 T) 112 15 g) J J :=
  CQ_w (fun a ha => ⟨by rw [pr_n (fun e => ha (by unfold scC; omega)), pr_n (fun e => ha (by unfold scC; omega))], rfl⟩)
theorem o_140 (h : CW K N R I J p s F ρ) (hS : CSc I F) (x y m : Int32) : OQ lx z E n K N R I J f F ρ 140 287 [.int x, .int y, .int m] := by
  have h0 : CW K N R (u2 I 0 11 (nI 0)) J p s F ρ := CW_u h
  have e24 := c_24 (lx := lx) (z := z) (E := E) (n := n) h x y
  have e66 := c_166 (lx := lx) m
  obtain ⟨hL, ⟨hW15, hW19, hP, hPs, hps, _⟩, h10, hF, hO, hR, hρ, _, h16⟩ := h
  have hL' := hL
  unfold CL at hL'
  have k0 : K 0 = 9 := by simp [hL']
  have r6 : R 0 6 = some 108 := by simp [hL']
  have rp : R 0 8 = some p := by simp [hL']
  have k4 : K 108 = 4 := by simp [hL']
  have kp := hP.1
  rcases hl_i hO x y with c | ⟨a, b, ha, hb, ea, eb, l, hi, ht⟩
  · rw [c] at e24
    refine ⟨1, mI 1, by decide, by decide, ⟨_, _, ?_, CQ_u⟩, fun I2 J2 hM => ⟨_, ?_, MQ_1⟩⟩
    · rw [f_140]
      simp [k_St, n_St, i_St, j_St, r_St, wI_St, wJ_St, k_S0, n_S0, i_S0, j_S0, r_S0, wI_S0, wJ_S0, cI_s, cJ_s, cV_s, nR_s, nQ_s, nQ_n, lt_s_, gd_T, gd_t, Option.map_some, lits, neg_mI, nI_add, pk_mul, nI_clamp, nI_eq, nI_leI, nI_ltI, nm_eq, mn_eq, nm_lt, mn_lt, nm_le, mn_le, m_eq, bI_0, bI_1, k0, rp, kp, e24, e66, c_161]
    · rw [f_287]
      have e := d_226 (lx := lx) (z := z) (E := E) (n := n) (J := J2) (MV_0 hM).1 x y
      rw [c] at e
      have km := hM.1.1.1
      simp (disch := first | assumption | omega) [k_St, n_St, i_St, j_St, r_St, wI_St, wJ_St, k_S0, n_S0, i_S0, j_S0, r_S0, wI_S0, wJ_S0, cI_s, cJ_s, cV_s, nR_s, nQ_s, nQ_n, lt_s_, gd_T, gd_t, Option.map_some, lits, neg_mI, nI_add, pk_mul, nI_clamp, nI_eq, nI_leI, nI_ltI, nm_eq, mn_eq, nm_lt, mn_lt, nm_le, mn_le, m_eq, bI_0, bI_1, if_neg, km, e, d_239, d_182]
  · rw [ht] at e24
    rcases rg_i m (n := 61) (by omega) with c | ⟨q, hq, eq⟩
    · rw [c] at e66
      refine ⟨2, mI 1, by decide, by decide, ⟨_, _, ?_, CQ_u⟩, fun I2 J2 hM => ⟨_, ?_, MQ_1⟩⟩
      · rw [f_140]
        simp [k_St, n_St, i_St, j_St, r_St, wI_St, wJ_St, k_S0, n_S0, i_S0, j_S0, r_S0, wI_S0, wJ_S0, cI_s, cJ_s, cV_s, nR_s, nQ_s, nQ_n, lt_s_, gd_T, gd_t, Option.map_some, lits, neg_mI, nI_add, pk_mul, nI_clamp, nI_eq, nI_leI, nI_ltI, nm_eq, mn_eq, nm_lt, mn_lt, nm_le, mn_le, m_eq, bI_0, bI_1, k0, rp, kp, e24, e66, c_161]
      · rw [f_287]
        have e := d_226 (lx := lx) (z := z) (E := E) (n := n) (J := J2) (MV_0 hM).1 x y
        rw [ht] at e
        have km := hM.1.1.1
        simp (disch := first | assumption | omega) [k_St, n_St, i_St, j_St, r_St, wI_St, wJ_St, k_S0, n_S0, i_S0, j_S0, r_S0, wI_S0, wJ_S0, cI_s, cJ_s, cV_s, nR_s, nQ_s, nQ_n, lt_s_, gd_T, gd_t, Option.map_some, lits, neg_mI, nI_add, pk_mul, nI_clamp, nI_eq, nI_leI, nI_ltI, nm_eq, mn_eq, nm_lt, mn_lt, nm_le, mn_le, m_eq, bI_0, bI_1, if_neg, km, e, d_239, c, d_182]
    · subst eq
      rw [rg_t hq (by omega)] at e66
      have e65 := c_65 (lx := lx) (z := z) (E := E) (n := n) hL hP h0.2.2.2.1 hO (CSc_u hS) (by omega) (show q ≤ 60 by omega)
      have e6 := c_66 (lx := lx) (z := z) (E := E) (n := n) (N := N) (R := R) (I := u2 I 0 11 (nI 0)) (J := J) (T := TA F q) hL l
      refine ⟨0, nI (TA F q (8 * b + a)), by decide, by decide, ⟨_, _, ?_, CQ_t (T := TA F q)⟩, fun I2 J2 hM => ?_⟩
      · rw [f_140]
        subst ea eb
        simp [k_St, n_St, i_St, j_St, r_St, wI_St, wJ_St, k_S0, n_S0, i_S0, j_S0, r_S0, wI_S0, wJ_S0, cI_s, cJ_s, cV_s, nR_s, nQ_s, nQ_n, lt_s_, gd_T, gd_t, Option.map_some, lits, neg_mI, nI_add, pk_mul, nI_clamp, nI_eq, nI_leI, nI_ltI, nm_eq, mn_eq, nm_lt, mn_lt, nm_le, mn_le, m_eq, bI_0, bI_1, k0, rp, kp, e24, e66, c_161, r6, k4, e65, s_0, e6]
      · have hM0 := MV_0 hM
        obtain ⟨I1, e1, m1⟩ := d_286 (lx := lx) (z := z) (E := E) (n := n) (J := J2) hM0.1 (show q ≤ 60 by omega)
        refine ⟨_, ?_, MQ_f (t := 0) (I2 := pr I1 144 64 (TA F q)) m1 (fun a _ h2 => pr_n (fun e => h2 (by unfold scM; omega))) (fun k _ _ _ => by rw [pr_n (by decide)])⟩
        have e := d_226 (lx := lx) (z := z) (E := E) (n := n) (J := J2) hM0.1 x y
        rw [ht] at e
        obtain ⟨km, _, _, _, _, _, _, _, _, _, _, r28, r29, _, _, _, _, _, _, _, _, _, _, _, k143, k144, _, _, _, _, _, _, _, _, _, _, _, n143, n144, _⟩ := hM.1.1
        rw [f_287]
        subst ea eb
        simp (disch := first | assumption | omega) [k_St, n_St, i_St, j_St, r_St, wI_St, wJ_St, k_S0, n_S0, i_S0, j_S0, r_S0, wI_S0, wJ_S0, cI_s, cJ_s, cV_s, nR_s, nQ_s, nQ_n, lt_s_, gd_T, gd_t, Option.map_some, lits, neg_mI, nI_add, pk_mul, nI_clamp, nI_eq, nI_leI, nI_ltI, nm_eq, mn_eq, nm_lt, mn_lt, nm_le, mn_le, m_eq, bI_0, bI_1, km, e, d_239, rg_t hq (show 61 < 2 ^ 31 by omega), e1, r29, s_229, k144, n144, pr_s, s_185]
theorem o_141 (h : CW K N R I J p s F ρ) (hS : CSc I F) (m : Int32) : OQ lx z E n K N R I J f F ρ 141 288 [.int m] := by
  have h0 : CW K N R (u2 I 0 11 (nI 0)) J p s F ρ := CW_u h
  have e66 := c_166 (lx := lx) m
  obtain ⟨hL, ⟨hW15, hW19, hP, hPs, hps, _⟩, h10, hF, hO, hR, hρ, _, h16⟩ := h
  have hL' := hL
  unfold CL at hL'
  have k0 : K 0 = 9 := by simp [hL']
  have r6 : R 0 6 = some 108 := by simp [hL']
  have rp : R 0 8 = some p := by simp [hL']
  have k4 : K 108 = 4 := by simp [hL']
  have t1 : nI 1 = bI true := rfl
  have fl := fct_l F
  have qc : ∀ v, u2 I 0 11 v 108 2 = nI (fct F) := fun v => by rw [u2_a _ _ _ _ _ (by decide)]; exact hS.1
  rcases rg_i m (n := 61) (by omega) with c | ⟨q, hq, eq⟩
  · have c161 := c_161 (lx := lx) (z := z) (E := E) (n := n) (N := N) (R := R) (I := I) (J := J) k0 true false
    rw [← t1] at c161
    rw [c] at e66
    refine ⟨2, mI 1, by decide, by decide, ⟨_, _, ?_, CQ_u⟩, fun I2 J2 hM => ⟨_, ?_, MQ_1⟩⟩
    · rw [f_141]
      simp [k_St, n_St, i_St, j_St, r_St, wI_St, wJ_St, k_S0, n_S0, i_S0, j_S0, r_S0, wI_S0, wJ_S0, cI_s, cJ_s, cV_s, nR_s, nQ_s, nQ_n, lt_s_, gd_T, gd_t, Option.map_some, lits, neg_mI, nI_add, pk_mul, nI_clamp, nI_eq, nI_leI, nI_ltI, nm_eq, mn_eq, nm_lt, mn_lt, nm_le, mn_le, m_eq, bI_0, bI_1, k0, h10, e66, c161]
    · rw [f_288]
      have km := hM.1.1.1
      have rf := hM.1.2.2.1
      have e39 := d_239 (lx := lx) true m
      rw [c, ← t1] at e39
      simp (disch := first | assumption | omega) [k_St, n_St, i_St, j_St, r_St, wI_St, wJ_St, k_S0, n_S0, i_S0, j_S0, r_S0, wI_S0, wJ_S0, cI_s, cJ_s, cV_s, nR_s, nQ_s, nQ_n, lt_s_, gd_T, gd_t, Option.map_some, lits, neg_mI, nI_add, pk_mul, nI_clamp, nI_eq, nI_leI, nI_ltI, nm_eq, mn_eq, nm_lt, mn_lt, nm_le, mn_le, m_eq, bI_0, bI_1, if_neg, km, rf, e_288_11, e39, d_182]
  · subst eq
    have c161 := c_161 (lx := lx) (z := z) (E := E) (n := n) (N := N) (R := R) (I := I) (J := J) k0 true true
    rw [← t1] at c161
    rw [rg_t hq (by omega), ← t1] at e66
    have fb : fl2 (TA F q) 64 < 64 := by have := fl2_l (TA F q) 64; omega
    have mod : ∀ I2 J2, MV K N R I2 f F ρ → ∃ I1, MFt (u2 I2 132 0 (nI 0)) I1 F ∧ Ca lx 288 [.ref (z + 132), .int (nI q)] (St z E n K N R I2 J2) = some (some (.int (if fct F = 0 then mI 2 else nI (whl (fl2 (TA F q) 64)))), St z E n K N R (u2 (u2 (pr I1 144 64 (TA F q)) 132 1 (nI 0)) 132 2 (mI 1)) J2) := by
      intro I2 J2 hM
      have hM0 := MV_0 hM
      obtain ⟨I1, e1, m1⟩ := d_286 (lx := lx) (z := z) (E := E) (n := n) (J := J2) hM0.1 (show q ≤ 60 by omega)
      refine ⟨I1, m1, ?_⟩
      have e39 := d_239 (lx := lx) true (nI q)
      rw [rg_t hq (by omega), ← t1] at e39
      have rf := hM.1.2.2.1
      obtain ⟨km, _, _, _, _, _, _, _, _, _, _, r28, r29, _, _, _, _, _, _, _, _, _, _, _, k143, k144, _, _, _, _, _, _, _, _, _, _, _, n143, n144, _⟩ := hM.1.1
      have L := loopF (X := fun i => Am lx 288 28 [some (.ref (z + 132)), none, none, some (.int (nI (fl2 (TA F q) i))), some (.int (nI i))] [] (0, 0) (St z E n K N R (pr I1 144 64 (TA F q)) J2)) (m := 1) (n := 64) (by omega) (by
        intro i i1 hi
        try simp only
        rw [e_288_28, fl2]
        have bl : fl2 (TA F q) i < 64 := by have := fl2_l (TA F q) i; omega
        have q1 := TA_le F q i
        have q2 := TA_le F q (fl2 (TA F q) i)
        by_cases c : TA F q (fl2 (TA F q) i) < TA F q i
        · simp (disch := first | assumption | omega) [k_St, n_St, i_St, j_St, r_St, wI_St, wJ_St, k_S0, n_S0, i_S0, j_S0, r_S0, wI_S0, wJ_S0, cI_s, cJ_s, cV_s, nR_s, nQ_s, nQ_n, lt_s_, gd_T, gd_t, Option.map_some, lits, neg_mI, nI_add, pk_mul, nI_clamp, nI_eq, nI_leI, nI_ltI, nm_eq, mn_eq, nm_lt, mn_lt, nm_le, mn_le, m_eq, bI_0, bI_1, if_neg, if_pos, km, r29, k144, n144, pr_s, c]
        · simp (disch := first | assumption | omega) [k_St, n_St, i_St, j_St, r_St, wI_St, wJ_St, k_S0, n_S0, i_S0, j_S0, r_S0, wI_S0, wJ_S0, cI_s, cJ_s, cV_s, nR_s, nQ_s, nQ_n, lt_s_, gd_T, gd_t, Option.map_some, lits, neg_mI, nI_add, pk_mul, nI_clamp, nI_eq, nI_leI, nI_ltI, nm_eq, mn_eq, nm_lt, mn_lt, nm_le, mn_le, m_eq, bI_0, bI_1, if_neg, if_pos, km, r29, k144, n144, pr_s, c])
      try simp only at L
      have f1 : fl2 (TA F q) 1 = 0 := by
        rw [fl2]; split
        · rfl
        · rfl
      rw [f1] at L
      have x31 : pr I1 144 64 (TA F q) 132 31 = nI (fct F) := by rw [pr_n (by decide)]; exact m1.2.1
      rw [f_288]
      simp (disch := first | assumption | omega) [k_St, n_St, i_St, j_St, r_St, wI_St, wJ_St, k_S0, n_S0, i_S0, j_S0, r_S0, wI_S0, wJ_S0, cI_s, cJ_s, cV_s, nR_s, nQ_s, nQ_n, lt_s_, gd_T, gd_t, Option.map_some, lits, neg_mI, nI_add, pk_mul, nI_clamp, nI_eq, nI_leI, nI_ltI, nm_eq, mn_eq, nm_lt, mn_lt, nm_le, mn_le, m_eq, bI_0, bI_1, km, rf, e_288_11, e39, e1, L]
      rw [e_288_28]
      by_cases c0 : fct F = 0
      · rw [c0] at x31
        simp (disch := first | assumption | omega) [k_St, n_St, i_St, j_St, r_St, wI_St, wJ_St, k_S0, n_S0, i_S0, j_S0, r_S0, wI_S0, wJ_S0, cI_s, cJ_s, cV_s, nR_s, nQ_s, nQ_n, lt_s_, gd_T, gd_t, Option.map_some, lits, neg_mI, nI_add, pk_mul, nI_clamp, nI_eq, nI_leI, nI_ltI, nm_eq, mn_eq, nm_lt, mn_lt, nm_le, mn_le, m_eq, bI_0, bI_1, if_pos, km, x31, c0, e_288_53, s_185]
      · simp (disch := first | assumption | omega) [k_St, n_St, i_St, j_St, r_St, wI_St, wJ_St, k_S0, n_S0, i_S0, j_S0, r_S0, wI_S0, wJ_S0, cI_s, cJ_s, cV_s, nR_s, nQ_s, nQ_n, lt_s_, gd_T, gd_t, Option.map_some, lits, neg_mI, nI_add, pk_mul, nI_clamp, nI_eq, nI_leI, nI_ltI, nm_eq, mn_eq, nm_lt, mn_lt, nm_le, mn_le, m_eq, bI_0, bI_1, if_pos, km, x31, c0, s_230 fb, e_288_53, s_185]
    by_cases c0 : fct F = 0
    · refine ⟨0, mI 2, by decide, by decide, ⟨_, _, ?_, CQ_u⟩, fun I2 J2 hM => ?_⟩
      · rw [f_141]
        have qc0 := qc (nI 0)
        rw [c0] at qc0
        simp (disch := first | assumption | omega) [k_St, n_St, i_St, j_St, r_St, wI_St, wJ_St, k_S0, n_S0, i_S0, j_S0, r_S0, wI_S0, wJ_S0, cI_s, cJ_s, cV_s, nR_s, nQ_s, nQ_n, lt_s_, gd_T, gd_t, Option.map_some, lits, neg_mI, nI_add, pk_mul, nI_clamp, nI_eq, nI_leI, nI_ltI, nm_eq, mn_eq, nm_lt, mn_lt, nm_le, mn_le, m_eq, bI_0, bI_1, k0, h10, e66, c161, r6, k4, qc0]
      · obtain ⟨I1, m1, e⟩ := mod I2 J2 hM
        rw [if_pos c0] at e
        exact ⟨_, e, MQ_f (t := 0) m1 (fun a _ h2 => pr_n (fun e => h2 (by unfold scM; omega))) (fun k _ _ _ => by rw [pr_n (by decide)])⟩
    · have e65 := c_65 (lx := lx) (z := z) (E := E) (n := n) hL hP h0.2.2.2.1 hO (CSc_u hS) (by omega) (show q ≤ 60 by omega)
      have e67 := c_67 (lx := lx) (z := z) (E := E) (n := n) (N := N) (R := R) (I := u2 I 0 11 (nI 0)) (J := J) (T := TA F q) hL (TA_le F q)
      refine ⟨0, nI (whl (fl2 (TA F q) 64)), by decide, by decide, ⟨_, _, ?_, CQ_t (T := TA F q)⟩, fun I2 J2 hM => ?_⟩
      · rw [f_141]
        simp (disch := first | assumption | omega) [k_St, n_St, i_St, j_St, r_St, wI_St, wJ_St, k_S0, n_S0, i_S0, j_S0, r_S0, wI_S0, wJ_S0, cI_s, cJ_s, cV_s, nR_s, nQ_s, nQ_n, lt_s_, gd_T, gd_t, Option.map_some, lits, neg_mI, nI_add, pk_mul, nI_clamp, nI_eq, nI_leI, nI_ltI, nm_eq, mn_eq, nm_lt, mn_lt, nm_le, mn_le, m_eq, bI_0, bI_1, k0, h10, e66, c161, r6, k4, qc, c0, rp, e65, e67, s_3 fb]
      · obtain ⟨I1, m1, e⟩ := mod I2 J2 hM
        rw [if_neg c0] at e
        exact ⟨_, e, MQ_f (t := 0) m1 (fun a _ h2 => pr_n (fun e => h2 (by unfold scM; omega))) (fun k _ _ _ => by rw [pr_n (by decide)])⟩
end SEC5
