section OP2
variable {z : Nat} {E : aEt} {n : Nat} {K N : Nat → Nat} {R : Nat → Nat → Option Nat} {I : Nat → Nat → Int32} {J : Nat → Nat → Int64} {lx : List Value → aH → aO} {p s f : Nat} {F : Nat → Nat → Nat} {ρ : Nat → Nat}
def MV (K N : Nat → Nat) (R : Nat → Nat → Option Nat) (I : Nat → Nat → Int32) (f : Nat) (F : Nat → Nat → Nat) (ρ : Nat → Nat) : Prop := MD K N R I f F ∧ (∀ k, k < 145 → I 134 k = nI (ρ k)) ∧ ROk F ρ ∧ ρ 16 ≤ 999
def OQ (lx : List Value → aH → aO) (z : Nat) (E : aEt) (n : Nat) (K N : Nat → Nat) (R : Nat → Nat → Option Nat) (I : Nat → Nat → Int32) (J : Nat → Nat → Int64) (f : Nat) (F : Nat → Nat → Nat) (ρ : Nat → Nat) (u w : Nat) (as : List Value) : Prop := ∃ t r, t ≠ 4 ∧ t < 7 ∧ CA lx z E n K N R I J u as t (.int r) ∧ ∀ I2 J2, MV K N R I2 f F ρ → MA lx z E n K N R I2 J2 w as t (.int r)
theorem MV_0 (h : MV K N R I f F ρ) : MV K N R (u2 I 132 0 (nI 0)) f F ρ := by
  obtain ⟨h1, h2, h3, h4⟩ := h
  exact ⟨MD_u h1 (by decide), fun k hk => by rw [u2_a _ _ _ _ _ (by decide)]; exact h2 k hk, h3, h4⟩
theorem c_160f (k0 : K 0 = 9) : Ca lx 160 [.ref z, .int (nI 0)] (St z E n K N R I J) = some (some (.int (nI 0)), St z E n K N R (u2 I 0 11 (nI 1)) J) := c_160 k0 false
theorem c_160t (k0 : K 0 = 9) : Ca lx 160 [.ref z, .int (nI 1)] (St z E n K N R I J) = some (some (.int (nI 1)), St z E n K N R (u2 I 0 11 (nI 0)) J) := c_160 k0 true
theorem nI_m0 {x : Int32} {m : Nat} (h : rg x m = true) (hm : m < 2 ^ 31) : ∃ j, j < m ∧ x = nI j := by
  rcases rg_i x hm with c | c
  · rw [c] at h; cases h
  · exact c
theorem rg_f {x : Int32} {m : Nat} (h : rg x (m + 1) = false) (hm : m < 2 ^ 30) : x < 0 ∨ nI m < x := by
  have e := rg_l x hm
  rw [h] at e
  by_cases c1 : x < 0
  · exact Or.inl c1
  · by_cases c2 : nI m < x
    · exact Or.inr c2
    · rw [if_neg c1, if_neg c2] at e
      exact absurd e (by decide)
theorem o_116 (h : CW K N R I J p s F ρ) (x y w : Int32) : OQ lx z E n K N R I J f F ρ 116 241 [.int x, .int y, .int w] := by
  have hC := h
  have hU : ∀ v, CW K N R (u2 I 0 11 v) J p s F ρ := fun v => CW_u h
  have e24 := c_24 (lx := lx) (z := z) (E := E) (n := n) h x y
  obtain ⟨hL, ⟨hW15, hW19, hP, hPs, hps, _⟩, _, hF, hO, hR, hρ, _⟩ := h
  obtain ⟨k0, _, r1, r2, _, _, _, _, _, rp, _⟩ := hL
  have kp := hP.1
  rcases hl_i hO x y with c | ⟨a, b, ha, hb, ea, eb, l, hi, ht⟩
  · rw [c] at e24
    refine ⟨1, mI 1, by decide, by decide, ⟨_, _, ?_, CQ_u⟩, fun I2 J2 hM => ⟨_, ?_, MQ_1⟩⟩
    · rw [f_116]
      simp [k_St, n_St, i_St, j_St, r_St, wI_St, wJ_St, k_S0, n_S0, i_S0, j_S0, r_S0, wI_S0, wJ_S0, cI_s, cJ_s, cV_s, nR_s, nQ_s, nQ_n, lt_s_, gd_T, gd_t, Option.map_some, lits, neg_mI, nI_add, pk_mul, nI_clamp, nI_eq, nI_leI, nI_ltI, nm_eq, mn_eq, nm_lt, mn_lt, nm_le, mn_le, m_eq, bI_0, bI_1, k0, rp, kp, e24, e_116_16, c_160f]
    · rw [f_241]
      have e := d_226 (lx := lx) (z := z) (E := E) (n := n) (J := J2) (MV_0 hM).1 x y
      rw [c] at e
      have km := hM.1.1.1
      simp [k_St, n_St, i_St, j_St, r_St, wI_St, wJ_St, k_S0, n_S0, i_S0, j_S0, r_S0, wI_S0, wJ_S0, cI_s, cJ_s, cV_s, nR_s, nQ_s, nQ_n, lt_s_, gd_T, gd_t, Option.map_some, lits, neg_mI, nI_add, pk_mul, nI_clamp, nI_eq, nI_leI, nI_ltI, nm_eq, mn_eq, nm_lt, mn_lt, nm_le, mn_le, m_eq, bI_0, bI_1, km, e, e_241_14, d_182]
  · subst ea eb
    rw [ht] at e24
    rcases rg_i w (n := 5) (by omega) with c | ⟨q, hq, eq⟩
    · refine ⟨1, mI 1, by decide, by decide, ⟨_, _, ?_, CQ_u⟩, fun I2 J2 hM => ⟨_, ?_, MQ_1⟩⟩
      · rw [f_116]
        rcases rg_f (m := 4) c (by omega) with c2 | c2
        · have c2' : w < nI 0 := c2
          simp [k_St, n_St, i_St, j_St, r_St, wI_St, wJ_St, k_S0, n_S0, i_S0, j_S0, r_S0, wI_S0, wJ_S0, cI_s, cJ_s, cV_s, nR_s, nQ_s, nQ_n, lt_s_, gd_T, gd_t, Option.map_some, lits, neg_mI, nI_add, pk_mul, nI_clamp, nI_eq, nI_leI, nI_ltI, nm_eq, mn_eq, nm_lt, mn_lt, nm_le, mn_le, m_eq, bI_0, bI_1, k0, rp, kp, e24, e_116_16, c_160f, c2']
        · simp [k_St, n_St, i_St, j_St, r_St, wI_St, wJ_St, k_S0, n_S0, i_S0, j_S0, r_S0, wI_S0, wJ_S0, cI_s, cJ_s, cV_s, nR_s, nQ_s, nQ_n, lt_s_, gd_T, gd_t, Option.map_some, lits, neg_mI, nI_add, pk_mul, nI_clamp, nI_eq, nI_leI, nI_ltI, nm_eq, mn_eq, nm_lt, mn_lt, nm_le, mn_le, m_eq, bI_0, bI_1, k0, rp, kp, e24, e_116_16, c_160f, c2]
      · rw [f_241]
        have e := d_226 (lx := lx) (z := z) (E := E) (n := n) (J := J2) (MV_0 hM).1 (nI a) (nI b)
        rw [ht] at e
        have e87 := d_187 (lx := lx) w (m := 4) (by omega)
        rw [c] at e87
        have km := hM.1.1.1
        simp [k_St, n_St, i_St, j_St, r_St, wI_St, wJ_St, k_S0, n_S0, i_S0, j_S0, r_S0, wI_S0, wJ_S0, cI_s, cJ_s, cV_s, nR_s, nQ_s, nQ_n, lt_s_, gd_T, gd_t, Option.map_some, lits, neg_mI, nI_add, pk_mul, nI_clamp, nI_eq, nI_leI, nI_ltI, nm_eq, mn_eq, nm_lt, mn_lt, nm_le, mn_le, m_eq, bI_0, bI_1, km, e, e87, e_241_14, d_182]
    · subst eq
      -- what it answers
      have hU0 := hU (nI 0)
      obtain ⟨_, _, _, hF0, _, hR0, _⟩ := hU0
      have s25 := s_25 (lx := lx) (z := z) (E := E) (n := n) hP hF0 l
      rw [hi] at s25
      simp only [if_true] at s25
      have s26 := s_26c (lx := lx) (z := z) (E := E) (n := n) hP hF0 l
      have s99 := s_99 (lx := lx) (z := z) (E := E) (n := n) hP hF0 hW15 hR0 (ROk_a hρ) l hi
      have s103 := s_103 (lx := lx) (z := z) (E := E) (n := n) hP hF0 hW15 hR0 hO (ROk_a hρ) l (show 0 ≤ 2 by omega)
      have k15 := hW15.1
      have b1 := hR.2.2.2.2.1 (8 * b + a) l
      have b2 := hR.2.2.2.2.2 (8 * b + a) l
      have s5a := s_5 (lx := lx) (J 15 0) l
      have s5b := s_5 (lx := lx) (J 15 1) l
      rw [b1] at s5a
      rw [b2] at s5b
      have v3 := hρ.2.2.1 (8 * b + a) l
      have sis : isS F (8 * b + a) = !decide (F 1 (8 * b + a) = 3) := by simp [isS, l, hi]
      refine ⟨0, if q = 0 then nI (F 1 (8 * b + a)) else if q = 1 then (if F 1 (8 * b + a) = 3 then mI 2 else nI (tks F ρ (8 * b + a))) else if q = 2 then nI (ρ (17 + (8 * b + a))) else if q = 3 then nI (ρ (81 + (8 * b + a))) else nI (msk (nrP F ρ (8 * b + a) 0) (F 0 8)), by decide, by decide, ⟨_, _, ?_, CQ_u⟩, fun I2 J2 hM => ⟨_, ?_, MQ_p (ρ := ρ)⟩⟩
      · rw [f_116]
        have qs : q = 0 ∨ q = 1 ∨ q = 2 ∨ q = 3 ∨ q = 4 := by omega
        rcases qs with e | e | e | e | e <;> subst e
        · simp (disch := first | assumption | omega) [k_St, n_St, i_St, j_St, r_St, wI_St, wJ_St, k_S0, n_S0, i_S0, j_S0, r_S0, wI_S0, wJ_S0, cI_s, cJ_s, cV_s, nR_s, nQ_s, nQ_n, lt_s_, gd_T, gd_t, Option.map_some, lits, neg_mI, nI_add, pk_mul, nI_clamp, nI_eq, nI_leI, nI_ltI, nm_eq, mn_eq, nm_lt, mn_lt, nm_le, mn_le, m_eq, bI_0, bI_1, k0, rp, kp, e24, e_116_16, c_160t, s_0, s25]
        · by_cases c : F 1 (8 * b + a) = 3
          · rw [sis] at s26
            simp only [c, decide_true, Bool.not_true] at s26
            simp (disch := first | assumption | omega) [k_St, n_St, i_St, j_St, r_St, wI_St, wJ_St, k_S0, n_S0, i_S0, j_S0, r_S0, wI_S0, wJ_S0, cI_s, cJ_s, cV_s, nR_s, nQ_s, nQ_n, lt_s_, gd_T, gd_t, Option.map_some, lits, neg_mI, nI_add, pk_mul, nI_clamp, nI_eq, nI_leI, nI_ltI, nm_eq, mn_eq, nm_lt, mn_lt, nm_le, mn_le, m_eq, bI_0, bI_1, k0, rp, r1, k15, kp, e24, e_116_16, c_160t, s_0, s26, c]
          · rw [sis] at s26
            simp only [c, decide_false, Bool.not_false] at s26
            simp (disch := first | assumption | omega) [k_St, n_St, i_St, j_St, r_St, wI_St, wJ_St, k_S0, n_S0, i_S0, j_S0, r_S0, wI_S0, wJ_S0, cI_s, cJ_s, cV_s, nR_s, nQ_s, nQ_n, lt_s_, gd_T, gd_t, Option.map_some, lits, neg_mI, nI_add, pk_mul, nI_clamp, nI_eq, nI_leI, nI_ltI, nm_eq, mn_eq, nm_lt, mn_lt, nm_le, mn_le, m_eq, bI_0, bI_1, k0, rp, r1, k15, kp, e24, e_116_16, c_160t, s_0, s26, s99, c]
        · by_cases c : ρ (17 + (8 * b + a)) = 1
          · simp only [c, decide_true] at s5a
            simp (disch := first | assumption | omega) [k_St, n_St, i_St, j_St, r_St, wI_St, wJ_St, k_S0, n_S0, i_S0, j_S0, r_S0, wI_S0, wJ_S0, cI_s, cJ_s, cV_s, nR_s, nQ_s, nQ_n, lt_s_, gd_T, gd_t, Option.map_some, lits, neg_mI, nI_add, pk_mul, nI_clamp, nI_eq, nI_leI, nI_ltI, nm_eq, mn_eq, nm_lt, mn_lt, nm_le, mn_le, m_eq, bI_0, bI_1, k0, rp, r1, k15, kp, e24, e_116_16, c_160t, s_0, s5a, c]
          · simp only [c, decide_false] at s5a
            have c0 : ρ (17 + (8 * b + a)) = 0 := by omega
            simp (disch := first | assumption | omega) [k_St, n_St, i_St, j_St, r_St, wI_St, wJ_St, k_S0, n_S0, i_S0, j_S0, r_S0, wI_S0, wJ_S0, cI_s, cJ_s, cV_s, nR_s, nQ_s, nQ_n, lt_s_, gd_T, gd_t, Option.map_some, lits, neg_mI, nI_add, pk_mul, nI_clamp, nI_eq, nI_leI, nI_ltI, nm_eq, mn_eq, nm_lt, mn_lt, nm_le, mn_le, m_eq, bI_0, bI_1, k0, rp, r1, k15, kp, e24, e_116_16, c_160t, s_0, s5a, c0]
        · by_cases c : ρ (81 + (8 * b + a)) = 1
          · simp only [c, decide_true] at s5b
            simp (disch := first | assumption | omega) [k_St, n_St, i_St, j_St, r_St, wI_St, wJ_St, k_S0, n_S0, i_S0, j_S0, r_S0, wI_S0, wJ_S0, cI_s, cJ_s, cV_s, nR_s, nQ_s, nQ_n, lt_s_, gd_T, gd_t, Option.map_some, lits, neg_mI, nI_add, pk_mul, nI_clamp, nI_eq, nI_leI, nI_ltI, nm_eq, mn_eq, nm_lt, mn_lt, nm_le, mn_le, m_eq, bI_0, bI_1, k0, rp, r1, k15, kp, e24, e_116_16, c_160t, s_0, s5b, c]
          · simp only [c, decide_false] at s5b
            have c0 : ρ (81 + (8 * b + a)) = 0 := by omega
            simp (disch := first | assumption | omega) [k_St, n_St, i_St, j_St, r_St, wI_St, wJ_St, k_S0, n_S0, i_S0, j_S0, r_S0, wI_S0, wJ_S0, cI_s, cJ_s, cV_s, nR_s, nQ_s, nQ_n, lt_s_, gd_T, gd_t, Option.map_some, lits, neg_mI, nI_add, pk_mul, nI_clamp, nI_eq, nI_leI, nI_ltI, nm_eq, mn_eq, nm_lt, mn_lt, nm_le, mn_le, m_eq, bI_0, bI_1, k0, rp, r1, k15, kp, e24, e_116_16, c_160t, s_0, s5b, c0]
        · simp (disch := first | assumption | omega) [k_St, n_St, i_St, j_St, r_St, wI_St, wJ_St, k_S0, n_S0, i_S0, j_S0, r_S0, wI_S0, wJ_S0, cI_s, cJ_s, cV_s, nR_s, nQ_s, nQ_n, lt_s_, gd_T, gd_t, Option.map_some, lits, neg_mI, nI_add, pk_mul, nI_clamp, nI_eq, nI_leI, nI_ltI, nm_eq, mn_eq, nm_lt, mn_lt, nm_le, mn_le, m_eq, bI_0, bI_1, k0, rp, r1, k15, kp, e24, e_116_16, c_160t, s_0, s103]
      · rw [f_241]
        have hM0 := MV_0 hM
        have e := d_226 (lx := lx) (z := z) (E := E) (n := n) (J := J2) hM0.1 (nI a) (nI b)
        rw [ht] at e
        have e87 := d_187 (lx := lx) (nI q) (m := 4) (by omega)
        rw [rg_t hq (by omega)] at e87
        have e231 := s_231 (lx := lx) (z := z) (E := E) (n := n) (J := J2) hM0.1 hM0.2.1
        have hMp := MD_p (ρ := ρ) (m := 145) hM0.1 (show 135 < 147 by decide)
        have e178 := s_178 (lx := lx) (z := z) (E := E) (n := n) (J := J2) hMp l
        have e235 := s_235 (lx := lx) (z := z) (E := E) (n := n) (J := J2) hM0.1 (ROk_a hρ) l
        have v17 := hM0.2.1 (17 + (8 * b + a)) (by omega)
        have v81 := hM0.2.1 (81 + (8 * b + a)) (by omega)
        have e240 : Ca lx 240 [.ref (z + 132), .int (nI (8 * b + a))] (St z E n K N R (pr (u2 I2 132 0 (nI 0)) 135 145 ρ) J2) = some (some (.int (nI (msk (nrP F ρ (8 * b + a) 0) (F 0 8)))), St z E n K N R (pr (u2 I2 132 0 (nI 0)) 135 145 ρ) J2) :=
          s_240 hM0.1 (ROk_a hρ) l
        obtain ⟨⟨km, _, r16, r17, _, _, _, _, _, _, _, _, _, _, _, k134, k135, _, _, _, _, _, _, _, _, _, _, _, n134, n135, _⟩, ⟨f0, kf, r12, _, _, _, _, _, _, _, _, _, _, kf1, _, _, _, _, _, _, _, _, _, _, nf1, _⟩, rf, ⟨_, q1, _⟩, _⟩ := hM.1
        have x1 : pr (u2 I2 132 0 (nI 0)) 135 145 ρ (f + 1) (8 * b + a) = nI (F 1 (8 * b + a)) := by
          rw [pr_n (by omega), u2_a _ _ _ _ _ (by omega)]; exact q1 _ l
        have x2 : pr (u2 I2 132 0 (nI 0)) 135 145 ρ 134 = u2 I2 132 0 (nI 0) 134 := pr_n (by decide)
        have qs : q = 0 ∨ q = 1 ∨ q = 2 ∨ q = 3 ∨ q = 4 := by omega
        rcases qs with e' | e' | e' | e' | e' <;> subst e'
        · simp (disch := first | assumption | omega) [k_St, n_St, i_St, j_St, r_St, wI_St, wJ_St, k_S0, n_S0, i_S0, j_S0, r_S0, wI_S0, wJ_S0, cI_s, cJ_s, cV_s, nR_s, nQ_s, nQ_n, lt_s_, gd_T, gd_t, Option.map_some, lits, neg_mI, nI_add, pk_mul, nI_clamp, nI_eq, nI_leI, nI_ltI, nm_eq, mn_eq, nm_lt, mn_lt, nm_le, mn_le, m_eq, bI_0, bI_1, km, e, e87, e231, s_229, rf, kf, r12, kf1, nf1, x1, s_185]
        · by_cases c : F 1 (8 * b + a) = 3
          · simp only [c, decide_true] at e178
            simp (disch := first | assumption | omega) [k_St, n_St, i_St, j_St, r_St, wI_St, wJ_St, k_S0, n_S0, i_S0, j_S0, r_S0, wI_S0, wJ_S0, cI_s, cJ_s, cV_s, nR_s, nQ_s, nQ_n, lt_s_, gd_T, gd_t, Option.map_some, lits, neg_mI, nI_add, pk_mul, nI_clamp, nI_eq, nI_leI, nI_ltI, nm_eq, mn_eq, nm_lt, mn_lt, nm_le, mn_le, m_eq, bI_0, bI_1, km, e, e87, e231, s_229, rf, kf, e178, c, e_241_46, s_185]
          · simp only [c, decide_false] at e178
            simp (disch := first | assumption | omega) [k_St, n_St, i_St, j_St, r_St, wI_St, wJ_St, k_S0, n_S0, i_S0, j_S0, r_S0, wI_S0, wJ_S0, cI_s, cJ_s, cV_s, nR_s, nQ_s, nQ_n, lt_s_, gd_T, gd_t, Option.map_some, lits, neg_mI, nI_add, pk_mul, nI_clamp, nI_eq, nI_leI, nI_ltI, nm_eq, mn_eq, nm_lt, mn_lt, nm_le, mn_le, m_eq, bI_0, bI_1, km, e, e87, e231, s_229, rf, kf, e178, e235, c, e_241_46, s_185]
        · simp (disch := first | assumption | omega) [k_St, n_St, i_St, j_St, r_St, wI_St, wJ_St, k_S0, n_S0, i_S0, j_S0, r_S0, wI_S0, wJ_S0, cI_s, cJ_s, cV_s, nR_s, nQ_s, nQ_n, lt_s_, gd_T, gd_t, Option.map_some, lits, neg_mI, nI_add, pk_mul, nI_clamp, nI_eq, nI_leI, nI_ltI, nm_eq, mn_eq, nm_lt, mn_lt, nm_le, mn_le, m_eq, bI_0, bI_1, km, e, e87, e231, s_229, r16, k134, n134, x2, v17, s_185]
        · simp (disch := first | assumption | omega) [k_St, n_St, i_St, j_St, r_St, wI_St, wJ_St, k_S0, n_S0, i_S0, j_S0, r_S0, wI_S0, wJ_S0, cI_s, cJ_s, cV_s, nR_s, nQ_s, nQ_n, lt_s_, gd_T, gd_t, Option.map_some, lits, neg_mI, nI_add, pk_mul, nI_clamp, nI_eq, nI_leI, nI_ltI, nm_eq, mn_eq, nm_lt, mn_lt, nm_le, mn_le, m_eq, bI_0, bI_1, km, e, e87, e231, s_229, r16, k134, n134, x2, v81, s_185]
        · simp (disch := first | assumption | omega) [k_St, n_St, i_St, j_St, r_St, wI_St, wJ_St, k_S0, n_S0, i_S0, j_S0, r_S0, wI_S0, wJ_S0, cI_s, cJ_s, cV_s, nR_s, nQ_s, nQ_n, lt_s_, gd_T, gd_t, Option.map_some, lits, neg_mI, nI_add, pk_mul, nI_clamp, nI_eq, nI_leI, nI_ltI, nm_eq, mn_eq, nm_lt, mn_lt, nm_le, mn_le, m_eq, bI_0, bI_1, km, e, e87, e231, s_229, e240, s_185]
end OP2
