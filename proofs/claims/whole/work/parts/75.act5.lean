section ACT5
variable {z : Nat} {E : aEt} {n : Nat} {K N : Nat → Nat} {R : Nat → Nat → Option Nat} {I : Nat → Nat → Int32} {J : Nat → Nat → Int64} {lx : List Value → aH → aO} {p s f w : Nat} {F : Nat → Nat → Nat} {ρ σ : Nat → Nat} {cnt img : Nat} {H M : Nat → Nat → Nat} {I' : Nat → Nat → Int32}
theorem WN_dr (hR : WN I J w F ρ) (o7 : F 0 7 ≤ 4) (o8 : F 0 8 ≤ 4) {d x : Nat} (hd : d < F 0 7) : WN (u2 I (w + 3) d (nI x)) J w F (up ρ (12 + d) x) := by
  obtain ⟨⟨r1, r2, r3, r4, r5, r6⟩, r7⟩ := hR
  refine ⟨⟨?_, ?_, ?_, ?_, ?_, ?_⟩, ?_⟩
  · intro g hg; rw [u2_a _ _ _ _ _ (by omega), r1 g hg, up_n (by omega)]
  · intro g hg
    rw [u2_a _ _ _ _ _ (by omega), r2 g hg, dgg_c (ρ := ρ) (up_n (by omega)) (up_n (by omega)), up_n (by omega)]
  · intro e he
    by_cases c : e = d
    · subst c; rw [u2_s, up_s]
    · rw [u2_k _ _ _ _ _ c, r3 e he, up_n (by omega)]
  · rw [u2_a _ _ _ _ _ (by omega), r4]; congr 1
    apply msk_c; intro g hg; rw [up_n (by omega)]
  · intro c hc; rw [r5 c hc, up_n (by omega)]
  · intro c hc; rw [r6 c hc, up_n (by omega)]
  · rw [u2_a _ _ _ _ _ (by omega), r7, up_n (by omega)]
theorem RK_dr (hO : FOk F) (h : RK F ρ) {d x : Nat} (hd : d < F 0 7) (hx : isS F x = true) : RK F (up ρ (12 + d) x) := by
  have o8 : F 0 8 ≤ 4 := hO.2.2.2.2.2.2.2.2.2.2.2.2.1
  have o7 : F 0 7 ≤ 4 := hO.2.2.2.2.2.2.2.2.2.2.2.1
  obtain ⟨⟨a1, a2, a3, a4⟩, a5⟩ := h
  refine ⟨⟨?_, ?_, ?_, ?_⟩, by rw [up_n (by omega)]; exact a5⟩
  · intro g hg
    rw [up_n (by omega), up_n (by omega), up_n (by omega)]; exact a1 g hg
  · intro e he
    by_cases c : e = d
    · subst c; rw [up_s]; exact hx
    · rw [up_n (by omega)]; exact a2 e he
  · intro c hc
    rw [up_n (by omega), up_n (by omega)]; exact a3 c hc
  · intro g hg hdg
    rw [up_n (by omega)]
    apply a4 g hg
    rw [← hdg]
    exact (dgg_c (up_n (by omega)) (up_n (by omega))).symm
theorem o_153 (h : CT K N R I J p s F ρ cnt img H M) (d x y : Int32) : OT lx z E n K N R I J p s f F ρ cnt img H M 153 307 [.int d, .int x, .int y] := by
  have hC := h.1
  have hO := hC.2.2.2.2.1
  have hρ := CW_k hC
  have hcW := hC.2.1
  have hp := hcW.2.2.2.2.1
  have e65 := c_165 (lx := lx) (z := z) (E := E) (n := n) hC x y
  have e63 := c_163 (lx := lx) (z := z) (E := E) (n := n) hC d
  obtain ⟨k0, _, r1, r2, r3, _, _, _, r7, rp, _⟩ := hC.1
  have k15 := hcW.1.1
  have k23 : K 23 = 1 := by have := hC.1; unfold CL at this; simp [this]
  have o8 : F 0 8 ≤ 4 := hO.2.2.2.2.2.2.2.2.2.2.2.2.1
  have o7 : F 0 7 ≤ 4 := hO.2.2.2.2.2.2.2.2.2.2.2.1
  obtain ⟨_, wr1, wr2, wr3, wk1, wk2, wk3, wn1, wn2, wn3⟩ := hcW.1
  rcases rg_i d (n := F 0 7) (by omega) with c | ⟨e, he, ee⟩
  · apply OQ_T h
    rw [c] at e63
    refine ⟨1, mI 1, by decide, by decide, ⟨_, _, ?_, CQ_u⟩, fun I2 J2 hM => ⟨_, ?_, MQ_1⟩⟩
    · rw [f_153]
      simp [k_St, n_St, i_St, j_St, r_St, wI_St, wJ_St, k_S0, n_S0, i_S0, j_S0, r_S0, wI_S0, wJ_S0, cI_s, cJ_s, cV_s, nR_s, nQ_s, nQ_n, lt_s_, gd_T, gd_t, Option.map_some, lits, neg_mI, nI_add, pk_mul, nI_clamp, nI_eq, nI_leI, nI_ltI, nm_eq, mn_eq, nm_lt, mn_lt, nm_le, mn_le, m_eq, bI_0, bI_1, k0, e63, e_153_14, c_160f]
    · rw [f_307]
      have e := d_228 (lx := lx) (z := z) (E := E) (n := n) (J := J2) (MV_0 hM).1 d
      rw [c] at e
      have km := hM.1.1.1
      simp [k_St, n_St, i_St, j_St, r_St, wI_St, wJ_St, k_S0, n_S0, i_S0, j_S0, r_S0, wI_S0, wJ_S0, cI_s, cJ_s, cV_s, nR_s, nQ_s, nQ_n, lt_s_, gd_T, gd_t, Option.map_some, lits, neg_mI, nI_add, pk_mul, nI_clamp, nI_eq, nI_leI, nI_ltI, nm_eq, mn_eq, nm_lt, mn_lt, nm_le, mn_le, m_eq, bI_0, bI_1, km, e, e_307_20, d_182]
  · subst ee
    rw [rg_t he (by omega)] at e63
    rcases hs_i hO x y with c | ⟨a, b, ha, hb, ea, eb, l, hi, ht⟩
    · apply OQ_T h
      rw [c] at e65
      refine ⟨1, mI 1, by decide, by decide, ⟨_, _, ?_, CQ_u⟩, fun I2 J2 hM => ⟨_, ?_, MQ_1⟩⟩
      · rw [f_153]
        simp [k_St, n_St, i_St, j_St, r_St, wI_St, wJ_St, k_S0, n_S0, i_S0, j_S0, r_S0, wI_S0, wJ_S0, cI_s, cJ_s, cV_s, nR_s, nQ_s, nQ_n, lt_s_, gd_T, gd_t, Option.map_some, lits, neg_mI, nI_add, pk_mul, nI_clamp, nI_eq, nI_leI, nI_ltI, nm_eq, mn_eq, nm_lt, mn_lt, nm_le, mn_le, m_eq, bI_0, bI_1, k0, e63, e65, e_153_14, c_160f]
      · rw [f_307]
        have e28 := d_228 (lx := lx) (z := z) (E := E) (n := n) (J := J2) (MV_0 hM).1 (nI e)
        rw [rg_t he (by omega)] at e28
        have e26 := d_226 (lx := lx) (z := z) (E := E) (n := n) (J := J2) (MV_0 hM).1 x y
        have km := hM.1.1.1
        have kf := hM.1.2.1.2.1
        have rf := hM.1.2.2.1
        rcases hl_i hO x y with c2 | ⟨a, b, ha, hb, ea, eb, l, hi, ht⟩
        · rw [c2] at e26
          simp [k_St, n_St, i_St, j_St, r_St, wI_St, wJ_St, k_S0, n_S0, i_S0, j_S0, r_S0, wI_S0, wJ_S0, cI_s, cJ_s, cV_s, nR_s, nQ_s, nQ_n, lt_s_, gd_T, gd_t, Option.map_some, lits, neg_mI, nI_add, pk_mul, nI_clamp, nI_eq, nI_leI, nI_ltI, nm_eq, mn_eq, nm_lt, mn_lt, nm_le, mn_le, m_eq, bI_0, bI_1, km, e28, e26, e_307_20, d_182]
        · rw [ht] at e26
          have e178 := s_178 (lx := lx) (z := z) (E := E) (n := n) (J := J2) (MV_0 hM).1 l
          have sf : isS F (8 * b + a) = false := by
            unfold hs at c
            rw [ht] at c
            subst ea eb
            obtain ⟨o0, o0x, o1, o2, o2x, o3, o4, o4x, o5, o5x, o6, o7, o8, o9, oS, oD, oG, oH⟩ := hO
            rw [nI_clamp (by omega), nI_clamp (by omega)] at c
            simpa using c
          have s3 : F 1 (8 * b + a) = 3 := by
            unfold isS at sf
            simpa [l, hi] using sf
          simp only [s3, decide_true] at e178
          subst ea eb
          simp [k_St, n_St, i_St, j_St, r_St, wI_St, wJ_St, k_S0, n_S0, i_S0, j_S0, r_S0, wI_S0, wJ_S0, cI_s, cJ_s, cV_s, nR_s, nQ_s, nQ_n, lt_s_, gd_T, gd_t, Option.map_some, lits, neg_mI, nI_add, pk_mul, nI_clamp, nI_eq, nI_leI, nI_ltI, nm_eq, mn_eq, nm_lt, mn_lt, nm_le, mn_le, m_eq, bI_0, bI_1, km, e28, e26, rf, kf, s_229, e178, e_307_20, d_182]
    · rw [ht] at e65
      have dl := isS_lt (hρ.1.2.1 e he)
      have w3 : ∀ v, u2 I 0 11 v 18 e = nI (ρ (12 + e)) := fun v => by rw [u2_a _ _ _ _ _ (by decide)]; exact hC.2.2.2.2.2.1.2.2.1 e he
      by_cases c : ρ (12 + e) = 8 * b + a
      · apply OQ_T h
        refine ⟨5, mI 1, by decide, by decide, ⟨_, _, ?_, CQ_u⟩, fun I2 J2 hM => ⟨_, ?_, MQ_1⟩⟩
        · rw [f_153]
          subst ea eb
          simp (disch := first | assumption | omega) [k_St, n_St, i_St, j_St, r_St, wI_St, wJ_St, k_S0, n_S0, i_S0, j_S0, r_S0, wI_S0, wJ_S0, cI_s, cJ_s, cV_s, nR_s, nQ_s, nQ_n, lt_s_, gd_T, gd_t, Option.map_some, lits, neg_mI, nI_add, pk_mul, nI_clamp, nI_eq, nI_leI, nI_ltI, nm_eq, mn_eq, nm_lt, mn_lt, nm_le, mn_le, m_eq, bI_0, bI_1, k0, e63, e65, e_153_14, c_160t, r1, k15, wr3, wk3, wn3, w3, s_0, c, c_159, u2_uu]
        · rw [f_307]
          have hM0 := MV_0 hM
          have e28 := d_228 (lx := lx) (z := z) (E := E) (n := n) (J := J2) hM0.1 (nI e)
          rw [rg_t he (by omega)] at e28
          have e26 := d_226 (lx := lx) (z := z) (E := E) (n := n) (J := J2) hM0.1 x y
          have hl' : hl F x y = true := by unfold hs at ht; simp at ht; exact ht.1
          rw [hl'] at e26
          have e178 := s_178 (lx := lx) (z := z) (E := E) (n := n) (J := J2) hM0.1 l
          have s3 : ¬ F 1 (8 * b + a) = 3 := by simp [isS] at hi; exact hi.2
          simp only [s3, decide_false] at e178
          have v12 := hM0.2.1 (12 + e) (by omega)
          obtain ⟨⟨km, _, r16, r17, _, _, _, _, _, _, _, _, _, _, _, k134, k135, _, _, _, _, _, _, _, _, _, _, _, n134, n135, _⟩, ⟨_, kf, _⟩, rf, _⟩ := hM.1
          subst ea eb
          simp (disch := first | assumption | omega) [k_St, n_St, i_St, j_St, r_St, wI_St, wJ_St, k_S0, n_S0, i_S0, j_S0, r_S0, wI_S0, wJ_S0, cI_s, cJ_s, cV_s, nR_s, nQ_s, nQ_n, lt_s_, gd_T, gd_t, Option.map_some, lits, neg_mI, nI_add, pk_mul, nI_clamp, nI_eq, nI_leI, nI_ltI, nm_eq, mn_eq, nm_lt, mn_lt, nm_le, mn_le, m_eq, bI_0, bI_1, km, e28, e26, rf, kf, s_229, e178, r16, k134, n134, v12, c, d_182]
      · obtain ⟨I1, J1, e1, t1, f1⟩ := c_18 (lx := lx) (z := z) (E := E) (n := n) (CT_0 h (nI 0))
        have hk : RK F (up ρ (12 + e) (8 * b + a)) := RK_dr hO hρ he hi
        have hw := WN_dr (CW_n t1.1) o7 o8 (d := e) (x := 8 * b + a) he
        have fu : Fw 15 I1 (u2 I1 (15 + 3) e (nI (8 * b + a))) J1 J1 := Fw_u (by omega) (by omega)
        refine ⟨0, (nI (whl (ρ (12 + e)))), up ρ (12 + e) (8 * b + a), _, _, _, _, by decide, by decide, ⟨u2 I1 (15 + 3) e (nI (8 * b + a)), J1, ?_, CT_a t1 hw hk fu, CX_2 f1 fu⟩, ?_⟩
        · rw [f_153]
          subst ea eb
          simp (disch := first | assumption | omega) [k_St, n_St, i_St, j_St, r_St, wI_St, wJ_St, k_S0, n_S0, i_S0, j_S0, r_S0, wI_S0, wJ_S0, cI_s, cJ_s, cV_s, nR_s, nQ_s, nQ_n, lt_s_, gd_T, gd_t, Option.map_some, lits, neg_mI, nI_add, pk_mul, nI_clamp, nI_eq, nI_leI, nI_ltI, nm_eq, mn_eq, nm_lt, mn_lt, nm_le, mn_le, m_eq, bI_0, bI_1, k0, e63, e65, e_153_14, c_160t, r1, k15, wr3, wk3, wn3, w3, s_0, c, r3, k23, e1, s_3 dl]
        · intro Ia Ja hm
          have hm0 := MT_0 hm
          have e28 := d_228 (lx := lx) (z := z) (E := E) (n := n) (J := Ja) hm0.1.1 (nI e)
          rw [rg_t he (by omega)] at e28
          have e26 := d_226 (lx := lx) (z := z) (E := E) (n := n) (J := Ja) hm0.1.1 x y
          have hl' : hl F x y = true := by unfold hs at ht; simp at ht; exact ht.1
          rw [hl'] at e26
          have e178 := s_178 (lx := lx) (z := z) (E := E) (n := n) (J := Ja) hm0.1.1 l
          have s3 : ¬ F 1 (8 * b + a) = 3 := by simp [isS] at hi; exact hi.2
          simp only [s3, decide_false] at e178
          have v12 := hm0.1.2.1 (12 + e) (by omega)
          obtain ⟨Ib, e3, h3, g3, g4⟩ := d_303 (lx := lx) (z := z) (E := E) (n := n) (J := Ja) hm.1.1.1 hm0.2 hm0.1.2.1
          have v3 : ∀ k, k < 145 → Ib 134 k = nI (ρ k) := fun k hk => by rw [g3 134 (by decide) (by decide)]; exact hm0.1.2.1 k hk
          obtain ⟨⟨km, _, r16, r17, _, _, _, _, _, _, _, _, _, _, _, k134, k135, _, _, _, _, _, _, _, _, _, _, _, n134, n135, _⟩, ⟨_, kf, _⟩, rf, _⟩ := hm.1.1
          refine ⟨u2 (u2 (u2 Ib 134 (12 + e) (nI (8 * b + a))) 132 1 (nI 0)) 132 2 (mI 1), ?_, ?_, ?_⟩
          · rw [f_307]
            subst ea eb
            simp (disch := first | assumption | omega) [k_St, n_St, i_St, j_St, r_St, wI_St, wJ_St, k_S0, n_S0, i_S0, j_S0, r_S0, wI_S0, wJ_S0, cI_s, cJ_s, cV_s, nR_s, nQ_s, nQ_n, lt_s_, gd_T, gd_t, Option.map_some, lits, neg_mI, nI_add, pk_mul, nI_clamp, nI_eq, nI_leI, nI_ltI, nm_eq, mn_eq, nm_lt, mn_lt, nm_le, mn_le, m_eq, bI_0, bI_1, km, e28, e26, rf, kf, s_229, e178, r16, k134, n134, v12, c, e3, s_230 dl, s_185]
          · refine MT_v hm hk (fun k hk => ?_) (fun a ha => ?_) (MH_f h3 ?_ ?_ ?_ ?_)
            · rw [u2_a _ _ _ _ _ (by decide), u2_a _ _ _ _ _ (by decide)]
              by_cases c2 : k = 12 + e
              · subst c2; rw [u2_s, up_s]
              · rw [u2_k _ _ _ _ _ c2, up_n c2, v3 k hk]
            · rw [u2_a _ _ _ _ _ (by omega), u2_a _ _ _ _ _ (by omega), u2_a _ _ _ _ _ (by omega), g3 a (by omega) (by omega), u2_a _ _ _ _ _ (by omega)]
            · rw [u2_k _ _ _ _ _ (by decide), u2_k _ _ _ _ _ (by decide), u2_a _ _ _ _ _ (by decide)]
            · rw [u2_k _ _ _ _ _ (by decide), u2_k _ _ _ _ _ (by decide), u2_a _ _ _ _ _ (by decide)]
            · rw [u2_a _ _ _ _ _ (by decide), u2_a _ _ _ _ _ (by decide), u2_a _ _ _ _ _ (by decide)]
            · rw [u2_a _ _ _ _ _ (by decide), u2_a _ _ _ _ _ (by decide), u2_a _ _ _ _ _ (by decide)]
          · refine MX_0 (fun a ha => ?_) (fun k k0 k1 k2 k3 k4 k5 => ?_) ?_
            · rw [u2_a _ _ _ _ _ (by omega), g3 a (by omega) (by omega), u2_a _ _ _ _ _ (by omega)]
            · rw [u2_a _ _ _ _ _ (by decide), g4 k k1, u2_k _ _ _ _ _ k0]
            · rw [u2_a _ _ _ _ _ (by decide), g4 0 (by decide), u2_s]
/-- what the reference takes back out of an array -/
theorem cpv {b0 : Nat} {a : Nat} {lx : List Value → aH → aO} (b : Nat) (hb : b ≠ 134) (hσ : ∀ k, k < 145 → I b (b0 + k) = nI (σ k)) (i : Nat) (hi : i < 145) : u2 (fun c k => if c = 134 ∧ k < i then nI (σ k) else I c k) 134 i ((fun c k => if c = 134 ∧ k < i then nI (σ k) else I c k) b (b0 + i)) = fun c k => if c = 134 ∧ k < i + 1 then nI (σ k) else I c k := by
  have e : (fun c k => if c = 134 ∧ k < i then nI (σ k) else I c k) b (b0 + i) = nI (σ i) := by
    simp only [hb, false_and, if_false]
    exact hσ i hi
  rw [e]
  funext c k
  unfold u2
  by_cases hc : c = 134
  · by_cases hk : k = i
    · simp [hc, hk]
    · have : k < i + 1 ↔ k < i := by omega
      simp [hc, hk, this]
  · simp [hc]
end ACT5
