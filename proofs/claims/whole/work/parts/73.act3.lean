/-! acts -/
section ACT3
variable {z : Nat} {E : aEt} {n : Nat} {K N : Nat → Nat} {R : Nat → Nat → Option Nat} {I : Nat → Nat → Int32} {J : Nat → Nat → Int64} {lx : List Value → aH → aO} {p s f : Nat} {F : Nat → Nat → Nat} {ρ σ : Nat → Nat} {cnt img : Nat} {H M : Nat → Nat → Nat} {I' : Nat → Nat → Int32}
theorem MH_f (h : MH I cnt img H M) (e20 : I' 132 20 = I 132 20) (e21 : I' 132 21 = I 132 21) (e6 : I' 136 = I 136) (e7 : I' 137 = I 137) : MH I' cnt img H M := by
  obtain ⟨h1, h2, h3, h4, h5, h6⟩ := h
  exact ⟨by rw [e20]; exact h1, h2, by rw [e21]; exact h3, h4, by rw [e6]; exact h5, by rw [e7]; exact h6⟩
theorem c_159 (k0 : K 0 = 9) (x : Int32) : Ca lx 159 [.ref z, .int x] (St z E n K N R I J) = some (some (.int (mI 1)), St z E n K N R (u2 I 0 11 x) J) := by
  rw [f_159]; simp [k_St, n_St, i_St, j_St, r_St, wI_St, wJ_St, k_S0, n_S0, i_S0, j_S0, r_S0, wI_S0, wJ_S0, cI_s, cJ_s, cV_s, nR_s, nQ_s, nQ_n, lt_s_, gd_T, gd_t, Option.map_some, lits, neg_mI, nI_add, pk_mul, nI_clamp, nI_eq, nI_leI, nI_ltI, nm_eq, mn_eq, nm_lt, mn_lt, nm_le, mn_le, m_eq, bI_0, bI_1, k0]
theorem CT_0 (h : CT K N R I J p s F ρ cnt img H M) (x : Int32) : CT K N R (u2 I 0 11 x) J p s F ρ cnt img H M := by
  obtain ⟨hC, nxt, hH⟩ := h
  exact ⟨CW_u hC, nxt, CH_f hH (fun a a1 _ => ⟨u2_a _ _ _ _ _ (by omega), rfl⟩)⟩
/-- what is kept before an act -/
theorem c_18 (h : CT K N R I J p s F ρ cnt img H M) : ∃ I' J', Ca lx 18 [.ref (z + 23), .ref (z + 15)] (St z E n K N R I J) = some (none, St z E n K N R I' J') ∧ CT K N R I' J' p s F ρ (if cnt < 16 then cnt + 1 else 16) img (H1 ρ H) M ∧ (∀ a, a < 23 ∨ 101 < a → I' a = I a ∧ J' a = J a) := by
  obtain ⟨hC, nxt, hH⟩ := h
  have hO := hC.2.2.2.2.1
  have o8 : F 0 8 ≤ 4 := hO.2.2.2.2.2.2.2.2.2.2.2.2.1
  have o7 : F 0 7 ≤ 4 := hO.2.2.2.2.2.2.2.2.2.2.2.1
  have n16 := hH.2.1
  have e := s_18 (lx := lx) (z := z) (E := E) (n := n) (J := J) hC.1 hC.2.1 hH.1 n16 hH.2.2.1 hH.2.2.2.1
  have fr : ∀ a, a < 23 ∨ 101 < a → u2 (u2 (cpI I (26 + 4 * nxt) 15) 23 2 (nI ((nxt + 1) % 16))) 23 3 (nI (if cnt < 16 then cnt + 1 else 16)) a = I a ∧ cpJ J (26 + 4 * nxt) 15 a = J a := by
    intro a ha
    have := cp_F (w := 26 + 4 * nxt) (v := 15) (I := I) (J := J) a (by omega)
    rw [u2_a _ _ _ _ _ (by omega), u2_a _ _ _ _ _ (by omega)]
    exact this
  refine ⟨_, _, e, ⟨CW_f hC (CW_k hC) (WN_f (CW_n hC) (fun a a1 a2 => fr a (by omega))) (fun a a1 a2 => fr a (by omega)) (fun k _ => by rw [(fr 0 (by omega)).1]), _, CH_k hH (CW_n hC) (CW_k hC) o7 o8⟩, fr⟩
/-- the class's works change, and nothing else of it -/
theorem CT_a {ρ' : Nat → Nat} {J' : Nat → Nat → Int64} (h : CT K N R I J p s F ρ cnt img H M) (hw : WN I' J' 15 F ρ') (hk : RK F ρ') (f1 : Fw 15 I I' J J') : CT K N R I' J' p s F ρ' cnt img H M := by
  obtain ⟨hC, nxt, hH⟩ := h
  exact ⟨CW_f hC hk hw (fun a a1 a2 => f1 a (by omega)) (fun k _ => by rw [(f1 0 (by omega)).1]), nxt, CH_f hH (fun a a1 a2 => f1 a (by omega))⟩
theorem MX_0 {t : Nat} (h : ∀ a, a < 132 ∨ a = 133 ∨ 146 ≤ a → I' a = I a) (h2 : ∀ k, k ≠ 0 → k ≠ 20 → k ≠ 21 → k ≠ 27 → k ≠ 31 → k ≠ 32 → I' 132 k = I 132 k) (h3 : I' 132 0 = nI 0) : MX t I (u2 (u2 I' 132 1 (nI t)) 132 2 (mI 1)) := by
  refine ⟨fun a ha => ?_, fun k k1 k2 => ?_, ?_, ?_, ?_⟩
  · rw [u2_a _ _ _ _ _ (by omega), u2_a _ _ _ _ _ (by omega)]; exact h a ha
  · rw [u2_k _ _ _ _ _ (by omega), u2_k _ _ _ _ _ (by omega)]; exact h2 k (by omega) (by omega) (by omega) (by omega) (by omega) (by omega)
  · rw [u2_k _ _ _ _ _ (by decide), u2_k _ _ _ _ _ (by decide)]; exact h3
  · rw [u2_k _ _ _ _ _ (by decide), u2_s]
  · rw [u2_s]
theorem o_151 (h : CT K N R I J p s F ρ cnt img H M) : OT lx z E n K N R I J p s f F ρ cnt img H M 151 305 [] := by
  have hC := h.1
  have hO := hC.2.2.2.2.1
  have h10 := hC.2.2.1
  have h15 := hC.2.2.2.2.2.2.2.1
  have hρ := CW_k hC
  have hcW := hC.2.1
  obtain ⟨k0, _, r1, r2, r3, _, _, _, r7, rp, _⟩ := hC.1
  have k15 := hcW.1.1
  have k23 : K 23 = 1 := by have := hC.1; unfold CL at this; simp [this]
  have x15 : ∀ v, u2 I 0 11 v 15 2 = nI (ρ 16) := fun v => by rw [u2_a _ _ _ _ _ (by decide)]; exact h15
  by_cases c : ρ 16 < 999
  · obtain ⟨I1, J1, e1, t1, f1⟩ := c_18 (lx := lx) (z := z) (E := E) (n := n) (CT_0 h (nI 0))
    have hp := hcW.2.2.2.2.1
    obtain ⟨I2, J2, e2, w2, f2, g2⟩ := s_96 (lx := lx) (z := z) (E := E) (n := n) hcW.2.2.1 t1.1.2.2.2.1 hcW.1 t1.1.2.2.2.2.2.1 hO hρ.1 (by omega)
    have hn : WN I2 J2 15 F (ngt F ρ) := ⟨w2, by rw [g2, t1.1.2.2.2.2.2.2.2.1, ngt_16 hO]; exact nI_1 _⟩
    have hk : RK F (ngt F ρ) := ⟨ngt_ok hO hρ.1, by rw [ngt_16 hO]; omega⟩
    refine ⟨0, (nI (msk (cam F ρ) (F 0 8))), ngt F ρ, _, _, _, _, by decide, by decide, ⟨I2, J2, ?_, CT_a t1 hn hk f2, ?_⟩, ?_⟩
    · rw [f_151]
      simp (disch := first | assumption | omega) [k_St, n_St, i_St, j_St, r_St, wI_St, wJ_St, k_S0, n_S0, i_S0, j_S0, r_S0, wI_S0, wJ_S0, cI_s, cJ_s, cV_s, nR_s, nQ_s, nQ_n, lt_s_, gd_T, gd_t, Option.map_some, lits, neg_mI, nI_add, pk_mul, nI_clamp, nI_eq, nI_leI, nI_ltI, nm_eq, mn_eq, nm_lt, mn_lt, nm_le, mn_le, m_eq, bI_0, bI_1, k0, h10, c_160t, r1, k15, x15, c, r3, k23, e1, rp, e2]
    · refine ⟨fun a a1 a2 a3 => ?_, fun k hk => ?_, ?_, ?_⟩
      · have u1 := f2 a (by omega)
        have u2' := f1 a (by omega)
        exact ⟨u1.1.trans (u2'.1.trans (u2_a _ _ _ _ _ (by omega))), u1.2.trans u2'.2⟩
      · rw [(f2 0 (by omega)).1, (f1 0 (by omega)).1, u2_k _ _ _ _ _ hk]
      · rw [(f2 0 (by omega)).1, (f1 0 (by omega)).1, u2_s]
      · rw [(f2 0 (by omega)).2, (f1 0 (by omega)).2]
    · intro Ia Ja hm
      have hm0 : MT K N R (u2 Ia 132 0 (nI 0)) f F ρ cnt img H M := ⟨MV_0 hm.1, MH_f hm.2 (u2_k _ _ _ _ _ (by decide)) (u2_k _ _ _ _ _ (by decide)) (u2_a _ _ _ _ _ (by decide)) (u2_a _ _ _ _ _ (by decide))⟩
      obtain ⟨Ib, e3, h3, g3, g4⟩ := d_303 (lx := lx) (z := z) (E := E) (n := n) (J := Ja) hm.1.1.1 hm0.2 hm0.1.2.1
      have v3 : ∀ k, k < 145 → Ib 134 k = nI (ρ k) := fun k hk => by rw [g3 134 (by decide) (by decide)]; exact hm0.1.2.1 k hk
      have md3 : MD K N R Ib f F := MD_c hm0.1.1 (fun a ha => g3 a (by omega) (by omega))
      have e4 := s_231 (lx := lx) (z := z) (E := E) (n := n) (J := Ja) md3 v3
      have e5 := s_237 (lx := lx) (z := z) (E := E) (n := n) (J := Ja) md3 hρ.1 (by omega)
      have e6 := d_304 (lx := lx) (z := z) (E := E) (n := n) (J := Ja) (I := pr Ib 135 145 (ngt F ρ)) (σ := ngt F ρ) hm.1.1.1 (fun k hk => pr_s hk)
      have rf := hm.1.1.2.2.1
      have v16 := hm0.1.2.1 16 (by decide)
      obtain ⟨km, _, r16, r17, _, _, _, _, _, _, _, _, _, _, _, k134, k135, _, _, _, _, _, _, _, _, _, _, _, n134, n135, _⟩ := hm.1.1.1
      refine ⟨u2 (u2 (pr (pr Ib 135 145 (ngt F ρ)) 134 145 (ngt F ρ)) 132 1 (nI 0)) 132 2 (mI 1), ?_, ?_, ?_⟩
      · rw [f_305]
        simp (disch := first | assumption | omega) [k_St, n_St, i_St, j_St, r_St, wI_St, wJ_St, k_S0, n_S0, i_S0, j_S0, r_S0, wI_S0, wJ_S0, cI_s, cJ_s, cV_s, nR_s, nQ_s, nQ_n, lt_s_, gd_T, gd_t, Option.map_some, lits, neg_mI, nI_add, pk_mul, nI_clamp, nI_eq, nI_leI, nI_ltI, nm_eq, mn_eq, nm_lt, mn_lt, nm_le, mn_le, m_eq, bI_0, bI_1, km, rf, r16, k134, n134, v16, e3, e4, e5, e6, s_185, if_neg]
      · refine MT_v hm hk (fun k hk => ?_) (fun a ha => ?_) (MH_f h3 ?_ ?_ ?_ ?_)
        · rw [u2_a _ _ _ _ _ (by decide), u2_a _ _ _ _ _ (by decide), pr_s hk]
        · rw [u2_a _ _ _ _ _ (by omega), u2_a _ _ _ _ _ (by omega), pr_n (by omega), pr_n (by omega), g3 a (by omega) (by omega), u2_a _ _ _ _ _ (by omega)]
        · rw [u2_k _ _ _ _ _ (by decide), u2_k _ _ _ _ _ (by decide), pr_n (by decide), pr_n (by decide)]
        · rw [u2_k _ _ _ _ _ (by decide), u2_k _ _ _ _ _ (by decide), pr_n (by decide), pr_n (by decide)]
        · rw [u2_a _ _ _ _ _ (by decide), u2_a _ _ _ _ _ (by decide), pr_n (by decide), pr_n (by decide)]
        · rw [u2_a _ _ _ _ _ (by decide), u2_a _ _ _ _ _ (by decide), pr_n (by decide), pr_n (by decide)]
      · refine MX_0 (fun a ha => ?_) (fun k k0 k1 k2 k3 k4 k5 => ?_) ?_
        · rw [pr_n (by omega), pr_n (by omega), g3 a (by omega) (by omega), u2_a _ _ _ _ _ (by omega)]
        · rw [pr_n (by decide), pr_n (by decide), g4 k k1, u2_k _ _ _ _ _ k0]
        · rw [pr_n (by decide), pr_n (by decide), g4 0 (by decide), u2_s]
  · have c9 : ρ 16 = 999 := by have := hρ.2; omega
    apply OQ_T h
    refine ⟨3, mI 1, by decide, by decide, ⟨_, _, ?_, CQ_u⟩, fun I2 J2 hM => ⟨_, ?_, MQ_1⟩⟩
    · rw [f_151]
      simp (disch := first | assumption | omega) [k_St, n_St, i_St, j_St, r_St, wI_St, wJ_St, k_S0, n_S0, i_S0, j_S0, r_S0, wI_S0, wJ_S0, cI_s, cJ_s, cV_s, nR_s, nQ_s, nQ_n, lt_s_, gd_T, gd_t, Option.map_some, lits, neg_mI, nI_add, pk_mul, nI_clamp, nI_eq, nI_leI, nI_ltI, nm_eq, mn_eq, nm_lt, mn_lt, nm_le, mn_le, m_eq, bI_0, bI_1, k0, h10, c_160t, r1, k15, x15, c9, c_159, u2_uu]
    · rw [f_305]
      have v16 := (MV_0 hM).2.1 16 (by decide)
      rw [c9] at v16
      obtain ⟨⟨km, _, r16, r17, _, _, _, _, _, _, _, _, _, _, _, k134, k135, _, _, _, _, _, _, _, _, _, _, _, n134, n135, _⟩, _, rf, _⟩ := hM.1
      simp (disch := first | assumption | omega) [k_St, n_St, i_St, j_St, r_St, wI_St, wJ_St, k_S0, n_S0, i_S0, j_S0, r_S0, wI_S0, wJ_S0, cI_s, cJ_s, cV_s, nR_s, nQ_s, nQ_n, lt_s_, gd_T, gd_t, Option.map_some, lits, neg_mI, nI_add, pk_mul, nI_clamp, nI_eq, nI_leI, nI_ltI, nm_eq, mn_eq, nm_lt, mn_lt, nm_le, mn_le, m_eq, bI_0, bI_1, km, rf, r16, k134, n134, v16, d_182]
end ACT3
