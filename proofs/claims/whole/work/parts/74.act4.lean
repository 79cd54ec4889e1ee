section ACT4
variable {z : Nat} {E : aEt} {n : Nat} {K N : Nat → Nat} {R : Nat → Nat → Option Nat} {I : Nat → Nat → Int32} {J : Nat → Nat → Int64} {lx : List Value → aH → aO} {p s f : Nat} {F : Nat → Nat → Nat} {ρ σ : Nat → Nat} {cnt img : Nat} {H M : Nat → Nat → Nat} {I' : Nat → Nat → Int32}
theorem MT_0 (h : MT K N R I f F ρ cnt img H M) : MT K N R (u2 I 132 0 (nI 0)) f F ρ cnt img H M :=
  ⟨MV_0 h.1, MH_f h.2 (u2_k _ _ _ _ _ (by decide)) (u2_k _ _ _ _ _ (by decide)) (u2_a _ _ _ _ _ (by decide)) (u2_a _ _ _ _ _ (by decide))⟩
theorem CX_2 {t : Nat} {I1 I2 : Nat → Nat → Int32} {J1 J2 : Nat → Nat → Int64} (f1 : ∀ a, a < 23 ∨ 101 < a → I1 a = u2 I 0 11 (nI t) a ∧ J1 a = J a) (f2 : Fw 15 I1 I2 J1 J2) : CX t I I2 J J2 := by
  refine ⟨fun a a1 a2 a3 => ?_, fun k hk => ?_, ?_, ?_⟩
  · have v1 := f2 a (by omega)
    have v2 := f1 a (by omega)
    exact ⟨v1.1.trans (v2.1.trans (u2_a _ _ _ _ _ (by omega))), v1.2.trans v2.2⟩
  · rw [(f2 0 (by omega)).1, (f1 0 (by omega)).1, u2_k _ _ _ _ _ hk]
  · rw [(f2 0 (by omega)).1, (f1 0 (by omega)).1, u2_s]
  · rw [(f2 0 (by omega)).2, (f1 0 (by omega)).2]
theorem o_152 (h : CT K N R I J p s F ρ cnt img H M) (x y r : Int32) : OT lx z E n K N R I J p s f F ρ cnt img H M 152 306 [.int x, .int y, .int r] := by
  have hC := h.1
  have hO := hC.2.2.2.2.1
  have hρ := CW_k hC
  have hcW := hC.2.1
  have hp := hcW.2.2.2.2.1
  have e65 := c_165 (lx := lx) (z := z) (E := E) (n := n) hC x y
  have e67 := c_167 (lx := lx) r
  obtain ⟨k0, _, r1, r2, r3, _, _, _, r7, rp, _⟩ := hC.1
  have k15 := hcW.1.1
  have k23 : K 23 = 1 := by have := hC.1; unfold CL at this; simp [this]
  have o8 : F 0 8 ≤ 4 := hO.2.2.2.2.2.2.2.2.2.2.2.2.1
  rcases hs_i hO x y with c | ⟨a, b, ha, hb, ea, eb, l, hi, ht⟩
  · apply OQ_T h
    rw [c] at e65
    refine ⟨1, mI 1, by decide, by decide, ⟨_, _, ?_, CQ_u⟩, fun I2 J2 hM => ⟨_, ?_, MQ_1⟩⟩
    · rw [f_152]
      simp [k_St, n_St, i_St, j_St, r_St, wI_St, wJ_St, k_S0, n_S0, i_S0, j_S0, r_S0, wI_S0, wJ_S0, cI_s, cJ_s, cV_s, nR_s, nQ_s, nQ_n, lt_s_, gd_T, gd_t, Option.map_some, lits, neg_mI, nI_add, pk_mul, nI_clamp, nI_eq, nI_leI, nI_ltI, nm_eq, mn_eq, nm_lt, mn_lt, nm_le, mn_le, m_eq, bI_0, bI_1, k0, e65, e67, c_161]
    · rw [f_306]
      have e := d_276 (lx := lx) (z := z) (E := E) (n := n) (J := J2) (MV_0 hM).1 x y r
      rw [c] at e
      have km := hM.1.1.1
      simp (disch := first | assumption | omega) [k_St, n_St, i_St, j_St, r_St, wI_St, wJ_St, k_S0, n_S0, i_S0, j_S0, r_S0, wI_S0, wJ_S0, cI_s, cJ_s, cV_s, nR_s, nQ_s, nQ_n, lt_s_, gd_T, gd_t, Option.map_some, lits, neg_mI, nI_add, pk_mul, nI_clamp, nI_eq, nI_leI, nI_ltI, nm_eq, mn_eq, nm_lt, mn_lt, nm_le, mn_le, m_eq, bI_0, bI_1, if_neg, km, e, d_182]
  · rcases rg_i r (n := 3) (by omega) with c | ⟨q, hq, eq⟩
    · apply OQ_T h
      rw [c] at e67
      rw [ht] at e65
      refine ⟨2, mI 1, by decide, by decide, ⟨_, _, ?_, CQ_u⟩, fun I2 J2 hM => ⟨_, ?_, MQ_1⟩⟩
      · rw [f_152]
        simp [k_St, n_St, i_St, j_St, r_St, wI_St, wJ_St, k_S0, n_S0, i_S0, j_S0, r_S0, wI_S0, wJ_S0, cI_s, cJ_s, cV_s, nR_s, nQ_s, nQ_n, lt_s_, gd_T, gd_t, Option.map_some, lits, neg_mI, nI_add, pk_mul, nI_clamp, nI_eq, nI_leI, nI_ltI, nm_eq, mn_eq, nm_lt, mn_lt, nm_le, mn_le, m_eq, bI_0, bI_1, k0, e65, e67, c_161]
      · rw [f_306]
        have e := d_276 (lx := lx) (z := z) (E := E) (n := n) (J := J2) (MV_0 hM).1 x y r
        rw [c, ht] at e
        have km := hM.1.1.1
        simp (disch := first | assumption | omega) [k_St, n_St, i_St, j_St, r_St, wI_St, wJ_St, k_S0, n_S0, i_S0, j_S0, r_S0, wI_S0, wJ_S0, cI_s, cJ_s, cV_s, nR_s, nQ_s, nQ_n, lt_s_, gd_T, gd_t, Option.map_some, lits, neg_mI, nI_add, pk_mul, nI_clamp, nI_eq, nI_leI, nI_ltI, nm_eq, mn_eq, nm_lt, mn_lt, nm_le, mn_le, m_eq, bI_0, bI_1, if_neg, km, e, d_182]
    · subst eq
      rw [rg_t hq (by omega)] at e67
      rw [ht] at e65
      obtain ⟨I1, J1, e1, t1, f1⟩ := c_18 (lx := lx) (z := z) (E := E) (n := n) (CT_0 h (nI 0))
      obtain ⟨I2, J2, e2, w2, f2⟩ := s_98 (lx := lx) (z := z) (E := E) (n := n) (r := q) hcW.2.2.1 t1.1.2.2.2.1 hcW.1 (CW_n t1.1) hO hρ (by omega) l (by omega)
      have hk : RK F (exq F ρ (8 * b + a) q) := exq_ok hO hρ
      refine ⟨0, (nI (msk (hit F ρ (8 * b + a) q) (F 0 8))), exq F ρ (8 * b + a) q, _, _, _, _, by decide, by decide, ⟨I2, J2, ?_, CT_a t1 w2 hk f2, CX_2 f1 f2⟩, ?_⟩
      · rw [f_152]
        subst ea eb
        simp (disch := first | assumption | omega) [k_St, n_St, i_St, j_St, r_St, wI_St, wJ_St, k_S0, n_S0, i_S0, j_S0, r_S0, wI_S0, wJ_S0, cI_s, cJ_s, cV_s, nR_s, nQ_s, nQ_n, lt_s_, gd_T, gd_t, Option.map_some, lits, neg_mI, nI_add, pk_mul, nI_clamp, nI_eq, nI_leI, nI_ltI, nm_eq, mn_eq, nm_lt, mn_lt, nm_le, mn_le, m_eq, bI_0, bI_1, k0, e65, e67, c_161, r1, k15, r3, k23, e1, rp, s_0, e2]
      · intro Ia Ja hm
        have hm0 := MT_0 hm
        have e := d_276 (lx := lx) (z := z) (E := E) (n := n) (J := Ja) hm0.1.1 x y (nI q)
        rw [rg_t hq (by omega), ht] at e
        obtain ⟨Ib, e3, h3, g3, g4⟩ := d_303 (lx := lx) (z := z) (E := E) (n := n) (J := Ja) hm.1.1.1 hm0.2 hm0.1.2.1
        have v3 : ∀ k, k < 145 → Ib 134 k = nI (ρ k) := fun k hk => by rw [g3 134 (by decide) (by decide)]; exact hm0.1.2.1 k hk
        have md3 : MD K N R Ib f F := MD_c hm0.1.1 (fun a ha => g3 a (by omega) (by omega))
        have e4 := s_231 (lx := lx) (z := z) (E := E) (n := n) (J := Ja) md3 v3
        have e5 := s_275 (lx := lx) (z := z) (E := E) (n := n) (J := Ja) md3 (ROk_a hρ.1) l (show q ≤ 2 by omega)
        have eh : (fun g => nrP F ρ (8 * b + a) q g && !decide (ρ (8 + g) = 1)) = hit F ρ (8 * b + a) q := rfl
        rw [eh] at e5
        have hO' := hO
        obtain ⟨o0, o0x, o1, o2, o2x, o3, o4, o4x, o5, o5x, o6, o7, o8, o9, oS, oD, oG, oH⟩ := hO
        have mdp : ∀ τ, MD K N R (pr (pr Ib 134 145 τ) 135 145 ρ) f F := fun τ => MD_p (MD_p md3 (by decide)) (by decide)
        obtain ⟨km, _, r16, r17, _, _, _, _, _, _, _, _, _, _, _, k134, k135, _, _, _, _, _, _, _, _, _, _, _, n134, n135, _⟩ := hm.1.1.1
        have L := loopN (X := fun i => Am lx 306 31 [some (.ref (z + 132)), none, none, some (.int (nI q)), none, some (.int (nI (8 * b + a))), some (.int (nI (msk (hit F ρ (8 * b + a) q) (F 0 8)))), some (.int (nI i))] [] (0, 0) (St z E n K N R (pr (pr Ib 134 145 (eB F (8 * b + a) q ρ i)) 135 145 ρ) Ja)) (n := 8 * (F 0 5 - 1) + F 0 4 - 1 + 1) (by
          intro i hi
          try simp only
          rw [e_306_31]
          have i64 : i < 64 := by omega
          have a0 := s_266 (lx := lx) (z := z) (E := E) (n := n) (J := Ja) (mdp (eB F (8 * b + a) q ρ i))
          have a1 := s_267 (lx := lx) (z := z) (E := E) (n := n) (J := Ja) (mdp (eB F (8 * b + a) q ρ i)) i64
          have a2 := s_191 (lx := lx) l i64
          rw [apt_c] at a2
          have hap := apt_le i64 l
          rw [eB]
          cases c1 : isS F i
          · rw [c1] at a1
            simp (disch := first | assumption | omega) [k_St, n_St, i_St, j_St, r_St, wI_St, wJ_St, k_S0, n_S0, i_S0, j_S0, r_S0, wI_S0, wJ_S0, cI_s, cJ_s, cV_s, nR_s, nQ_s, nQ_n, lt_s_, gd_T, gd_t, Option.map_some, lits, neg_mI, nI_add, pk_mul, nI_clamp, nI_eq, nI_leI, nI_ltI, nm_eq, mn_eq, nm_lt, mn_lt, nm_le, mn_le, m_eq, bI_0, bI_1, if_neg, km, a0, a1]
          · rw [c1] at a1
            by_cases c2 : apt i (8 * b + a) ≤ q
            · simp (disch := first | assumption | omega) [k_St, n_St, i_St, j_St, r_St, wI_St, wJ_St, k_S0, n_S0, i_S0, j_S0, r_S0, wI_S0, wJ_S0, cI_s, cJ_s, cV_s, nR_s, nQ_s, nQ_n, lt_s_, gd_T, gd_t, Option.map_some, lits, neg_mI, nI_add, pk_mul, nI_clamp, nI_eq, nI_leI, nI_ltI, nm_eq, mn_eq, nm_lt, mn_lt, nm_le, mn_le, m_eq, bI_0, bI_1, if_neg, if_pos, km, a0, a1, a2, c2, r16, k134, n134, pr_x, pr_u]
            · simp (disch := first | assumption | omega) [k_St, n_St, i_St, j_St, r_St, wI_St, wJ_St, k_S0, n_S0, i_S0, j_S0, r_S0, wI_S0, wJ_S0, cI_s, cJ_s, cV_s, nR_s, nQ_s, nQ_n, lt_s_, gd_T, gd_t, Option.map_some, lits, neg_mI, nI_add, pk_mul, nI_clamp, nI_eq, nI_leI, nI_ltI, nm_eq, mn_eq, nm_lt, mn_lt, nm_le, mn_le, m_eq, bI_0, bI_1, if_neg, if_pos, km, a0, a1, a2, c2])
        try simp only at L
        have eBe : eB F (8 * b + a) q ρ (8 * (F 0 5 - 1) + F 0 4 - 1 + 1) = eB F (8 * b + a) q ρ 64 := loopF (X := eB F (8 * b + a) q ρ) (by omega) (fun i h1 h2 => by
          rw [eB]
          have : isS F i = false := by
            unfold isS inF
            by_cases d1 : i % 8 < F 0 4
            · have d2 : ¬ i / 8 < F 0 5 := by omega
              simp [d2]
            · simp [d1]
          simp [this])
        have eB0 : pr Ib 134 145 (eB F (8 * b + a) q ρ 0) = Ib := pr_i v3
        rw [eBe, eB0] at L
        have L2 := loopN (X := fun g => Am lx 306 64 [some (.ref (z + 132)), none, none, none, none, none, some (.int (nI (msk (hit F ρ (8 * b + a) q) (F 0 8)))), some (.int (nI g))] [] (0, 0) (St z E n K N R (pr (pr Ib 134 145 (eS (hit F ρ (8 * b + a) q) (eB F (8 * b + a) q ρ 64) g)) 135 145 ρ) Ja)) (n := F 0 8) (by
          intro g hg
          try simp only
          rw [e_306_64]
          obtain ⟨_, ⟨_, kf, _⟩, rf, ⟨q0, _⟩, _⟩ := mdp (eS (hit F ρ (8 * b + a) q) (eB F (8 * b + a) q ρ 64) g)
          have q8 := q0 8 (by decide)
          have a3 := s_188 (lx := lx) (msk_16 (hit F ρ (8 * b + a) q) o8) (show g < 4 by omega)
          rw [msk_b _ o8 hg] at a3
          rw [eS]
          cases c1 : hit F ρ (8 * b + a) q g
          · rw [c1] at a3
            simp (disch := first | assumption | omega) [k_St, n_St, i_St, j_St, r_St, wI_St, wJ_St, k_S0, n_S0, i_S0, j_S0, r_S0, wI_S0, wJ_S0, cI_s, cJ_s, cV_s, nR_s, nQ_s, nQ_n, lt_s_, gd_T, gd_t, Option.map_some, lits, neg_mI, nI_add, pk_mul, nI_clamp, nI_eq, nI_leI, nI_ltI, nm_eq, mn_eq, nm_lt, mn_lt, nm_le, mn_le, m_eq, bI_0, bI_1, if_neg, km, rf, kf, q8, a3]
          · rw [c1] at a3
            simp (disch := first | assumption | omega) [k_St, n_St, i_St, j_St, r_St, wI_St, wJ_St, k_S0, n_S0, i_S0, j_S0, r_S0, wI_S0, wJ_S0, cI_s, cJ_s, cV_s, nR_s, nQ_s, nQ_n, lt_s_, gd_T, gd_t, Option.map_some, lits, neg_mI, nI_add, pk_mul, nI_clamp, nI_eq, nI_leI, nI_ltI, nm_eq, mn_eq, nm_lt, mn_lt, nm_le, mn_le, m_eq, bI_0, bI_1, if_neg, km, rf, kf, q8, a3, r16, k134, n134, pr_x, pr_u])
        try simp only at L2
        have eS0 : eS (hit F ρ (8 * b + a) q) (eB F (8 * b + a) q ρ 64) 0 = eB F (8 * b + a) q ρ 64 := rfl
        have eSe : eS (hit F ρ (8 * b + a) q) (eB F (8 * b + a) q ρ 64) (F 0 8) = exq F ρ (8 * b + a) q := rfl
        rw [eS0, eSe] at L2
        refine ⟨u2 (u2 (pr (pr Ib 134 145 (exq F ρ (8 * b + a) q)) 135 145 ρ) 132 1 (nI 0)) 132 2 (mI 1), ?_, ?_, ?_⟩
        · rw [f_306]
          subst ea eb
          have a0 := s_266 (lx := lx) (z := z) (E := E) (n := n) (J := Ja) (mdp (eB F (8 * b + a) q ρ 64))
          simp (disch := first | assumption | omega) [k_St, n_St, i_St, j_St, r_St, wI_St, wJ_St, k_S0, n_S0, i_S0, j_S0, r_S0, wI_S0, wJ_S0, cI_s, cJ_s, cV_s, nR_s, nQ_s, nQ_n, lt_s_, gd_T, gd_t, Option.map_some, lits, neg_mI, nI_add, pk_mul, nI_clamp, nI_eq, nI_leI, nI_ltI, nm_eq, mn_eq, nm_lt, mn_lt, nm_le, mn_le, m_eq, bI_0, bI_1, if_pos, km, e, e3, e4, s_229, e5, L]
          rw [e_306_31]
          simp (disch := first | assumption | omega) [k_St, n_St, i_St, j_St, r_St, wI_St, wJ_St, k_S0, n_S0, i_S0, j_S0, r_S0, wI_S0, wJ_S0, cI_s, cJ_s, cV_s, nR_s, nQ_s, nQ_n, lt_s_, gd_T, gd_t, Option.map_some, lits, neg_mI, nI_add, pk_mul, nI_clamp, nI_eq, nI_leI, nI_ltI, nm_eq, mn_eq, nm_lt, mn_lt, nm_le, mn_le, m_eq, bI_0, bI_1, if_pos, km, a0, L2]
          rw [e_306_64]
          obtain ⟨_, ⟨_, kf, _⟩, rf, ⟨q0, _⟩, _⟩ := mdp (exq F ρ (8 * b + a) q)
          have q8 := q0 8 (by decide)
          simp (disch := first | assumption | omega) [k_St, n_St, i_St, j_St, r_St, wI_St, wJ_St, k_S0, n_S0, i_S0, j_S0, r_S0, wI_S0, wJ_S0, cI_s, cJ_s, cV_s, nR_s, nQ_s, nQ_n, lt_s_, gd_T, gd_t, Option.map_some, lits, neg_mI, nI_add, pk_mul, nI_clamp, nI_eq, nI_leI, nI_ltI, nm_eq, mn_eq, nm_lt, mn_lt, nm_le, mn_le, m_eq, bI_0, bI_1, if_pos, km, rf, kf, q8, s_185]
        · refine MT_v hm hk (fun k hk => ?_) (fun a ha => ?_) (MH_f h3 ?_ ?_ ?_ ?_)
          · rw [u2_a _ _ _ _ _ (by decide), u2_a _ _ _ _ _ (by decide), pr_n (by decide), pr_s hk]
          · rw [u2_a _ _ _ _ _ (by omega), u2_a _ _ _ _ _ (by omega), pr_n (by omega), pr_n (by omega), g3 a (by omega) (by omega), u2_a _ _ _ _ _ (by omega)]
          · rw [u2_k _ _ _ _ _ (by decide), u2_k _ _ _ _ _ (by decide), pr_n (by decide), pr_n (by decide)]
          · rw [u2_k _ _ _ _ _ (by decide), u2_k _ _ _ _ _ (by decide), pr_n (by decide), pr_n (by decide)]
          · rw [u2_a _ _ _ _ _ (by decide), u2_a _ _ _ _ _ (by decide), pr_n (by decide), pr_n (by decide)]
          · rw [u2_a _ _ _ _ _ (by decide), u2_a _ _ _ _ _ (by decide), pr_n (by decide), pr_n (by decide)]
        · refine MX_0 (fun a ha => ?_) (fun k k0 k1 k2 k3 k4 k5 => ?_) ?_
          · rw [pr_n (by omega), pr_n (by omega), g3 a (by omega) (by omega), u2_a _ _ _ _ _ (by omega)]
          · rw [pr_n (by decide), pr_n (by decide), g4 k k1, u2_k _ _ _ _ _ k0]
          · rw [pr_n (by decide), pr_n (by decide), g4 0 (by decide), u2_s]
end ACT4
