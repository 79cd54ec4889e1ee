section ACT6
variable {z : Nat} {E : aEt} {n : Nat} {K N : Nat → Nat} {R : Nat → Nat → Option Nat} {I : Nat → Nat → Int32} {J : Nat → Nat → Int64} {lx : List Value → aH → aO} {p s f w : Nat} {F : Nat → Nat → Nat} {ρ σ : Nat → Nat} {cnt img : Nat} {H M : Nat → Nat → Nat} {I' : Nat → Nat → Int32}
theorem d_184 (km : K 132 = 11) (x : Int32) : Ca lx 184 [.ref (z + 132), .int x] (St z E n K N R I J) = some (some (.int (nI 0)), St z E n K N R (u2 (u2 I 132 1 x) 132 2 (mI 1)) J) := by
  rw [f_184]; simp [k_St, n_St, i_St, j_St, r_St, wI_St, wJ_St, k_S0, n_S0, i_S0, j_S0, r_S0, wI_S0, wJ_S0, cI_s, cJ_s, cV_s, nR_s, nQ_s, nQ_n, lt_s_, gd_T, gd_t, Option.map_some, lits, neg_mI, nI_add, pk_mul, nI_clamp, nI_eq, nI_leI, nI_ltI, nm_eq, mn_eq, nm_lt, mn_lt, nm_le, mn_le, m_eq, bI_0, bI_1, km, d_182]
theorem d_186 (km : K 132 = 11) : Ca lx 186 [.ref (z + 132)] (St z E n K N R I J) = some (some (.int (nI 1)), St z E n K N R (u2 (u2 I 132 1 (nI 0)) 132 2 (mI 1)) J) := by
  rw [f_186]; simp [k_St, n_St, i_St, j_St, r_St, wI_St, wJ_St, k_S0, n_S0, i_S0, j_S0, r_S0, wI_S0, wJ_S0, cI_s, cJ_s, cV_s, nR_s, nQ_s, nQ_n, lt_s_, gd_T, gd_t, Option.map_some, lits, neg_mI, nI_add, pk_mul, nI_clamp, nI_eq, nI_leI, nI_ltI, nm_eq, mn_eq, nm_lt, mn_lt, nm_le, mn_le, m_eq, bI_0, bI_1, km, s_185]
/-- an answer that changes nothing but the trouble -/
theorem OT_q {u w t : Nat} {as : List Value} {r : Int32} (h : CT K N R I J p s F ρ cnt img H M) (t4 : t ≠ 4) (t7 : t < 7) (c : Ca lx u (.ref z :: as) (St z E n K N R I J) = some (some (.int r), St z E n K N R (u2 I 0 11 (nI t)) J)) (m : ∀ I2 J2, MT K N R I2 f F ρ cnt img H M → Ca lx w (.ref (z + 132) :: as) (St z E n K N R I2 J2) = some (some (.int r), St z E n K N R (u2 (u2 (u2 I2 132 0 (nI 0)) 132 1 (nI t)) 132 2 (mI 1)) J2)) : OT lx z E n K N R I J p s f F ρ cnt img H M u w as := by
  refine ⟨t, r, ρ, cnt, img, H, M, t4, t7, ⟨_, _, c, CT_q h CQ_u⟩, fun I2 J2 hm => ⟨_, m I2 J2 hm, MT_q hm MQ_1⟩⟩
theorem o_154 (h : CT K N R I J p s F ρ cnt img H M) : OT lx z E n K N R I J p s f F ρ cnt img H M 154 308 [] := by
  have hC := h.1
  obtain ⟨nxt, hH⟩ := h.2
  have hO := hC.2.2.2.2.1
  have hcW := hC.2.1
  have o8 : F 0 8 ≤ 4 := hO.2.2.2.2.2.2.2.2.2.2.2.2.1
  have o7 : F 0 7 ≤ 4 := hO.2.2.2.2.2.2.2.2.2.2.2.1
  obtain ⟨k0, _, r1, r2, r3, _, _, _, r7, rp, _⟩ := hC.1
  have k15 := hcW.1.1
  have hL' := hC.1
  unfold CL at hL'
  have k23 : K 23 = 1 := by simp [hL']
  have r23 : R 23 0 = some 24 := by simp [hL']
  have k24 : K 24 = 16 := by simp [hL']
  have n24 : N 24 = 16 := by simp [hL']
  have hH' := hH
  obtain ⟨h1, h2, h3, h4, h5, h6, h7, h8⟩ := hH
  by_cases c : cnt = 0
  · subst c
    apply OT_q (t := 6) (r := nI 0) h (by decide) (by decide)
    · rw [f_154]
      have e19 : Ca lx 19 [.ref (z + 23), .ref (z + 15)] (St z E n K N R I J) = some (some (.int (nI 0)), (St z E n K N R I J)) := by
        rw [f_19]; simp [k_St, n_St, i_St, j_St, r_St, wI_St, wJ_St, k_S0, n_S0, i_S0, j_S0, r_S0, wI_S0, wJ_S0, cI_s, cJ_s, cV_s, nR_s, nQ_s, nQ_n, lt_s_, gd_T, gd_t, Option.map_some, lits, neg_mI, nI_add, pk_mul, nI_clamp, nI_eq, nI_leI, nI_ltI, nm_eq, mn_eq, nm_lt, mn_lt, nm_le, mn_le, m_eq, bI_0, bI_1, k23, h3]
      simp [k_St, n_St, i_St, j_St, r_St, wI_St, wJ_St, k_S0, n_S0, i_S0, j_S0, r_S0, wI_S0, wJ_S0, cI_s, cJ_s, cV_s, nR_s, nQ_s, nQ_n, lt_s_, gd_T, gd_t, Option.map_some, lits, neg_mI, nI_add, pk_mul, nI_clamp, nI_eq, nI_leI, nI_ltI, nm_eq, mn_eq, nm_lt, mn_lt, nm_le, mn_le, m_eq, bI_0, bI_1, k0, r3, r1, k23, e19, e_154_13]
    · intro I2 J2 hm
      have c20 := (MT_0 hm).2.1
      have km := hm.1.1.1.1
      have rf := hm.1.1.2.2.1
      rw [f_308]
      simp [k_St, n_St, i_St, j_St, r_St, wI_St, wJ_St, k_S0, n_S0, i_S0, j_S0, r_S0, wI_S0, wJ_S0, cI_s, cJ_s, cV_s, nR_s, nQ_s, nQ_n, lt_s_, gd_T, gd_t, Option.map_some, lits, neg_mI, nI_add, pk_mul, nI_clamp, nI_eq, nI_leI, nI_ltI, nm_eq, mn_eq, nm_lt, mn_lt, nm_le, mn_le, m_eq, bI_0, bI_1, km, rf, c20, e_308_10, d_184]
  · have ml : (nxt + 15) % 16 < 16 := Nat.mod_lt _ (by omega)
    obtain ⟨rk, wk⟩ := hcW.2.2.2.2.2.1 ((nxt + 15) % 16) ml
    have a1 := an15 (m := nxt + 15) (by omega)
    have a2 := an15 (m := (nxt + 15) % 16) (by omega)
    rw [Nat.mod_mod] at a2
    have w0 := h7 0 (by omega)
    rw [Nat.sub_zero] at w0
    -- the class
    have e95 := s_95 (lx := lx) (z := z) (E := E) (n := n) (I := u2 (u2 I 23 2 (nI ((nxt + 15) % 16))) 23 3 (nI (cnt - 1))) (J := J) hcW.1 wk (by omega)
    have x3 : u2 I 23 2 (nI ((nxt + 15) % 16)) 23 3 = nI cnt := by rw [u2_k _ _ _ _ _ (by decide)]; exact h3
    have x2 : u2 (u2 I 23 2 (nI ((nxt + 15) % 16))) 23 3 (nI (cnt - 1)) 23 2 = nI ((nxt + 15) % 16) := by rw [u2_k _ _ _ _ _ (by decide), u2_s]
    have e19 : Ca lx 19 [.ref (z + 23), .ref (z + 15)] (St z E n K N R I J) = some (some (.int (nI 1)), St z E n K N R (cpI (u2 (u2 I 23 2 (nI ((nxt + 15) % 16))) 23 3 (nI (cnt - 1))) 15 (26 + 4 * ((nxt + 15) % 16))) (cpJ J 15 (26 + 4 * ((nxt + 15) % 16)))) := by
      rw [f_19]
      simp (disch := first | assumption | omega) [k_St, n_St, i_St, j_St, r_St, wI_St, wJ_St, k_S0, n_S0, i_S0, j_S0, r_S0, wI_S0, wJ_S0, cI_s, cJ_s, cV_s, nR_s, nQ_s, nQ_n, lt_s_, gd_T, gd_t, Option.map_some, lits, neg_mI, nI_add, pk_mul, nI_clamp, nI_eq, nI_leI, nI_ltI, nm_eq, mn_eq, nm_lt, mn_lt, nm_le, mn_le, m_eq, bI_0, bI_1, k23, h3, c, h1, pk_sub, a1, x3, x2, r23, k24, n24, a2, rk, k15, e95]
    have fr0 : ∀ a, a ≠ 23 → u2 (u2 I 23 2 (nI ((nxt + 15) % 16))) 23 3 (nI (cnt - 1)) a = I a := fun a ha => by rw [u2_a _ _ _ _ _ ha, u2_a _ _ _ _ _ ha]
    have fr : ∀ a, a < 15 ∨ 18 < a → cpI (u2 (u2 I 23 2 (nI ((nxt + 15) % 16))) 23 3 (nI (cnt - 1))) 15 (26 + 4 * ((nxt + 15) % 16)) a = u2 (u2 I 23 2 (nI ((nxt + 15) % 16))) 23 3 (nI (cnt - 1)) a ∧ cpJ J 15 (26 + 4 * ((nxt + 15) % 16)) a = J a := fun a ha => cp_F (w := 15) a (by omega)
    have wk0 : WN (u2 (u2 I 23 2 (nI ((nxt + 15) % 16))) 23 3 (nI (cnt - 1))) J (26 + 4 * ((nxt + 15) % 16)) F (H 0) := WN_f w0.1 (fun a a1 a2 => ⟨fr0 a (by omega), rfl⟩)
    have wn : WN (cpI (u2 (u2 I 23 2 (nI ((nxt + 15) % 16))) 23 3 (nI (cnt - 1))) 15 (26 + 4 * ((nxt + 15) % 16))) (cpJ J 15 (26 + 4 * ((nxt + 15) % 16))) 15 F (H 0) := ⟨cp_W wk0.1 o7 o8 (by omega), by rw [cp_n]; exact wk0.2⟩
    refine ⟨0, (nI 1), H 0, cnt - 1, img, fun i => H (i + 1), M, by decide, by decide, ⟨u2 (cpI (u2 (u2 I 23 2 (nI ((nxt + 15) % 16))) 23 3 (nI (cnt - 1))) 15 (26 + 4 * ((nxt + 15) % 16))) 0 11 (nI 0), cpJ J 15 (26 + 4 * ((nxt + 15) % 16)), ?_, ?_, ?_⟩, ?_⟩
    · rw [f_154]
      simp [k_St, n_St, i_St, j_St, r_St, wI_St, wJ_St, k_S0, n_S0, i_S0, j_S0, r_S0, wI_S0, wJ_S0, cI_s, cJ_s, cV_s, nR_s, nQ_s, nQ_n, lt_s_, gd_T, gd_t, Option.map_some, lits, neg_mI, nI_add, pk_mul, nI_clamp, nI_eq, nI_leI, nI_ltI, nm_eq, mn_eq, nm_lt, mn_lt, nm_le, mn_le, m_eq, bI_0, bI_1, k0, r3, r1, k23, e19, e_154_13]
    · refine CT_0 ⟨CW_f hC w0.2 wn (fun a a1 a2 => ?_) (fun k _ => ?_), (nxt + 15) % 16, ?_⟩ _
      · have := fr a (by omega)
        rw [fr0 a (by omega)] at this; exact this
      · rw [(fr 0 (by omega)).1, fr0 0 (by omega)]
      · refine ⟨?_, ml, ?_, by omega, ?_, h6, ?_, ?_⟩
        · rw [(fr 23 (by omega)).1]; exact x2
        · rw [(fr 23 (by omega)).1, u2_s]
        · rw [(fr 23 (by omega)).1, u2_k _ _ _ _ _ (by decide), u2_k _ _ _ _ _ (by decide)]; exact h5
        · intro i hi
          have m : ((nxt + 15) % 16 + 15 - i) % 16 = (nxt + 15 - (i + 1)) % 16 := by omega
          rw [m]
          have ml2 : (nxt + 15 - (i + 1)) % 16 < 16 := Nat.mod_lt _ (by omega)
          have := h7 (i + 1) (by omega)
          refine ⟨WN_f this.1 (fun a a1 a2 => ?_), this.2⟩
          have q := fr a (by omega)
          rw [fr0 a (by omega)] at q; exact q
        · intro i hi
          have := h8 i hi
          refine ⟨WN_f this.1 (fun a a1 a2 => ?_), this.2⟩
          have q := fr a (by omega)
          rw [fr0 a (by omega)] at q; exact q
    · refine ⟨fun a a1 a2 a3 => ?_, fun k hk => ?_, ?_, ?_⟩
      · have q := fr a (by omega)
        rw [fr0 a (by omega)] at q
        rw [u2_a _ _ _ _ _ (by omega)]; exact q
      · rw [u2_k _ _ _ _ _ hk, (fr 0 (by omega)).1, fr0 0 (by omega)]
      · rw [u2_s]
      · exact (fr 0 (by omega)).2
    · intro Ia Ja hm
      have hm0 := MT_0 hm
      obtain ⟨g1, g2, g3, g4, g5, g6⟩ := hm0.2
      obtain ⟨⟨km, _, r16, r17, r18, _, _, _, _, _, _, _, _, _, _, k134, k135, k136, _, _, _, _, _, _, _, _, _, _, n134, n135, n136, _⟩, _, rf, _⟩ := hm.1.1
      have I1 : ∃ I1, I1 = u2 (u2 Ia 132 0 (nI 0)) 132 20 (nI (cnt - 1)) := ⟨_, rfl⟩
      obtain ⟨I1, eI1⟩ := I1
      have s20 : I1 132 20 = nI (cnt - 1) := by rw [eI1, u2_s]
      have s36 : ∀ k, k < 145 → I1 136 (145 * (cnt - 1) + k) = nI (H 0 k) := fun k hk => by
        rw [eI1, u2_a _ _ _ _ _ (by decide)]
        have := g5 0 (by omega) k hk
        rw [Nat.sub_zero] at this; exact this
      have L := loopN (X := fun i => Am lx 308 23 [some (.ref (z + 132)), some (.int (nI i))] [] (0, 0) (St z E n K N R (fun c k => if c = 134 ∧ k < i then nI (H 0 k) else I1 c k) Ja)) (n := 145) (by
        intro i hi
        try simp only
        rw [e_308_23]
        have q := cpv (I := I1) (σ := H 0) (b0 := 145 * (cnt - 1)) (a := 0) (lx := lx) 136 (by decide) s36 i hi
        try simp only at q
        simp only [show ¬ (136 = 134) by decide, false_and, if_false] at q
        simp (disch := first | assumption | omega) [k_St, n_St, i_St, j_St, r_St, wI_St, wJ_St, k_S0, n_S0, i_S0, j_S0, r_S0, wI_S0, wJ_S0, cI_s, cJ_s, cV_s, nR_s, nQ_s, nQ_n, lt_s_, gd_T, gd_t, Option.map_some, lits, neg_mI, nI_add, pk_mul, nI_clamp, nI_eq, nI_leI, nI_ltI, nm_eq, mn_eq, nm_lt, mn_lt, nm_le, mn_le, m_eq, bI_0, bI_1, if_neg, km, r16, r18, k134, n134, k136, n136, s20, q])
      try simp only at L
      have e0 : (fun c k => if c = 134 ∧ k < 0 then nI (H 0 k) else I1 c k) = I1 := by funext c k; simp
      have e145 : (fun c k => if c = 134 ∧ k < 145 then nI (H 0 k) else I1 c k) = pr I1 134 145 (H 0) := rfl
      rw [e0, e145] at L
      have sc : nI cnt - nI 1 = nI (cnt - 1) := pk_sub (by omega)
      refine ⟨u2 (u2 (pr I1 134 145 (H 0)) 132 1 (nI 0)) 132 2 (mI 1), ?_, ?_, ?_⟩
      · rw [f_308]
        simp (disch := first | assumption | omega) [k_St, n_St, i_St, j_St, r_St, wI_St, wJ_St, k_S0, n_S0, i_S0, j_S0, r_S0, wI_S0, wJ_S0, cI_s, cJ_s, cV_s, nR_s, nQ_s, nQ_n, lt_s_, gd_T, gd_t, Option.map_some, lits, neg_mI, nI_add, pk_mul, nI_clamp, nI_eq, nI_leI, nI_ltI, nm_eq, mn_eq, nm_lt, mn_lt, nm_le, mn_le, m_eq, bI_0, bI_1, km, rf, g1, c, sc]
        rw [← eI1, L, e_308_23]
        simp (disch := first | assumption | omega) [k_St, n_St, i_St, j_St, r_St, wI_St, wJ_St, k_S0, n_S0, i_S0, j_S0, r_S0, wI_S0, wJ_S0, cI_s, cJ_s, cV_s, nR_s, nQ_s, nQ_n, lt_s_, gd_T, gd_t, Option.map_some, lits, neg_mI, nI_add, pk_mul, nI_clamp, nI_eq, nI_leI, nI_ltI, nm_eq, mn_eq, nm_lt, mn_lt, nm_le, mn_le, m_eq, bI_0, bI_1, if_pos, km, d_186]
      · have fr1 : ∀ a, a ≠ 132 → I1 a = Ia a := fun a ha => by rw [eI1, u2_a _ _ _ _ _ ha, u2_a _ _ _ _ _ ha]
        refine MT_v hm w0.2 (fun k hk => ?_) (fun a ha => ?_) ⟨?_, by omega, ?_, g4, ?_, ?_⟩
        · rw [u2_a _ _ _ _ _ (by decide), u2_a _ _ _ _ _ (by decide), pr_s hk]
        · rw [u2_a _ _ _ _ _ (by omega), u2_a _ _ _ _ _ (by omega), pr_n (by omega), fr1 a (by omega)]
        · rw [u2_k _ _ _ _ _ (by decide), u2_k _ _ _ _ _ (by decide), pr_n (by decide)]; exact s20
        · rw [u2_k _ _ _ _ _ (by decide), u2_k _ _ _ _ _ (by decide), pr_n (by decide), eI1, u2_k _ _ _ _ _ (by decide)]; exact g3
        · intro i hi k hk
          rw [u2_a _ _ _ _ _ (by decide), u2_a _ _ _ _ _ (by decide), pr_n (by decide), eI1, u2_a _ _ _ _ _ (by decide)]
          have := g5 (i + 1) (by omega) k hk
          have e : cnt - 1 - (i + 1) = cnt - 1 - 1 - i := by omega
          rw [e] at this; exact this
        · intro i hi k hk
          rw [u2_a _ _ _ _ _ (by decide), u2_a _ _ _ _ _ (by decide), pr_n (by decide), eI1, u2_a _ _ _ _ _ (by decide)]
          exact g6 i hi k hk
      · refine MX_0 (fun a ha => ?_) (fun k k0 k1 k2 k3 k4 k5 => ?_) ?_
        · rw [pr_n (by omega), eI1, u2_a _ _ _ _ _ (by omega), u2_a _ _ _ _ _ (by omega)]
        · rw [pr_n (by decide), eI1, u2_k _ _ _ _ _ k1, u2_k _ _ _ _ _ k0]
        · rw [pr_n (by decide), eI1, u2_k _ _ _ _ _ (by decide), u2_s]
theorem o_155 (h : CT K N R I J p s F ρ cnt img H M) : OT lx z E n K N R I J p s f F ρ cnt img H M 155 309 [] := by
  have hC := h.1
  obtain ⟨nxt, hH⟩ := h.2
  have hO := hC.2.2.2.2.1
  have h10 := hC.2.2.1
  have hcW := hC.2.1
  have hρ := CW_k hC
  have o8 : F 0 8 ≤ 4 := hO.2.2.2.2.2.2.2.2.2.2.2.2.1
  have o7 : F 0 7 ≤ 4 := hO.2.2.2.2.2.2.2.2.2.2.2.1
  obtain ⟨k0, _, r1, r2, r3, _, _, _, r7, rp, _⟩ := hC.1
  have hL' := hC.1
  unfold CL at hL'
  have k23 : K 23 = 1 := by simp [hL']
  have r23 : R 23 1 = some 25 := by simp [hL']
  have k25 : K 25 = 16 := by simp [hL']
  have n25 : N 25 = 3 := by simp [hL']
  obtain ⟨h1, h2, h3, h4, h5, h6, h7, h8⟩ := hH
  have x5 : ∀ v, u2 I 0 11 v 23 4 = nI img := fun v => by rw [u2_a _ _ _ _ _ (by decide)]; exact h5
  by_cases c : img < 3
  · obtain ⟨rk, wk⟩ := hcW.2.2.2.2.2.2 img c
    have kw := wk.1
    have e95 := s_95 (lx := lx) (z := z) (E := E) (n := n) (I := u2 I 0 11 (nI 0)) (J := J) wk hcW.1 (by omega)
    have fr : ∀ a, a < 90 + 4 * img ∨ 90 + 4 * img + 3 < a → cpI (u2 I 0 11 (nI 0)) (90 + 4 * img) 15 a = u2 I 0 11 (nI 0) a ∧ cpJ J (90 + 4 * img) 15 a = J a := fun a ha => cp_F (w := 90 + 4 * img) a ha
    have x6 : cpI (u2 I 0 11 (nI 0)) (90 + 4 * img) 15 23 4 = nI img := by rw [(fr 23 (by omega)).1]; exact x5 _
    have x7 : u2 (cpI (u2 I 0 11 (nI 0)) (90 + 4 * img) 15) 23 4 (nI (img + 1)) 23 4 = nI (img + 1) := by rw [u2_s]
    have e20 : Ca lx 20 [.ref (z + 23), .ref (z + 15)] (St z E n K N R (u2 I 0 11 (nI 0)) J) = some (some (.int (nI img)), St z E n K N R (u2 (cpI (u2 I 0 11 (nI 0)) (90 + 4 * img) 15) 23 4 (nI (img + 1))) (cpJ J (90 + 4 * img) 15)) := by
      rw [f_20]
      simp (disch := first | assumption | omega) [k_St, n_St, i_St, j_St, r_St, wI_St, wJ_St, k_S0, n_S0, i_S0, j_S0, r_S0, wI_S0, wJ_S0, cI_s, cJ_s, cV_s, nR_s, nQ_s, nQ_n, lt_s_, gd_T, gd_t, Option.map_some, lits, neg_mI, nI_add, pk_mul, nI_clamp, nI_eq, nI_leI, nI_ltI, nm_eq, mn_eq, nm_lt, mn_lt, nm_le, mn_le, m_eq, bI_0, bI_1, k23, x5, c, r23, k25, n25, rk, kw, e95, x6, x7, pk_sub]
    have fr2 : ∀ a, a ≠ 23 → a < 90 + 4 * img ∨ 90 + 4 * img + 3 < a → u2 (cpI (u2 I 0 11 (nI 0)) (90 + 4 * img) 15) 23 4 (nI (img + 1)) a = u2 I 0 11 (nI 0) a ∧ cpJ J (90 + 4 * img) 15 a = J a := fun a ha hb => ⟨by rw [u2_a _ _ _ _ _ ha]; exact (fr a hb).1, (fr a hb).2⟩
    have h0 := (CT_0 h (nI 0)).1
    refine ⟨0, (nI img), ρ, cnt, img + 1, H, fun i => if i = img then ρ else M i, by decide, by decide, ⟨u2 (cpI (u2 I 0 11 (nI 0)) (90 + 4 * img) 15) 23 4 (nI (img + 1)), cpJ J (90 + 4 * img) 15, ?_, ?_, ?_⟩, ?_⟩
    · rw [f_155]
      simp (disch := first | assumption | omega) [k_St, n_St, i_St, j_St, r_St, wI_St, wJ_St, k_S0, n_S0, i_S0, j_S0, r_S0, wI_S0, wJ_S0, cI_s, cJ_s, cV_s, nR_s, nQ_s, nQ_n, lt_s_, gd_T, gd_t, Option.map_some, lits, neg_mI, nI_add, pk_mul, nI_clamp, nI_eq, nI_leI, nI_ltI, nm_eq, mn_eq, nm_lt, mn_lt, nm_le, mn_le, m_eq, bI_0, bI_1, k0, h10, c_160t, r3, r1, k23, e20]
    · refine ⟨CW_f h0 hρ (WN_f (CW_n h0) (fun a a1 a2 => fr2 a (by omega) (by omega))) (fun a a1 a2 => fr2 a (by omega) (by omega)) (fun k _ => by rw [(fr2 0 (by omega) (by omega)).1]), nxt, ?_⟩
      refine ⟨?_, h2, ?_, h4, by rw [u2_s], by omega, ?_, ?_⟩
      · rw [u2_k _ _ _ _ _ (by decide), (fr 23 (by omega)).1, u2_a _ _ _ _ _ (by decide)]; exact h1
      · rw [u2_k _ _ _ _ _ (by decide), (fr 23 (by omega)).1, u2_a _ _ _ _ _ (by decide)]; exact h3
      · intro i hi
        have ml := Nat.mod_lt (nxt + 15 - i) (show 0 < 16 by omega)
        refine ⟨WN_f (h7 i hi).1 (fun a a1 a2 => ?_), (h7 i hi).2⟩
        have q := fr2 a (by omega) (by omega)
        rw [u2_a I 0 11 a (nI 0) (by omega)] at q; exact q
      · intro i hi
        by_cases e : i = img
        · subst e
          simp only [if_true]
          refine ⟨?_, hρ⟩
          have c1 : WN (cpI (u2 I 0 11 (nI 0)) (90 + 4 * i) 15) (cpJ J (90 + 4 * i) 15) (90 + 4 * i) F ρ := ⟨cp_W (CW_n h0).1 o7 o8 (by omega), by rw [cp_n]; exact (CW_n h0).2⟩
          exact WN_f c1 (fun a a1 a2 => ⟨u2_a _ _ _ _ _ (by omega), rfl⟩)
        · simp only [e, if_false]
          refine ⟨WN_f (h8 i (by omega)).1 (fun a a1 a2 => ?_), (h8 i (by omega)).2⟩
          have q := fr2 a (by omega) (by omega)
          rw [u2_a I 0 11 a (nI 0) (by omega)] at q; exact q
    · refine ⟨fun a a1 a2 a3 => ?_, fun k hk => ?_, ?_, ?_⟩
      · have q := fr2 a (by omega) (by omega)
        rw [u2_a I 0 11 a (nI 0) (by omega)] at q; exact q
      · rw [(fr2 0 (by omega) (by omega)).1, u2_k _ _ _ _ _ hk]
      · rw [(fr2 0 (by omega) (by omega)).1, u2_s]
      · exact (fr2 0 (by omega) (by omega)).2
    · intro Ia Ja hm
      have hm0 := MT_0 hm
      have hv := hm0.1.2.1
      obtain ⟨g1, g2, g3, g4, g5, g6⟩ := hm0.2
      obtain ⟨⟨km, _, r16, r17, r18, r19, _, _, _, _, _, _, _, _, _, k134, k135, k136, k137, _, _, _, _, _, _, _, _, _, n134, n135, n136, n137, _⟩, _, rf, _⟩ := hm.1.1
      have L := loopN (X := fun i => Am lx 309 21 [some (.ref (z + 132)), some (.int (nI i))] [] (0, 0) (St z E n K N R (fun b k => if b = 137 ∧ 145 * img ≤ k ∧ k < 145 * img + i then nI (ρ (k - 145 * img)) else u2 Ia 132 0 (nI 0) b k) Ja)) (n := 145) (by
        intro i hi
        try simp only
        rw [e_309_21]
        have e3 : u2 (fun b k => if b = 137 ∧ 145 * img ≤ k ∧ k < 145 * img + i then nI (ρ (k - 145 * img)) else u2 Ia 132 0 (nI 0) b k) 137 (145 * img + i) (nI (ρ i)) = fun b k => if b = 137 ∧ 145 * img ≤ k ∧ k < 145 * img + (i + 1) then nI (ρ (k - 145 * img)) else u2 Ia 132 0 (nI 0) b k := by
          funext b k
          have uu : ∀ (G : Nat → Nat → Int32) (v : Int32), u2 G 137 (145 * img + i) v b k = if b = 137 ∧ k = 145 * img + i then v else G b k := by
            intro G v; unfold u2
            by_cases hb : b = 137 <;> by_cases hk : k = 145 * img + i <;> simp [hb, hk]
          rw [uu]
          by_cases hb : b = 137
          · by_cases hk : k = 145 * img + i
            · subst hk
              have t1 : 145 * img + i - 145 * img = i := by omega
              have t2 : 145 * img ≤ 145 * img + i := by omega
              simp [hb, t1, t2]
            · have : (145 * img ≤ k ∧ k < 145 * img + (i + 1)) ↔ (145 * img ≤ k ∧ k < 145 * img + i) := by omega
              simp only [hb, hk, and_false, if_false, true_and, this]
          · simp [hb]
        simp (disch := first | assumption | omega) [k_St, n_St, i_St, j_St, r_St, wI_St, wJ_St, k_S0, n_S0, i_S0, j_S0, r_S0, wI_S0, wJ_S0, cI_s, cJ_s, cV_s, nR_s, nQ_s, nQ_n, lt_s_, gd_T, gd_t, Option.map_some, lits, neg_mI, nI_add, pk_mul, nI_clamp, nI_eq, nI_leI, nI_ltI, nm_eq, mn_eq, nm_lt, mn_lt, nm_le, mn_le, m_eq, bI_0, bI_1, if_neg, km, r19, r16, k134, n134, k137, n137, g3, hv i hi, e3])
      try simp only at L
      have e0 : (fun b k => if b = 137 ∧ 145 * img ≤ k ∧ k < 145 * img + 0 then nI (ρ (k - 145 * img)) else u2 Ia 132 0 (nI 0) b k) = u2 Ia 132 0 (nI 0) := by
        funext b k
        have : ¬ (145 * img ≤ k ∧ k < 145 * img + 0) := by omega
        rw [if_neg (fun h => this h.2)]
      rw [e0] at L
      have I3 : ∃ I3 : Nat → Nat → Int32, I3 = fun b k => if b = 137 ∧ 145 * img ≤ k ∧ k < 145 * img + 145 then nI (ρ (k - 145 * img)) else u2 Ia 132 0 (nI 0) b k := ⟨_, rfl⟩
      obtain ⟨I3, eI3⟩ := I3
      rw [← eI3] at L
      have i3n : ∀ a, a ≠ 137 → I3 a = u2 Ia 132 0 (nI 0) a := fun a ha => by rw [eI3]; funext k; simp [ha]
      have x21 : I3 132 21 = nI img := by rw [i3n 132 (by decide)]; exact g3
      refine ⟨u2 (u2 (u2 I3 132 21 (nI (img + 1))) 132 1 (nI 0)) 132 2 (mI 1), ?_, ?_, ?_⟩
      · rw [f_309]
        have x22 : u2 I3 132 21 (nI (img + 1)) 132 21 = nI (img + 1) := by rw [u2_s]
        simp (disch := first | assumption | omega) [k_St, n_St, i_St, j_St, r_St, wI_St, wJ_St, k_S0, n_S0, i_S0, j_S0, r_S0, wI_S0, wJ_S0, cI_s, cJ_s, cV_s, nR_s, nQ_s, nQ_n, lt_s_, gd_T, gd_t, Option.map_some, lits, neg_mI, nI_add, pk_mul, nI_clamp, nI_eq, nI_leI, nI_ltI, nm_eq, mn_eq, nm_lt, mn_lt, nm_le, mn_le, m_eq, bI_0, bI_1, km, rf, g3, L, if_neg]
        rw [e_309_21]
        simp (disch := first | assumption | omega) [k_St, n_St, i_St, j_St, r_St, wI_St, wJ_St, k_S0, n_S0, i_S0, j_S0, r_S0, wI_S0, wJ_S0, cI_s, cJ_s, cV_s, nR_s, nQ_s, nQ_n, lt_s_, gd_T, gd_t, Option.map_some, lits, neg_mI, nI_add, pk_mul, nI_clamp, nI_eq, nI_leI, nI_ltI, nm_eq, mn_eq, nm_lt, mn_lt, nm_le, mn_le, m_eq, bI_0, bI_1, if_pos, km, x21, x22, pk_sub, s_185]
      · refine MT_v hm hρ (fun k hk => ?_) (fun a ha => ?_) ⟨?_, g2, ?_, by omega, ?_, ?_⟩
        · rw [u2_a _ _ _ _ _ (by decide), u2_a _ _ _ _ _ (by decide), u2_a _ _ _ _ _ (by decide), i3n 134 (by decide)]; exact hv k hk
        · rw [u2_a _ _ _ _ _ (by omega), u2_a _ _ _ _ _ (by omega), u2_a _ _ _ _ _ (by omega), i3n a (by omega), u2_a _ _ _ _ _ (by omega)]
        · rw [u2_k _ _ _ _ _ (by decide), u2_k _ _ _ _ _ (by decide), u2_k _ _ _ _ _ (by decide), i3n 132 (by decide)]; exact g1
        · rw [u2_k _ _ _ _ _ (by decide), u2_k _ _ _ _ _ (by decide), u2_s]
        · intro i hi k hk
          rw [u2_a _ _ _ _ _ (by decide), u2_a _ _ _ _ _ (by decide), u2_a _ _ _ _ _ (by decide), i3n 136 (by decide)]; exact g5 i hi k hk
        · intro i hi k hk
          rw [u2_a _ _ _ _ _ (by decide), u2_a _ _ _ _ _ (by decide), u2_a _ _ _ _ _ (by decide), eI3]
          by_cases e : i = img
          · subst e
            have t1 : 145 * i + k - 145 * i = k := by omega
            have t3 : 145 * i ≤ 145 * i + k ∧ 145 * i + k < 145 * i + 145 := by omega
            simp only [t1, t3, if_true, and_self]
          · have t3 : ¬ (145 * img ≤ 145 * i + k ∧ 145 * i + k < 145 * img + 145) := by omega
            simp only [t3, and_false, if_false, e]
            exact g6 i (by omega) k hk
      · refine MX_0 (fun a ha => ?_) (fun k k0 k1 k2 k3 k4 k5 => ?_) ?_
        · rw [u2_a _ _ _ _ _ (by omega), i3n a (by omega), u2_a _ _ _ _ _ (by omega)]
        · rw [u2_k _ _ _ _ _ k2, i3n 132 (by decide), u2_k _ _ _ _ _ k0]
        · rw [u2_k _ _ _ _ _ (by decide), i3n 132 (by decide), u2_s]
  · have c3 : img = 3 := by omega
    subst c3
    apply OT_q (t := 3) (r := mI 1) h (by decide) (by decide)
    · rw [f_155]
      have e20 : Ca lx 20 [.ref (z + 23), .ref (z + 15)] (St z E n K N R (u2 I 0 11 (nI 0)) J) = some (some (.int (mI 1)), St z E n K N R (u2 I 0 11 (nI 0)) J) := by
        rw [f_20]; simp [k_St, n_St, i_St, j_St, r_St, wI_St, wJ_St, k_S0, n_S0, i_S0, j_S0, r_S0, wI_S0, wJ_S0, cI_s, cJ_s, cV_s, nR_s, nQ_s, nQ_n, lt_s_, gd_T, gd_t, Option.map_some, lits, neg_mI, nI_add, pk_mul, nI_clamp, nI_eq, nI_leI, nI_ltI, nm_eq, mn_eq, nm_lt, mn_lt, nm_le, mn_le, m_eq, bI_0, bI_1, k23, x5]
      simp [k_St, n_St, i_St, j_St, r_St, wI_St, wJ_St, k_S0, n_S0, i_S0, j_S0, r_S0, wI_S0, wJ_S0, cI_s, cJ_s, cV_s, nR_s, nQ_s, nQ_n, lt_s_, gd_T, gd_t, Option.map_some, lits, neg_mI, nI_add, pk_mul, nI_clamp, nI_eq, nI_leI, nI_ltI, nm_eq, mn_eq, nm_lt, mn_lt, nm_le, mn_le, m_eq, bI_0, bI_1, k0, h10, c_160t, r3, r1, k23, e20, c_159, u2_uu]
    · intro I2 J2 hm
      have c21 := (MT_0 hm).2.2.2.1
      have km := hm.1.1.1.1
      have rf := hm.1.1.2.2.1
      rw [f_309]
      simp [k_St, n_St, i_St, j_St, r_St, wI_St, wJ_St, k_S0, n_S0, i_S0, j_S0, r_S0, wI_S0, wJ_S0, cI_s, cJ_s, cV_s, nR_s, nQ_s, nQ_n, lt_s_, gd_T, gd_t, Option.map_some, lits, neg_mI, nI_add, pk_mul, nI_clamp, nI_eq, nI_leI, nI_ltI, nm_eq, mn_eq, nm_lt, mn_lt, nm_le, mn_le, m_eq, bI_0, bI_1, km, rf, c21, d_182]
theorem o_156 (h : CT K N R I J p s F ρ cnt img H M) (x : Int32) : OT lx z E n K N R I J p s f F ρ cnt img H M 156 310 [.int x] := by
  have hC := h.1
  obtain ⟨nxt, hH⟩ := h.2
  have hO := hC.2.2.2.2.1
  have hcW := hC.2.1
  have o8 : F 0 8 ≤ 4 := hO.2.2.2.2.2.2.2.2.2.2.2.2.1
  have o7 : F 0 7 ≤ 4 := hO.2.2.2.2.2.2.2.2.2.2.2.1
  obtain ⟨k0, _, r1, r2, r3, _, _, _, r7, rp, _⟩ := hC.1
  have k15 := hcW.1.1
  have hL' := hC.1
  unfold CL at hL'
  have k23 : K 23 = 1 := by simp [hL']
  have r23 : R 23 1 = some 25 := by simp [hL']
  have k25 : K 25 = 16 := by simp [hL']
  have n25 : N 25 = 3 := by simp [hL']
  obtain ⟨h1, h2, h3, h4, h5, h6, h7, h8⟩ := hH
  rcases pk_ix x (n := img) (by omega) with c | c | ⟨q, hq, eq⟩
  · have c' : x < nI 0 := c
    apply OT_q (t := 1) (r := nI 0) h (by decide) (by decide)
    · rw [f_156]
      have e21 : Ca lx 21 [.ref (z + 23), .int x, .ref (z + 15)] (St z E n K N R I J) = some (some (.int (nI 0)), (St z E n K N R I J)) := by
        rw [f_21]; simp [k_St, n_St, i_St, j_St, r_St, wI_St, wJ_St, k_S0, n_S0, i_S0, j_S0, r_S0, wI_S0, wJ_S0, cI_s, cJ_s, cV_s, nR_s, nQ_s, nQ_n, lt_s_, gd_T, gd_t, Option.map_some, lits, neg_mI, nI_add, pk_mul, nI_clamp, nI_eq, nI_leI, nI_ltI, nm_eq, mn_eq, nm_lt, mn_lt, nm_le, mn_le, m_eq, bI_0, bI_1, c']
      simp [k_St, n_St, i_St, j_St, r_St, wI_St, wJ_St, k_S0, n_S0, i_S0, j_S0, r_S0, wI_S0, wJ_S0, cI_s, cJ_s, cV_s, nR_s, nQ_s, nQ_n, lt_s_, gd_T, gd_t, Option.map_some, lits, neg_mI, nI_add, pk_mul, nI_clamp, nI_eq, nI_leI, nI_ltI, nm_eq, mn_eq, nm_lt, mn_lt, nm_le, mn_le, m_eq, bI_0, bI_1, k0, r3, r1, k23, e21, c_160f]
    · intro I2 J2 hm
      have km := hm.1.1.1.1
      have rf := hm.1.1.2.2.1
      rw [f_310]
      simp [k_St, n_St, i_St, j_St, r_St, wI_St, wJ_St, k_S0, n_S0, i_S0, j_S0, r_S0, wI_S0, wJ_S0, cI_s, cJ_s, cV_s, nR_s, nQ_s, nQ_n, lt_s_, gd_T, gd_t, Option.map_some, lits, neg_mI, nI_add, pk_mul, nI_clamp, nI_eq, nI_leI, nI_ltI, nm_eq, mn_eq, nm_lt, mn_lt, nm_le, mn_le, m_eq, bI_0, bI_1, km, rf, c', e_310_13, d_184]
  · apply OT_q (t := 1) (r := nI 0) h (by decide) (by decide)
    · rw [f_156]
      have e21 : Ca lx 21 [.ref (z + 23), .int x, .ref (z + 15)] (St z E n K N R I J) = some (some (.int (nI 0)), (St z E n K N R I J)) := by
        rw [f_21]
        by_cases c0 : x < nI 0
        · simp [k_St, n_St, i_St, j_St, r_St, wI_St, wJ_St, k_S0, n_S0, i_S0, j_S0, r_S0, wI_S0, wJ_S0, cI_s, cJ_s, cV_s, nR_s, nQ_s, nQ_n, lt_s_, gd_T, gd_t, Option.map_some, lits, neg_mI, nI_add, pk_mul, nI_clamp, nI_eq, nI_leI, nI_ltI, nm_eq, mn_eq, nm_lt, mn_lt, nm_le, mn_le, m_eq, bI_0, bI_1, c0]
        · simp [k_St, n_St, i_St, j_St, r_St, wI_St, wJ_St, k_S0, n_S0, i_S0, j_S0, r_S0, wI_S0, wJ_S0, cI_s, cJ_s, cV_s, nR_s, nQ_s, nQ_n, lt_s_, gd_T, gd_t, Option.map_some, lits, neg_mI, nI_add, pk_mul, nI_clamp, nI_eq, nI_leI, nI_ltI, nm_eq, mn_eq, nm_lt, mn_lt, nm_le, mn_le, m_eq, bI_0, bI_1, c0, k23, h5, c]
      simp [k_St, n_St, i_St, j_St, r_St, wI_St, wJ_St, k_S0, n_S0, i_S0, j_S0, r_S0, wI_S0, wJ_S0, cI_s, cJ_s, cV_s, nR_s, nQ_s, nQ_n, lt_s_, gd_T, gd_t, Option.map_some, lits, neg_mI, nI_add, pk_mul, nI_clamp, nI_eq, nI_leI, nI_ltI, nm_eq, mn_eq, nm_lt, mn_lt, nm_le, mn_le, m_eq, bI_0, bI_1, k0, r3, r1, k23, e21, c_160f]
    · intro I2 J2 hm
      have c21 := (MT_0 hm).2.2.2.1
      have km := hm.1.1.1.1
      have rf := hm.1.1.2.2.1
      have c' : ¬ x < nI img := Int32.not_lt.mpr c
      rw [f_310]
      by_cases c0 : x < nI 0
      · simp [k_St, n_St, i_St, j_St, r_St, wI_St, wJ_St, k_S0, n_S0, i_S0, j_S0, r_S0, wI_S0, wJ_S0, cI_s, cJ_s, cV_s, nR_s, nQ_s, nQ_n, lt_s_, gd_T, gd_t, Option.map_some, lits, neg_mI, nI_add, pk_mul, nI_clamp, nI_eq, nI_leI, nI_ltI, nm_eq, mn_eq, nm_lt, mn_lt, nm_le, mn_le, m_eq, bI_0, bI_1, km, rf, c0, e_310_13, d_184]
      · simp [k_St, n_St, i_St, j_St, r_St, wI_St, wJ_St, k_S0, n_S0, i_S0, j_S0, r_S0, wI_S0, wJ_S0, cI_s, cJ_s, cV_s, nR_s, nQ_s, nQ_n, lt_s_, gd_T, gd_t, Option.map_some, lits, neg_mI, nI_add, pk_mul, nI_clamp, nI_eq, nI_leI, nI_ltI, nm_eq, mn_eq, nm_lt, mn_lt, nm_le, mn_le, m_eq, bI_0, bI_1, km, rf, c0, c21, c', e_310_13, d_184]
  · subst eq
    obtain ⟨rk, wk⟩ := hcW.2.2.2.2.2.2 q (by omega)
    have w0 := h8 q hq
    have e95 := s_95 (lx := lx) (z := z) (E := E) (n := n) (I := I) (J := J) hcW.1 wk (by omega)
    have fr : ∀ a, a < 15 ∨ 18 < a → cpI I 15 (90 + 4 * q) a = I a ∧ cpJ J 15 (90 + 4 * q) a = J a := fun a ha => cp_F (w := 15) a (by omega)
    have e21 : Ca lx 21 [.ref (z + 23), .int (nI q), .ref (z + 15)] (St z E n K N R I J) = some (some (.int (nI 1)), St z E n K N R (u2 (cpI I 15 (90 + 4 * q)) 23 3 (nI 0)) (cpJ J 15 (90 + 4 * q))) := by
      rw [f_21]
      simp (disch := first | assumption | omega) [k_St, n_St, i_St, j_St, r_St, wI_St, wJ_St, k_S0, n_S0, i_S0, j_S0, r_S0, wI_S0, wJ_S0, cI_s, cJ_s, cV_s, nR_s, nQ_s, nQ_n, lt_s_, gd_T, gd_t, Option.map_some, lits, neg_mI, nI_add, pk_mul, nI_clamp, nI_eq, nI_leI, nI_ltI, nm_eq, mn_eq, nm_lt, mn_lt, nm_le, mn_le, m_eq, bI_0, bI_1, if_neg, if_pos, k23, h5, r23, k25, n25, rk, k15, e95]
    have wn : WN (cpI I 15 (90 + 4 * q)) (cpJ J 15 (90 + 4 * q)) 15 F (M q) := ⟨cp_W w0.1.1 o7 o8 (by omega), by rw [cp_n]; exact w0.1.2⟩
    have fr2 : ∀ a, a ≠ 23 → a < 15 ∨ 18 < a → u2 (cpI I 15 (90 + 4 * q)) 23 3 (nI 0) a = I a ∧ cpJ J 15 (90 + 4 * q) a = J a := fun a ha hb => ⟨by rw [u2_a _ _ _ _ _ ha]; exact (fr a hb).1, (fr a hb).2⟩
    refine ⟨0, (nI 1), M q, 0, img, H, M, by decide, by decide, ⟨u2 (u2 (cpI I 15 (90 + 4 * q)) 23 3 (nI 0)) 0 11 (nI 0), cpJ J 15 (90 + 4 * q), ?_, ?_, ?_⟩, ?_⟩
    · rw [f_156]
      simp [k_St, n_St, i_St, j_St, r_St, wI_St, wJ_St, k_S0, n_S0, i_S0, j_S0, r_S0, wI_S0, wJ_S0, cI_s, cJ_s, cV_s, nR_s, nQ_s, nQ_n, lt_s_, gd_T, gd_t, Option.map_some, lits, neg_mI, nI_add, pk_mul, nI_clamp, nI_eq, nI_leI, nI_ltI, nm_eq, mn_eq, nm_lt, mn_lt, nm_le, mn_le, m_eq, bI_0, bI_1, k0, r3, r1, k23, e21, c_160t]
    · suffices hct : CT K N R (u2 (cpI I 15 (90 + 4 * q)) 23 3 (nI 0)) (cpJ J 15 (90 + 4 * q)) p s F (M q) 0 img H M from CT_0 hct _
      refine ⟨CW_f hC w0.2 (WN_f wn (fun a a1 a2 => ⟨u2_a _ _ _ _ _ (by omega), rfl⟩)) (fun a a1 a2 => fr2 a (by omega) (by omega)) (fun k _ => by rw [(fr2 0 (by omega) (by omega)).1]), nxt, ?_⟩
      refine ⟨?_, h2, by rw [u2_s], by omega, ?_, h6, fun i hi => by omega, ?_⟩
      · rw [u2_k _ _ _ _ _ (by decide), (fr 23 (by omega)).1]; exact h1
      · rw [u2_k _ _ _ _ _ (by decide), (fr 23 (by omega)).1]; exact h5
      · intro i hi
        exact ⟨WN_f (h8 i hi).1 (fun a a1 a2 => fr2 a (by omega) (by omega)), (h8 i hi).2⟩
    · refine ⟨fun a a1 a2 a3 => ?_, fun k hk => ?_, ?_, ?_⟩
      · have := fr2 a (by omega) (by omega)
        rw [u2_a _ _ _ _ _ (by omega)]; exact this
      · rw [u2_k _ _ _ _ _ hk, (fr2 0 (by omega) (by omega)).1]
      · rw [u2_s]
      · exact (fr2 0 (by omega) (by omega)).2
    · intro Ia Ja hm
      have hm0 := MT_0 hm
      obtain ⟨g1, g2, g3, g4, g5, g6⟩ := hm0.2
      obtain ⟨⟨km, _, r16, r17, r18, r19, _, _, _, _, _, _, _, _, _, k134, k135, k136, k137, _, _, _, _, _, _, _, _, _, n134, n135, n136, n137, _⟩, _, rf, _⟩ := hm.1.1
      have L := loopN (X := fun i => Am lx 310 20 [some (.ref (z + 132)), some (.int (nI q)), some (.int (nI i))] [] (0, 0) (St z E n K N R (fun c k => if c = 134 ∧ k < i then nI (M q k) else u2 Ia 132 0 (nI 0) c k) Ja)) (n := 145) (by
        intro i hi
        try simp only
        rw [e_310_20]
        have qq := cpv (I := u2 Ia 132 0 (nI 0)) (σ := M q) (b0 := 145 * q) (a := 0) (lx := lx) 137 (by decide) (g6 q hq) i hi
        try simp only at qq
        simp only [show ¬ (137 = 134) by decide, false_and, if_false] at qq
        simp (disch := first | assumption | omega) [k_St, n_St, i_St, j_St, r_St, wI_St, wJ_St, k_S0, n_S0, i_S0, j_S0, r_S0, wI_S0, wJ_S0, cI_s, cJ_s, cV_s, nR_s, nQ_s, nQ_n, lt_s_, gd_T, gd_t, Option.map_some, lits, neg_mI, nI_add, pk_mul, nI_clamp, nI_eq, nI_leI, nI_ltI, nm_eq, mn_eq, nm_lt, mn_lt, nm_le, mn_le, m_eq, bI_0, bI_1, if_neg, km, r16, r19, k134, n134, k137, n137, qq])
      try simp only at L
      have e0 : (fun c k => if c = 134 ∧ k < 0 then nI (M q k) else u2 Ia 132 0 (nI 0) c k) = u2 Ia 132 0 (nI 0) := by funext c k; simp
      have e145 : (fun c k => if c = 134 ∧ k < 145 then nI (M q k) else u2 Ia 132 0 (nI 0) c k) = pr (u2 Ia 132 0 (nI 0)) 134 145 (M q) := rfl
      rw [e0, e145] at L
      refine ⟨u2 (u2 (u2 (pr (u2 Ia 132 0 (nI 0)) 134 145 (M q)) 132 20 (nI 0)) 132 1 (nI 0)) 132 2 (mI 1), ?_, ?_, ?_⟩
      · rw [f_310]
        simp (disch := first | assumption | omega) [k_St, n_St, i_St, j_St, r_St, wI_St, wJ_St, k_S0, n_S0, i_S0, j_S0, r_S0, wI_S0, wJ_S0, cI_s, cJ_s, cV_s, nR_s, nQ_s, nQ_n, lt_s_, gd_T, gd_t, Option.map_some, lits, neg_mI, nI_add, pk_mul, nI_clamp, nI_eq, nI_leI, nI_ltI, nm_eq, mn_eq, nm_lt, mn_lt, nm_le, mn_le, m_eq, bI_0, bI_1, km, rf, g3, if_pos, if_neg, L]
        rw [e_310_20]
        simp (disch := first | assumption | omega) [k_St, n_St, i_St, j_St, r_St, wI_St, wJ_St, k_S0, n_S0, i_S0, j_S0, r_S0, wI_S0, wJ_S0, cI_s, cJ_s, cV_s, nR_s, nQ_s, nQ_n, lt_s_, gd_T, gd_t, Option.map_some, lits, neg_mI, nI_add, pk_mul, nI_clamp, nI_eq, nI_leI, nI_ltI, nm_eq, mn_eq, nm_lt, mn_lt, nm_le, mn_le, m_eq, bI_0, bI_1, if_pos, km, d_186]
      · refine MT_v hm w0.2 (fun k hk => ?_) (fun a ha => ?_) ⟨?_, by omega, ?_, g4, fun i hi => by omega, ?_⟩
        · rw [u2_a _ _ _ _ _ (by decide), u2_a _ _ _ _ _ (by decide), u2_a _ _ _ _ _ (by decide), pr_s hk]
        · rw [u2_a _ _ _ _ _ (by omega), u2_a _ _ _ _ _ (by omega), u2_a _ _ _ _ _ (by omega), pr_n (by omega), u2_a _ _ _ _ _ (by omega)]
        · rw [u2_k _ _ _ _ _ (by decide), u2_k _ _ _ _ _ (by decide), u2_s]
        · rw [u2_k _ _ _ _ _ (by decide), u2_k _ _ _ _ _ (by decide), u2_k _ _ _ _ _ (by decide), pr_n (by decide)]; exact g3
        · intro i hi k hk
          rw [u2_a _ _ _ _ _ (by decide), u2_a _ _ _ _ _ (by decide), u2_a _ _ _ _ _ (by decide), pr_n (by decide)]; exact g6 i hi k hk
      · refine MX_0 (fun a ha => ?_) (fun k k0 k1 k2 k3 k4 k5 => ?_) ?_
        · rw [u2_a _ _ _ _ _ (by omega), pr_n (by omega), u2_a _ _ _ _ _ (by omega)]
        · rw [u2_k _ _ _ _ _ k1, pr_n (by decide), u2_k _ _ _ _ _ k0]
        · rw [u2_k _ _ _ _ _ (by decide), pr_n (by decide), u2_s]
end ACT6
