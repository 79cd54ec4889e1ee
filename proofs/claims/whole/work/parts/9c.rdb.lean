section RDB
variable {z : Nat} {E : aEt} {n : Nat} {K N : Nat → Nat} {R : Nat → Nat → Option Nat} {I : Nat → Nat → Int32} {J : Nat → Nat → Int64} {lx : List Value → aH → aO} {p s q m e : Nat} {T : Nat → Nat} {F G : Nat → Nat → Nat} {w r : Bool} {x : Exc Nat}
theorem pCl_s {a : Nat × Nat} (h : pCl T m F s = .ok a) : isS F a.1 = true := by
  unfold pCl at h
  cases c1 : pWh T m 0 (F 0 4 - 1) s with
  | error u => rw [c1, eb_e] at h; simp at h
  | ok b =>
    rw [c1, eb_o] at h
    cases c2 : pWh T m 0 (F 0 5 - 1) b.2 with
    | error u => rw [c2, eb_e] at h; simp at h
    | ok d =>
      rw [c2, eb_o] at h
      by_cases c3 : isS F (8 * d.1 + b.1) = true
      · rw [if_pos c3] at h; injection h with h; rw [← h]; exact c3
      · rw [if_neg c3] at h; simp at h
theorem b_43c (hR : Rd K N R p) (h : CBd I p T m e q) (g : Int32) (y : Int64) (d : Int32) (b : aB) : Am lx 43 46 [some (.ref (z + 1)), some (.int g), some (.long y), none, some (.int d), none] [] b (St z E n K N R I J) = some (none, (St z E n K N R I J)) := by
  obtain ⟨d0, d1, d2, d3, d4, d5, d6, d7, d8, d9, d10, d11, d12, hP, hp⟩ := hR
  obtain ⟨h1, h2, h3, _⟩ := h
  rw [e_43_46]
  simp (disch := first | assumption | omega) [k_St, n_St, i_St, j_St, r_St, wI_St, wJ_St, k_S0, n_S0, i_S0, j_S0, r_S0, wI_S0, wJ_S0, cI_s, cJ_s, cV_s, nR_s, nQ_s, nQ_n, lt_s_, gd_T, gd_t, Option.map_some, lits, neg_mI, nI_add, pk_mul, nI_clamp, nI_eq, nI_leI, nI_ltI, nm_eq, mn_eq, nm_lt, mn_lt, nm_le, mn_le, m_eq, bI_0, bI_1, d0, h3, if_neg]
theorem b_43b (hR : Rd K N R p) (h : CBd I p T m e q) (g : Int32) (y : Int64) (d c : Int32) (b : aB) : Am lx 43 34 [some (.ref (z + 1)), some (.int g), some (.long y), none, some (.int d), some (.int c)] [] b (St z E n K N R I J) = some (none, (St z E n K N R I J)) := by
  have e46 := b_43c (lx := lx) (z := z) (E := E) (n := n) (J := J) hR h g y d b
  obtain ⟨d0, d1, d2, d3, d4, d5, d6, d7, d8, d9, d10, d11, d12, hP, hp⟩ := hR
  obtain ⟨h1, h2, h3, _⟩ := h
  rw [e_43_34]
  simp (disch := first | assumption | omega) [k_St, n_St, i_St, j_St, r_St, wI_St, wJ_St, k_S0, n_S0, i_S0, j_S0, r_S0, wI_S0, wJ_S0, cI_s, cJ_s, cV_s, nR_s, nQ_s, nQ_n, lt_s_, gd_T, gd_t, Option.map_some, lits, neg_mI, nI_add, pk_mul, nI_clamp, nI_eq, nI_leI, nI_ltI, nm_eq, mn_eq, nm_lt, mn_lt, nm_le, mn_le, m_eq, bI_0, bI_1, d0, h3, if_neg, e46]
theorem c_43 (hR : Rd K N R p) (hB : CB I T m) (hE : EOk E) (hn : FCn F) (hN : NW T m F G) (h45 : 0 < F 0 5 → 2 ≤ F 0 4) (h : COk I J p T m F w r G s) : ∃ I' J', Ca lx 43 [.ref (z + 1)] (St z E n K N R I J) = some (none, St z E n K N R I' J') ∧ CLn I' J' p T m ((pDg T m F G s).bind fun a => .ok (a.2, a.1.1, w, true, a.1.2)) ∧ FRc p I I' ∧ FJ p J J' := by
  have hR' := hR
  obtain ⟨d0, d1, d2, d3, d4, d5, d6, d7, d8, d9, d10, d11, d12, hP, hp⟩ := hR
  have hP' := hP
  obtain ⟨p0, pr1, pr2, pr3, pr4, pr5, pr6, pr7, pr8, pk1, pk2, pk3, pk4, pk5, pk6, pk7, pk8, pn1, pn2, pn3, pn4, pn5, pn6, pn7, pn8⟩ := hP
  have q8 := h.2.2.2.2.2.2.1.1 8 (by decide)
  have n8 := hn.2.2.2.1
  obtain ⟨I0, e0, h0, f0⟩ : ∃ I0, Ca lx 43 [.ref (z + 1)] (St z E n K N R I J) = Am lx 43 11 [some (.ref (z + 1)), some (.int (nI (F 0 8))), none, none, none, none] [] (0, 0) (St z E n K N R I0 J) ∧ CS I0 J p T m F w r G (if 4 ≤ F 0 8 then .error (5, s) else .ok s) ∧ FRs I I0 := by
    by_cases c : 4 ≤ F 0 8
    · obtain ⟨I1, e1, e2, e3⟩ := kk_58 (lx := lx) (z := z) (E := E) (n := n) (e := 5) hR' h hn (by decide) (by decide)
      refine ⟨I1, ?_, by rw [if_pos c]; exact e2, e3⟩
      rw [f_43]
      simp (disch := first | assumption | omega) [k_St, n_St, i_St, j_St, r_St, wI_St, wJ_St, k_S0, n_S0, i_S0, j_S0, r_S0, wI_S0, wJ_S0, cI_s, cJ_s, cV_s, nR_s, nQ_s, nQ_n, lt_s_, gd_T, gd_t, Option.map_some, lits, neg_mI, nI_add, pk_mul, nI_clamp, nI_eq, nI_leI, nI_ltI, nm_eq, mn_eq, nm_lt, mn_lt, nm_le, mn_le, m_eq, bI_0, bI_1, d0, d12, p0, q8, if_neg, e1]
    · refine ⟨I, ?_, by rw [if_neg c]; exact h, FRs_r⟩
      rw [f_43]
      simp (disch := first | assumption | omega) [k_St, n_St, i_St, j_St, r_St, wI_St, wJ_St, k_S0, n_S0, i_S0, j_S0, r_S0, wI_S0, wJ_S0, cI_s, cJ_s, cV_s, nR_s, nQ_s, nQ_n, lt_s_, gd_T, gd_t, Option.map_some, lits, neg_mI, nI_add, pk_mul, nI_clamp, nI_eq, nI_leI, nI_ltI, nm_eq, mn_eq, nm_lt, mn_lt, nm_le, mn_le, m_eq, bI_0, bI_1, d0, d12, p0, q8, if_pos]
  obtain ⟨I1, e1, h1, f1⟩ := c_46 (lx := lx) (z := z) (E := E) (n := n) hR' (CB_f hB f0) hn h0
  have f1' := FRs_t f0 f1
  obtain ⟨y, I2, e2, h2, f2, y2⟩ := c_52 (lx := lx) (z := z) (E := E) (n := n) hR' (CB_f hB f1') hE hn hN h1
  have f2' := FRs_t f1' f2
  obtain ⟨dd, I3, e3, h3, f3, dz⟩ := c_51 (lx := lx) (z := z) (E := E) (n := n) hR' (CB_f hB f2') hE hn h2
  have f3' := FRs_t f2' f3
  obtain ⟨v, I4, e4, h4, f4, v4⟩ := c_50 (lx := lx) (z := z) (E := E) (n := n) hR' (CB_f hB f3') hn h3 (fun t ht => by
    by_cases c : 2 ≤ F 0 5
    · exact ⟨h45 (by omega), c⟩
    · obtain ⟨u, hu⟩ := lb_er (T := T) (m := m) c (if 4 ≤ F 0 8 then .error (5, s) else .ok s)
      rw [hu] at ht; simp [eb_e, Except.map] at ht)
  have f4' := FRs_t f3' f4
  have er : ∀ u, CBd I4 p T m u.1 u.2 → pDg T m F G s = .error u → ∃ I' J', Ca lx 43 [.ref (z + 1)] (St z E n K N R I J) = some (none, St z E n K N R I' J') ∧ CLn I' J' p T m ((pDg T m F G s).bind fun a => .ok (a.2, a.1.1, w, true, a.1.2)) ∧ FRc p I I' ∧ FJ p J J' := fun u hu e' => by
    refine ⟨I4, J, ?_, by rw [e']; exact hu, FRs_c f4', FJ_r⟩
    have e34 := b_43b (lx := lx) (z := z) (E := E) (n := n) (J := J) hR' hu (nI (F 0 8)) y dd v (0, 0)
    obtain ⟨u1, u2, u3, _⟩ := hu
    rw [e0, e_43_11]
    simp (disch := first | assumption | omega) [k_St, n_St, i_St, j_St, r_St, wI_St, wJ_St, k_S0, n_S0, i_S0, j_S0, r_S0, wI_S0, wJ_S0, cI_s, cJ_s, cV_s, nR_s, nQ_s, nQ_n, lt_s_, gd_T, gd_t, Option.map_some, lits, neg_mI, nI_add, pk_mul, nI_clamp, nI_eq, nI_leI, nI_ltI, nm_eq, mn_eq, nm_lt, mn_lt, nm_le, mn_le, m_eq, bI_0, bI_1, d0, e1, e2, e3, e4, u3, if_neg, e34]
  by_cases c0 : 4 ≤ F 0 8
  · simp only [if_pos c0, eb_e, Except.map] at h4
    exact er _ h4 (by unfold pDg; rw [if_pos c0])
  · simp only [if_neg c0, eb_o] at h4 y2 dz v4
    cases c1 : pLB T m F s with
    | error u =>
      simp only [c1, eb_e, Except.map] at h4
      exact er u h4 (by unfold pDg; rw [if_neg c0, c1, eb_e])
    | ok s1 =>
      simp only [c1, eb_o] at h4 y2 dz v4
      cases c2 : pNm T m F G s1 with
      | error u =>
        simp only [c2, eb_e, Except.map] at h4
        exact er u h4 (by unfold pDg; rw [if_neg c0, c1, eb_o, c2, eb_e])
      | ok s2 =>
        simp only [c2, eb_o] at h4 dz v4
        have hy := y2 s1 s2 rfl c2
        subst hy
        cases c3 : pSd T m s2 with
        | error u =>
          simp only [c3, eb_e, Except.map] at h4
          exact er u h4 (by unfold pDg; rw [if_neg c0, c1, eb_o, c2, eb_o, c3, eb_e])
        | ok a =>
          simp only [c3, Except.map, eb_o] at h4 dz v4
          have hd := dz a rfl
          subst hd
          cases c4 : pCl T m F a.2 with
          | error u =>
            rw [c4] at h4
            exact er u h4 (by unfold pDg; rw [if_neg c0, c1, eb_o, c2, eb_o, c3, eb_o, c4, eb_e])
          | ok c =>
            rw [c4] at h4 v4
            have hv := v4 c rfl
            subst hv
            have h4' : COk I4 J p T m F w true G c.2 := h4
            obtain ⟨k1, k2, k3, k4, k5, kt, kP, k8, k9⟩ := id h4'
            obtain ⟨t2, t3, t4, t5, ts⟩ := id kt
            have u0 := kP.1
            have uq := kP.2.2.2.2.2.2.2
            have lk := tK_le T m c.2
            have hc := isS_lt (pCl_s c4)
            have ep : pDg T m F G s = if tK T m c.2 = 1 then (if wyO T F c.2 c.1 (tLn T m c.2) then .ok ((u2 (u2 (u2 (wyF T F c.2 c.1 (tLn T m c.2)) 3 (F 0 8) a.1) 4 (F 0 8) (tLn T m c.2)) 0 8 (F 0 8 + 1), nmG F G 1 s1 (F 0 8)), adv T m c.2) else .error (7, c.2)) else .error (1, c.2) := by
              unfold pDg; rw [if_neg c0, c1, eb_o, c2, eb_o, c3, eb_o, c4, eb_o]
            rw [ep]
            by_cases ck : tK T m c.2 = 1
            · rw [if_pos ck]
              have tc := tK_c ck (Or.inl rfl)
              have l8 := tc.2.2.2.1 rfl
              have tl := tL_le (T := T) (m := m) (s := c.2) ts
              have r34 : Ca lx 43 [.ref (z + 1)] (St z E n K N R I J) = Am lx 43 34 [some (.ref (z + 1)), some (.int (nI (F 0 8))), some (.long (lN (w8 T m s1))), none, some (.int (nI a.1)), some (.int (nI c.1))] [] (0, 0) (St z E n K N R I4 J) := by
                rw [e0, e_43_11]
                simp (disch := first | assumption | omega) [k_St, n_St, i_St, j_St, r_St, wI_St, wJ_St, k_S0, n_S0, i_S0, j_S0, r_S0, wI_S0, wJ_S0, cI_s, cJ_s, cV_s, nR_s, nQ_s, nQ_n, lt_s_, gd_T, gd_t, Option.map_some, lits, neg_mI, nI_add, pk_mul, nI_clamp, nI_eq, nI_leI, nI_ltI, nm_eq, mn_eq, nm_lt, mn_lt, nm_le, mn_le, m_eq, bI_0, bI_1, d0, d1, d8, e1, e2, e3, e4, k1, t5, ck, if_pos]
              obtain ⟨j, j1, j2, j3⟩ := c_44 (lx := lx) (z := z) (E := E) (n := n) (g := F 0 8) hR' (CB_f hB f4') t3 t4 uq (by omega) hc l8 tl
              by_cases co : wyO T F c.2 c.1 (tLn T m c.2) = true
              · rw [if_pos co]
                have j2' := j2 co
                subst j2'
                rw [co] at j3
                have ok2 := COk_g (c := c.1) (t := s1) (d := a.1) (l := tLn T m c.2) (u := c.2) (show F 0 8 < 4 by omega) h4' hp
                have ff : FRc p I (u2 (u2 (u2 (wyI I4 p T c.2 c.1 (F 0 8) (tLn T m c.2)) (p + 3) (F 0 8) (nI a.1)) (p + 4) (F 0 8) (nI (tLn T m c.2))) p 8 (nI (F 0 8 + 1))) := fun b b1 b2 b3 => by
                  rw [u2_a _ _ _ _ _ (by omega), u2_a _ _ _ _ _ (by omega), u2_a _ _ _ _ _ (by omega), wyI_a (by omega)]; exact f4' b b1 b2
                obtain ⟨I6, g1, g2, g3⟩ := kk_80 (lx := lx) (z := z) (E := E) (n := n) hR' (CB_g hB ff hp) ok2
                refine ⟨I6, _, ?_, g2, FRc_t ff (FRs_c g3), fun b b1 b2 b3 => u2_a _ _ _ _ _ b2⟩
                have z1 : wyI I4 p T c.2 c.1 (F 0 8) (tLn T m c.2) 1 = I4 1 := wyI_a (by omega) _
                have z2 : wyI I4 p T c.2 c.1 (F 0 8) (tLn T m c.2) 2 = I4 2 := wyI_a (by omega) _
                have zp : wyI I4 p T c.2 c.1 (F 0 8) (tLn T m c.2) p = I4 p := wyI_a (by omega) _
                have u8 := u0 8 (by decide)
                rw [r34, e_43_34]
                simp (disch := first | assumption | omega) [k_St, n_St, i_St, j_St, r_St, wI_St, wJ_St, k_S0, n_S0, i_S0, j_S0, r_S0, wI_S0, wJ_S0, cI_s, cJ_s, cV_s, nR_s, nQ_s, nQ_n, lt_s_, gd_T, gd_t, Option.map_some, lits, neg_mI, nI_add, pk_mul, nI_clamp, nI_eq, nI_leI, nI_ltI, nm_eq, mn_eq, nm_lt, mn_lt, nm_le, mn_le, m_eq, bI_0, bI_1, d0, k1, j3]
                rw [e_43_46]
                simp (disch := first | assumption | omega) [k_St, n_St, i_St, j_St, r_St, wI_St, wJ_St, k_S0, n_S0, i_S0, j_S0, r_S0, wI_S0, wJ_S0, cI_s, cJ_s, cV_s, nR_s, nQ_s, nQ_n, lt_s_, gd_T, gd_t, Option.map_some, lits, neg_mI, nI_add, pk_mul, nI_clamp, nI_eq, nI_leI, nI_ltI, nm_eq, mn_eq, nm_lt, mn_lt, nm_le, mn_le, m_eq, bI_0, bI_1, d0, d1, d8, d12, d3, d6, d7, p0, pr3, pk3, pn3, pr4, pk4, pn4, z1, z2, zp, k1, t4, u2_s, u2_a, u2_k, u8, if_neg, g1]
              · rw [if_neg co]
                have co' : wyO T F c.2 c.1 (tLn T m c.2) = false := by simpa using co
                rw [co'] at j3
                have z1 : wyI I4 p T c.2 c.1 (F 0 8) j 1 = I4 1 := wyI_a (by omega) _
                have z2 : wyI I4 p T c.2 c.1 (F 0 8) j 2 = I4 2 := wyI_a (by omega) _
                have zp : wyI I4 p T c.2 c.1 (F 0 8) j p = I4 p := wyI_a (by omega) _
                obtain ⟨I6, g1, g2, g3⟩ := kk_58h (lx := lx) (z := z) (E := E) (n := n) (e := 7) (F := F) (I := wyI I4 p T c.2 c.1 (F 0 8) j) (J := J) (T := T) (m := m) (s := c.2) hR' (by rw [z1]; exact k1) (by rw [z2]; exact k5) ⟨by rw [z2]; exact t2, by rw [z2]; exact t3, by rw [z2]; exact t4, by rw [z2]; exact t5, ts⟩ (by rw [zp]; exact u0) hn (by decide) (by decide)
                refine ⟨I6, J, ?_, g2, fun b b1 b2 b3 => by rw [g3 b b1 b2, wyI_a (by omega)]; exact f4' b b1 b2, FJ_r⟩
                rw [r34, e_43_34]
                simp (disch := first | assumption | omega) [k_St, n_St, i_St, j_St, r_St, wI_St, wJ_St, k_S0, n_S0, i_S0, j_S0, r_S0, wI_S0, wJ_S0, cI_s, cJ_s, cV_s, nR_s, nQ_s, nQ_n, lt_s_, gd_T, gd_t, Option.map_some, lits, neg_mI, nI_add, pk_mul, nI_clamp, nI_eq, nI_leI, nI_ltI, nm_eq, mn_eq, nm_lt, mn_lt, nm_le, mn_le, m_eq, bI_0, bI_1, d0, k1, j3, g1]
                exact b_43c hR' g2 _ _ _ _
            · rw [if_neg ck]
              obtain ⟨I6, g1, g2, g3⟩ := kk_58 (lx := lx) (z := z) (E := E) (n := n) (e := 1) hR' h4' hn (by decide) (by decide)
              refine ⟨I6, J, ?_, g2, FRs_c (FRs_t f4' g3), FJ_r⟩
              rw [e0, e_43_11]
              simp (disch := first | assumption | omega) [k_St, n_St, i_St, j_St, r_St, wI_St, wJ_St, k_S0, n_S0, i_S0, j_S0, r_S0, wI_S0, wJ_S0, cI_s, cJ_s, cV_s, nR_s, nQ_s, nQ_n, lt_s_, gd_T, gd_t, Option.map_some, lits, neg_mI, nI_add, pk_mul, nI_clamp, nI_eq, nI_leI, nI_ltI, nm_eq, mn_eq, nm_lt, mn_lt, nm_le, mn_le, m_eq, bI_0, bI_1, d0, d1, d8, e1, e2, e3, e4, k1, t5, ck, g1]
              exact b_43b hR' g2 _ _ _ _ _
/-! nights on which a pick was heard -/
theorem b_30a {c : Nat} (hP : Pl K N R p) (h9 : I p 9 = nI c) (hc : c ≤ 6) (u v : Int32) (b : aB) : ∀ n' i, i + n' = c → ∃ o : Bool, Am lx 30 3 [some (.ref (z + p)), some (.int u), some (.int v), some (.int (nI i))] [] b (St z E n K N R I J) = some (some (.int (bI o)), (St z E n K N R I J))
  | 0, i, h => by
    refine ⟨false, ?_⟩
    obtain ⟨p0, pr1, pr2, pr3, pr4, pr5, pr6, pr7, pr8, pk1, pk2, pk3, pk4, pk5, pk6, pk7, pk8, pn1, pn2, pn3, pn4, pn5, pn6, pn7, pn8⟩ := hP
    rw [e_30_3]
    simp (disch := first | assumption | omega) [k_St, n_St, i_St, j_St, r_St, wI_St, wJ_St, k_S0, n_S0, i_S0, j_S0, r_S0, wI_S0, wJ_S0, cI_s, cJ_s, cV_s, nR_s, nQ_s, nQ_n, lt_s_, gd_T, gd_t, Option.map_some, lits, neg_mI, nI_add, pk_mul, nI_clamp, nI_eq, nI_leI, nI_ltI, nm_eq, mn_eq, nm_lt, mn_lt, nm_le, mn_le, m_eq, bI_0, bI_1, p0, h9, if_pos] <;> rfl
  | n' + 1, i, h => by
    obtain ⟨o, ih⟩ := b_30a (u := u) (v := v) hP h9 hc b n' (i + 1) (by omega)
    obtain ⟨p0, pr1, pr2, pr3, pr4, pr5, pr6, pr7, pr8, pk1, pk2, pk3, pk4, pk5, pk6, pk7, pk8, pn1, pn2, pn3, pn4, pn5, pn6, pn7, pn8⟩ := hP
    have n6 : Int32.ofNat 6 = nI 6 := rfl
    rw [e_30_3]
    by_cases c1 : I (p + 6) i = u
    · by_cases c2 : I (p + 7) i = v
      · refine ⟨true, ?_⟩
        simp (disch := first | assumption | omega) [k_St, n_St, i_St, j_St, r_St, wI_St, wJ_St, k_S0, n_S0, i_S0, j_S0, r_S0, wI_S0, wJ_S0, cI_s, cJ_s, cV_s, nR_s, nQ_s, nQ_n, lt_s_, gd_T, gd_t, Option.map_some, lits, neg_mI, nI_add, pk_mul, nI_clamp, nI_eq, nI_leI, nI_ltI, nm_eq, mn_eq, nm_lt, mn_lt, nm_le, mn_le, m_eq, bI_0, bI_1, p0, pr6, pr7, pk6, pk7, pn6, pn7, h9, if_neg, c1, c2] <;> rfl
      · refine ⟨o, ?_⟩
        simp (disch := first | assumption | omega) [k_St, n_St, i_St, j_St, r_St, wI_St, wJ_St, k_S0, n_S0, i_S0, j_S0, r_S0, wI_S0, wJ_S0, cI_s, cJ_s, cV_s, nR_s, nQ_s, nQ_n, lt_s_, gd_T, gd_t, Option.map_some, lits, neg_mI, nI_add, pk_mul, nI_clamp, nI_eq, nI_leI, nI_ltI, nm_eq, mn_eq, nm_lt, mn_lt, nm_le, mn_le, m_eq, bI_0, bI_1, p0, pr6, pr7, pk6, pk7, pn6, pn7, h9, if_neg, c1, c2]
        exact ih
    · refine ⟨o, ?_⟩
      simp (disch := first | assumption | omega) [k_St, n_St, i_St, j_St, r_St, wI_St, wJ_St, k_S0, n_S0, i_S0, j_S0, r_S0, wI_S0, wJ_S0, cI_s, cJ_s, cV_s, nR_s, nQ_s, nQ_n, lt_s_, gd_T, gd_t, Option.map_some, lits, neg_mI, nI_add, pk_mul, nI_clamp, nI_eq, nI_leI, nI_ltI, nm_eq, mn_eq, nm_lt, mn_lt, nm_le, mn_le, m_eq, bI_0, bI_1, p0, pr6, pr7, pk6, pk7, pn6, pn7, h9, if_neg, c1]
      exact ih
theorem b_30 {c : Nat} (hP : Pl K N R p) (h9 : I p 9 = nI c) (hc : c ≤ 6) (u v : Int32) : ∃ o : Bool, Ca lx 30 [.ref (z + p), .int u, .int v] (St z E n K N R I J) = some (some (.int (bI o)), (St z E n K N R I J)) := by
  obtain ⟨o, h⟩ := b_30a (lx := lx) (z := z) (E := E) (n := n) (J := J) hP h9 hc u v (0, 0) c 0 (by omega)
  exact ⟨o, by rw [f_30]; exact h⟩
theorem c_30a {d v : Nat} (hP : Pl K N R p) (h9 : I p 9 = nI (F 0 9)) (q6 : ∀ k, k < F 0 9 → I (p + 6) k = nI (F 6 k) ∧ I (p + 7) k = nI (F 7 k) ∧ I (p + 8) k = nI (F 8 k)) (hc : F 0 9 ≤ 6) (hb : ∀ k, k < F 0 9 → F 6 k < 4 ∧ F 7 k ≤ 60) (hd : d < 4) (hv : v ≤ 60) (b : aB) : ∀ n' i, i + n' = F 0 9 → (∀ k, k < i → (decide (F 6 k = d) && decide (F 7 k = v)) = false) → Am lx 30 3 [some (.ref (z + p)), some (.int (nI d)), some (.int (nI v)), some (.int (nI i))] [] b (St z E n K N R I J) = some (some (.int (bI (rpt F d v))), (St z E n K N R I J))
  | 0, i, h, hk => by
    obtain ⟨p0, pr1, pr2, pr3, pr4, pr5, pr6, pr7, pr8, pk1, pk2, pk3, pk4, pk5, pk6, pk7, pk8, pn1, pn2, pn3, pn4, pn5, pn6, pn7, pn8⟩ := hP
    have e : rpt F d v = false := anyB_f.mpr (fun k h' => hk k (by omega))
    rw [e_30_3, e]
    simp (disch := first | assumption | omega) [k_St, n_St, i_St, j_St, r_St, wI_St, wJ_St, k_S0, n_S0, i_S0, j_S0, r_S0, wI_S0, wJ_S0, cI_s, cJ_s, cV_s, nR_s, nQ_s, nQ_n, lt_s_, gd_T, gd_t, Option.map_some, lits, neg_mI, nI_add, pk_mul, nI_clamp, nI_eq, nI_leI, nI_ltI, nm_eq, mn_eq, nm_lt, mn_lt, nm_le, mn_le, m_eq, bI_0, bI_1, p0, h9, if_pos] <;> rfl
  | n' + 1, i, h, hk => by
    have ih := c_30a (d := d) (v := v) hP h9 q6 hc hb hd hv b n' (i + 1) (by omega)
    obtain ⟨i6, i7, _⟩ := q6 i (by omega)
    obtain ⟨b6, b7⟩ := hb i (by omega)
    obtain ⟨p0, pr1, pr2, pr3, pr4, pr5, pr6, pr7, pr8, pk1, pk2, pk3, pk4, pk5, pk6, pk7, pk8, pn1, pn2, pn3, pn4, pn5, pn6, pn7, pn8⟩ := hP
    rw [e_30_3]
    by_cases c1 : F 6 i = d
    · by_cases c2 : F 7 i = v
      · have e : rpt F d v = true := anyB_m (show i < F 0 9 by omega) (by simp [c1, c2])
        rw [e]
        simp (disch := first | assumption | omega) [k_St, n_St, i_St, j_St, r_St, wI_St, wJ_St, k_S0, n_S0, i_S0, j_S0, r_S0, wI_S0, wJ_S0, cI_s, cJ_s, cV_s, nR_s, nQ_s, nQ_n, lt_s_, gd_T, gd_t, Option.map_some, lits, neg_mI, nI_add, pk_mul, nI_clamp, nI_eq, nI_leI, nI_ltI, nm_eq, mn_eq, nm_lt, mn_lt, nm_le, mn_le, m_eq, bI_0, bI_1, p0, pr6, pr7, pk6, pk7, pn6, pn7, h9, if_neg, i6, i7, c1, c2] <;> rfl
      · have ih' := ih (fun k hk' => by
          by_cases ek : k = i
          · rw [ek]; simp [c2]
          · exact hk k (by omega))
        simp (disch := first | assumption | omega) [k_St, n_St, i_St, j_St, r_St, wI_St, wJ_St, k_S0, n_S0, i_S0, j_S0, r_S0, wI_S0, wJ_S0, cI_s, cJ_s, cV_s, nR_s, nQ_s, nQ_n, lt_s_, gd_T, gd_t, Option.map_some, lits, neg_mI, nI_add, pk_mul, nI_clamp, nI_eq, nI_leI, nI_ltI, nm_eq, mn_eq, nm_lt, mn_lt, nm_le, mn_le, m_eq, bI_0, bI_1, p0, pr6, pr7, pk6, pk7, pn6, pn7, h9, if_neg, i6, i7, c1, c2]
        exact ih'
    · have ih' := ih (fun k hk' => by
        by_cases ek : k = i
        · rw [ek]; simp [c1]
        · exact hk k (by omega))
      simp (disch := first | assumption | omega) [k_St, n_St, i_St, j_St, r_St, wI_St, wJ_St, k_S0, n_S0, i_S0, j_S0, r_S0, wI_S0, wJ_S0, cI_s, cJ_s, cV_s, nR_s, nQ_s, nQ_n, lt_s_, gd_T, gd_t, Option.map_some, lits, neg_mI, nI_add, pk_mul, nI_clamp, nI_eq, nI_leI, nI_ltI, nm_eq, mn_eq, nm_lt, mn_lt, nm_le, mn_le, m_eq, bI_0, bI_1, p0, pr6, pr7, pk6, pk7, pn6, pn7, h9, if_neg, i6, i7, c1]
      exact ih'
theorem c_30 {d v : Nat} (hP : Pl K N R p) (h9 : I p 9 = nI (F 0 9)) (q6 : ∀ k, k < F 0 9 → I (p + 6) k = nI (F 6 k) ∧ I (p + 7) k = nI (F 7 k) ∧ I (p + 8) k = nI (F 8 k)) (hc : F 0 9 ≤ 6) (hb : ∀ k, k < F 0 9 → F 6 k < 4 ∧ F 7 k ≤ 60) (hd : d < 4) (hv : v ≤ 60) : Ca lx 30 [.ref (z + p), .int (nI d), .int (nI v)] (St z E n K N R I J) = some (some (.int (bI (rpt F d v))), (St z E n K N R I J)) := by
  rw [f_30]
  exact c_30a hP h9 q6 hc hb hd hv (0, 0) (F 0 9) 0 (by omega) (fun k hk => by omega)
theorem COk_h {d v f : Nat} (h9 : F 0 9 < 6) (h : COk I J p T m F w r G s) (hp : 114 ≤ p) : COk (u2 (u2 (u2 (u2 I (p + 6) (F 0 9) (nI d)) (p + 7) (F 0 9) (nI v)) (p + 8) (F 0 9) (nI f)) p 9 (nI (F 0 9 + 1))) J p T m (u2 (u2 (u2 (u2 F 6 (F 0 9) d) 7 (F 0 9) v) 8 (F 0 9) f) 0 9 (F 0 9 + 1)) w r G s := by
  obtain ⟨h1, h2, h3, h4, h5, ⟨t2, t3, t4, t5, ts⟩, ⟨q0, q1, q2, q3, q4, q5, q6, q7⟩, h8, h9'⟩ := h
  have i1 : ∀ a, a ≠ p → a ≠ p + 6 → a ≠ p + 7 → a ≠ p + 8 → u2 (u2 (u2 (u2 I (p + 6) (F 0 9) (nI d)) (p + 7) (F 0 9) (nI v)) (p + 8) (F 0 9) (nI f)) p 9 (nI (F 0 9 + 1)) a = I a := fun a a1 a2 a3 a4 => by
    rw [u2_a _ _ _ _ _ a1, u2_a _ _ _ _ _ a4, u2_a _ _ _ _ _ a3, u2_a _ _ _ _ _ a2]
  have a1 := i1 1 (by omega) (by omega) (by omega) (by omega)
  have a2 := i1 2 (by omega) (by omega) (by omega) (by omega)
  have f0 : ∀ j, j ≠ 9 → u2 (u2 (u2 (u2 F 6 (F 0 9) d) 7 (F 0 9) v) 8 (F 0 9) f) 0 9 (F 0 9 + 1) 0 j = F 0 j := fun j j1 => by
    rw [u2_k _ _ _ _ _ j1, u2_a _ _ _ _ _ (by decide), u2_a _ _ _ _ _ (by decide), u2_a _ _ _ _ _ (by decide)]
  have f9' : u2 (u2 (u2 (u2 F 6 (F 0 9) d) 7 (F 0 9) v) 8 (F 0 9) f) 0 9 (F 0 9 + 1) 0 9 = F 0 9 + 1 := u2_s _ _ _ _
  have fb : ∀ b, b ≠ 0 → b ≠ 6 → b ≠ 7 → b ≠ 8 → u2 (u2 (u2 (u2 F 6 (F 0 9) d) 7 (F 0 9) v) 8 (F 0 9) f) 0 9 (F 0 9 + 1) b = F b := fun b b1 b2 b3 b4 => by
    rw [u2_a _ _ _ _ _ b1, u2_a _ _ _ _ _ b4, u2_a _ _ _ _ _ b3, u2_a _ _ _ _ _ b2]
  have fi : ∀ c', inF (u2 (u2 (u2 (u2 F 6 (F 0 9) d) 7 (F 0 9) v) 8 (F 0 9) f) 0 9 (F 0 9 + 1)) c' = inF F c' := fun c' => by
    unfold inF; rw [f0 4 (by decide), f0 5 (by decide)]
  have fs : ∀ c', isS (u2 (u2 (u2 (u2 F 6 (F 0 9) d) 7 (F 0 9) v) 8 (F 0 9) f) 0 9 (F 0 9 + 1)) c' = isS F c' := fun c' => by
    unfold isS; rw [fi, fb 1 (by decide) (by decide) (by decide) (by decide)]
  have f9 := fb 9 (by decide) (by decide) (by decide) (by decide)
  refine ⟨by rw [a1]; exact h1, by rw [a1, f9]; exact h2, by rw [a1]; exact h3, by rw [a1]; exact h4, by rw [a2]; exact h5, ⟨by rw [a2]; exact t2, by rw [a2]; exact t3, by rw [a2]; exact t4, by rw [a2]; exact t5, ts⟩, ⟨?_, ?_, ?_, ?_, ?_, ?_, ?_, ?_⟩, ?_, ?_⟩
  · intro j hj
    by_cases j9 : j = 9
    · rw [j9, u2_s, f9']
    · rw [u2_k _ _ _ _ _ j9, u2_a _ _ _ _ _ (by omega), u2_a _ _ _ _ _ (by omega), u2_a _ _ _ _ _ (by omega), f0 j j9]; exact q0 j hj
  · intro c' hc
    rw [i1 _ (by omega) (by omega) (by omega) (by omega), fi, fb 1 (by decide) (by decide) (by decide) (by decide)]; exact q1 c' hc
  · rw [f0 7 (by decide), fb 2 (by decide) (by decide) (by decide) (by decide), i1 _ (by omega) (by omega) (by omega) (by omega)]; exact q2
  · rw [f0 8 (by decide), fb 3 (by decide) (by decide) (by decide) (by decide), i1 _ (by omega) (by omega) (by omega) (by omega)]; exact q3
  · rw [f0 8 (by decide), fb 4 (by decide) (by decide) (by decide) (by decide), i1 _ (by omega) (by omega) (by omega) (by omega)]; exact q4
  · rw [f0 8 (by decide), fb 4 (by decide) (by decide) (by decide) (by decide), fb 5 (by decide) (by decide) (by decide) (by decide), i1 _ (by omega) (by omega) (by omega) (by omega)]; exact q5
  · intro k hk
    rw [f9'] at hk
    by_cases e : k = F 0 9
    · rw [e]; refine ⟨?_, ?_, ?_⟩ <;> simp (disch := first | assumption | omega) [u2_s, u2_a, u2_k]
    · obtain ⟨k6, k7, k8⟩ := q6 k (by omega)
      refine ⟨?_, ?_, ?_⟩ <;> simp (disch := first | assumption | omega) [u2_s, u2_a, u2_k] <;> assumption
  · intro c' hc
    rw [fs]; exact q7 c' hc
  · rw [f0 7 (by decide)]; exact h8
  · rw [f0 8 (by decide)]; exact h9'
end RDB
