section RM9
variable {z : Nat} {E : aEt} {n : Nat} {K N : Nat → Nat} {R : Nat → Nat → Option Nat} {I : Nat → Nat → Int32} {J : Nat → Nat → Int64} {lx : List Value → aH → aO} {f s q m e : Nat} {T : Nat → Nat} {F G : Nat → Nat → Nat} {w r : Bool} {x : Exc Nat}
theorem d_220 (hM : Rm K N R f) (hB : MB I T m) (hE : EOk E) (hn : FCn F) (hN : NM T m (F 0 7) (F 0 8) G) (hG : OG F) (h1 : ∀ c, c < 64 → F 1 c ≤ 3) (h45 : 0 < F 0 5 → 2 ≤ F 0 4) (ks : tK T m s = 1) (h : MOk I J f T m F w r G s) : ∃ I' J', Ca lx 220 [.ref (z + 132)] (St z E n K N R I J) = some (none, St z E n K N R I' J') ∧ MLn I' J' f T m ((pDg T m F G s).bind fun a => .ok (a.2, a.1.1, w, true, a.1.2)) ∧ MF f I I' J J' := by
  have hM' := hM
  obtain ⟨m0, m1, m2, m3, m4, hf, fk, fr12, fr13, fr14, fr15, fr16, fr17, fr18, fr19, fr20, fr21, fr22, fk1, fk2, fk3, fk4, fk5, fk6, fk7, fk8, fk9, fk10, fk11, fn1, fn2, fn3, fn4, fn5, fn6, fn7, fn8, fn9, fn10, fn11⟩ := hM
  have h7 : ∀ k, k < m → T k < 256 := fun k hk => (hB.2.2 k hk).1
  have i8 := h.2.2.1.1 8 (by decide) (by decide)
  obtain ⟨n4, n5, n7, n8, n9⟩ := id hn
  obtain ⟨I1, J1, e1, e2, e3⟩ := d_206 (lx := lx) (z := z) (E := E) (n := n) (c := F 0 8) (C := 4) (A := nI (F 0 8)) (x := .ok s) hM' hB hn h (fun t ht => ⟨rfl, by injection ht with ht; rw [← ht]; exact ks⟩) n8 (by decide)
  obtain ⟨y, I2, J2, g1, g2, g3, g4⟩ := d_207 (lx := lx) (z := z) (E := E) (n := n) hM' (MB_f hB e3 hf) hE hn hN e2
  have f2 := MF_t e3 g3
  obtain ⟨o, I3, k1, k2, k3, k4⟩ := t_220 (lx := lx) (z := z) (n := n) hM' hE hn g2 y
  have f3 := MF_t f2 k3
  obtain ⟨I4, J4, l1, l2, l3⟩ := kk_196x (lx := lx) (z := z) (E := E) (n := n) hM' (MB_f hB f3 hf) k2 (fun t ht => by
    obtain ⟨t0, _, ht⟩ := ob_b ht
    unfold pSe at ht
    by_cases c : (isW T m t0 11 || isW T m t0 10) = true
    · rw [if_pos c] at ht
      injection ht with ht
      rw [← ht]
      rw [Bool.or_eq_true] at c
      rcases c with c | c <;> exact Or.inl (isW_k c)
    · rw [if_neg c] at ht; simp at ht)
  rw [pSe_d] at l2
  have f4 := MF_t f3 l3
  obtain ⟨v, I5, J5, o1, o2, o3, o4⟩ := d_209 (lx := lx) (z := z) (E := E) (n := n) hM' (MB_f hB f4 hf) hn h1 l2 (fun t ht => by
    by_cases c : 2 ≤ F 0 5
    · exact ⟨h45 (by omega), c⟩
    · obtain ⟨u, hu⟩ := lc_er (T := T) (m := m) (c := F 0 8) (C := 4) c (.ok s)
      rw [hu] at ht; simp [eb_e, Except.map] at ht)
  have f5 := MF_t f4 o3
  have r23 : Ca lx 220 [.ref (z + 132)] (St z E n K N R I J) = Am lx 220 23 [some (.ref (z + 132)), some (.long y), none, some (.int (bI o)), none, none, none] [] (0, 0) (St z E n K N R I3 J2) := by
    rw [← k1, f_220]
    simp only [k_St, i_St, r_St, m0, m4, fk, gd_t, Option.map_some, nR_s, i8, lits, e1, cV_s, g1, cJ_s]
  have er : ∀ u, MBd I5 f u.1 u.2 → pDg T m F G s = .error u → ∃ I' J', Ca lx 220 [.ref (z + 132)] (St z E n K N R I J) = some (none, St z E n K N R I' J') ∧ MLn I' J' f T m ((pDg T m F G s).bind fun a => .ok (a.2, a.1.1, w, true, a.1.2)) ∧ MF f I I' J J' := fun u hu e' => by
    have h9 := hu.2.2.1
    have e7 := b_197 (lx := lx) (z := z) (E := E) (n := n) (J := J5) hM' hu (nI 1)
    have e49 := fun g => b_220 (lx := lx) (z := z) (E := E) (n := n) (J := J5) hM' hu y (bI o) g (0, 0)
    refine ⟨I5, J5, ?_, by rw [e']; exact hu, f5⟩
    rw [r23, e_220_23]
    simp (disch := first | assumption | omega) [k_St, n_St, i_St, j_St, r_St, wI_St, wJ_St, k_S0, n_S0, i_S0, j_S0, r_S0, wI_S0, wJ_S0, cI_s, cJ_s, cV_s, nR_s, nQ_s, nQ_n, lt_s_, gd_T, gd_t, Option.map_some, lits, neg_mI, nI_add, pk_mul, nI_clamp, nI_eq, nI_leI, nI_ltI, nm_eq, mn_eq, nm_lt, mn_lt, nm_le, mn_le, m_eq, bI_0, bI_1, m0, m4, fk, l1, o1, h9, if_neg, e7, e49]
  rw [eb_o] at o2 o4 g4 k4
  by_cases c0 : 4 ≤ F 0 8
  · have el : pLc T m (F 0 8) 4 F s = .error (5, s) := by unfold pLc; rw [if_pos c0]
    simp only [el, eb_e, Except.map] at o2
    exact er _ o2 (by unfold pDg; rw [if_pos c0])
  · have el : pLc T m (F 0 8) 4 F s = pLB T m F s := by unfold pLc; rw [if_neg c0]
    rw [el] at o2 o4 g4 k4
    cases c1 : pLB T m F s with
    | error u =>
      simp only [c1, eb_e, Except.map] at o2
      exact er u o2 (by unfold pDg; rw [if_neg c0, c1, eb_e])
    | ok s1 =>
      simp only [c1, eb_o] at o2 o4 g4 k4
      cases c2 : pNm T m F G s1 with
      | error u =>
        simp only [c2, eb_e, Except.map] at o2
        exact er u o2 (by unfold pDg; rw [if_neg c0, c1, eb_o, c2, eb_e])
      | ok s2 =>
        simp only [c2, eb_o] at o2 o4 k4
        have hy := g4 s1 s2 rfl c2
        subst hy
        cases c3 : pSd T m s2 with
        | error u =>
          simp only [c3, eb_e, Except.map] at o2
          exact er u o2 (by unfold pDg; rw [if_neg c0, c1, eb_o, c2, eb_o, c3, eb_e])
        | ok d =>
          simp only [c3, Except.map, eb_o] at o2 o4 k4
          have hd := k4 d rfl
          cases c4 : pCl T m F d.2 with
          | error u =>
            rw [c4] at o2
            exact er u o2 (by unfold pDg; rw [if_neg c0, c1, eb_o, c2, eb_o, c3, eb_o, c4, eb_e])
          | ok c =>
            rw [c4] at o2 o4
            have hv := o4 c rfl
            subst hv
            have h5 : MOk I5 J5 f T m F w true G c.2 := o2
            have hs := pCl_s c4
            have j8 := h5.2.2.1.1 8 (by decide) (by decide)
            have t2 := h5.2.1.2.1
            have ts := h5.2.1.2.2.2.2.2
            have lk := tK_le T m c.2
            have ep : pDg T m F G s = if tK T m c.2 = 1 then (if wyO T F c.2 c.1 (tLn T m c.2) then .ok ((u2 (u2 (u2 (wyF T F c.2 c.1 (tLn T m c.2)) 3 (F 0 8) d.1) 4 (F 0 8) (tLn T m c.2)) 0 8 (F 0 8 + 1), nmG F G 1 s1 (F 0 8)), adv T m c.2) else .error (7, c.2)) else .error (1, c.2) := by
              unfold pDg; rw [if_neg c0, c1, eb_o, c2, eb_o, c3, eb_o, c4, eb_o]
            rw [ep]
            by_cases ck : tK T m c.2 = 1
            · rw [if_pos ck]
              have t2' : I5 132 9 = nI 2 := by rw [t2, ck]; rfl
              obtain ⟨j, j1, j2, j3⟩ := d_219 (lx := lx) (z := z) (E := E) (n := n) (g := F 0 8) (c := c.1) hM' h7 hn h1 h5 ck (by omega) hs
              have h6 := MOk_y (u := c.2) (c := c.1) (y := j) h5 hG hf
              have fy : MF f I5 (wyI I5 f T c.2 c.1 (F 0 8) j) J5 J5 := ⟨fun a a1 a2 => wyI_a (by omega) _, fun k hk => by rw [wyI_a (by omega)], fun _ _ _ => rfl, fun _ _ => rfl⟩
              have f6 := MF_t f5 fy
              by_cases co : wyO T F c.2 c.1 (tLn T m c.2) = true
              · rw [if_pos co]
                have j2' := j2 co
                rw [co] at j3
                obtain ⟨I7, J7, p1, p2, p3⟩ := d_196 (lx := lx) (z := z) (E := E) (n := n) (J := J5) (q := c.2 + tLn T m c.2) (T := T) (m := m) hM' (MB_f hB f6 hf) h6.2.1.2.1 (by unfold srt; split <;> omega) (h6.2.1.2.2.1 (by omega)) (tL_le ts)
                have h7' : MOk I7 J7 f T m F w true G (adv T m c.2) := by
                  obtain ⟨x1, x2, x3, x4, x5, x6⟩ := h6
                  refine ⟨by rw [p3.2.1 12 (by decide)]; exact x1, p2, FW_c x3 (fun a a1 a2 => p3.1 a (by omega)), by rw [p3.1 f (by omega)]; exact x4, by rw [p3.1 f (by omega)]; exact x5, ?_⟩
                  rw [p3.2.2.1 (f + 9) (by omega), p3.1 (f + 10) (by omega), p3.1 (f + 11) (by omega)]; exact x6
                have f7 := MF_t f6 (TF_F p3)
                have hw : ∀ k, k ≤ tLn T m c.2 → I7 (f + 5) (9 * F 0 8 + k) = nI (wy T c.2 c.1 k) := fun k hk => by
                  rw [p3.1 (f + 5) (by omega), wyI_c, if_pos (by omega), show 9 * F 0 8 + k - F 0 8 * 9 = k by omega]
                have fin := MOk_g (c := c.1) (t := s1) (d := d.1) (l := tLn T m c.2) (u := c.2) hw hG h7' hf
                have s5 := so_5 h7'
                have j10 := h7'.2.2.2.2.1
                have e8 := d_208 (lx := lx) (z := z) (E := E) (n := n) (J := J7) hM' j10 (by omega) (lN (w5 T m s1)) (nI 1) (nI (F 0 8))
                have a14 : wyI I5 f T c.2 c.1 (F 0 8) j 132 14 = nI (tLn T m c.2) := (h6.2.1.2.2.2.1 ck).1
                have q8 := h7'.2.2.1.1 8 (by decide) (by decide)
                refine ⟨_, _, ?_, fin, MF_t f7 ⟨fun b b1 b2 => ?_, fun k hk => ?_, fun b b1 b2 => u2_a _ _ _ _ _ b2, fun k hk => by rw [u2_a _ _ _ _ _ (by omega)]⟩⟩
                · rw [r23, e_220_23]
                  simp (disch := first | assumption | omega) [k_St, n_St, i_St, j_St, r_St, wI_St, wJ_St, k_S0, n_S0, i_S0, j_S0, r_S0, wI_S0, wJ_S0, cI_s, cJ_s, cV_s, nR_s, nQ_s, nQ_n, lt_s_, gd_T, gd_t, Option.map_some, lits, neg_mI, nI_add, pk_mul, nI_clamp, nI_eq, nI_leI, nI_ltI, nm_eq, mn_eq, nm_lt, mn_lt, nm_le, mn_le, m_eq, bI_0, bI_1, m0, m4, fk, l1, o1, t2', j8, j3]
                  rw [e_220_49]
                  simp only [k_St, i_St, r_St, m0, m4, fk, gd_t, Option.map_some, nR_s, p1, cV_s, s5, lits, if_false, e8, fr14, a14]
                  cases o with
                  | true =>
                    have hd' : d.1 = 0 := hd.symm
                    rw [if_neg (by decide), e_220_74]
                    simp (disch := first | assumption | omega) [k_St, n_St, i_St, j_St, r_St, wI_St, wJ_St, k_S0, n_S0, i_S0, j_S0, r_S0, wI_S0, wJ_S0, cI_s, cJ_s, cV_s, nR_s, nQ_s, nQ_n, lt_s_, gd_T, gd_t, Option.map_some, lits, neg_mI, nI_add, pk_mul, nI_clamp, nI_eq, nI_leI, nI_ltI, nm_eq, mn_eq, nm_lt, mn_lt, nm_le, mn_le, m_eq, bI_0, bI_1, m0, m4, fk, fr14, fr15, fk3, fk4, fn3, fn4, u2_s, u2_a, u2_k, q8, hd']
                  | false =>
                    have hd' : d.1 = 1 := hd.symm
                    rw [if_pos (by decide), e_220_74]
                    simp (disch := first | assumption | omega) [k_St, n_St, i_St, j_St, r_St, wI_St, wJ_St, k_S0, n_S0, i_S0, j_S0, r_S0, wI_S0, wJ_S0, cI_s, cJ_s, cV_s, nR_s, nQ_s, nQ_n, lt_s_, gd_T, gd_t, Option.map_some, lits, neg_mI, nI_add, pk_mul, nI_clamp, nI_eq, nI_leI, nI_ltI, nm_eq, mn_eq, nm_lt, mn_lt, nm_le, mn_le, m_eq, bI_0, bI_1, m0, m4, fk, fr14, fr15, fk3, fk4, fn3, fn4, u2_s, u2_a, u2_k, q8, hd']
                · rw [u2_a _ _ _ _ _ (by omega), u2_a _ _ _ _ _ (by omega), u2_a _ _ _ _ _ (by omega), u2_a _ _ _ _ _ (by omega), u2_a _ _ _ _ _ (by omega), u2_a _ _ _ _ _ (by omega)]
                · rw [u2_a _ _ _ _ _ (by omega), u2_a _ _ _ _ _ (by omega), u2_a _ _ _ _ _ (by omega), u2_a _ _ _ _ _ (by omega), u2_a _ _ _ _ _ (by omega), u2_a _ _ _ _ _ (by omega)]
              · rw [if_neg co]
                have co' : wyO T F c.2 c.1 (tLn T m c.2) = false := by simpa using co
                rw [co'] at j3
                obtain ⟨I7, p1, p2, p3⟩ := kk_197 (lx := lx) (z := z) (E := E) (n := n) (e := 7) hM' h6 hn (by decide) (by decide)
                refine ⟨I7, J5, ?_, p2, MF_t f6 p3⟩
                rw [r23, e_220_23]
                simp (disch := first | assumption | omega) [k_St, n_St, i_St, j_St, r_St, wI_St, wJ_St, k_S0, n_S0, i_S0, j_S0, r_S0, wI_S0, wJ_S0, cI_s, cJ_s, cV_s, nR_s, nQ_s, nQ_n, lt_s_, gd_T, gd_t, Option.map_some, lits, neg_mI, nI_add, pk_mul, nI_clamp, nI_eq, nI_leI, nI_ltI, nm_eq, mn_eq, nm_lt, mn_lt, nm_le, mn_le, m_eq, bI_0, bI_1, m0, m4, fk, l1, o1, t2', j8, j3, p1]
                exact b_220 hM' p2 _ _ _ _
            · rw [if_neg ck]
              have k5 : srt (tK T m c.2) < 5 ∧ srt (tK T m c.2) ≠ 2 := by unfold srt; split <;> omega
              obtain ⟨I7, p1, p2, p3⟩ := kk_197 (lx := lx) (z := z) (E := E) (n := n) (e := 1) hM' h5 hn (by decide) (by decide)
              refine ⟨I7, J5, ?_, p2, MF_t f5 p3⟩
              rw [r23, e_220_23]
              simp (disch := first | assumption | omega) [k_St, n_St, i_St, j_St, r_St, wI_St, wJ_St, k_S0, n_S0, i_S0, j_S0, r_S0, wI_S0, wJ_S0, cI_s, cJ_s, cV_s, nR_s, nQ_s, nQ_n, lt_s_, gd_T, gd_t, Option.map_some, lits, neg_mI, nI_add, pk_mul, nI_clamp, nI_eq, nI_leI, nI_ltI, nm_eq, mn_eq, nm_lt, mn_lt, nm_le, mn_le, m_eq, bI_0, bI_1, m0, m4, fk, l1, o1, t2, j8, k5, if_neg, p1]
              exact b_220 hM' p2 _ _ _ _
/-! nights on which a pick was heard -/
theorem d_176a {d v : Nat} (hM : Rm K N R f) (h9 : I f 9 = nI (F 0 9)) (q6 : ∀ k, k < F 0 9 → I (f + 6) k = nI (F 6 k) ∧ I (f + 7) k = nI (F 7 k) ∧ I (f + 8) k = nI (F 8 k)) (hc : F 0 9 ≤ 6) (hb : ∀ k, k < F 0 9 → F 6 k < 4 ∧ F 7 k ≤ 60) (hd : d < 4) (hv : v ≤ 60) (b : aB) : ∀ n' i, i + n' = F 0 9 → (∀ k, k < i → (decide (F 6 k = d) && decide (F 7 k = v)) = false) → Am lx 176 3 [some (.ref (z + f)), some (.int (nI d)), some (.int (nI v)), some (.int (nI i))] [] b (St z E n K N R I J) = some (some (.int (bI (rpt F d v))), (St z E n K N R I J))
  | 0, i, h, hk => by
    have kf := hM.2.2.2.2.2.2.1
    have e : rpt F d v = false := anyB_f.mpr (fun k h' => hk k (by omega))
    rw [e_176_3, e]
    simp (disch := first | assumption | omega) [k_St, n_St, i_St, j_St, r_St, wI_St, wJ_St, k_S0, n_S0, i_S0, j_S0, r_S0, wI_S0, wJ_S0, cI_s, cJ_s, cV_s, nR_s, nQ_s, nQ_n, lt_s_, gd_T, gd_t, Option.map_some, lits, neg_mI, nI_add, pk_mul, nI_clamp, nI_eq, nI_leI, nI_ltI, nm_eq, mn_eq, nm_lt, mn_lt, nm_le, mn_le, m_eq, bI_0, bI_1, kf, h9, if_pos] <;> rfl
  | n' + 1, i, h, hk => by
    have ih := d_176a (d := d) (v := v) hM h9 q6 hc hb hd hv b n' (i + 1) (by omega)
    obtain ⟨i6, i7, _⟩ := q6 i (by omega)
    obtain ⟨b6, b7⟩ := hb i (by omega)
    obtain ⟨m0, m1, m2, m3, m4, hf, fk, fr12, fr13, fr14, fr15, fr16, fr17, fr18, fr19, fr20, fr21, fr22, fk1, fk2, fk3, fk4, fk5, fk6, fk7, fk8, fk9, fk10, fk11, fn1, fn2, fn3, fn4, fn5, fn6, fn7, fn8, fn9, fn10, fn11⟩ := hM
    rw [e_176_3]
    by_cases c1 : F 6 i = d
    · by_cases c2 : F 7 i = v
      · have e : rpt F d v = true := anyB_m (show i < F 0 9 by omega) (by simp [c1, c2])
        rw [e]
        simp (disch := first | assumption | omega) [k_St, n_St, i_St, j_St, r_St, wI_St, wJ_St, k_S0, n_S0, i_S0, j_S0, r_S0, wI_S0, wJ_S0, cI_s, cJ_s, cV_s, nR_s, nQ_s, nQ_n, lt_s_, gd_T, gd_t, Option.map_some, lits, neg_mI, nI_add, pk_mul, nI_clamp, nI_eq, nI_leI, nI_ltI, nm_eq, mn_eq, nm_lt, mn_lt, nm_le, mn_le, m_eq, bI_0, bI_1, fk, fr17, fr18, fk6, fk7, fn6, fn7, h9, if_neg, i6, i7, c1, c2] <;> rfl
      · have ih' := ih (fun k hk' => by
          by_cases ek : k = i
          · rw [ek]; simp [c2]
          · exact hk k (by omega))
        simp (disch := first | assumption | omega) [k_St, n_St, i_St, j_St, r_St, wI_St, wJ_St, k_S0, n_S0, i_S0, j_S0, r_S0, wI_S0, wJ_S0, cI_s, cJ_s, cV_s, nR_s, nQ_s, nQ_n, lt_s_, gd_T, gd_t, Option.map_some, lits, neg_mI, nI_add, pk_mul, nI_clamp, nI_eq, nI_leI, nI_ltI, nm_eq, mn_eq, nm_lt, mn_lt, nm_le, mn_le, m_eq, bI_0, bI_1, fk, fr17, fr18, fk6, fk7, fn6, fn7, h9, if_neg, i6, i7, c1, c2]
        exact ih'
    · have ih' := ih (fun k hk' => by
        by_cases ek : k = i
        · rw [ek]; simp [c1]
        · exact hk k (by omega))
      simp (disch := first | assumption | omega) [k_St, n_St, i_St, j_St, r_St, wI_St, wJ_St, k_S0, n_S0, i_S0, j_S0, r_S0, wI_S0, wJ_S0, cI_s, cJ_s, cV_s, nR_s, nQ_s, nQ_n, lt_s_, gd_T, gd_t, Option.map_some, lits, neg_mI, nI_add, pk_mul, nI_clamp, nI_eq, nI_leI, nI_ltI, nm_eq, mn_eq, nm_lt, mn_lt, nm_le, mn_le, m_eq, bI_0, bI_1, fk, fr17, fr18, fk6, fk7, fn6, fn7, h9, if_neg, i6, i7, c1]
      exact ih'
theorem d_176 {d v : Nat} (hM : Rm K N R f) (h9 : I f 9 = nI (F 0 9)) (q6 : ∀ k, k < F 0 9 → I (f + 6) k = nI (F 6 k) ∧ I (f + 7) k = nI (F 7 k) ∧ I (f + 8) k = nI (F 8 k)) (hc : F 0 9 ≤ 6) (hb : ∀ k, k < F 0 9 → F 6 k < 4 ∧ F 7 k ≤ 60) (hd : d < 4) (hv : v ≤ 60) : Ca lx 176 [.ref (z + f), .int (nI d), .int (nI v)] (St z E n K N R I J) = some (some (.int (bI (rpt F d v))), (St z E n K N R I J)) := by
  rw [f_176]
  exact d_176a hM h9 q6 hc hb hd hv (0, 0) (F 0 9) 0 (by omega) (fun k hk => by omega)
theorem b_221d (hM : Rm K N R f) (h : MBd I f e q) (d v : Int32) (b : aB) : Am lx 221 67 [some (.ref (z + 132)), none, some (.int d), some (.int v), none] [] b (St z E n K N R I J) = some (none, (St z E n K N R I J)) := by
  have m0 := hM.1
  have h9 := h.2.2.1
  have e6 := b_196 (lx := lx) (z := z) (E := E) (n := n) (J := J) hM h
  have e7 := b_197 (lx := lx) (z := z) (E := E) (n := n) (J := J) hM h
  have e1 : Ca lx 202 [.ref (z + 132), .int (nI 0), .int (nI 14)] (St z E n K N R I J) = some (some (.int (nI 0)), (St z E n K N R I J)) := by
    have : Ca lx 201 [.ref (z + 132), .int (nI 0), .int (nI 14)] (St z E n K N R I J) = some (some (.int (nI 0)), (St z E n K N R I J)) := by
      rw [f_201]
      simp (disch := first | assumption | omega) [k_St, n_St, i_St, j_St, r_St, wI_St, wJ_St, k_S0, n_S0, i_S0, j_S0, r_S0, wI_S0, wJ_S0, cI_s, cJ_s, cV_s, nR_s, nQ_s, nQ_n, lt_s_, gd_T, gd_t, Option.map_some, lits, neg_mI, nI_add, pk_mul, nI_clamp, nI_eq, nI_leI, nI_ltI, nm_eq, mn_eq, nm_lt, mn_lt, nm_le, mn_le, m_eq, bI_0, bI_1, m0, h9, if_neg, e7]
      rw [e_201_18]
      simp (disch := first | assumption | omega) [k_St, n_St, i_St, j_St, r_St, wI_St, wJ_St, k_S0, n_S0, i_S0, j_S0, r_S0, wI_S0, wJ_S0, cI_s, cJ_s, cV_s, nR_s, nQ_s, nQ_n, lt_s_, gd_T, gd_t, Option.map_some, lits, neg_mI, nI_add, pk_mul, nI_clamp, nI_eq, nI_leI, nI_ltI, nm_eq, mn_eq, nm_lt, mn_lt, nm_le, mn_le, m_eq, bI_0, bI_1, m0, h9]
    rw [f_202]
    simp (disch := first | assumption | omega) [k_St, n_St, i_St, j_St, r_St, wI_St, wJ_St, k_S0, n_S0, i_S0, j_S0, r_S0, wI_S0, wJ_S0, cI_s, cJ_s, cV_s, nR_s, nQ_s, nQ_n, lt_s_, gd_T, gd_t, Option.map_some, lits, neg_mI, nI_add, pk_mul, nI_clamp, nI_eq, nI_leI, nI_ltI, nm_eq, mn_eq, nm_lt, mn_lt, nm_le, mn_le, m_eq, bI_0, bI_1, m0, this, e6]
  rw [e_221_67]
  simp (disch := first | assumption | omega) [k_St, n_St, i_St, j_St, r_St, wI_St, wJ_St, k_S0, n_S0, i_S0, j_S0, r_S0, wI_S0, wJ_S0, cI_s, cJ_s, cV_s, nR_s, nQ_s, nQ_n, lt_s_, gd_T, gd_t, Option.map_some, lits, neg_mI, nI_add, pk_mul, nI_clamp, nI_eq, nI_leI, nI_ltI, nm_eq, mn_eq, nm_lt, mn_lt, nm_le, mn_le, m_eq, bI_0, bI_1, m0, e6, e1, h9]
theorem b_221c (hM : Rm K N R f) (h : MBd I f e q) (d : Int32) (b : aB) : Am lx 221 45 [some (.ref (z + 132)), none, none, none, none] [.int d] b (St z E n K N R I J) = some (none, (St z E n K N R I J)) := by
  have m0 := hM.1
  have h9 := h.2.2.1
  have e6 := b_196 (lx := lx) (z := z) (E := E) (n := n) (J := J) hM h
  have e7 := b_197 (lx := lx) (z := z) (E := E) (n := n) (J := J) hM h
  have e67 := fun v => b_221d (lx := lx) (z := z) (E := E) (n := n) (J := J) hM h d v b
  have e1 : Ca lx 201 [.ref (z + 132), .int (nI 0), .int (nI 60)] (St z E n K N R I J) = some (some (.int (nI 0)), (St z E n K N R I J)) := by
    rw [f_201]
    simp (disch := first | assumption | omega) [k_St, n_St, i_St, j_St, r_St, wI_St, wJ_St, k_S0, n_S0, i_S0, j_S0, r_S0, wI_S0, wJ_S0, cI_s, cJ_s, cV_s, nR_s, nQ_s, nQ_n, lt_s_, gd_T, gd_t, Option.map_some, lits, neg_mI, nI_add, pk_mul, nI_clamp, nI_eq, nI_leI, nI_ltI, nm_eq, mn_eq, nm_lt, mn_lt, nm_le, mn_le, m_eq, bI_0, bI_1, m0, h9, if_neg, e7]
    rw [e_201_18]
    simp (disch := first | assumption | omega) [k_St, n_St, i_St, j_St, r_St, wI_St, wJ_St, k_S0, n_S0, i_S0, j_S0, r_S0, wI_S0, wJ_S0, cI_s, cJ_s, cV_s, nR_s, nQ_s, nQ_n, lt_s_, gd_T, gd_t, Option.map_some, lits, neg_mI, nI_add, pk_mul, nI_clamp, nI_eq, nI_leI, nI_ltI, nm_eq, mn_eq, nm_lt, mn_lt, nm_le, mn_le, m_eq, bI_0, bI_1, m0, h9]
  rw [e_221_45]
  simp (disch := first | assumption | omega) [k_St, n_St, i_St, j_St, r_St, wI_St, wJ_St, k_S0, n_S0, i_S0, j_S0, r_S0, wI_S0, wJ_S0, cI_s, cJ_s, cV_s, nR_s, nQ_s, nQ_n, lt_s_, gd_T, gd_t, Option.map_some, lits, neg_mI, nI_add, pk_mul, nI_clamp, nI_eq, nI_leI, nI_ltI, nm_eq, mn_eq, nm_lt, mn_lt, nm_le, mn_le, m_eq, bI_0, bI_1, m0, e6, e1, h9, e67]
theorem b_221b (hM : Rm K N R f) (h : MBd I f e q) (k : Int32) (b : aB) : Am lx 221 33 [some (.ref (z + 132)), some (.int k), none, none, none] [] b (St z E n K N R I J) = some (none, (St z E n K N R I J)) := by
  have m0 := hM.1
  have h9 := h.2.2.1
  have e45 := b_221c (lx := lx) (z := z) (E := E) (n := n) (J := J) hM h (nI 0) b
  rw [e_221_33]
  simp (disch := first | assumption | omega) [k_St, n_St, i_St, j_St, r_St, wI_St, wJ_St, k_S0, n_S0, i_S0, j_S0, r_S0, wI_S0, wJ_S0, cI_s, cJ_s, cV_s, nR_s, nQ_s, nQ_n, lt_s_, gd_T, gd_t, Option.map_some, lits, neg_mI, nI_add, pk_mul, nI_clamp, nI_eq, nI_leI, nI_ltI, nm_eq, mn_eq, nm_lt, mn_lt, nm_le, mn_le, m_eq, bI_0, bI_1, m0, h9, e45]
theorem b_221a (hM : Rm K N R f) (h : MBd I f e q) (b : aB) : Am lx 221 13 [some (.ref (z + 132)), none, none, none, none] [] b (St z E n K N R I J) = some (none, (St z E n K N R I J)) := by
  have e33 := fun k => b_221b (lx := lx) (z := z) (E := E) (n := n) (J := J) hM h k b
  have e7 := b_197 (lx := lx) (z := z) (E := E) (n := n) (J := J) hM h
  obtain ⟨c, c1, c2⟩ := h.2.2.2.2.2
  have e8 := d_175 (lx := lx) (z := z) (E := E) (n := n) (J := J) (y := J 132 15) hM c2 c1
  obtain ⟨m0, m1, m2, m3, m4, hf, fk, fr12, fr13, fr14, fr15, fr16, fr17, fr18, fr19, fr20, fr21, fr22, fk1, fk2, fk3, fk4, fk5, fk6, fk7, fk8, fk9, fk10, fk11, fn1, fn2, fn3, fn4, fn5, fn6, fn7, fn8, fn9, fn10, fn11⟩ := hM
  have e29 : ∀ k, Am lx 221 29 [some (.ref (z + 132)), some (.int k), none, none, none] [] b (St z E n K N R I J) = some (none, (St z E n K N R I J)) := fun k => by
    rw [e_221_29]
    simp only [k_St, m0, gd_t, e7, cV_s, e33]
  rw [e_221_13]
  unfold oX at e8
  by_cases c3 : fdi (fun i => decide (J (f + 9) i = J 132 15)) c < c
  · rw [if_pos c3] at e8
    have n8 : Int32.ofNat 8 = nI 8 := rfl
    simp (disch := first | assumption | omega) [k_St, n_St, i_St, j_St, r_St, wI_St, wJ_St, k_S0, n_S0, i_S0, j_S0, r_S0, wI_S0, wJ_S0, cI_s, cJ_s, cV_s, nR_s, nQ_s, nQ_n, lt_s_, gd_T, gd_t, Option.map_some, lits, neg_mI, nI_add, pk_mul, nI_clamp, nI_eq, nI_leI, nI_ltI, nm_eq, mn_eq, nm_lt, mn_lt, nm_le, mn_le, m_eq, bI_0, bI_1, m0, m4, fk, e8, fr21, fk10, fn10, n8, e33, e29]
  · rw [if_neg c3] at e8
    simp (disch := first | assumption | omega) [k_St, n_St, i_St, j_St, r_St, wI_St, wJ_St, k_S0, n_S0, i_S0, j_S0, r_S0, wI_S0, wJ_S0, cI_s, cJ_s, cV_s, nR_s, nQ_s, nQ_n, lt_s_, gd_T, gd_t, Option.map_some, lits, neg_mI, nI_add, pk_mul, nI_clamp, nI_eq, nI_leI, nI_ltI, nm_eq, mn_eq, nm_lt, mn_lt, nm_le, mn_le, m_eq, bI_0, bI_1, m0, m4, fk, e8, e29]
end RM9
