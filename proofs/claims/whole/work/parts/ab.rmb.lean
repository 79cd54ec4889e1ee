section RMB
variable {z : Nat} {E : aEt} {n : Nat} {K N : Nat → Nat} {R : Nat → Nat → Option Nat} {I : Nat → Nat → Int32} {J : Nat → Nat → Int64} {lx : List Value → aH → aO} {f s q m e : Nat} {T : Nat → Nat} {F G : Nat → Nat → Nat} {w r : Bool} {x : Exc Nat}
theorem st98 {k : Nat} {b : Bool} (m0 : K 132 = 11) (h : Ca lx 198 [.ref (z + 132), .ref (E.1 k)] (St z E n K N R I J) = some (some (.int (bI b)), (St z E n K N R I J))) (A B : aH → aO) : gd (aK (St z E n K N R I J) (z + 132) = 11) (cI (Ca lx 198 [.ref (z + 132), .ref (aG (St z E n K N R I J) k)] (St z E n K N R I J)) fun x S2 => (if x = 0 then A S2 else B S2)) = if b then B (St z E n K N R I J) else A (St z E n K N R I J) := by
  simp only [g_St, k_St, m0, gd_t, h, cI_s]
  cases b
  · rw [if_pos (by decide), if_neg (by decide)]
  · rw [if_neg (by decide), if_pos rfl]
theorem d_211 (hM : Rm K N R f) (hB : MB I T m) (hE : EOk E) (hL : PV T m F w r G) (h : MOk I J f T m F w r G s) : ∃ I' J', Ca lx 211 [.ref (z + 132)] (St z E n K N R I J) = some (none, St z E n K N R I' J') ∧ MLn I' J' f T m (pLn T m (s, F, w, r, G)) ∧ MF f I I' J J' := by
  have m0 := hM.1
  have hL' := hL
  obtain ⟨hn, v2, ⟨b0, _⟩, v4, v5, v6, v7, v8, v9, v10, v11, v12⟩ := hL'
  have h45 : 0 < F 0 5 → 2 ≤ F 0 4 := fun h => (v4 h).1
  have h9 := (PV_L hL).2.2.2
  have hT := h.2.1
  have w0 := d_198 (lx := lx) (z := z) (n := n) hM hE (show 0 < 12 by decide) hT
  have w1 := d_198 (lx := lx) (z := z) (n := n) hM hE (show 1 < 12 by decide) hT
  have w2 := d_198 (lx := lx) (z := z) (n := n) hM hE (show 2 < 12 by decide) hT
  have w3 := d_198 (lx := lx) (z := z) (n := n) hM hE (show 3 < 12 by decide) hT
  have w4 := d_198 (lx := lx) (z := z) (n := n) hM hE (show 4 < 12 by decide) hT
  have w5 := d_198 (lx := lx) (z := z) (n := n) hM hE (show 5 < 12 by decide) hT
  by_cases c0 : isW T m s 0 = true
  · obtain ⟨I1, J1, e1, e2, e3⟩ := d_212 (lx := lx) (z := z) (E := E) (n := n) hM hB hE hn v2 b0 (isW_k c0) h
    have el : pLn T m (s, F, w, r, G) = (pFl T m F s).bind fun a => .ok (a.2, a.1, w, r, G) := by
      unfold pLn; simp only; rw [if_pos c0]
    refine ⟨I1, J1, ?_, by rw [el]; exact e2, e3⟩
    rw [f_211, st98 m0 w0, if_pos c0]
    simp only [k_St, m0, gd_t, e1, cV_s]
  by_cases c1 : isW T m s 1 = true
  · obtain ⟨I1, J1, e1, e2, e3⟩ := d_215 (lx := lx) (z := z) (E := E) (n := n) hM hB hn v2 b0 (isW_k c1) h
    have el : pLn T m (s, F, w, r, G) = (pRw T m F r s).bind fun a => .ok (a.2, a.1, w, r, G) := by
      unfold pLn; simp only; rw [if_neg c0, if_pos c1]
    refine ⟨I1, J1, ?_, by rw [el]; exact e2, e3⟩
    rw [f_211, st98 m0 w0, if_neg c0, st98 m0 w1, if_pos c1]
    simp only [k_St, m0, gd_t, e1, cV_s]
  by_cases c2 : isW T m s 2 = true
  · obtain ⟨I1, J1, e1, e2, e3⟩ := d_216 (lx := lx) (z := z) (E := E) (n := n) hM hB hn v5 h45 (fun hw => isS_lt (v6 hw)) (isW_k c2) h
    have el : pLn T m (s, F, w, r, G) = (pWl T m F w s).bind fun a => .ok (a.2, a.1, true, true, G) := by
      unfold pLn; simp only; rw [if_neg c0, if_neg c1, if_pos c2]
    refine ⟨I1, J1, ?_, by rw [el]; exact e2, e3⟩
    rw [f_211, st98 m0 w0, if_neg c0, st98 m0 w1, if_neg c1, st98 m0 w2, if_pos c2]
    simp only [k_St, m0, gd_t, e1, cV_s]
  by_cases c3 : isW T m s 3 = true
  · obtain ⟨I1, J1, e1, e2, e3⟩ := d_217 (lx := lx) (z := z) (E := E) (n := n) hM hB hE hn v12 v5 h45 (isW_k c3) h
    have el : pLn T m (s, F, w, r, G) = (pDr T m F G s).bind fun a => .ok (a.2, a.1.1, w, true, a.1.2) := by
      unfold pLn; simp only; rw [if_neg c0, if_neg c1, if_neg c2, if_pos c3]
    refine ⟨I1, J1, ?_, by rw [el]; exact e2, e3⟩
    rw [f_211, st98 m0 w0, if_neg c0, st98 m0 w1, if_neg c1, st98 m0 w2, if_neg c2, st98 m0 w3, if_pos c3]
    simp only [k_St, m0, gd_t, e1, cV_s]
  by_cases c4 : isW T m s 4 = true
  · obtain ⟨I1, J1, e1, e2, e3⟩ := d_220 (lx := lx) (z := z) (E := E) (n := n) hM hB hE hn v12 v8 v5 h45 (isW_k c4) h
    have el : pLn T m (s, F, w, r, G) = (pDg T m F G s).bind fun a => .ok (a.2, a.1.1, w, true, a.1.2) := by
      unfold pLn; simp only; rw [if_neg c0, if_neg c1, if_neg c2, if_neg c3, if_pos c4]
    refine ⟨I1, J1, ?_, by rw [el]; exact e2, e3⟩
    rw [f_211, st98 m0 w0, if_neg c0, st98 m0 w1, if_neg c1, st98 m0 w2, if_neg c2, st98 m0 w3, if_neg c3, st98 m0 w4, if_pos c4]
    simp only [k_St, m0, gd_t, e1, cV_s]
  by_cases c5 : isW T m s 5 = true
  · obtain ⟨I1, J1, e1, e2, e3⟩ := d_221 (lx := lx) (z := z) (E := E) (n := n) hM hB hE hn v12 h9 (isW_k c5) h
    have el : pLn T m (s, F, w, r, G) = (pHd T m F G s).bind fun a => .ok (a.2, a.1, w, true, G) := by
      unfold pLn; simp only; rw [if_neg c0, if_neg c1, if_neg c2, if_neg c3, if_neg c4, if_pos c5]
    refine ⟨I1, J1, ?_, by rw [el]; exact e2, e3⟩
    rw [f_211, st98 m0 w0, if_neg c0, st98 m0 w1, if_neg c1, st98 m0 w2, if_neg c2, st98 m0 w3, if_neg c3, st98 m0 w4, if_neg c4, st98 m0 w5, if_pos c5]
    simp only [k_St, m0, gd_t, e1, cV_s]
  obtain ⟨I1, e1, e2, e3⟩ := kk_197 (lx := lx) (z := z) (E := E) (n := n) (e := 1) hM h hn (by decide) (by decide)
  have el : pLn T m (s, F, w, r, G) = .error (1, s) := by
    unfold pLn; simp only; rw [if_neg c0, if_neg c1, if_neg c2, if_neg c3, if_neg c4, if_neg c5]
  refine ⟨I1, J, ?_, by rw [el]; exact e2, e3⟩
  have n1 : (1 : Int32) = nI 1 := rfl
  rw [f_211, st98 m0 w0, if_neg c0, st98 m0 w1, if_neg c1, st98 m0 w2, if_neg c2, st98 m0 w3, if_neg c3, st98 m0 w4, if_neg c4, st98 m0 w5, if_neg c5]
  simp only [k_St, m0, gd_t, n1, e1, cV_s]
theorem b_210 (hM : Rm K N R f) (h : MBd I f e q) (b : aB) : Am lx 210 19 [some (.ref (z + 132)), none] [] b (St z E n K N R I J) = some (none, (St z E n K N R I J)) := by
  have e7 := b_197 (lx := lx) (z := z) (E := E) (n := n) (J := J) hM h
  obtain ⟨m0, m1, m2, m3, m4, hf, fk, fr12, fr13, fr14, fr15, fr16, fr17, fr18, fr19, fr20, fr21, fr22, fk1, fk2, fk3, fk4, fk5, fk6, fk7, fk8, fk9, fk10, fk11, fn1, fn2, fn3, fn4, fn5, fn6, fn7, fn8, fn9, fn10, fn11⟩ := hM
  rw [e_210_19]
  simp only [k_St, i_St, r_St, m0, m4, fk, gd_t, Option.map_some, nR_s, e7, cV_s, ite_self]
theorem d_210l (hM : Rm K N R f) (hE : EOk E) (b : aB) : ∀ (u s : Nat) (F : Nat → Nat → Nat) (w r : Bool) (G : Nat → Nat → Nat) (I : Nat → Nat → Int32) (J : Nat → Nat → Int64), MB I T m → PV T m F w r G → MOk I J f T m F w r G s → m < s + u → ∃ I' J', Am lx 210 3 [some (.ref (z + 132)), some (.int (nI 1))] [] b (St z E n K N R I J) = some (none, St z E n K N R I' J') ∧ MLn I' J' f T m (pAl T m u (s, F, w, r, G)) ∧ MF f I I' J J'
  | 0, s, F, w, r, G, I, J, hB, hL, h, hf => by
    have := h.2.1.2.2.2.2.2
    omega
  | u + 1, s, F, w, r, G, I, J, hB, hL, h, hu => by
    have ts := h.2.1.2.2.2.2.2
    have m0 := hM.1
    have hf := hM.2.2.2.2.2.1
    have m4 := hM.2.2.2.2.1
    have fk := hM.2.2.2.2.2.2.1
    obtain ⟨I1, J1, e1, e2, e3⟩ := d_211 (lx := lx) (z := z) (E := E) (n := n) hM hB hE hL h
    have hB1 := MB_f hB e3 hf
    rw [pAl]
    cases hx : pLn T m (s, F, w, r, G) with
    | error v =>
      rw [hx] at e2
      have e2' : MBd I1 f v.1 v.2 := e2
      have h9 := e2'.2.2.1
      have e7 := b_197 (lx := lx) (z := z) (E := E) (n := n) (J := J1) hM e2' (nI 1)
      have e19 := b_210 (lx := lx) (z := z) (E := E) (n := n) (J := J1) hM e2' b
      refine ⟨I1, J1, ?_, e2', e3⟩
      have e99 : Ca lx 199 [.ref (z + 132)] (St z E n K N R I1 J1) = some (some (.int (nI 0)), St z E n K N R I1 J1) := by
        rw [f_199]
        simp (disch := first | assumption | omega) [k_St, n_St, i_St, j_St, r_St, wI_St, wJ_St, k_S0, n_S0, i_S0, j_S0, r_S0, wI_S0, wJ_S0, cI_s, cJ_s, cV_s, nR_s, nQ_s, nQ_n, lt_s_, gd_T, gd_t, Option.map_some, lits, neg_mI, nI_add, pk_mul, nI_clamp, nI_eq, nI_leI, nI_ltI, nm_eq, mn_eq, nm_lt, mn_lt, nm_le, mn_le, m_eq, bI_0, bI_1, m0, h9, if_neg]
        rw [e_199_8]
        simp (disch := first | assumption | omega) [k_St, n_St, i_St, j_St, r_St, wI_St, wJ_St, k_S0, n_S0, i_S0, j_S0, r_S0, wI_S0, wJ_S0, cI_s, cJ_s, cV_s, nR_s, nQ_s, nQ_n, lt_s_, gd_T, gd_t, Option.map_some, lits, neg_mI, nI_add, pk_mul, nI_clamp, nI_eq, nI_leI, nI_ltI, nm_eq, mn_eq, nm_lt, mn_lt, nm_le, mn_le, m_eq, bI_0, bI_1]
      rw [e_210_3]
      simp (disch := first | assumption | omega) [k_St, n_St, i_St, j_St, r_St, wI_St, wJ_St, k_S0, n_S0, i_S0, j_S0, r_S0, wI_S0, wJ_S0, cI_s, cJ_s, cV_s, nR_s, nQ_s, nQ_n, lt_s_, gd_T, gd_t, Option.map_some, lits, neg_mI, nI_add, pk_mul, nI_clamp, nI_eq, nI_leI, nI_ltI, nm_eq, mn_eq, nm_lt, mn_lt, nm_le, mn_le, m_eq, bI_0, bI_1, m0, e1, e99]
      rw [e_210_3]
      simp (disch := first | assumption | omega) [k_St, n_St, i_St, j_St, r_St, wI_St, wJ_St, k_S0, n_S0, i_S0, j_S0, r_S0, wI_S0, wJ_S0, cI_s, cJ_s, cV_s, nR_s, nQ_s, nQ_n, lt_s_, gd_T, gd_t, Option.map_some, lits, neg_mI, nI_add, pk_mul, nI_clamp, nI_eq, nI_leI, nI_ltI, nm_eq, mn_eq, nm_lt, mn_lt, nm_le, mn_le, m_eq, bI_0, bI_1, m0, h9, if_neg, e7, e19]
    | ok τ =>
      rw [hx] at e2
      have h1 : MOk I1 J1 f T m τ.2.1 τ.2.2.1 τ.2.2.2.1 τ.2.2.2.2 τ.1 := e2
      have pv := PV_ln (σ := (s, F, w, r, G)) hL hx
      have mn := ln_m (σ := (s, F, w, r, G)) ts hx
      simp only at mn
      have t2 := h1.2.1.2.1
      have lk := tK_le T m τ.1
      rw [eb_o]
      by_cases c3 : tK T m τ.1 = 3
      · rw [if_pos c3]
        obtain ⟨I2, J2, g1, g2, g3⟩ := kk_196 (lx := lx) (z := z) (E := E) (n := n) hM hB1 h1 (Or.inr (Or.inr c3))
        have av := adv_ge (T := T) (m := m) τ.1
        have l3 := tL_3 c3
        obtain ⟨I3, J3, k1, k2, k3⟩ := d_210l hM hE b u (adv T m τ.1) τ.2.1 τ.2.2.1 τ.2.2.2.1 τ.2.2.2.2 I2 J2 (MB_f hB1 g3 hf) pv g2 (by omega)
        refine ⟨I3, J3, ?_, k2, MF_t e3 (MF_t g3 k3)⟩
        have t2' : I1 132 9 = nI 4 := by rw [t2, c3]; rfl
        have e99 : Ca lx 199 [.ref (z + 132)] (St z E n K N R I1 J1) = some (some (.int (nI 1)), St z E n K N R I2 J2) := by
          rw [f_199]
          simp (disch := first | assumption | omega) [k_St, n_St, i_St, j_St, r_St, wI_St, wJ_St, k_S0, n_S0, i_S0, j_S0, r_S0, wI_S0, wJ_S0, cI_s, cJ_s, cV_s, nR_s, nQ_s, nQ_n, lt_s_, gd_T, gd_t, Option.map_some, lits, neg_mI, nI_add, pk_mul, nI_clamp, nI_eq, nI_leI, nI_ltI, nm_eq, mn_eq, nm_lt, mn_lt, nm_le, mn_le, m_eq, bI_0, bI_1, m0, t2']
          rw [e_199_8]
          simp (disch := first | assumption | omega) [k_St, n_St, i_St, j_St, r_St, wI_St, wJ_St, k_S0, n_S0, i_S0, j_S0, r_S0, wI_S0, wJ_S0, cI_s, cJ_s, cV_s, nR_s, nQ_s, nQ_n, lt_s_, gd_T, gd_t, Option.map_some, lits, neg_mI, nI_add, pk_mul, nI_clamp, nI_eq, nI_leI, nI_ltI, nm_eq, mn_eq, nm_lt, mn_lt, nm_le, mn_le, m_eq, bI_0, bI_1, m0, g1]
        rw [e_210_3]
        simp (disch := first | assumption | omega) [k_St, n_St, i_St, j_St, r_St, wI_St, wJ_St, k_S0, n_S0, i_S0, j_S0, r_S0, wI_S0, wJ_S0, cI_s, cJ_s, cV_s, nR_s, nQ_s, nQ_n, lt_s_, gd_T, gd_t, Option.map_some, lits, neg_mI, nI_add, pk_mul, nI_clamp, nI_eq, nI_leI, nI_ltI, nm_eq, mn_eq, nm_lt, mn_lt, nm_le, mn_le, m_eq, bI_0, bI_1, m0, e1, e99]
        exact k1
      · rw [if_neg c3]
        have k4 : srt (tK T m τ.1) ≠ 4 ∧ srt (tK T m τ.1) < 5 := by unfold srt; split <;> omega
        have e99 : Ca lx 199 [.ref (z + 132)] (St z E n K N R I1 J1) = some (some (.int (nI 0)), St z E n K N R I1 J1) := by
          rw [f_199]
          simp (disch := first | assumption | omega) [k_St, n_St, i_St, j_St, r_St, wI_St, wJ_St, k_S0, n_S0, i_S0, j_S0, r_S0, wI_S0, wJ_S0, cI_s, cJ_s, cV_s, nR_s, nQ_s, nQ_n, lt_s_, gd_T, gd_t, Option.map_some, lits, neg_mI, nI_add, pk_mul, nI_clamp, nI_eq, nI_leI, nI_ltI, nm_eq, mn_eq, nm_lt, mn_lt, nm_le, mn_le, m_eq, bI_0, bI_1, m0, t2, k4, if_neg]
          rw [e_199_8]
          simp (disch := first | assumption | omega) [k_St, n_St, i_St, j_St, r_St, wI_St, wJ_St, k_S0, n_S0, i_S0, j_S0, r_S0, wI_S0, wJ_S0, cI_s, cJ_s, cV_s, nR_s, nQ_s, nQ_n, lt_s_, gd_T, gd_t, Option.map_some, lits, neg_mI, nI_add, pk_mul, nI_clamp, nI_eq, nI_leI, nI_ltI, nm_eq, mn_eq, nm_lt, mn_lt, nm_le, mn_le, m_eq, bI_0, bI_1]
        have r0 : Am lx 210 3 [some (.ref (z + 132)), some (.int (nI 1))] [] b (St z E n K N R I J) = Am lx 210 3 [some (.ref (z + 132)), some (.int (nI 0))] [] b (St z E n K N R I1 J1) := by
          rw [e_210_3]
          simp (disch := first | assumption | omega) [k_St, n_St, i_St, j_St, r_St, wI_St, wJ_St, k_S0, n_S0, i_S0, j_S0, r_S0, wI_S0, wJ_S0, cI_s, cJ_s, cV_s, nR_s, nQ_s, nQ_n, lt_s_, gd_T, gd_t, Option.map_some, lits, neg_mI, nI_add, pk_mul, nI_clamp, nI_eq, nI_leI, nI_ltI, nm_eq, mn_eq, nm_lt, mn_lt, nm_le, mn_le, m_eq, bI_0, bI_1, m0, e1, e99]
        rw [r0]
        by_cases c0 : tK T m τ.1 = 0
        · rw [if_pos c0]
          have t2' : I1 132 9 = nI 1 := by rw [t2, c0]; rfl
          have i6 := h1.2.2.1.2.1
          have w6 := pv.2.2.2.2.2.1
          cases hw : τ.2.2.1 with
          | true =>
            rw [hw] at i6 w6
            have i6' : I1 f 6 = nI (τ.2.1 0 6) := i6
            have l6 := isS_lt (w6 rfl)
            refine ⟨I1, J1, ?_, ?_, e3⟩
            · rw [e_210_3]
              simp (disch := first | assumption | omega) [k_St, n_St, i_St, j_St, r_St, wI_St, wJ_St, k_S0, n_S0, i_S0, j_S0, r_S0, wI_S0, wJ_S0, cI_s, cJ_s, cV_s, nR_s, nQ_s, nQ_n, lt_s_, gd_T, gd_t, Option.map_some, lits, neg_mI, nI_add, pk_mul, nI_clamp, nI_eq, nI_leI, nI_ltI, nm_eq, mn_eq, nm_lt, mn_lt, nm_le, mn_le, m_eq, bI_0, bI_1, m0, t2']
              rw [e_210_19]
              simp (disch := first | assumption | omega) [k_St, n_St, i_St, j_St, r_St, wI_St, wJ_St, k_S0, n_S0, i_S0, j_S0, r_S0, wI_S0, wJ_S0, cI_s, cJ_s, cV_s, nR_s, nQ_s, nQ_n, lt_s_, gd_T, gd_t, Option.map_some, lits, neg_mI, nI_add, pk_mul, nI_clamp, nI_eq, nI_leI, nI_ltI, nm_eq, mn_eq, nm_lt, mn_lt, nm_le, mn_le, m_eq, bI_0, bI_1, m0, m4, fk, i6']
            · rw [if_pos rfl]; exact h1
          | false =>
            rw [hw] at i6
            have i6' : I1 f 6 = mI 1 := i6
            obtain ⟨I2, g1, g2, g3⟩ := kk_197 (lx := lx) (z := z) (E := E) (n := n) (e := 6) hM h1 pv.1 (by decide) (by decide)
            refine ⟨I2, J1, ?_, by rw [if_neg (by decide)]; exact g2, MF_t e3 g3⟩
            rw [e_210_3]
            simp (disch := first | assumption | omega) [k_St, n_St, i_St, j_St, r_St, wI_St, wJ_St, k_S0, n_S0, i_S0, j_S0, r_S0, wI_S0, wJ_S0, cI_s, cJ_s, cV_s, nR_s, nQ_s, nQ_n, lt_s_, gd_T, gd_t, Option.map_some, lits, neg_mI, nI_add, pk_mul, nI_clamp, nI_eq, nI_leI, nI_ltI, nm_eq, mn_eq, nm_lt, mn_lt, nm_le, mn_le, m_eq, bI_0, bI_1, m0, t2']
            rw [e_210_19]
            simp (disch := first | assumption | omega) [k_St, n_St, i_St, j_St, r_St, wI_St, wJ_St, k_S0, n_S0, i_S0, j_S0, r_S0, wI_S0, wJ_S0, cI_s, cJ_s, cV_s, nR_s, nQ_s, nQ_n, lt_s_, gd_T, gd_t, Option.map_some, lits, neg_mI, nI_add, pk_mul, nI_clamp, nI_eq, nI_leI, nI_ltI, nm_eq, mn_eq, nm_lt, mn_lt, nm_le, mn_le, m_eq, bI_0, bI_1, m0, m4, fk, i6', g1]
        · rw [if_neg c0]
          have k5 : srt (tK T m τ.1) ≠ 1 := by unfold srt; split <;> omega
          obtain ⟨I2, g1, g2, g3⟩ := kk_197 (lx := lx) (z := z) (E := E) (n := n) (e := 1) hM h1 pv.1 (by decide) (by decide)
          have e19 := b_210 (lx := lx) (z := z) (E := E) (n := n) (J := J1) hM g2 b
          refine ⟨I2, J1, ?_, g2, MF_t e3 g3⟩
          rw [e_210_3]
          simp (disch := first | assumption | omega) [k_St, n_St, i_St, j_St, r_St, wI_St, wJ_St, k_S0, n_S0, i_S0, j_S0, r_S0, wI_S0, wJ_S0, cI_s, cJ_s, cV_s, nR_s, nQ_s, nQ_n, lt_s_, gd_T, gd_t, Option.map_some, lits, neg_mI, nI_add, pk_mul, nI_clamp, nI_eq, nI_leI, nI_ltI, nm_eq, mn_eq, nm_lt, mn_lt, nm_le, mn_le, m_eq, bI_0, bI_1, m0, t2, k4, k5, if_neg, g1, e19]
end RMB
