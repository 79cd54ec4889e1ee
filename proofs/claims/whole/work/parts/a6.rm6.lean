section RM6
variable {z : Nat} {E : aEt} {n : Nat} {K N : Nat → Nat} {R : Nat → Nat → Option Nat} {I : Nat → Nat → Int32} {J : Nat → Nat → Int64} {lx : List Value → aH → aO} {f s q m e : Nat} {T : Nat → Nat} {F G : Nat → Nat → Nat} {w r : Bool} {x : Exc Nat}
theorem d_214a (hM : Rm K N R f) (h7 : ∀ k, k < m → T k < 256) (hT : MTk I J T m s) (h1 : tK T m s = 1) (b : aB) : ∀ n' i, i + n' = tLn T m s → (∀ j, j < i → slc (T (s + j)) ≠ 4) → Am lx 214 19 [some (.ref (z + 132)), some (.int (nI i))] [] b (St z E n K N R I J) = some (some (.int (bI (!anyB (fun i => decide (slc (T (s + i)) = 4)) (tLn T m s)))), (St z E n K N R I J))
  | 0, i, h, hj => by
    have m0 := hM.1
    have a1 := (hT.2.2.2.1 h1).1
    have tc := tK_c h1 (Or.inl rfl)
    have l8 := tc.2.2.2.1 rfl
    have hi : i = tLn T m s := by omega
    have : anyB (fun i => decide (slc (T (s + i)) = 4)) (tLn T m s) = false := anyB_f.mpr (fun j hj' => by simp [hj j (by omega)])
    rw [this, e_214_19]
    simp (disch := first | assumption | omega) [k_St, n_St, i_St, j_St, r_St, wI_St, wJ_St, k_S0, n_S0, i_S0, j_S0, r_S0, wI_S0, wJ_S0, cI_s, cJ_s, cV_s, nR_s, nQ_s, nQ_n, lt_s_, gd_T, gd_t, Option.map_some, lits, neg_mI, nI_add, pk_mul, nI_clamp, nI_eq, nI_leI, nI_ltI, nm_eq, mn_eq, nm_lt, mn_lt, nm_le, mn_le, m_eq, bI_0, bI_1, m0, a1, if_pos] <;> rfl
  | n' + 1, i, h, hj => by
    have m0 := hM.1
    have a1 := (hT.2.2.2.1 h1).1
    have ts := hT.2.2.2.2.2
    have tc := tK_c h1 (Or.inl rfl)
    have l8 := tc.2.2.2.1 rfl
    have ll := tL_le (T := T) ts
    have hb := h7 (s + i) (by omega)
    have e4 := d_204 (lx := lx) (z := z) (E := E) (n := n) (k := i) hM hT h1 (by omega)
    have e5 := s_213 (lx := lx) hb (St z E n K N R I J)
    have sb := slc_b (T (s + i))
    rw [e_214_19]
    by_cases c4 : slc (T (s + i)) = 4
    · have ht : anyB (fun i => decide (slc (T (s + i)) = 4)) (tLn T m s) = true := anyB_m (show i < tLn T m s by omega) (by simp [c4])
      rw [if_pos c4] at e5
      rw [ht]
      simp (disch := first | assumption | omega) [k_St, n_St, i_St, j_St, r_St, wI_St, wJ_St, k_S0, n_S0, i_S0, j_S0, r_S0, wI_S0, wJ_S0, cI_s, cJ_s, cV_s, nR_s, nQ_s, nQ_n, lt_s_, gd_T, gd_t, Option.map_some, lits, neg_mI, nI_add, pk_mul, nI_clamp, nI_eq, nI_leI, nI_ltI, nm_eq, mn_eq, nm_lt, mn_lt, nm_le, mn_le, m_eq, bI_0, bI_1, m0, a1, if_neg, e4, e5] <;> rfl
    · have ih := d_214a hM h7 hT h1 b n' (i + 1) (by omega) (fun j hj' => by
        by_cases ej : j = i
        · rw [ej]; exact c4
        · exact hj j (by omega))
      rw [if_neg c4] at e5
      simp (disch := first | assumption | omega) [k_St, n_St, i_St, j_St, r_St, wI_St, wJ_St, k_S0, n_S0, i_S0, j_S0, r_S0, wI_S0, wJ_S0, cI_s, cJ_s, cV_s, nR_s, nQ_s, nQ_n, lt_s_, gd_T, gd_t, Option.map_some, lits, neg_mI, nI_add, pk_mul, nI_clamp, nI_eq, nI_leI, nI_ltI, nm_eq, mn_eq, nm_lt, mn_lt, nm_le, mn_le, m_eq, bI_0, bI_1, m0, a1, if_neg, e4, e5]
      exact ih
theorem d_214 (hM : Rm K N R f) (h7 : ∀ k, k < m → T k < 256) (hn : FCn F) (h : MOk I J f T m F w r G s) (h1 : tK T m s = 1) : Ca lx 214 [.ref (z + 132)] (St z E n K N R I J) = some (some (.int (bI (rwO T F s (tLn T m s)))), (St z E n K N R I J)) := by
  have hT := h.2.1
  have key := d_214a (lx := lx) (z := z) (E := E) (n := n) hM h7 hT h1 (0, 0) (tLn T m s) 0 (by omega) (fun j hj => by omega)
  have a1 := (hT.2.2.2.1 h1).1
  have tc := tK_c h1 (Or.inl rfl)
  have l8 := tc.2.2.2.1 rfl
  have i4 := h.2.2.1.1 4 (by decide) (by decide)
  have i5 := h.2.2.1.1 5 (by decide) (by decide)
  obtain ⟨n4, n5, _⟩ := hn
  obtain ⟨m0, m1, m2, m3, m4, hf, fk, fr12, fr13, fr14, fr15, fr16, fr17, fr18, fr19, fr20, fr21, fr22, fk1, fk2, fk3, fk4, fk5, fk6, fk7, fk8, fk9, fk10, fk11, fn1, fn2, fn3, fn4, fn5, fn6, fn7, fn8, fn9, fn10, fn11⟩ := hM
  rw [f_214]
  by_cases c1 : tLn T m s < 2
  · have e : rwO T F s (tLn T m s) = false := by unfold rwO; rw [decide_eq_false (show ¬ 2 ≤ tLn T m s by omega)]; rfl
    rw [e]
    simp (disch := first | assumption | omega) [k_St, n_St, i_St, j_St, r_St, wI_St, wJ_St, k_S0, n_S0, i_S0, j_S0, r_S0, wI_S0, wJ_S0, cI_s, cJ_s, cV_s, nR_s, nQ_s, nQ_n, lt_s_, gd_T, gd_t, Option.map_some, lits, neg_mI, nI_add, pk_mul, nI_clamp, nI_eq, nI_leI, nI_ltI, nm_eq, mn_eq, nm_lt, mn_lt, nm_le, mn_le, m_eq, bI_0, bI_1, m0, a1, if_pos] <;> rfl
  · by_cases c2 : F 0 5 = 0 ∨ tLn T m s = F 0 4
    · have e : rwO T F s (tLn T m s) = !anyB (fun i => decide (slc (T (s + i)) = 4)) (tLn T m s) := by
        unfold rwO
        rw [decide_eq_true (show 2 ≤ tLn T m s by omega)]
        rcases c2 with c2 | c2 <;> simp [c2]
      rw [e, ← key]
      by_cases c3 : F 0 5 = 0
      · simp (disch := first | assumption | omega) [k_St, n_St, i_St, j_St, r_St, wI_St, wJ_St, k_S0, n_S0, i_S0, j_S0, r_S0, wI_S0, wJ_S0, cI_s, cJ_s, cV_s, nR_s, nQ_s, nQ_n, lt_s_, gd_T, gd_t, Option.map_some, lits, neg_mI, nI_add, pk_mul, nI_clamp, nI_eq, nI_leI, nI_ltI, nm_eq, mn_eq, nm_lt, mn_lt, nm_le, mn_le, m_eq, bI_0, bI_1, m0, m4, fk, a1, i5, c3, c1]
      · have c4 : tLn T m s = F 0 4 := by omega
        have c6 : ¬ F 0 5 ≤ 0 := by omega
        have c7 : ¬ F 0 4 < 2 := by omega
        simp (disch := first | assumption | omega) [k_St, n_St, i_St, j_St, r_St, wI_St, wJ_St, k_S0, n_S0, i_S0, j_S0, r_S0, wI_S0, wJ_S0, cI_s, cJ_s, cV_s, nR_s, nQ_s, nQ_n, lt_s_, gd_T, gd_t, Option.map_some, lits, neg_mI, nI_add, pk_mul, nI_clamp, nI_eq, nI_leI, nI_ltI, nm_eq, mn_eq, nm_lt, mn_lt, nm_le, mn_le, m_eq, bI_0, bI_1, m0, m4, fk, a1, i5, i4, c4, c6, c7, c3]
    · have e : rwO T F s (tLn T m s) = false := by
        unfold rwO
        rw [decide_eq_false (show ¬ F 0 5 = 0 by omega), decide_eq_false (show ¬ tLn T m s = F 0 4 by omega)]
        simp
      have c3 : ¬ tLn T m s = F 0 4 := by omega
      have c4 : ¬ F 0 5 ≤ 0 := by omega
      have c5 : ¬ F 0 5 = 0 := by omega
      rw [e]
      simp (disch := first | assumption | omega) [k_St, n_St, i_St, j_St, r_St, wI_St, wJ_St, k_S0, n_S0, i_S0, j_S0, r_S0, wI_S0, wJ_S0, cI_s, cJ_s, cV_s, nR_s, nQ_s, nQ_n, lt_s_, gd_T, gd_t, Option.map_some, lits, neg_mI, nI_add, pk_mul, nI_clamp, nI_eq, nI_leI, nI_ltI, nm_eq, mn_eq, nm_lt, mn_lt, nm_le, mn_le, m_eq, bI_0, bI_1, m0, m4, fk, a1, i5, i4, c3, c1, c4, c5] <;> rfl
theorem b_215f (hM : Rm K N R f) (h : MBd I f e q) (b : aB) : Am lx 215 70 [some (.ref (z + 132)), none] [] b (St z E n K N R I J) = some (none, (St z E n K N R I J)) := by
  have e6 := b_196 (lx := lx) (z := z) (E := E) (n := n) (J := J) hM h
  have h9 := h.2.2.1
  have m0 := hM.1
  rw [e_215_70]
  simp (disch := first | assumption | omega) [k_St, n_St, i_St, j_St, r_St, wI_St, wJ_St, k_S0, n_S0, i_S0, j_S0, r_S0, wI_S0, wJ_S0, cI_s, cJ_s, cV_s, nR_s, nQ_s, nQ_n, lt_s_, gd_T, gd_t, Option.map_some, lits, neg_mI, nI_add, pk_mul, nI_clamp, nI_eq, nI_leI, nI_ltI, nm_eq, mn_eq, nm_lt, mn_lt, nm_le, mn_le, m_eq, bI_0, bI_1, m0, e6, h9]
theorem b_215e (hM : Rm K N R f) (h : MBd I f e q) (b : aB) (v : Int32) : Am lx 215 44 [some (.ref (z + 132)), some (.int v)] [] b (St z E n K N R I J) = some (none, (St z E n K N R I J)) := by
  have e6 := b_215f (lx := lx) (z := z) (E := E) (n := n) (J := J) hM h b
  have h9 := h.2.2.1
  have m0 := hM.1
  have n5 : nI 5 = (5 : Int32) := rfl
  rw [e_215_44]
  simp only [k_St, i_St, m0, gd_t, h9, n5, if_true, e6, ite_self]
theorem b_215d (hM : Rm K N R f) (h : MBd I f e q) (b : aB) : Am lx 215 25 [some (.ref (z + 132)), none] [] b (St z E n K N R I J) = some (none, (St z E n K N R I J)) := by
  have e6 := b_215e (lx := lx) (z := z) (E := E) (n := n) (J := J) hM h b (nI 0)
  have e7 := b_196 (lx := lx) (z := z) (E := E) (n := n) (J := J) hM h
  have e8 := b_197 (lx := lx) (z := z) (E := E) (n := n) (J := J) hM h (nI 1)
  have h9 := h.2.2.1
  have m0 := hM.1
  rw [e_215_25]
  simp (disch := first | assumption | omega) [k_St, n_St, i_St, j_St, r_St, wI_St, wJ_St, k_S0, n_S0, i_S0, j_S0, r_S0, wI_S0, wJ_S0, cI_s, cJ_s, cV_s, nR_s, nQ_s, nQ_n, lt_s_, gd_T, gd_t, Option.map_some, lits, neg_mI, nI_add, pk_mul, nI_clamp, nI_eq, nI_leI, nI_ltI, nm_eq, mn_eq, nm_lt, mn_lt, nm_le, mn_le, m_eq, bI_0, bI_1, m0, e7, h9, if_neg, e8, e6]
theorem b_215c (hM : Rm K N R f) (h : MBd I f e q) (b : aB) : Am lx 215 17 [some (.ref (z + 132)), none] [] b (St z E n K N R I J) = some (none, (St z E n K N R I J)) := by
  have e6 := b_215d (lx := lx) (z := z) (E := E) (n := n) (J := J) hM h b
  have e8 := b_197 (lx := lx) (z := z) (E := E) (n := n) (J := J) hM h
  obtain ⟨m0, m1, m2, m3, m4, hf, fk, fr12, fr13, fr14, fr15, fr16, fr17, fr18, fr19, fr20, fr21, fr22, fk1, fk2, fk3, fk4, fk5, fk6, fk7, fk8, fk9, fk10, fk11, fn1, fn2, fn3, fn4, fn5, fn6, fn7, fn8, fn9, fn10, fn11⟩ := hM
  rw [e_215_17]
  simp only [k_St, r_St, m0, m4, fk, gd_t, Option.map_some, nR_s, e8, cV_s, e6, ite_self]
theorem b_215b (hM : Rm K N R f) (h : MBd I f e q) (b : aB) : Am lx 215 9 [some (.ref (z + 132)), none] [] b (St z E n K N R I J) = some (none, (St z E n K N R I J)) := by
  have e6 := b_215c (lx := lx) (z := z) (E := E) (n := n) (J := J) hM h b
  have e8 := b_197 (lx := lx) (z := z) (E := E) (n := n) (J := J) hM h
  obtain ⟨m0, m1, m2, m3, m4, hf, fk, fr12, fr13, fr14, fr15, fr16, fr17, fr18, fr19, fr20, fr21, fr22, fk1, fk2, fk3, fk4, fk5, fk6, fk7, fk8, fk9, fk10, fk11, fn1, fn2, fn3, fn4, fn5, fn6, fn7, fn8, fn9, fn10, fn11⟩ := hM
  rw [e_215_9]
  simp only [k_St, r_St, m0, m4, fk, gd_t, Option.map_some, nR_s, e8, cV_s, e6, ite_self]
theorem d_215a {h : Nat} (hM : Rm K N R f) (h7 : ∀ k, k < m → T k < 256) (hT : MTk I J T m s) (h1 : tK T m s = 1) (h5 : I f 5 = nI h) (hh : h < 8) (hg : ∀ i, i < tLn T m s → slc (T (s + i)) ≠ 4) (b : aB) : ∀ n' i, i + n' = tLn T m s → Am lx 215 44 [some (.ref (z + 132)), some (.int (nI i))] [] b (St z E n K N R (rwI I f T s h i) J) = Am lx 215 70 [some (.ref (z + 132)), none] [] b (St z E n K N R (rwI I f T s h (tLn T m s)) J)
  | 0, i, hi => by
    have hf := hM.2.2.2.2.2.1
    have m0 := hM.1
    have z1 : rwI I f T s h i 132 = I 132 := rwI_a (by omega) _
    have a1 := (hT.2.2.2.1 h1).1
    have l8 := (tK_c h1 (Or.inl rfl)).2.2.2.1 rfl
    have hi' : i = tLn T m s := by omega
    rw [e_215_44]
    simp (disch := first | assumption | omega) [k_St, n_St, i_St, j_St, r_St, wI_St, wJ_St, k_S0, n_S0, i_S0, j_S0, r_S0, wI_S0, wJ_S0, cI_s, cJ_s, cV_s, nR_s, nQ_s, nQ_n, lt_s_, gd_T, gd_t, Option.map_some, lits, neg_mI, nI_add, pk_mul, nI_clamp, nI_eq, nI_leI, nI_ltI, nm_eq, mn_eq, nm_lt, mn_lt, nm_le, mn_le, m_eq, bI_0, bI_1, m0, z1, a1, if_pos]
    rw [hi']
  | n' + 1, i, hi => by
    have ih := d_215a hM h7 hT h1 h5 hh hg b n' (i + 1) (by omega)
    have hf := hM.2.2.2.2.2.1
    have z1 : rwI I f T s h i 132 = I 132 := rwI_a (by omega) _
    have zf : rwI I f T s h i f = I f := rwI_a (by omega) _
    have a1 := (hT.2.2.2.1 h1).1
    have t2 : I 132 9 = nI 2 := by rw [hT.2.1, h1]; rfl
    have ts := hT.2.2.2.2.2
    have ll := tL_le (T := T) ts
    have l8 := (tK_c h1 (Or.inl rfl)).2.2.2.1 rfl
    have hb := h7 (s + i) (by omega)
    have e4 := d_204 (lx := lx) (z := z) (E := E) (n := n) (k := i) hM (MTk_c (I1 := rwI I f T s h i) (J1 := J) hT z1 rfl) h1 (by omega)
    have e5 := s_213 (lx := lx) hb (St z E n K N R (rwI I f T s h i) J)
    rw [if_neg (hg i (by omega))] at e5
    obtain ⟨m0, m1, m2, m3, m4, hf, fk, fr12, fr13, fr14, fr15, fr16, fr17, fr18, fr19, fr20, fr21, fr22, fk1, fk2, fk3, fk4, fk5, fk6, fk7, fk8, fk9, fk10, fk11, fn1, fn2, fn3, fn4, fn5, fn6, fn7, fn8, fn9, fn10, fn11⟩ := hM
    rw [e_215_44]
    simp (disch := first | assumption | omega) [k_St, n_St, i_St, j_St, r_St, wI_St, wJ_St, k_S0, n_S0, i_S0, j_S0, r_S0, wI_S0, wJ_S0, cI_s, cJ_s, cV_s, nR_s, nQ_s, nQ_n, lt_s_, gd_T, gd_t, Option.map_some, lits, neg_mI, nI_add, pk_mul, nI_clamp, nI_eq, nI_leI, nI_ltI, nm_eq, mn_eq, nm_lt, mn_lt, nm_le, mn_le, m_eq, bI_0, bI_1, m0, m4, fk, fr12, fk1, fn1, z1, zf, a1, t2, h5, if_neg, e4, e5]
    exact ih
theorem MOk_r {l : Nat} (hl1 : 2 ≤ l) (hl : l ≤ 8) (hh : F 0 5 < 8) (h : MOk I J f T m F w r G s) (hf : 147 ≤ f) {t : Nat} {I1 : Nat → Nat → Int32} {J1 : Nat → Nat → Int64} (hI : ∀ a, a ≠ 132 → I1 a = rwI I f T t (F 0 5) l a) (h12 : I1 132 12 = nI 0) (hJ : ∀ a, a ≠ 132 → J1 a = J a) (hT : MTk I1 J1 T m q) : MOk (u2 (u2 I1 f 4 (nI l)) f 5 (nI (F 0 5 + 1))) J1 f T m (u2 (u2 (rwF T F t l) 0 4 l) 0 5 (F 0 5 + 1)) w r G q := by
  obtain ⟨h1, _, ⟨w0, w1, w2, w3, w4, w5, w6, w7⟩, h4, h5, h6⟩ := h
  have i1 : ∀ a, a ≠ f → a ≠ f + 1 → a ≠ 132 → u2 (u2 I1 f 4 (nI l)) f 5 (nI (F 0 5 + 1)) a = I a := fun a a1 a2 a3 => by
    rw [u2_a _ _ _ _ _ a1, u2_a _ _ _ _ _ a1, hI a a3, rwI_a a2]
  have ia : u2 (u2 I1 f 4 (nI l)) f 5 (nI (F 0 5 + 1)) 132 = I1 132 := by
    rw [u2_a _ _ _ _ _ (by omega), u2_a _ _ _ _ _ (by omega)]
  have if0 : ∀ j, j ≠ 4 → j ≠ 5 → u2 (u2 I1 f 4 (nI l)) f 5 (nI (F 0 5 + 1)) f j = I f j := fun j j1 j2 => by
    rw [u2_k _ _ _ _ _ j2, u2_k _ _ _ _ _ j1, hI f (by omega), rwI_a (by omega)]
  have f0 : ∀ j, j ≠ 4 → j ≠ 5 → u2 (u2 (rwF T F t l) 0 4 l) 0 5 (F 0 5 + 1) 0 j = F 0 j := fun j j1 j2 => by
    rw [u2_k _ _ _ _ _ j2, u2_k _ _ _ _ _ j1]; simp [rwF]
  have f4 : u2 (u2 (rwF T F t l) 0 4 l) 0 5 (F 0 5 + 1) 0 4 = l := by rw [u2_k _ _ _ _ _ (by decide), u2_s]
  have f5 : u2 (u2 (rwF T F t l) 0 4 l) 0 5 (F 0 5 + 1) 0 5 = F 0 5 + 1 := u2_s _ _ _ _
  have fb : ∀ b, b ≠ 0 → b ≠ 1 → u2 (u2 (rwF T F t l) 0 4 l) 0 5 (F 0 5 + 1) b = F b := fun b b1 b2 => by
    rw [u2_a _ _ _ _ _ b1, u2_a _ _ _ _ _ b1]; funext k; simp [rwF, b2]
  have f1 : ∀ c, u2 (u2 (rwF T F t l) 0 4 l) 0 5 (F 0 5 + 1) 1 c = if 8 * F 0 5 ≤ c ∧ c < 8 * F 0 5 + l then slc (T (t + (c - 8 * F 0 5))) else F 1 c := fun c => by
    rw [u2_a _ _ _ _ _ (by decide), u2_a _ _ _ _ _ (by decide)]; simp [rwF]
  refine ⟨by rw [ia]; exact h12, MTk_c hT ia rfl, ⟨?_, by rw [if0 6 (by decide) (by decide), f0 6 (by decide) (by decide)]; exact w1, ?_, ?_, ?_, ?_, ?_, ?_⟩, by rw [if0 11 (by decide) (by decide)]; exact h4, ?_⟩
  · intro j j1 j2
    by_cases j5 : j = 5
    · rw [j5, u2_s, f5]
    · by_cases j4 : j = 4
      · rw [j4, u2_k _ _ _ _ _ (by decide), u2_s, f4]
      · rw [if0 j j4 j5, f0 j j4 j5]; exact w0 j j1 j2
  · intro c hc
    rw [u2_a _ _ _ _ _ (by omega), u2_a _ _ _ _ _ (by omega), hI _ (by omega), rwI_c, f1]
    by_cases ci : 8 * F 0 5 ≤ c ∧ c < 8 * F 0 5 + l
    · rw [if_pos ci, if_pos ci]
    · rw [if_neg ci, if_neg ci]; exact w2 c hc
  · rw [f0 7 (by decide) (by decide), fb 2 (by decide) (by decide), i1 _ (by omega) (by omega) (by omega)]; exact w3
  · rw [f0 8 (by decide) (by decide), fb 3 (by decide) (by decide), i1 _ (by omega) (by omega) (by omega)]; exact w4
  · rw [f0 8 (by decide) (by decide), fb 4 (by decide) (by decide), i1 _ (by omega) (by omega) (by omega)]; exact w5
  · rw [f0 8 (by decide) (by decide), fb 4 (by decide) (by decide), fb 5 (by decide) (by decide), i1 _ (by omega) (by omega) (by omega)]; exact w6
  · rw [f0 9 (by decide) (by decide), fb 6 (by decide) (by decide), fb 7 (by decide) (by decide), fb 8 (by decide) (by decide), i1 (f + 6) (by omega) (by omega) (by omega), i1 (f + 7) (by omega) (by omega) (by omega), i1 (f + 8) (by omega) (by omega) (by omega)]; exact w7
  · unfold MNm
    rw [if0 10 (by decide) (by decide), f0 7 (by decide) (by decide), f0 8 (by decide) (by decide), i1 (f + 10) (by omega) (by omega) (by omega), i1 (f + 11) (by omega) (by omega) (by omega), hJ (f + 9) (by omega)]; exact ⟨h5, h6⟩
theorem d_215 (hM : Rm K N R f) (hB : MB I T m) (hn : FCn F) (h9 : 0 < F 9 0 ↔ 0 < F 0 0) (b0 : F 0 0 ≤ 14) (ks : tK T m s = 1) (h : MOk I J f T m F w r G s) : ∃ I' J', Ca lx 215 [.ref (z + 132)] (St z E n K N R I J) = some (none, St z E n K N R I' J') ∧ MLn I' J' f T m ((pRw T m F r s).bind fun a => .ok (a.2, a.1, w, r, G)) ∧ MF f I I' J J' := by
  have hM' := hM
  obtain ⟨m0, m1, m2, m3, m4, hf, fk, fr12, fr13, fr14, fr15, fr16, fr17, fr18, fr19, fr20, fr21, fr22, fk1, fk2, fk3, fk4, fk5, fk6, fk7, fk8, fk9, fk10, fk11, fn1, fn2, fn3, fn4, fn5, fn6, fn7, fn8, fn9, fn10, fn11⟩ := hM
  have h7 : ∀ k, k < m → T k < 256 := fun k hk => (hB.2.2 k hk).1
  have i0 := h.2.2.1.1 0 (by decide) (by decide)
  have i5 := h.2.2.1.1 5 (by decide) (by decide)
  have i11 := h.2.2.2.1
  have n5 := hn.2.1
  unfold pRw
  by_cases c8 : 8 ≤ F 0 5
  · obtain ⟨I1, g1, g2, g3⟩ := kk_197 (lx := lx) (z := z) (E := E) (n := n) (e := 5) hM' h hn (by decide) (by decide)
    refine ⟨I1, J, ?_, by rw [if_pos c8]; exact g2, g3⟩
    have c' : F 0 5 = 8 := by omega
    rw [f_215]
    simp (disch := first | assumption | omega) [k_St, n_St, i_St, j_St, r_St, wI_St, wJ_St, k_S0, n_S0, i_S0, j_S0, r_S0, wI_S0, wJ_S0, cI_s, cJ_s, cV_s, nR_s, nQ_s, nQ_n, lt_s_, gd_T, gd_t, Option.map_some, lits, neg_mI, nI_add, pk_mul, nI_clamp, nI_eq, nI_leI, nI_ltI, nm_eq, mn_eq, nm_lt, mn_lt, nm_le, mn_le, m_eq, bI_0, bI_1, m0, m4, fk, i5, c', g1]
    exact b_215b hM' g2 _
  have r9 : Ca lx 215 [.ref (z + 132)] (St z E n K N R I J) = Am lx 215 9 [some (.ref (z + 132)), none] [] (0, 0) (St z E n K N R I J) := by
    have c' : ¬ F 0 5 = 8 := by omega
    rw [f_215]
    simp (disch := first | assumption | omega) [k_St, n_St, i_St, j_St, r_St, wI_St, wJ_St, k_S0, n_S0, i_S0, j_S0, r_S0, wI_S0, wJ_S0, cI_s, cJ_s, cV_s, nR_s, nQ_s, nQ_n, lt_s_, gd_T, gd_t, Option.map_some, lits, neg_mI, nI_add, pk_mul, nI_clamp, nI_eq, nI_leI, nI_ltI, nm_eq, mn_eq, nm_lt, mn_lt, nm_le, mn_le, m_eq, bI_0, bI_1, m0, m4, fk, i5, c']
  rw [if_neg c8]
  by_cases c9 : F 9 0 = 0
  · obtain ⟨I1, g1, g2, g3⟩ := kk_197 (lx := lx) (z := z) (E := E) (n := n) (e := 6) hM' h hn (by decide) (by decide)
    refine ⟨I1, J, ?_, by rw [if_pos c9]; exact g2, g3⟩
    have c' : F 0 0 = 0 := by omega
    rw [r9, e_215_9]
    simp (disch := first | assumption | omega) [k_St, n_St, i_St, j_St, r_St, wI_St, wJ_St, k_S0, n_S0, i_S0, j_S0, r_S0, wI_S0, wJ_S0, cI_s, cJ_s, cV_s, nR_s, nQ_s, nQ_n, lt_s_, gd_T, gd_t, Option.map_some, lits, neg_mI, nI_add, pk_mul, nI_clamp, nI_eq, nI_leI, nI_ltI, nm_eq, mn_eq, nm_lt, mn_lt, nm_le, mn_le, m_eq, bI_0, bI_1, m0, m4, fk, i0, c', g1]
    exact b_215c hM' g2 _
  have r17 : Ca lx 215 [.ref (z + 132)] (St z E n K N R I J) = Am lx 215 17 [some (.ref (z + 132)), none] [] (0, 0) (St z E n K N R I J) := by
    have c' : ¬ F 0 0 = 0 := by omega
    rw [r9, e_215_9]
    simp (disch := first | assumption | omega) [k_St, n_St, i_St, j_St, r_St, wI_St, wJ_St, k_S0, n_S0, i_S0, j_S0, r_S0, wI_S0, wJ_S0, cI_s, cJ_s, cV_s, nR_s, nQ_s, nQ_n, lt_s_, gd_T, gd_t, Option.map_some, lits, neg_mI, nI_add, pk_mul, nI_clamp, nI_eq, nI_leI, nI_ltI, nm_eq, mn_eq, nm_lt, mn_lt, nm_le, mn_le, m_eq, bI_0, bI_1, m0, m4, fk, i0, c']
  rw [if_neg c9]
  cases r with
  | true =>
    obtain ⟨I1, g1, g2, g3⟩ := kk_197 (lx := lx) (z := z) (E := E) (n := n) (e := 8) hM' h hn (by decide) (by decide)
    refine ⟨I1, J, ?_, by rw [if_pos rfl]; exact g2, g3⟩
    have c' : I f 11 = nI 1 := i11
    rw [r17, e_215_17]
    simp (disch := first | assumption | omega) [k_St, n_St, i_St, j_St, r_St, wI_St, wJ_St, k_S0, n_S0, i_S0, j_S0, r_S0, wI_S0, wJ_S0, cI_s, cJ_s, cV_s, nR_s, nQ_s, nQ_n, lt_s_, gd_T, gd_t, Option.map_some, lits, neg_mI, nI_add, pk_mul, nI_clamp, nI_eq, nI_leI, nI_ltI, nm_eq, mn_eq, nm_lt, mn_lt, nm_le, mn_le, m_eq, bI_0, bI_1, m0, m4, fk, c', g1]
    exact b_215d hM' g2 _
  | false =>
    have c' : I f 11 = nI 0 := i11
    have r25 : Ca lx 215 [.ref (z + 132)] (St z E n K N R I J) = Am lx 215 25 [some (.ref (z + 132)), none] [] (0, 0) (St z E n K N R I J) := by
      rw [r17, e_215_17]
      simp (disch := first | assumption | omega) [k_St, n_St, i_St, j_St, r_St, wI_St, wJ_St, k_S0, n_S0, i_S0, j_S0, r_S0, wI_S0, wJ_S0, cI_s, cJ_s, cV_s, nR_s, nQ_s, nQ_n, lt_s_, gd_T, gd_t, Option.map_some, lits, neg_mI, nI_add, pk_mul, nI_clamp, nI_eq, nI_leI, nI_ltI, nm_eq, mn_eq, nm_lt, mn_lt, nm_le, mn_le, m_eq, bI_0, bI_1, m0, m4, fk, c']
    rw [if_neg (by decide)]
    obtain ⟨I1, J1, g1, g2, g3⟩ := kk_196 (lx := lx) (z := z) (E := E) (n := n) hM' hB h (Or.inl ks)
    have hB1 := MB_f hB g3 hf
    have lk := tK_le T m (adv T m s)
    have t2 := g2.2.1.2.1
    by_cases ck : tK T m (adv T m s) = 1
    · rw [if_pos ck]
      have t2' : I1 132 9 = nI 2 := by rw [t2, ck]; rfl
      have e14 := d_214 (lx := lx) (z := z) (E := E) (n := n) hM' h7 hn g2 ck
      have l8 := (tK_c ck (Or.inl rfl)).2.2.2.1 rfl
      by_cases co : rwO T F (adv T m s) (tLn T m (adv T m s)) = true
      · rw [if_pos co]
        rw [co] at e14
        have cc : 2 ≤ tLn T m (adv T m s) ∧ ∀ i, i < tLn T m (adv T m s) → slc (T (adv T m s + i)) ≠ 4 := by
          unfold rwO at co
          simp only [Bool.and_eq_true, Bool.or_eq_true, decide_eq_true_eq, Bool.not_eq_true'] at co
          refine ⟨co.1.1, fun i hi => ?_⟩
          have := anyB_f.mp co.2 i hi
          simpa using this
        have lp := d_215a (lx := lx) (z := z) (E := E) (n := n) hM' h7 g2.2.1 ck (g2.2.2.1.1 5 (by decide) (by decide)) (by omega) cc.2 (0, 0) (tLn T m (adv T m s)) 0 (by omega)
        have z1 : rwI I1 f T (adv T m s) (F 0 5) (tLn T m (adv T m s)) 132 = I1 132 := rwI_a (by omega) _
        have ff : MF f I1 (rwI I1 f T (adv T m s) (F 0 5) (tLn T m (adv T m s))) J1 J1 := ⟨fun a a1 a2 => rwI_a (by omega) _, fun k hk => by rw [z1], fun _ _ _ => rfl, fun _ _ => rfl⟩
        have hB2 := MB_f hB1 ff hf
        have ts := g2.2.1.2.2.2.2.2
        obtain ⟨I3, J3, k1, k2, k3⟩ := d_196 (lx := lx) (z := z) (E := E) (n := n) (J := J1) hM' hB2 (by rw [z1]; exact t2') (by decide) (by rw [z1]; exact g2.2.1.2.2.1 (by omega)) (tL_le ts)
        have ok := MOk_r (J1 := J3) (I1 := I3) (q := adv T m (adv T m s)) (t := adv T m s) cc.1 l8 (by omega) g2 hf (fun a ha => k3.1 a ha) (by rw [k3.2.1 12 (by decide), z1]; exact g2.1) (fun a ha => k3.2.2.1 a ha) k2
        have a1 := (g2.2.1.2.2.2.1 ck).1
        have j5 : I3 f 5 = nI (F 0 5) := by rw [k3.1 f (by omega), rwI_a (by omega)]; exact g2.2.2.1.1 5 (by decide) (by decide)
        have s3 : ¬ I3 132 9 = nI 5 := by
          have lk2 := tK_le T m (tsk T m (adv T m s + tLn T m (adv T m s)))
          rw [k2.2.1, nI_eq (by unfold srt; split <;> omega) (by decide)]
          unfold srt; split <;> omega
        refine ⟨_, J3, ?_, ok, MF_t g3 (MF_t ff (MF_t (TF_F k3) (MF_t (MF_w _ hf) (MF_w _ hf))))⟩
        rw [r25, e_215_25]
        simp (disch := first | assumption | omega) [k_St, n_St, i_St, j_St, r_St, wI_St, wJ_St, k_S0, n_S0, i_S0, j_S0, r_S0, wI_S0, wJ_S0, cI_s, cJ_s, cV_s, nR_s, nQ_s, nQ_n, lt_s_, gd_T, gd_t, Option.map_some, lits, neg_mI, nI_add, pk_mul, nI_clamp, nI_eq, nI_leI, nI_ltI, nm_eq, mn_eq, nm_lt, mn_lt, nm_le, mn_le, m_eq, bI_0, bI_1, m0, g1, t2', e14]
        have z0 : rwI I1 f T (adv T m s) (F 0 5) 0 = I1 := rfl
        rw [z0] at lp
        rw [lp, e_215_70]
        simp (disch := first | assumption | omega) [k_St, n_St, i_St, j_St, r_St, wI_St, wJ_St, k_S0, n_S0, i_S0, j_S0, r_S0, wI_S0, wJ_S0, cI_s, cJ_s, cV_s, nR_s, nQ_s, nQ_n, lt_s_, gd_T, gd_t, Option.map_some, lits, neg_mI, nI_add, pk_mul, nI_clamp, nI_eq, nI_leI, nI_ltI, nm_eq, mn_eq, nm_lt, mn_lt, nm_le, mn_le, m_eq, bI_0, bI_1, m0, m4, fk, z1, a1, k1, s3, j5, u2_s, u2_a, u2_k]
      · rw [if_neg co]
        have co' : rwO T F (adv T m s) (tLn T m (adv T m s)) = false := by simpa using co
        rw [co'] at e14
        obtain ⟨I2, k1, k2, k3⟩ := kk_197 (lx := lx) (z := z) (E := E) (n := n) (e := 7) hM' g2 hn (by decide) (by decide)
        refine ⟨I2, J1, ?_, k2, MF_t g3 k3⟩
        rw [r25, e_215_25]
        simp (disch := first | assumption | omega) [k_St, n_St, i_St, j_St, r_St, wI_St, wJ_St, k_S0, n_S0, i_S0, j_S0, r_S0, wI_S0, wJ_S0, cI_s, cJ_s, cV_s, nR_s, nQ_s, nQ_n, lt_s_, gd_T, gd_t, Option.map_some, lits, neg_mI, nI_add, pk_mul, nI_clamp, nI_eq, nI_leI, nI_ltI, nm_eq, mn_eq, nm_lt, mn_lt, nm_le, mn_le, m_eq, bI_0, bI_1, m0, g1, t2', e14, k1]
        exact b_215e hM' k2 _ _
    · rw [if_neg ck]
      have k5 : srt (tK T m (adv T m s)) < 5 ∧ srt (tK T m (adv T m s)) ≠ 2 := by unfold srt; split <;> omega
      obtain ⟨I2, k1, k2, k3⟩ := kk_197 (lx := lx) (z := z) (E := E) (n := n) (e := 1) hM' g2 hn (by decide) (by decide)
      refine ⟨I2, J1, ?_, k2, MF_t g3 k3⟩
      rw [r25, e_215_25]
      simp (disch := first | assumption | omega) [k_St, n_St, i_St, j_St, r_St, wI_St, wJ_St, k_S0, n_S0, i_S0, j_S0, r_S0, wI_S0, wJ_S0, cI_s, cJ_s, cV_s, nR_s, nQ_s, nQ_n, lt_s_, gd_T, gd_t, Option.map_some, lits, neg_mI, nI_add, pk_mul, nI_clamp, nI_eq, nI_leI, nI_ltI, nm_eq, mn_eq, nm_lt, mn_lt, nm_le, mn_le, m_eq, bI_0, bI_1, m0, g1, t2, k5, if_neg, k1]
      exact b_215e hM' k2 _ _
end RM6
