section RD9
variable {z : Nat} {E : aEt} {n : Nat} {K N : Nat → Nat} {R : Nat → Nat → Option Nat} {I : Nat → Nat → Int32} {J : Nat → Nat → Int64} {lx : List Value → aH → aO} {p s q m e : Nat} {T : Nat → Nat} {F G : Nat → Nat → Nat} {w r : Bool} {x : Exc Nat}
theorem c_40 {l : Nat} (hR : Rd K N R p) (hB : CB I T m) (h3 : I 2 3 = nI s) (h4 : I 2 4 = nI l) (q4 : I p 4 = nI (F 0 4)) (q5 : I p 5 = nI (F 0 5)) (hn : FCn F) (h8 : F 0 5 < 8) (hl : l ≤ 8) (hs : s + l ≤ m) : ∃ y, y ≤ l ∧ (rwO T F s l = true → y = l) ∧ Ca lx 40 [.ref (z + 1)] (St z E n K N R I J) = some (some (.int (bI (rwO T F s l))), St z E n K N R (rwI I p T s (F 0 5) y) (rwJ J p T s (F 0 5) y)) := by
  have hR' := hR
  obtain ⟨d0, d1, d2, d3, d4, d5, d6, d7, d8, d9, d10, d11, d12, hP, hp⟩ := hR
  have kp := hP.1
  have n4 := hn.1
  by_cases c1 : l < 2
  · have e : rwO T F s l = false := by unfold rwO; rw [decide_eq_false (show ¬ 2 ≤ l by omega)]; rfl
    refine ⟨0, by omega, fun h => by rw [e] at h; exact absurd h (by decide), ?_⟩
    rw [e, f_40]
    simp (disch := first | assumption | omega) [k_St, n_St, i_St, j_St, r_St, wI_St, wJ_St, k_S0, n_S0, i_S0, j_S0, r_S0, wI_S0, wJ_S0, cI_s, cJ_s, cV_s, nR_s, nQ_s, nQ_n, lt_s_, gd_T, gd_t, Option.map_some, lits, neg_mI, nI_add, pk_mul, nI_clamp, nI_eq, nI_leI, nI_ltI, nm_eq, mn_eq, nm_lt, mn_lt, nm_le, mn_le, m_eq, bI_0, bI_1, d0, d1, d8, h4, if_pos] <;> exact ⟨rfl, rfl⟩
  · by_cases c2 : F 0 5 = 0 ∨ l = F 0 4
    · have e : rwO T F s l = !anyB (fun i => decide (slc (T (s + i)) = 4)) l := by
        unfold rwO
        rw [decide_eq_true (show 2 ≤ l by omega)]
        rcases c2 with c2 | c2 <;> simp [c2]
      obtain ⟨y, y1, y2, y3⟩ := c_40a (lx := lx) (z := z) (E := E) (n := n) (J := J) hR' hB h3 h4 q5 h8 hl hs (0, 0) l 0 (by omega) (fun i hi => by omega)
      refine ⟨y, y1, fun h => y2 (by rw [e] at h; simpa using h), ?_⟩
      rw [e, f_40]
      rw [← y3]
      by_cases c3 : F 0 5 = 0
      · simp (disch := first | assumption | omega) [k_St, n_St, i_St, j_St, r_St, wI_St, wJ_St, k_S0, n_S0, i_S0, j_S0, r_S0, wI_S0, wJ_S0, cI_s, cJ_s, cV_s, nR_s, nQ_s, nQ_n, lt_s_, gd_T, gd_t, Option.map_some, lits, neg_mI, nI_add, pk_mul, nI_clamp, nI_eq, nI_leI, nI_ltI, nm_eq, mn_eq, nm_lt, mn_lt, nm_le, mn_le, m_eq, bI_0, bI_1, d0, d1, d8, d12, kp, h4, q5, c3, if_neg, if_pos]
        rfl
      · have c4 : l = F 0 4 := by omega
        simp (disch := first | assumption | omega) [k_St, n_St, i_St, j_St, r_St, wI_St, wJ_St, k_S0, n_S0, i_S0, j_S0, r_S0, wI_S0, wJ_S0, cI_s, cJ_s, cV_s, nR_s, nQ_s, nQ_n, lt_s_, gd_T, gd_t, Option.map_some, lits, neg_mI, nI_add, pk_mul, nI_clamp, nI_eq, nI_leI, nI_ltI, nm_eq, mn_eq, nm_lt, mn_lt, nm_le, mn_le, m_eq, bI_0, bI_1, d0, d1, d8, d12, kp, h4, q5, q4, c4, if_neg, if_pos]
        rfl
    · have e : rwO T F s l = false := by
        unfold rwO
        rw [decide_eq_false (show ¬ F 0 5 = 0 by omega), decide_eq_false (show ¬ l = F 0 4 by omega)]
        simp
      refine ⟨0, by omega, fun h => by rw [e] at h; exact absurd h (by decide), ?_⟩
      rw [e, f_40]
      have c3 : ¬ l = F 0 4 := by omega
      simp (disch := first | assumption | omega) [k_St, n_St, i_St, j_St, r_St, wI_St, wJ_St, k_S0, n_S0, i_S0, j_S0, r_S0, wI_S0, wJ_S0, cI_s, cJ_s, cV_s, nR_s, nQ_s, nQ_n, lt_s_, gd_T, gd_t, Option.map_some, lits, neg_mI, nI_add, pk_mul, nI_clamp, nI_eq, nI_leI, nI_ltI, nm_eq, mn_eq, nm_lt, mn_lt, nm_le, mn_le, m_eq, bI_0, bI_1, d0, d1, d8, d12, kp, h4, q5, q4, c3, if_neg, if_pos] <;> exact ⟨rfl, rfl⟩
theorem COk_r {l : Nat} (hl1 : 2 ≤ l) (hl : l ≤ 8) (hh : F 0 5 < 8) (h45 : F 0 5 = 0 ∨ l = F 0 4) (h : COk I J p T m F w r G s) (hp : 114 ≤ p) : COk (u2 (u2 (rwI I p T s (F 0 5) l) p 4 (nI l)) p 5 (nI (F 0 5 + 1))) (rwJ J p T s (F 0 5) l) p T m (u2 (u2 (rwF T F s l) 0 4 l) 0 5 (F 0 5 + 1)) w r G s := by
  obtain ⟨h1, h2, h3, h4, h5, ⟨t2, t3, t4, t5, ts⟩, ⟨q0, q1, q2, q3, q4, q5, q6, q7⟩, h8, h9⟩ := h
  have i1 : ∀ a, a ≠ p → a ≠ p + 1 → u2 (u2 (rwI I p T s (F 0 5) l) p 4 (nI l)) p 5 (nI (F 0 5 + 1)) a = I a := fun a a1 a2 => by
    rw [u2_a _ _ _ _ _ a1, u2_a _ _ _ _ _ a1, rwI_a a2]
  have a1 := i1 1 (by omega) (by omega)
  have a2 := i1 2 (by omega) (by omega)
  have f0 : ∀ j, j ≠ 4 → j ≠ 5 → u2 (u2 (rwF T F s l) 0 4 l) 0 5 (F 0 5 + 1) 0 j = F 0 j := fun j j1 j2 => by
    rw [u2_k _ _ _ _ _ j2, u2_k _ _ _ _ _ j1]; simp [rwF]
  have f4 : u2 (u2 (rwF T F s l) 0 4 l) 0 5 (F 0 5 + 1) 0 4 = l := by rw [u2_k _ _ _ _ _ (by decide), u2_s]
  have f5 : u2 (u2 (rwF T F s l) 0 4 l) 0 5 (F 0 5 + 1) 0 5 = F 0 5 + 1 := u2_s _ _ _ _
  have fb : ∀ b, b ≠ 0 → b ≠ 1 → u2 (u2 (rwF T F s l) 0 4 l) 0 5 (F 0 5 + 1) b = F b := fun b b1 b2 => by
    rw [u2_a _ _ _ _ _ b1, u2_a _ _ _ _ _ b1]; funext k; simp [rwF, b2]
  have f1 : ∀ c, u2 (u2 (rwF T F s l) 0 4 l) 0 5 (F 0 5 + 1) 1 c = if 8 * F 0 5 ≤ c ∧ c < 8 * F 0 5 + l then slc (T (s + (c - 8 * F 0 5))) else F 1 c := fun c => by
    rw [u2_a _ _ _ _ _ (by decide), u2_a _ _ _ _ _ (by decide)]; simp [rwF]
  have fn : ∀ c, ¬ (8 * F 0 5 ≤ c ∧ c < 8 * F 0 5 + l) → inF (u2 (u2 (rwF T F s l) 0 4 l) 0 5 (F 0 5 + 1)) c = inF F c := fun c hc => by
    unfold inF
    rw [f4, f5]
    rw [Bool.eq_iff_iff]
    simp only [Bool.and_eq_true, decide_eq_true_eq]
    omega
  have fi : ∀ c, (8 * F 0 5 ≤ c ∧ c < 8 * F 0 5 + l) → inF (u2 (u2 (rwF T F s l) 0 4 l) 0 5 (F 0 5 + 1)) c = true ∧ inF F c = false := fun c hc => by
    unfold inF
    rw [f4, f5]
    refine ⟨?_, ?_⟩
    · simp only [Bool.and_eq_true, decide_eq_true_eq]; omega
    · rw [decide_eq_false (show ¬ c / 8 < F 0 5 by omega)]; simp
  have r1 : ∀ c, u2 (u2 (rwI I p T s (F 0 5) l) p 4 (nI l)) p 5 (nI (F 0 5 + 1)) (p + 1) c = if 8 * F 0 5 ≤ c ∧ c < 8 * F 0 5 + l then nI (slc (T (s + (c - 8 * F 0 5)))) else I (p + 1) c := fun c => by
    rw [u2_a _ _ _ _ _ (by omega), u2_a _ _ _ _ _ (by omega), rwI_c]
  have rj : ∀ a, a ≠ p → rwJ J p T s (F 0 5) l a = J a := fun a ha => rwJ_a ha l
  have f9 := fb 9 (by decide) (by decide)
  refine ⟨by rw [a1]; exact h1, by rw [a1, f9]; exact h2, by rw [a1]; exact h3, by rw [a1]; exact h4, by rw [a2]; exact h5, ⟨by rw [a2]; exact t2, by rw [a2]; exact t3, by rw [a2]; exact t4, by rw [a2]; exact t5, ts⟩, ⟨?_, ?_, ?_, ?_, ?_, ?_, ?_, ?_⟩, ?_, ?_⟩
  · intro j hj
    by_cases j5 : j = 5
    · rw [j5, u2_s, f5]
    · by_cases j4 : j = 4
      · rw [j4, u2_k _ _ _ _ _ (by decide), u2_s, f4]
      · rw [u2_k _ _ _ _ _ j5, u2_k _ _ _ _ _ j4, rwI_a (by omega), f0 j j4 j5]; exact q0 j hj
  · intro c hc
    rw [r1, f1]
    by_cases ci : 8 * F 0 5 ≤ c ∧ c < 8 * F 0 5 + l
    · rw [if_pos ci, if_pos ci, if_pos (fi c ci).1]
    · rw [if_neg ci, if_neg ci, fn c ci]; exact q1 c hc
  · rw [f0 7 (by decide) (by decide), fb 2 (by decide) (by decide), i1 _ (by omega) (by omega)]; exact q2
  · rw [f0 8 (by decide) (by decide), fb 3 (by decide) (by decide), i1 _ (by omega) (by omega)]; exact q3
  · rw [f0 8 (by decide) (by decide), fb 4 (by decide) (by decide), i1 _ (by omega) (by omega)]; exact q4
  · rw [f0 8 (by decide) (by decide), fb 4 (by decide) (by decide), fb 5 (by decide) (by decide), i1 _ (by omega) (by omega)]; exact q5
  · rw [f0 9 (by decide) (by decide), fb 6 (by decide) (by decide), fb 7 (by decide) (by decide), fb 8 (by decide) (by decide), i1 (p + 6) (by omega) (by omega), i1 (p + 7) (by omega) (by omega), i1 (p + 8) (by omega) (by omega)]; exact q6
  · intro c hc
    rw [rwJ_h c l (by omega), q7 c hc]
    unfold isS
    rw [f1]
    by_cases ci : 8 * F 0 5 ≤ c ∧ c < 8 * F 0 5 + l
    · rw [if_pos ci, (fi c ci).1, (fi c ci).2, decide_eq_true ci, decide_eq_true hc]; simp
    · rw [if_neg ci, fn c ci, decide_eq_false ci]; simp
  · rw [f0 7 (by decide) (by decide), rj 13 (by omega)]; exact h8
  · rw [f0 8 (by decide) (by decide), rj 14 (by omega)]; exact h9
theorem b_39e (hR : Rd K N R p) (h : CBd I p T m e q) (b : aB) : Am lx 39 35 [some (.ref (z + 1))] [] b (St z E n K N R I J) = some (none, (St z E n K N R I J)) := by
  obtain ⟨d0, d1, d2, d3, d4, d5, d6, d7, d8, d9, d10, d11, d12, hP, hp⟩ := hR
  obtain ⟨h1, h2, h3, _⟩ := h
  rw [e_39_35]
  simp (disch := first | assumption | omega) [k_St, n_St, i_St, j_St, r_St, wI_St, wJ_St, k_S0, n_S0, i_S0, j_S0, r_S0, wI_S0, wJ_S0, cI_s, cJ_s, cV_s, nR_s, nQ_s, nQ_n, lt_s_, gd_T, gd_t, Option.map_some, lits, neg_mI, nI_add, pk_mul, nI_clamp, nI_eq, nI_leI, nI_ltI, nm_eq, mn_eq, nm_lt, mn_lt, nm_le, mn_le, m_eq, bI_0, bI_1, d0, h3, if_neg]
theorem b_39c (hR : Rd K N R p) (h : CBd I p T m e q) (b : aB) : Am lx 39 23 [some (.ref (z + 1))] [] b (St z E n K N R I J) = some (none, (St z E n K N R I J)) := by
  have e35 := b_39e (lx := lx) (z := z) (E := E) (n := n) (J := J) hR h b
  obtain ⟨d0, d1, d2, d3, d4, d5, d6, d7, d8, d9, d10, d11, d12, hP, hp⟩ := hR
  obtain ⟨h1, h2, h3, _⟩ := h
  have e47 : Ca lx 47 [.ref (z + 1)] (St z E n K N R I J) = some (none, (St z E n K N R I J)) := by
    rw [f_47]
    simp (disch := first | assumption | omega) [k_St, n_St, i_St, j_St, r_St, wI_St, wJ_St, k_S0, n_S0, i_S0, j_S0, r_S0, wI_S0, wJ_S0, cI_s, cJ_s, cV_s, nR_s, nQ_s, nQ_n, lt_s_, gd_T, gd_t, Option.map_some, lits, neg_mI, nI_add, pk_mul, nI_clamp, nI_eq, nI_leI, nI_ltI, nm_eq, mn_eq, nm_lt, mn_lt, nm_le, mn_le, m_eq, bI_0, bI_1, d0, h3, if_neg]
  rw [e_39_23]
  simp (disch := first | assumption | omega) [k_St, n_St, i_St, j_St, r_St, wI_St, wJ_St, k_S0, n_S0, i_S0, j_S0, r_S0, wI_S0, wJ_S0, cI_s, cJ_s, cV_s, nR_s, nQ_s, nQ_n, lt_s_, gd_T, gd_t, Option.map_some, lits, neg_mI, nI_add, pk_mul, nI_clamp, nI_eq, nI_leI, nI_ltI, nm_eq, mn_eq, nm_lt, mn_lt, nm_le, mn_le, m_eq, bI_0, bI_1, d0, h3, if_neg, e47, e35]
theorem b_39b (hR : Rd K N R p) (h : CBd I p T m e q) (b : aB) : Am lx 39 16 [some (.ref (z + 1))] [] b (St z E n K N R I J) = some (none, (St z E n K N R I J)) := by
  have e1 := b_58 (lx := lx) (z := z) (E := E) (n := n) (J := J) hR h
  have e2 := b_39c (lx := lx) (z := z) (E := E) (n := n) (J := J) hR h b
  obtain ⟨d0, d1, d2, d3, d4, d5, d6, d7, d8, d9, d10, d11, d12, hP, hp⟩ := hR
  rw [e_39_16]
  simp only [k_St, d0, gd_t, e1, cV_s, e2, ite_self]
theorem b_39a (hR : Rd K N R p) (h : CBd I p T m e q) (b : aB) : Am lx 39 9 [some (.ref (z + 1))] [] b (St z E n K N R I J) = some (none, (St z E n K N R I J)) := by
  have e1 := b_58 (lx := lx) (z := z) (E := E) (n := n) (J := J) hR h
  have e2 := b_39b (lx := lx) (z := z) (E := E) (n := n) (J := J) hR h b
  obtain ⟨d0, d1, d2, d3, d4, d5, d6, d7, d8, d9, d10, d11, d12, hP, hp⟩ := hR
  rw [e_39_9]
  simp only [k_St, d0, gd_t, e1, cV_s, e2, ite_self]
theorem c_39 (hR : Rd K N R p) (hB : CB I T m) (hn : FCn F) (h : COk I J p T m F w r G s) : ∃ I' J', Ca lx 39 [.ref (z + 1)] (St z E n K N R I J) = some (none, St z E n K N R I' J') ∧ CLn I' J' p T m ((pRw T m F r s).bind fun a => .ok (a.2, a.1, w, r, G)) ∧ FRc p I I' ∧ FJ p J J' := by
  have hR' := hR
  obtain ⟨d0, d1, d2, d3, d4, d5, d6, d7, d8, d9, d10, d11, d12, hP, hp⟩ := hR
  have kp := hP.1
  have h1 := h.1
  have h2 := h.2.1
  have h4 := h.2.2.2.1
  have q0 := h.2.2.2.2.2.2.1.1
  have q5 := q0 5 (by decide)
  have n5 := hn.2.1
  unfold pRw
  by_cases c8 : 8 ≤ F 0 5
  · obtain ⟨I1, e1, e2, e3⟩ := kk_58 (lx := lx) (z := z) (E := E) (n := n) (e := 5) hR' h hn (by decide) (by decide)
    refine ⟨I1, J, ?_, by rw [if_pos c8]; exact e2, FRs_c e3, FJ_r⟩
    rw [f_39]
    simp (disch := first | assumption | omega) [k_St, n_St, i_St, j_St, r_St, wI_St, wJ_St, k_S0, n_S0, i_S0, j_S0, r_S0, wI_S0, wJ_S0, cI_s, cJ_s, cV_s, nR_s, nQ_s, nQ_n, lt_s_, gd_T, gd_t, Option.map_some, lits, neg_mI, nI_add, pk_mul, nI_clamp, nI_eq, nI_leI, nI_ltI, nm_eq, mn_eq, nm_lt, mn_lt, nm_le, mn_le, m_eq, bI_0, bI_1, d0, d12, kp, q5, if_neg, e1]
    exact b_39a hR' e2 _
  · have r9 : Ca lx 39 [.ref (z + 1)] (St z E n K N R I J) = Am lx 39 9 [some (.ref (z + 1))] [] (0, 0) (St z E n K N R I J) := by
      rw [f_39]
      simp (disch := first | assumption | omega) [k_St, n_St, i_St, j_St, r_St, wI_St, wJ_St, k_S0, n_S0, i_S0, j_S0, r_S0, wI_S0, wJ_S0, cI_s, cJ_s, cV_s, nR_s, nQ_s, nQ_n, lt_s_, gd_T, gd_t, Option.map_some, lits, neg_mI, nI_add, pk_mul, nI_clamp, nI_eq, nI_leI, nI_ltI, nm_eq, mn_eq, nm_lt, mn_lt, nm_le, mn_le, m_eq, bI_0, bI_1, d0, d12, kp, q5, if_pos]
    by_cases c9 : F 9 0 = 0
    · obtain ⟨I1, e1, e2, e3⟩ := kk_58 (lx := lx) (z := z) (E := E) (n := n) (e := 6) hR' h hn (by decide) (by decide)
      refine ⟨I1, J, ?_, by rw [if_neg c8, if_pos c9]; exact e2, FRs_c e3, FJ_r⟩
      have h2' : I 1 4 = nI 0 := by rw [h2, decide_eq_false (by omega)]; rfl
      rw [r9, e_39_9]
      simp (disch := first | assumption | omega) [k_St, n_St, i_St, j_St, r_St, wI_St, wJ_St, k_S0, n_S0, i_S0, j_S0, r_S0, wI_S0, wJ_S0, cI_s, cJ_s, cV_s, nR_s, nQ_s, nQ_n, lt_s_, gd_T, gd_t, Option.map_some, lits, neg_mI, nI_add, pk_mul, nI_clamp, nI_eq, nI_leI, nI_ltI, nm_eq, mn_eq, nm_lt, mn_lt, nm_le, mn_le, m_eq, bI_0, bI_1, d0, h2', e1]
      exact b_39b hR' e2 _
    · have h2' : I 1 4 = nI 1 := by rw [h2, decide_eq_true (by omega)]; rfl
      have r16 : Ca lx 39 [.ref (z + 1)] (St z E n K N R I J) = Am lx 39 16 [some (.ref (z + 1))] [] (0, 0) (St z E n K N R I J) := by
        rw [r9, e_39_9]
        simp (disch := first | assumption | omega) [k_St, n_St, i_St, j_St, r_St, wI_St, wJ_St, k_S0, n_S0, i_S0, j_S0, r_S0, wI_S0, wJ_S0, cI_s, cJ_s, cV_s, nR_s, nQ_s, nQ_n, lt_s_, gd_T, gd_t, Option.map_some, lits, neg_mI, nI_add, pk_mul, nI_clamp, nI_eq, nI_leI, nI_ltI, nm_eq, mn_eq, nm_lt, mn_lt, nm_le, mn_le, m_eq, bI_0, bI_1, d0, h2']
      cases r with
      | true =>
        obtain ⟨I1, e1, e2, e3⟩ := kk_58 (lx := lx) (z := z) (E := E) (n := n) (e := 8) hR' h hn (by decide) (by decide)
        refine ⟨I1, J, ?_, by rw [if_neg c8, if_neg c9, if_pos rfl]; exact e2, FRs_c e3, FJ_r⟩
        have h4' : I 1 6 = nI 1 := h4
        rw [r16, e_39_16]
        simp (disch := first | assumption | omega) [k_St, n_St, i_St, j_St, r_St, wI_St, wJ_St, k_S0, n_S0, i_S0, j_S0, r_S0, wI_S0, wJ_S0, cI_s, cJ_s, cV_s, nR_s, nQ_s, nQ_n, lt_s_, gd_T, gd_t, Option.map_some, lits, neg_mI, nI_add, pk_mul, nI_clamp, nI_eq, nI_leI, nI_ltI, nm_eq, mn_eq, nm_lt, mn_lt, nm_le, mn_le, m_eq, bI_0, bI_1, d0, h4', e1]
        exact b_39c hR' e2 _
      | false =>
        have h4' : I 1 6 = nI 0 := h4
        have r23 : Ca lx 39 [.ref (z + 1)] (St z E n K N R I J) = Am lx 39 23 [some (.ref (z + 1))] [] (0, 0) (St z E n K N R I J) := by
          rw [r16, e_39_16]
          simp (disch := first | assumption | omega) [k_St, n_St, i_St, j_St, r_St, wI_St, wJ_St, k_S0, n_S0, i_S0, j_S0, r_S0, wI_S0, wJ_S0, cI_s, cJ_s, cV_s, nR_s, nQ_s, nQ_n, lt_s_, gd_T, gd_t, Option.map_some, lits, neg_mI, nI_add, pk_mul, nI_clamp, nI_eq, nI_leI, nI_ltI, nm_eq, mn_eq, nm_lt, mn_lt, nm_le, mn_le, m_eq, bI_0, bI_1, d0, h4']
        obtain ⟨I1, a1, a2, a3⟩ := kk_80 (lx := lx) (z := z) (E := E) (n := n) hR' hB h
        have a2' := a2
        obtain ⟨g1, g2, g3, g4, g5, ⟨t2, t3, t4, t5, ts⟩, ⟨u0, u1⟩, g8, g9⟩ := a2'
        have lk := tK_le T m (adv T m s)
        rw [if_neg c8, if_neg c9, if_neg (by decide)]
        by_cases ck : tK T m (adv T m s) = 1
        · rw [if_pos ck]
          have tc := tK_c ck (Or.inl rfl)
          have e47 : Ca lx 47 [.ref (z + 1)] (St z E n K N R I J) = some (none, St z E n K N R I1 J) := by
            rw [f_47]
            simp (disch := first | assumption | omega) [k_St, n_St, i_St, j_St, r_St, wI_St, wJ_St, k_S0, n_S0, i_S0, j_S0, r_S0, wI_S0, wJ_S0, cI_s, cJ_s, cV_s, nR_s, nQ_s, nQ_n, lt_s_, gd_T, gd_t, Option.map_some, lits, neg_mI, nI_add, pk_mul, nI_clamp, nI_eq, nI_leI, nI_ltI, nm_eq, mn_eq, nm_lt, mn_lt, nm_le, mn_le, m_eq, bI_0, bI_1, d0, d1, d8, h1, a1, t5, ck]
          have tl := tL_le (T := T) (m := m) (s := adv T m s) ts
          have l8 := tc.2.2.2.1 rfl
          obtain ⟨y, y1, y2, y3⟩ := c_40 (lx := lx) (z := z) (E := E) (n := n) (J := J) hR' (CB_f hB a3) t3 t4 (u0 4 (by decide)) (u0 5 (by decide)) hn (by omega) l8 tl
          by_cases co : rwO T F (adv T m s) (tLn T m (adv T m s)) = true
          · rw [if_pos co]
            have y2' := y2 co
            subst y2'
            rw [co] at y3
            have cc : 2 ≤ tLn T m (adv T m s) ∧ (F 0 5 = 0 ∨ tLn T m (adv T m s) = F 0 4) := by
              unfold rwO at co
              simp only [Bool.and_eq_true, Bool.or_eq_true, decide_eq_true_eq] at co
              exact co.1
            have ok2 := COk_r cc.1 l8 (by omega) cc.2 a2 hp
            have f3 : FRc p I (u2 (u2 (rwI I1 p T (adv T m s) (F 0 5) (tLn T m (adv T m s))) p 4 (nI (tLn T m (adv T m s)))) p 5 (nI (F 0 5 + 1))) := fun a b1 b2 b3 => by
              rw [u2_a _ _ _ _ _ (by omega), u2_a _ _ _ _ _ (by omega), rwI_a (by omega)]; exact a3 a b1 b2
            obtain ⟨I4, k1, k2, k3⟩ := kk_80 (lx := lx) (z := z) (E := E) (n := n) hR' (CB_g hB f3 hp) ok2
            refine ⟨I4, rwJ J p T (adv T m s) (F 0 5) (tLn T m (adv T m s)), ?_, k2, FRc_t f3 (FRs_c k3), fun a b1 b2 b3 => rwJ_a b3 _⟩
            have z1 : rwI I1 p T (adv T m s) (F 0 5) (tLn T m (adv T m s)) 1 = I1 1 := rwI_a (by omega) _
            have z2 : rwI I1 p T (adv T m s) (F 0 5) (tLn T m (adv T m s)) 2 = I1 2 := rwI_a (by omega) _
            have zp : rwI I1 p T (adv T m s) (F 0 5) (tLn T m (adv T m s)) p = I1 p := rwI_a (by omega) _
            have u5 := u0 5 (by decide)
            rw [r23, e_39_23]
            simp (disch := first | assumption | omega) [k_St, n_St, i_St, j_St, r_St, wI_St, wJ_St, k_S0, n_S0, i_S0, j_S0, r_S0, wI_S0, wJ_S0, cI_s, cJ_s, cV_s, nR_s, nQ_s, nQ_n, lt_s_, gd_T, gd_t, Option.map_some, lits, neg_mI, nI_add, pk_mul, nI_clamp, nI_eq, nI_leI, nI_ltI, nm_eq, mn_eq, nm_lt, mn_lt, nm_le, mn_le, m_eq, bI_0, bI_1, d0, e47, g1, y3]
            rw [e_39_35]
            simp (disch := first | assumption | omega) [k_St, n_St, i_St, j_St, r_St, wI_St, wJ_St, k_S0, n_S0, i_S0, j_S0, r_S0, wI_S0, wJ_S0, cI_s, cJ_s, cV_s, nR_s, nQ_s, nQ_n, lt_s_, gd_T, gd_t, Option.map_some, lits, neg_mI, nI_add, pk_mul, nI_clamp, nI_eq, nI_leI, nI_ltI, nm_eq, mn_eq, nm_lt, mn_lt, nm_le, mn_le, m_eq, bI_0, bI_1, d0, d1, d8, d12, kp, z1, z2, zp, g1, t4, u2_s, u2_a, u2_k, u5, k1]
          · rw [if_neg co]
            have co' : rwO T F (adv T m s) (tLn T m (adv T m s)) = false := by simpa using co
            rw [co'] at y3
            have z1 : rwI I1 p T (adv T m s) (F 0 5) y 1 = I1 1 := rwI_a (by omega) _
            have z2 : rwI I1 p T (adv T m s) (F 0 5) y 2 = I1 2 := rwI_a (by omega) _
            have zp : rwI I1 p T (adv T m s) (F 0 5) y p = I1 p := rwI_a (by omega) _
            obtain ⟨I2, k1, k2, k3⟩ := kk_58h (lx := lx) (z := z) (E := E) (n := n) (e := 7) (F := F) (I := rwI I1 p T (adv T m s) (F 0 5) y) (J := rwJ J p T (adv T m s) (F 0 5) y) (T := T) (m := m) (s := adv T m s) hR' (by rw [z1]; exact g1) (by rw [z2]; exact g5) ⟨by rw [z2]; exact t2, by rw [z2]; exact t3, by rw [z2]; exact t4, by rw [z2]; exact t5, ts⟩ (by rw [zp]; exact u0) hn (by decide) (by decide)
            have f3 : FRc p I I2 := fun a b1 b2 b3 => by
              rw [k3 a b1 b2, rwI_a (by omega)]; exact a3 a b1 b2
            refine ⟨I2, rwJ J p T (adv T m s) (F 0 5) y, ?_, k2, f3, fun a b1 b2 b3 => rwJ_a b3 _⟩
            rw [r23, e_39_23]
            simp (disch := first | assumption | omega) [k_St, n_St, i_St, j_St, r_St, wI_St, wJ_St, k_S0, n_S0, i_S0, j_S0, r_S0, wI_S0, wJ_S0, cI_s, cJ_s, cV_s, nR_s, nQ_s, nQ_n, lt_s_, gd_T, gd_t, Option.map_some, lits, neg_mI, nI_add, pk_mul, nI_clamp, nI_eq, nI_leI, nI_ltI, nm_eq, mn_eq, nm_lt, mn_lt, nm_le, mn_le, m_eq, bI_0, bI_1, d0, e47, g1, y3, k1]
            exact b_39e hR' k2 _
        · rw [if_neg ck]
          obtain ⟨I2, k1, k2, k3⟩ := kk_58 (lx := lx) (z := z) (E := E) (n := n) (e := 1) hR' a2 hn (by decide) (by decide)
          have e47 : Ca lx 47 [.ref (z + 1)] (St z E n K N R I J) = some (none, St z E n K N R I2 J) := by
            rw [f_47]
            simp (disch := first | assumption | omega) [k_St, n_St, i_St, j_St, r_St, wI_St, wJ_St, k_S0, n_S0, i_S0, j_S0, r_S0, wI_S0, wJ_S0, cI_s, cJ_s, cV_s, nR_s, nQ_s, nQ_n, lt_s_, gd_T, gd_t, Option.map_some, lits, neg_mI, nI_add, pk_mul, nI_clamp, nI_eq, nI_leI, nI_ltI, nm_eq, mn_eq, nm_lt, mn_lt, nm_le, mn_le, m_eq, bI_0, bI_1, d0, d1, d8, h1, a1, t5, ck, k1]
          have g3 := k2.2.2.1
          have g0 := k2.1
          have g9 := k2.2.1
          refine ⟨I2, J, ?_, k2, FRs_c (FRs_t a3 k3), FJ_r⟩
          rw [r23, e_39_23]
          simp (disch := first | assumption | omega) [k_St, n_St, i_St, j_St, r_St, wI_St, wJ_St, k_S0, n_S0, i_S0, j_S0, r_S0, wI_S0, wJ_S0, cI_s, cJ_s, cV_s, nR_s, nQ_s, nQ_n, lt_s_, gd_T, gd_t, Option.map_some, lits, neg_mI, nI_add, pk_mul, nI_clamp, nI_eq, nI_leI, nI_ltI, nm_eq, mn_eq, nm_lt, mn_lt, nm_le, mn_le, m_eq, bI_0, bI_1, d0, e47, g3, if_neg]
          exact b_39e hR' k2 _
/-! the wall -/
theorem COk_5 (h : COk I J p T m F w r G s) (hp : 114 ≤ p) : COk (u2 I 1 5 (nI 1)) J p T m F true r G s := by
  obtain ⟨h1, h2, h3, h4, h5, ⟨t2, t3, t4, t5, ts⟩, h7, h8, h9⟩ := h
  refine ⟨?_, ?_, ?_, ?_, ?_, ⟨?_, ?_, ?_, ?_, ts⟩, PI_c h7 (fun a a1 a2 => u2_a _ _ _ _ _ (by omega)) rfl, h8, h9⟩ <;> simp (disch := first | assumption | omega) [u2_s, u2_a, u2_k] <;> first | assumption | rfl
theorem lb_er (c : ¬ 2 ≤ F 0 5) (x : Exc Nat) : ∃ v, x.bind (pLB T m F) = .error v := by
  cases x with
  | error v => exact ⟨v, rfl⟩
  | ok s => exact ⟨(6, s), by rw [eb_o]; unfold pLB; rw [if_pos (by omega)]⟩
theorem c_41 (hR : Rd K N R p) (hB : CB I T m) (hn : FCn F) (h45 : 0 < F 0 5 → 2 ≤ F 0 4) (h : COk I J p T m F w r G s) : ∃ I', Ca lx 41 [.ref (z + 1)] (St z E n K N R I J) = some (none, St z E n K N R I' J) ∧ CLn I' J p T m ((pWl T m F w s).bind fun a => .ok (a.2, a.1, true, true, G)) ∧ FRc p I I' := by
  have hR' := hR
  obtain ⟨d0, d1, d2, d3, d4, d5, d6, d7, d8, d9, d10, d11, d12, hP, hp⟩ := hR
  have kp := hP.1
  have h3 := h.2.2.1
  obtain ⟨I0, e0, h0, f0⟩ : ∃ I0, Ca lx 41 [.ref (z + 1)] (St z E n K N R I J) = Am lx 41 7 [some (.ref (z + 1))] [] (0, 0) (St z E n K N R I0 J) ∧ CS I0 J p T m F w r G (if w then .error (3, s) else .ok s) ∧ FRs I I0 := by
    cases w with
    | true =>
      obtain ⟨I1, e1, e2, e3⟩ := kk_58 (lx := lx) (z := z) (E := E) (n := n) (e := 3) hR' h hn (by decide) (by decide)
      have h3' : I 1 5 = nI 1 := h3
      refine ⟨I1, ?_, e2, e3⟩
      rw [f_41]
      simp (disch := first | assumption | omega) [k_St, n_St, i_St, j_St, r_St, wI_St, wJ_St, k_S0, n_S0, i_S0, j_S0, r_S0, wI_S0, wJ_S0, cI_s, cJ_s, cV_s, nR_s, nQ_s, nQ_n, lt_s_, gd_T, gd_t, Option.map_some, lits, neg_mI, nI_add, pk_mul, nI_clamp, nI_eq, nI_leI, nI_ltI, nm_eq, mn_eq, nm_lt, mn_lt, nm_le, mn_le, m_eq, bI_0, bI_1, d0, h3', e1]
    | false =>
      have h3' : I 1 5 = nI 0 := h3
      refine ⟨I, ?_, h, FRs_r⟩
      rw [f_41]
      simp (disch := first | assumption | omega) [k_St, n_St, i_St, j_St, r_St, wI_St, wJ_St, k_S0, n_S0, i_S0, j_S0, r_S0, wI_S0, wJ_S0, cI_s, cJ_s, cV_s, nR_s, nQ_s, nQ_n, lt_s_, gd_T, gd_t, Option.map_some, lits, neg_mI, nI_add, pk_mul, nI_clamp, nI_eq, nI_leI, nI_ltI, nm_eq, mn_eq, nm_lt, mn_lt, nm_le, mn_le, m_eq, bI_0, bI_1, d0, h3']
  obtain ⟨I1, e1, h1, f1⟩ := c_46 (lx := lx) (z := z) (E := E) (n := n) hR' (CB_f hB f0) hn h0
  have f1' := FRs_t f0 f1
  obtain ⟨v, I2, e2, h2, f2, v2⟩ := c_50 (lx := lx) (z := z) (E := E) (n := n) hR' (CB_f hB f1') hn h1 (fun t ht => by
    by_cases c : 2 ≤ F 0 5
    · exact ⟨h45 (by omega), c⟩
    · obtain ⟨u, hu⟩ := lb_er (T := T) (m := m) c (if w then .error (3, s) else .ok s)
      rw [hu] at ht; simp at ht)
  have f2' := FRs_t f1' f2
  refine ⟨u2 (u2 I2 p 6 v) 1 5 (nI 1), ?_, ?_, fun a a1 a2 a3 => by rw [u2_a _ _ _ _ _ a1, u2_a _ _ _ _ _ (by omega)]; exact f2' a a1 a2⟩
  · rw [e0, e_41_7]
    simp (disch := first | assumption | omega) [k_St, n_St, i_St, j_St, r_St, wI_St, wJ_St, k_S0, n_S0, i_S0, j_S0, r_S0, wI_S0, wJ_S0, cI_s, cJ_s, cV_s, nR_s, nQ_s, nQ_n, lt_s_, gd_T, gd_t, Option.map_some, lits, neg_mI, nI_add, pk_mul, nI_clamp, nI_eq, nI_leI, nI_ltI, nm_eq, mn_eq, nm_lt, mn_lt, nm_le, mn_le, m_eq, bI_0, bI_1, d0, d12, kp, e1, e2]
  · have er : ∀ u, (((if w then .error (3, s) else .ok s : Exc Nat).bind (pLB T m F)).bind (pCl T m F)) = .error u → pWl T m F w s = .error u → CLn (u2 (u2 I2 p 6 v) 1 5 (nI 1)) J p T m ((pWl T m F w s).bind fun a => .ok (a.2, a.1, true, true, G)) := fun u e e' => by
      rw [e] at h2
      rw [e']
      exact CBd_5 (CBd_4 h2 hp (Or.inr rfl) _) hp (by decide) _
    cases w with
    | true =>
      rw [if_pos rfl] at h2
      exact er _ rfl (by unfold pWl; rfl)
    | false =>
      rw [if_neg (by decide), eb_o] at h2 v2
      cases c1 : pLB T m F s with
      | error u => exact er u (by rw [if_neg (by decide), eb_o, c1]; rfl) (by unfold pWl; rw [if_neg (by decide), c1]; rfl)
      | ok s1 =>
        cases c2 : pCl T m F s1 with
        | error u => exact er u (by rw [if_neg (by decide), eb_o, c1, eb_o, c2]) (by unfold pWl; rw [if_neg (by decide), c1, eb_o, c2]; rfl)
        | ok a =>
          rw [c1, eb_o, c2] at h2 v2
          have := v2 a rfl
          subst this
          have ep : pWl T m F false s = .ok (u2 F 0 6 a.1, a.2) := by
            unfold pWl; rw [if_neg (by decide), c1, eb_o, c2, eb_o]
          rw [ep, eb_o]
          exact COk_5 (COk_w h2 hp (Or.inr rfl)) hp
end RD9
