section RDA
variable {z : Nat} {E : aEt} {n : Nat} {K N : Nat → Nat} {R : Nat → Nat → Option Nat} {I : Nat → Nat → Int32} {J : Nat → Nat → Int64} {lx : List Value → aH → aO} {p s q m e : Nat} {T : Nat → Nat} {F G : Nat → Nat → Nat} {w r : Bool} {x : Exc Nat}
theorem nmG_a {a n b : Nat} (ha : a < 2) (hb : b < 2) (d : Nat) : nmG F G a s n b d = if b = a ∧ d = n then s else G b d := by
  unfold nmG
  rw [u2_a _ _ _ _ _ (by omega), u2_a _ _ _ _ _ (by omega), u2_a _ _ _ _ _ (by omega)]
  unfold u2
  by_cases h1 : b = a
  · by_cases h2 : d = n
    · simp [h1, h2]
    · simp [h1, h2]
  · simp [h1]
theorem COk_d {c t : Nat} (h7 : F 0 7 < 4) (h : COk I J p T m F w r G s) (hp : 114 ≤ p) : COk (u2 (u2 I (p + 2) (F 0 7) (nI c)) p 7 (nI (F 0 7 + 1))) (u2 J 13 (F 0 7) (lN (w8 T m t))) p T m (u2 (u2 F 2 (F 0 7) c) 0 7 (F 0 7 + 1)) w r (nmG F G 0 t (F 0 7)) s := by
  obtain ⟨h1, h2, h3, h4, h5, ⟨t2, t3, t4, t5, ts⟩, ⟨q0, q1, q2, q3, q4, q5, q6, q7⟩, h8, h9⟩ := h
  have i1 : ∀ a, a ≠ p → a ≠ p + 2 → u2 (u2 I (p + 2) (F 0 7) (nI c)) p 7 (nI (F 0 7 + 1)) a = I a := fun a a1 a2 => by
    rw [u2_a _ _ _ _ _ a1, u2_a _ _ _ _ _ a2]
  have a1 := i1 1 (by omega) (by omega)
  have a2 := i1 2 (by omega) (by omega)
  have f0 : ∀ j, j ≠ 7 → u2 (u2 F 2 (F 0 7) c) 0 7 (F 0 7 + 1) 0 j = F 0 j := fun j j1 => by
    rw [u2_k _ _ _ _ _ j1, u2_a _ _ _ _ _ (by decide)]
  have f7 : u2 (u2 F 2 (F 0 7) c) 0 7 (F 0 7 + 1) 0 7 = F 0 7 + 1 := u2_s _ _ _ _
  have fb : ∀ b, b ≠ 0 → b ≠ 2 → u2 (u2 F 2 (F 0 7) c) 0 7 (F 0 7 + 1) b = F b := fun b b1 b2 => by
    rw [u2_a _ _ _ _ _ b1, u2_a _ _ _ _ _ b2]
  have fi : ∀ c', inF (u2 (u2 F 2 (F 0 7) c) 0 7 (F 0 7 + 1)) c' = inF F c' := fun c' => by
    unfold inF; rw [f0 4 (by decide), f0 5 (by decide)]
  have f9 := fb 9 (by decide) (by decide)
  have fs : ∀ c', isS (u2 (u2 F 2 (F 0 7) c) 0 7 (F 0 7 + 1)) c' = isS F c' := fun c' => by
    unfold isS; rw [fi, fb 1 (by decide) (by decide)]
  refine ⟨by rw [a1]; exact h1, by rw [a1, f9]; exact h2, by rw [a1]; exact h3, by rw [a1]; exact h4, by rw [a2]; exact h5, ⟨by rw [a2]; exact t2, by rw [a2]; exact t3, by rw [a2]; exact t4, by rw [a2]; exact t5, ts⟩, ⟨?_, ?_, ?_, ?_, ?_, ?_, ?_, ?_⟩, ?_, ?_⟩
  · intro j hj
    by_cases j7 : j = 7
    · rw [j7, u2_s, f7]
    · rw [u2_k _ _ _ _ _ j7, u2_a _ _ _ _ _ (by omega), f0 j j7]; exact q0 j hj
  · intro c' hc
    rw [i1 _ (by omega) (by omega), fi, fb 1 (by decide) (by decide)]; exact q1 c' hc
  · intro d hd
    rw [f7] at hd
    rw [u2_a _ p 7 (p + 2) _ (by omega), u2_a _ 0 7 2 _ (by decide)]
    by_cases e : d = F 0 7
    · rw [e, u2_s, u2_s]
    · rw [u2_k _ _ _ _ _ e, u2_k _ _ _ _ _ e]; exact q2 d (by omega)
  · rw [f0 8 (by decide), fb 3 (by decide) (by decide), i1 _ (by omega) (by omega)]; exact q3
  · rw [f0 8 (by decide), fb 4 (by decide) (by decide), i1 _ (by omega) (by omega)]; exact q4
  · rw [f0 8 (by decide), fb 4 (by decide) (by decide), fb 5 (by decide) (by decide), i1 _ (by omega) (by omega)]; exact q5
  · rw [f0 9 (by decide), fb 6 (by decide) (by decide), fb 7 (by decide) (by decide), fb 8 (by decide) (by decide), i1 (p + 6) (by omega) (by omega), i1 (p + 7) (by omega) (by omega), i1 (p + 8) (by omega) (by omega)]; exact q6
  · intro c' hc
    rw [u2_a _ _ _ _ _ (by omega), fs]; exact q7 c' hc
  · intro d hd
    rw [f7] at hd
    rw [nmG_a (by decide) (by decide)]
    by_cases e : d = F 0 7
    · rw [e, u2_s, if_pos (by simp)]
    · rw [u2_k _ _ _ _ _ e, if_neg (by simp [e])]; exact h8 d (by omega)
  · intro g hg
    rw [f0 8 (by decide)] at hg
    rw [u2_a _ _ _ _ _ (by decide), nmG_a (by decide) (by decide), if_neg (by simp)]
    exact h9 g hg
theorem c_42 (hR : Rd K N R p) (hB : CB I T m) (hE : EOk E) (hn : FCn F) (hN : NW T m F G) (h45 : 0 < F 0 5 → 2 ≤ F 0 4) (h : COk I J p T m F w r G s) : ∃ I' J', Ca lx 42 [.ref (z + 1)] (St z E n K N R I J) = some (none, St z E n K N R I' J') ∧ CLn I' J' p T m ((pDr T m F G s).bind fun a => .ok (a.2, a.1.1, w, true, a.1.2)) ∧ FRc p I I' ∧ FJ p J J' := by
  have hR' := hR
  obtain ⟨d0, d1, d2, d3, d4, d5, d6, d7, d8, d9, d10, d11, d12, hP, hp⟩ := hR
  have hP' := hP
  obtain ⟨p0, pr1, pr2, pr3, pr4, pr5, pr6, pr7, pr8, pk1, pk2, pk3, pk4, pk5, pk6, pk7, pk8, pn1, pn2, pn3, pn4, pn5, pn6, pn7, pn8⟩ := hP
  have q7 := h.2.2.2.2.2.2.1.1 7 (by decide)
  have n7 := hn.2.2.1
  obtain ⟨I0, e0, h0, f0⟩ : ∃ I0, Ca lx 42 [.ref (z + 1)] (St z E n K N R I J) = Am lx 42 9 [some (.ref (z + 1)), none, none, none] [] (0, 0) (St z E n K N R I0 J) ∧ CS I0 J p T m F w r G (if 4 ≤ F 0 7 then .error (5, s) else .ok s) ∧ FRs I I0 := by
    by_cases c : 4 ≤ F 0 7
    · obtain ⟨I1, e1, e2, e3⟩ := kk_58 (lx := lx) (z := z) (E := E) (n := n) (e := 5) hR' h hn (by decide) (by decide)
      refine ⟨I1, ?_, by rw [if_pos c]; exact e2, e3⟩
      rw [f_42]
      simp (disch := first | assumption | omega) [k_St, n_St, i_St, j_St, r_St, wI_St, wJ_St, k_S0, n_S0, i_S0, j_S0, r_S0, wI_S0, wJ_S0, cI_s, cJ_s, cV_s, nR_s, nQ_s, nQ_n, lt_s_, gd_T, gd_t, Option.map_some, lits, neg_mI, nI_add, pk_mul, nI_clamp, nI_eq, nI_leI, nI_ltI, nm_eq, mn_eq, nm_lt, mn_lt, nm_le, mn_le, m_eq, bI_0, bI_1, d0, d12, p0, q7, if_neg, e1]
    · refine ⟨I, ?_, by rw [if_neg c]; exact h, FRs_r⟩
      rw [f_42]
      simp (disch := first | assumption | omega) [k_St, n_St, i_St, j_St, r_St, wI_St, wJ_St, k_S0, n_S0, i_S0, j_S0, r_S0, wI_S0, wJ_S0, cI_s, cJ_s, cV_s, nR_s, nQ_s, nQ_n, lt_s_, gd_T, gd_t, Option.map_some, lits, neg_mI, nI_add, pk_mul, nI_clamp, nI_eq, nI_leI, nI_ltI, nm_eq, mn_eq, nm_lt, mn_lt, nm_le, mn_le, m_eq, bI_0, bI_1, d0, d12, p0, q7, if_pos]
  obtain ⟨I1, e1, h1, f1⟩ := c_46 (lx := lx) (z := z) (E := E) (n := n) hR' (CB_f hB f0) hn h0
  have f1' := FRs_t f0 f1
  obtain ⟨y, I2, e2, h2, f2, y2⟩ := c_52 (lx := lx) (z := z) (E := E) (n := n) hR' (CB_f hB f1') hE hn hN h1
  have f2' := FRs_t f1' f2
  obtain ⟨v, I3, e3, h3, f3, v3⟩ := c_50 (lx := lx) (z := z) (E := E) (n := n) hR' (CB_f hB f2') hn h2 (fun t ht => by
    by_cases c : 2 ≤ F 0 5
    · exact ⟨h45 (by omega), c⟩
    · obtain ⟨u, hu⟩ := lb_er (T := T) (m := m) c (if 4 ≤ F 0 7 then .error (5, s) else .ok s)
      rw [hu] at ht; simp [eb_e] at ht)
  have f3' := FRs_t f2' f3
  have er : ∀ u, CBd I3 p T m u.1 u.2 → pDr T m F G s = .error u → ∃ I' J', Ca lx 42 [.ref (z + 1)] (St z E n K N R I J) = some (none, St z E n K N R I' J') ∧ CLn I' J' p T m ((pDr T m F G s).bind fun a => .ok (a.2, a.1.1, w, true, a.1.2)) ∧ FRc p I I' ∧ FJ p J J' := fun u hu e' => by
    refine ⟨I3, J, ?_, by rw [e']; exact hu, FRs_c f3', FJ_r⟩
    obtain ⟨u1, u2, u3, _⟩ := hu
    rw [e0, e_42_9]
    simp (disch := first | assumption | omega) [k_St, n_St, i_St, j_St, r_St, wI_St, wJ_St, k_S0, n_S0, i_S0, j_S0, r_S0, wI_S0, wJ_S0, cI_s, cJ_s, cV_s, nR_s, nQ_s, nQ_n, lt_s_, gd_T, gd_t, Option.map_some, lits, neg_mI, nI_add, pk_mul, nI_clamp, nI_eq, nI_leI, nI_ltI, nm_eq, mn_eq, nm_lt, mn_lt, nm_le, mn_le, m_eq, bI_0, bI_1, d0, d12, p0, e1, e2, e3, u3, if_neg]
  by_cases c0 : 4 ≤ F 0 7
  · simp only [if_pos c0, eb_e] at h3
    exact er _ h3 (by unfold pDr; rw [if_pos c0])
  · simp only [if_neg c0, eb_o] at h3 y2 v3
    cases c1 : pLB T m F s with
    | error u =>
      simp only [c1, eb_e] at h3
      exact er u h3 (by unfold pDr; rw [if_neg c0, c1, eb_e])
    | ok s1 =>
      simp only [c1, eb_o] at h3 y2 v3
      cases c2 : pNm T m F G s1 with
      | error u =>
        simp only [c2, eb_e] at h3
        exact er u h3 (by unfold pDr; rw [if_neg c0, c1, eb_o, c2, eb_e])
      | ok s2 =>
        simp only [c2, eb_o] at h3 v3
        have hy := y2 s1 s2 rfl c2
        subst hy
        cases c3 : pCl T m F s2 with
        | error u =>
          rw [c3] at h3
          exact er u h3 (by unfold pDr; rw [if_neg c0, c1, eb_o, c2, eb_o, c3, eb_e])
        | ok a =>
          rw [c3] at h3 v3
          have hv := v3 a rfl
          subst hv
          have h3' : COk I3 J p T m F w true G a.2 := h3
          have k1 := h3'.1
          have k7 := h3'.2.2.2.2.2.2.1.1 7 (by decide)
          have ep : pDr T m F G s = .ok ((u2 (u2 F 2 (F 0 7) a.1) 0 7 (F 0 7 + 1), nmG F G 0 s1 (F 0 7)), a.2) := by
            unfold pDr; rw [if_neg c0, c1, eb_o, c2, eb_o, c3, eb_o]
          refine ⟨_, _, ?_, by rw [ep, eb_o]; exact COk_d (c := a.1) (t := s1) (by omega) h3' hp, fun b b1 b2 b3 => by rw [u2_a _ _ _ _ _ (by omega), u2_a _ _ _ _ _ (by omega)]; exact f3' b b1 b2, fun b b1 b2 b3 => u2_a _ _ _ _ _ b1⟩
          rw [e0, e_42_9]
          simp (disch := first | assumption | omega) [k_St, n_St, i_St, j_St, r_St, wI_St, wJ_St, k_S0, n_S0, i_S0, j_S0, r_S0, wI_S0, wJ_S0, cI_s, cJ_s, cV_s, nR_s, nQ_s, nQ_n, lt_s_, gd_T, gd_t, Option.map_some, lits, neg_mI, nI_add, pk_mul, nI_clamp, nI_eq, nI_leI, nI_ltI, nm_eq, mn_eq, nm_lt, mn_lt, nm_le, mn_le, m_eq, bI_0, bI_1, d0, d12, d2, d4, d5, p0, e1, e2, e3, k1, k7, if_neg]
          rw [f_28]
          simp (disch := first | assumption | omega) [k_St, n_St, i_St, j_St, r_St, wI_St, wJ_St, k_S0, n_S0, i_S0, j_S0, r_S0, wI_S0, wJ_S0, cI_s, cJ_s, cV_s, nR_s, nQ_s, nQ_n, lt_s_, gd_T, gd_t, Option.map_some, lits, neg_mI, nI_add, pk_mul, nI_clamp, nI_eq, nI_leI, nI_ltI, nm_eq, mn_eq, nm_lt, mn_lt, nm_le, mn_le, m_eq, bI_0, bI_1, p0, pr2, pk2, pn2, k7, u2_s, u2_a, u2_k, if_neg]
/-! galleries -/
def wyI (I : Nat → Nat → Int32) (p : Nat) (T : Nat → Nat) (s c g : Nat) : Nat → (Nat → Nat → Int32)
  | 0 => u2 I (p + 5) (g * 9 + 0) (nI c)
  | x + 1 => u2 (wyI I p T s c g x) (p + 5) (g * 9 + (x + 1)) (nI (wy T s c (x + 1)))
theorem wyI_a {a c g : Nat} (ha : a ≠ p + 5) : ∀ x, wyI I p T s c g x a = I a
  | 0 => by rw [wyI, u2_a _ _ _ _ _ ha]
  | x + 1 => by rw [wyI, u2_a _ _ _ _ _ ha]; exact wyI_a ha x
theorem wyI_c {c g : Nat} (k : Nat) : ∀ x, wyI I p T s c g x (p + 5) k = if g * 9 ≤ k ∧ k ≤ g * 9 + x then nI (wy T s c (k - g * 9)) else I (p + 5) k
  | 0 => by
    rw [wyI]
    by_cases e : k = g * 9 + 0
    · rw [e, u2_s, if_pos (by omega), show g * 9 + 0 - g * 9 = 0 by omega]; rfl
    · rw [u2_k _ _ _ _ _ e, if_neg (by omega)]
  | x + 1 => by
    rw [wyI]
    by_cases e : k = g * 9 + (x + 1)
    · rw [e, u2_s, if_pos (by omega), show g * 9 + (x + 1) - g * 9 = x + 1 by omega]
    · rw [u2_k _ _ _ _ _ e, wyI_c k x]
      by_cases e2 : g * 9 ≤ k ∧ k ≤ g * 9 + x
      · rw [if_pos e2, if_pos (by omega)]
      · rw [if_neg e2, if_neg (by omega)]
theorem s_32 (hP : Pl K N R p) {g i : Nat} (hg : g < 4) (hi : i ≤ 8) (v : Int32) : Ca lx 32 [.ref (z + p), .int (nI g), .int (nI i), .int v] (St z E n K N R I J) = some (none, St z E n K N R (u2 I (p + 5) (g * 9 + i) v) J) := by
  rw [f_32]
  obtain ⟨p0, pr1, pr2, pr3, pr4, pr5, pr6, pr7, pr8, pk1, pk2, pk3, pk4, pk5, pk6, pk7, pk8, pn1, pn2, pn3, pn4, pn5, pn6, pn7, pn8⟩ := hP
  simp (disch := first | assumption | omega) [k_St, n_St, i_St, j_St, r_St, wI_St, wJ_St, k_S0, n_S0, i_S0, j_S0, r_S0, wI_S0, wJ_S0, cI_s, cJ_s, cV_s, nR_s, nQ_s, nQ_n, lt_s_, gd_T, gd_t, Option.map_some, lits, neg_mI, nI_add, pk_mul, nI_clamp, nI_eq, nI_leI, nI_ltI, nm_eq, mn_eq, nm_lt, mn_lt, nm_le, mn_le, m_eq, bI_0, bI_1, p0, pr5, pk5, pn5, if_neg]
theorem s_57 {b : Nat} (hb : b < 256) (S : aH) : Ca lx 57 [.int (nI b)] S = some (some (.int (if wyl b = 0 then mI 1 else nI (wyl b))), S) := by
  rw [f_57]
  unfold wyl
  simp (disch := first | assumption | omega) [k_St, n_St, i_St, j_St, r_St, wI_St, wJ_St, k_S0, n_S0, i_S0, j_S0, r_S0, wI_S0, wJ_S0, cI_s, cJ_s, cV_s, nR_s, nQ_s, nQ_n, lt_s_, gd_T, gd_t, Option.map_some, lits, neg_mI, nI_add, pk_mul, nI_clamp, nI_eq, nI_leI, nI_ltI, nm_eq, mn_eq, nm_lt, mn_lt, nm_le, mn_le, m_eq, bI_0, bI_1]
  by_cases h1 : b = 101
  · simp [h1]
  · by_cases h2 : b = 110
    · simp [h2]
    · by_cases h3 : b = 115
      · simp [h3]
      · by_cases h4 : b = 119
        · simp [h4]
        · simp [h1, h2, h3, h4]
theorem wyl_b (b : Nat) : wyl b ≤ 4 := by unfold wyl; (repeat' split) <;> omega
theorem s_7w {b c : Nat} (hc : c < 64) (S : aH) : Ca lx 7 [.int (nI c), .int (if wyl b = 0 then mI 1 else nI (wyl b))] S = some (some (.int (oI (nxc c (wyl b)))), S) := by
  have := wyl_b b
  by_cases h : wyl b = 0
  · rw [if_pos h, h, f_7]
    have e : oI (nxc c 0) = mI 1 := by
      have : nxc c 0 = 64 := by simp [nxc]
      rw [this]; decide
    rw [e]
    simp (disch := first | assumption | omega) [k_St, n_St, i_St, j_St, r_St, wI_St, wJ_St, k_S0, n_S0, i_S0, j_S0, r_S0, wI_S0, wJ_S0, cI_s, cJ_s, cV_s, nR_s, nQ_s, nQ_n, lt_s_, gd_T, gd_t, Option.map_some, lits, neg_mI, nI_add, pk_mul, nI_clamp, nI_eq, nI_leI, nI_ltI, nm_eq, mn_eq, nm_lt, mn_lt, nm_le, mn_le, m_eq, bI_0, bI_1]
  · rw [if_neg h]; exact s_7 hc (by omega) S
theorem s_26q (hP : Pl K N R p) (q7 : ∀ c, c < 64 → hb (J p 10) c = isS F c) (x : Nat) : Ca lx 26 [.ref (z + p), .int (oI x)] (St z E n K N R I J) = some (some (.int (bI (isS F x))), (St z E n K N R I J)) := by
  rw [f_26]
  obtain ⟨p0, pr1, pr2, pr3, pr4, pr5, pr6, pr7, pr8, pk1, pk2, pk3, pk4, pk5, pk6, pk7, pk8, pn1, pn2, pn3, pn4, pn5, pn6, pn7, pn8⟩ := hP
  simp only [s_6o, cI_s]
  by_cases h : x < 64
  · simp only [oI_lt h, j_St, s_5 _ h, q7 x h, cI_s, k_St, p0, h]
    cases hs : isS F x <;> simp [lits, bI_0, bI_1, gd_T] <;> rfl
  · simp [h, lits, bI_0, isS_64, gd_T]; rfl
theorem c_44a {c l g : Nat} (hR : Rd K N R p) (hB : CB I T m) (h3 : I 2 3 = nI s) (h4 : I 2 4 = nI l) (q7 : ∀ c, c < 64 → hb (J p 10) c = isS F c) (hg : g < 4) (hc : c < 64) (hl : l ≤ 8) (hs : s + l ≤ m) (b : aB) : ∀ n' x, x + n' = l → (∀ i, i < x → isS F (wy T s c (i + 1)) = true) → ∃ y, y ≤ l ∧ (wyO T F s c l = true → y = l) ∧ Am lx 44 11 [some (.ref (z + 1)), some (.int (nI g)), none, some (.int (nI (wy T s c x))), some (.int (nI x))] [] b (St z E n K N R (wyI I p T s c g x) J) = some (some (.int (bI (wyO T F s c l))), St z E n K N R (wyI I p T s c g y) J)
  | 0, x, hx, ha => by
    have d0 := hR.1
    have d1 := hR.2.1
    have d8 := hR.2.2.2.2.2.2.2.2.1
    have hp := hR.2.2.2.2.2.2.2.2.2.2.2.2.2.2
    have e2 := wyI_a (I := I) (p := p) (T := T) (s := s) (c := c) (g := g) (a := 2) (by omega) x
    have hx' : x = l := by omega
    subst hx'
    refine ⟨x, Nat.le_refl _, fun _ => rfl, ?_⟩
    have : wyO T F s c x = true := by
      unfold wyO
      rw [anyB_f.mpr (fun i hi => by simp [ha i hi])]; rfl
    rw [this, e_44_11]
    simp (disch := first | assumption | omega) [k_St, n_St, i_St, j_St, r_St, wI_St, wJ_St, k_S0, n_S0, i_S0, j_S0, r_S0, wI_S0, wJ_S0, cI_s, cJ_s, cV_s, nR_s, nQ_s, nQ_n, lt_s_, gd_T, gd_t, Option.map_some, lits, neg_mI, nI_add, pk_mul, nI_clamp, nI_eq, nI_leI, nI_ltI, nm_eq, mn_eq, nm_lt, mn_lt, nm_le, mn_le, m_eq, bI_0, bI_1, d0, d1, d8, e2, h4, if_pos] <;> rfl
  | n' + 1, x, hx, ha => by
    have hR' := hR
    obtain ⟨d0, d1, d2, d3, d4, d5, d6, d7, d8, d9, d10, d11, d12, hP, hp⟩ := hR
    have kp := hP.1
    have hb := hB.1
    have e2 := wyI_a (I := I) (p := p) (T := T) (s := s) (c := c) (g := g) (a := 2) (by omega) x
    have hB' : CB (wyI I p T s c g x) T m := ⟨hB.1, fun k hk => by rw [wyI_a (by omega)]; exact hB.2 k hk⟩
    have e := c_82 (lx := lx) (z := z) (E := E) (n := n) (J := J) (i := x) hR' hB' (by rw [e2]; exact h3) (by omega)
    have hT := (hB.2 (s + x) (by omega)).1
    have e57 := s_57 (lx := lx) hT (St z E n K N R (wyI I p T s c g x) J)
    have hw : wy T s c x < 64 := by
      cases x with
      | zero => exact hc
      | succ i => exact isS_lt (ha i (by omega))
    have e7 := s_7w (lx := lx) (b := T (s + x)) hw (St z E n K N R (wyI I p T s c g x) J)
    have e26 := s_26q (lx := lx) (z := z) (E := E) (n := n) (I := wyI I p T s c g x) hP q7 (nxc (wy T s c x) (wyl (T (s + x))))
    have ew : nxc (wy T s c x) (wyl (T (s + x))) = wy T s c (x + 1) := rfl
    rw [ew] at e7 e26
    by_cases c4 : isS F (wy T s c (x + 1)) = true
    · obtain ⟨y, y1, y2, y3⟩ := c_44a (b := b) hR' hB h3 h4 q7 hg hc hl hs n' (x + 1) (by omega) (fun i hi => by
        by_cases ei : i = x
        · rw [ei]; exact c4
        · exact ha i (by omega))
      refine ⟨y, y1, y2, ?_⟩
      rw [c4] at e26
      rw [oI_lt (isS_lt c4)] at e7 e26
      have e32 := s_32 (lx := lx) (z := z) (E := E) (n := n) (I := wyI I p T s c g x) (J := J) (g := g) (i := x + 1) hP hg (by omega) (nI (wy T s c (x + 1)))
      rw [e_44_11]
      simp (disch := first | assumption | omega) [k_St, n_St, i_St, j_St, r_St, wI_St, wJ_St, k_S0, n_S0, i_S0, j_S0, r_S0, wI_S0, wJ_S0, cI_s, cJ_s, cV_s, nR_s, nQ_s, nQ_n, lt_s_, gd_T, gd_t, Option.map_some, lits, neg_mI, nI_add, pk_mul, nI_clamp, nI_eq, nI_leI, nI_ltI, nm_eq, mn_eq, nm_lt, mn_lt, nm_le, mn_le, m_eq, bI_0, bI_1, d0, d1, d8, d12, kp, e2, h4, if_neg, e, e57, e7, e26, e32]
      exact y3
    · have c4' : isS F (wy T s c (x + 1)) = false := by simpa using c4
      have ht : wyO T F s c l = false := by
        unfold wyO
        rw [anyB_m (show x < l by omega) (by simp [c4'])]; rfl
      refine ⟨x, by omega, fun h => by rw [ht] at h; exact absurd h (by decide), ?_⟩
      rw [c4'] at e26
      rw [ht, e_44_11]
      simp (disch := first | assumption | omega) [k_St, n_St, i_St, j_St, r_St, wI_St, wJ_St, k_S0, n_S0, i_S0, j_S0, r_S0, wI_S0, wJ_S0, cI_s, cJ_s, cV_s, nR_s, nQ_s, nQ_n, lt_s_, gd_T, gd_t, Option.map_some, lits, neg_mI, nI_add, pk_mul, nI_clamp, nI_eq, nI_leI, nI_ltI, nm_eq, mn_eq, nm_lt, mn_lt, nm_le, mn_le, m_eq, bI_0, bI_1, d0, d1, d8, d12, kp, e2, h4, if_neg, e, e57, e7, e26] <;> rfl
theorem c_44 {c l g : Nat} (hR : Rd K N R p) (hB : CB I T m) (h3 : I 2 3 = nI s) (h4 : I 2 4 = nI l) (q7 : ∀ c, c < 64 → hb (J p 10) c = isS F c) (hg : g < 4) (hc : c < 64) (hl : l ≤ 8) (hs : s + l ≤ m) : ∃ y, y ≤ l ∧ (wyO T F s c l = true → y = l) ∧ Ca lx 44 [.ref (z + 1), .int (nI g), .int (nI c)] (St z E n K N R I J) = some (some (.int (bI (wyO T F s c l))), St z E n K N R (wyI I p T s c g y) J) := by
  obtain ⟨y, y1, y2, y3⟩ := c_44a (lx := lx) (z := z) (E := E) (n := n) hR hB h3 h4 q7 hg hc hl hs (0, 0) l 0 (by omega) (fun i hi => by omega)
  refine ⟨y, y1, y2, ?_⟩
  obtain ⟨d0, d1, d2, d3, d4, d5, d6, d7, d8, d9, d10, d11, d12, hP, hp⟩ := hR
  have kp := hP.1
  have e32 := s_32 (lx := lx) (z := z) (E := E) (n := n) (I := I) (J := J) (g := g) (i := 0) hP hg (by omega) (nI c)
  rw [f_44]
  simp (disch := first | assumption | omega) [k_St, n_St, i_St, j_St, r_St, wI_St, wJ_St, k_S0, n_S0, i_S0, j_S0, r_S0, wI_S0, wJ_S0, cI_s, cJ_s, cV_s, nR_s, nQ_s, nQ_n, lt_s_, gd_T, gd_t, Option.map_some, lits, neg_mI, nI_add, pk_mul, nI_clamp, nI_eq, nI_leI, nI_ltI, nm_eq, mn_eq, nm_lt, mn_lt, nm_le, mn_le, m_eq, bI_0, bI_1, d0, d12, kp, e32]
  exact y3
theorem COk_g {c t d l u : Nat} (hg : F 0 8 < 4) (h : COk I J p T m F w r G s) (hp : 114 ≤ p) : COk (u2 (u2 (u2 (wyI I p T u c (F 0 8) l) (p + 3) (F 0 8) (nI d)) (p + 4) (F 0 8) (nI l)) p 8 (nI (F 0 8 + 1))) (u2 J 14 (F 0 8) (lN (w8 T m t))) p T m (u2 (u2 (u2 (wyF T F u c l) 3 (F 0 8) d) 4 (F 0 8) l) 0 8 (F 0 8 + 1)) w r (nmG F G 1 t (F 0 8)) s := by
  obtain ⟨h1, h2, h3, h4, h5, ⟨t2, t3, t4, t5, ts⟩, ⟨q0, q1, q2, q3, q4, q5, q6, q7⟩, h8, h9⟩ := h
  have i1 : ∀ a, a ≠ p → a ≠ p + 3 → a ≠ p + 4 → a ≠ p + 5 → u2 (u2 (u2 (wyI I p T u c (F 0 8) l) (p + 3) (F 0 8) (nI d)) (p + 4) (F 0 8) (nI l)) p 8 (nI (F 0 8 + 1)) a = I a := fun a a1 a2 a3 a4 => by
    rw [u2_a _ _ _ _ _ a1, u2_a _ _ _ _ _ a3, u2_a _ _ _ _ _ a2, wyI_a a4]
  have a1 := i1 1 (by omega) (by omega) (by omega) (by omega)
  have a2 := i1 2 (by omega) (by omega) (by omega) (by omega)
  have f0 : ∀ j, j ≠ 8 → u2 (u2 (u2 (wyF T F u c l) 3 (F 0 8) d) 4 (F 0 8) l) 0 8 (F 0 8 + 1) 0 j = F 0 j := fun j j1 => by
    rw [u2_k _ _ _ _ _ j1, u2_a _ _ _ _ _ (by decide), u2_a _ _ _ _ _ (by decide)]; simp [wyF]
  have f8 : u2 (u2 (u2 (wyF T F u c l) 3 (F 0 8) d) 4 (F 0 8) l) 0 8 (F 0 8 + 1) 0 8 = F 0 8 + 1 := u2_s _ _ _ _
  have fb : ∀ b, b ≠ 0 → b ≠ 3 → b ≠ 4 → b ≠ 5 → u2 (u2 (u2 (wyF T F u c l) 3 (F 0 8) d) 4 (F 0 8) l) 0 8 (F 0 8 + 1) b = F b := fun b b1 b2 b3 b4 => by
    rw [u2_a _ _ _ _ _ b1, u2_a _ _ _ _ _ b3, u2_a _ _ _ _ _ b2]; funext k; simp [wyF, b4]
  have g3 : ∀ g, u2 (u2 (u2 (wyF T F u c l) 3 (F 0 8) d) 4 (F 0 8) l) 0 8 (F 0 8 + 1) 3 g = if g = F 0 8 then d else F 3 g := fun g => by
    rw [u2_a _ _ _ _ _ (by decide), u2_a _ _ _ _ _ (by decide)]
    by_cases e : g = F 0 8
    · rw [e, u2_s, if_pos rfl]
    · rw [u2_k _ _ _ _ _ e, if_neg e]; simp [wyF]
  have g4 : ∀ g, u2 (u2 (u2 (wyF T F u c l) 3 (F 0 8) d) 4 (F 0 8) l) 0 8 (F 0 8 + 1) 4 g = if g = F 0 8 then l else F 4 g := fun g => by
    rw [u2_a _ _ _ _ _ (by decide)]
    by_cases e : g = F 0 8
    · rw [e, u2_s, if_pos rfl]
    · rw [u2_k _ _ _ _ _ e, u2_a _ _ _ _ _ (by decide), if_neg e]; simp [wyF]
  have g5 : ∀ k, u2 (u2 (u2 (wyF T F u c l) 3 (F 0 8) d) 4 (F 0 8) l) 0 8 (F 0 8 + 1) 5 k = if F 0 8 * 9 ≤ k ∧ k ≤ F 0 8 * 9 + l then wy T u c (k - F 0 8 * 9) else F 5 k := fun k => by
    rw [u2_a _ _ _ _ _ (by decide), u2_a _ _ _ _ _ (by decide), u2_a _ _ _ _ _ (by decide)]; simp [wyF]
  have fi : ∀ c', inF (u2 (u2 (u2 (wyF T F u c l) 3 (F 0 8) d) 4 (F 0 8) l) 0 8 (F 0 8 + 1)) c' = inF F c' := fun c' => by
    unfold inF; rw [f0 4 (by decide), f0 5 (by decide)]
  have fs : ∀ c', isS (u2 (u2 (u2 (wyF T F u c l) 3 (F 0 8) d) 4 (F 0 8) l) 0 8 (F 0 8 + 1)) c' = isS F c' := fun c' => by
    unfold isS; rw [fi, fb 1 (by decide) (by decide) (by decide) (by decide)]
  have f9 := fb 9 (by decide) (by decide) (by decide) (by decide)
  refine ⟨by rw [a1]; exact h1, by rw [a1, f9]; exact h2, by rw [a1]; exact h3, by rw [a1]; exact h4, by rw [a2]; exact h5, ⟨by rw [a2]; exact t2, by rw [a2]; exact t3, by rw [a2]; exact t4, by rw [a2]; exact t5, ts⟩, ⟨?_, ?_, ?_, ?_, ?_, ?_, ?_, ?_⟩, ?_, ?_⟩
  · intro j hj
    by_cases j8 : j = 8
    · rw [j8, u2_s, f8]
    · rw [u2_k _ _ _ _ _ j8, u2_a _ _ _ _ _ (by omega), u2_a _ _ _ _ _ (by omega), wyI_a (by omega), f0 j j8]; exact q0 j hj
  · intro c' hc
    rw [i1 _ (by omega) (by omega) (by omega) (by omega), fi, fb 1 (by decide) (by decide) (by decide) (by decide)]; exact q1 c' hc
  · rw [f0 7 (by decide), fb 2 (by decide) (by decide) (by decide) (by decide), i1 _ (by omega) (by omega) (by omega) (by omega)]; exact q2
  · intro g hg
    rw [f8] at hg
    rw [g3, u2_a _ _ _ _ _ (by omega), u2_a _ _ _ _ _ (by omega)]
    by_cases e : g = F 0 8
    · rw [e, u2_s, if_pos rfl]
    · rw [u2_k _ _ _ _ _ e, if_neg e, wyI_a (by omega)]; exact q3 g (by omega)
  · intro g hg
    rw [f8] at hg
    rw [g4, u2_a _ _ _ _ _ (by omega)]
    by_cases e : g = F 0 8
    · rw [e, u2_s, if_pos rfl]
    · rw [u2_k _ _ _ _ _ e, if_neg e, u2_a _ _ _ _ _ (by omega), wyI_a (by omega)]; exact q4 g (by omega)
  · intro g k hg hk
    rw [f8] at hg
    rw [g4] at hk
    rw [g5, u2_a _ _ _ _ _ (by omega), u2_a _ _ _ _ _ (by omega), u2_a _ _ _ _ _ (by omega), wyI_c]
    by_cases ci : F 0 8 * 9 ≤ g * 9 + k ∧ g * 9 + k ≤ F 0 8 * 9 + l
    · rw [if_pos ci, if_pos ci]
    · rw [if_neg ci, if_neg ci]
      by_cases e : g = F 0 8
      · rw [if_pos e] at hk; rw [e] at ci; exact absurd ci (by omega)
      · rw [if_neg e] at hk; exact q5 g k (by omega) hk
  · rw [f0 9 (by decide), fb 6 (by decide) (by decide) (by decide) (by decide), fb 7 (by decide) (by decide) (by decide) (by decide), fb 8 (by decide) (by decide) (by decide) (by decide), i1 (p + 6) (by omega) (by omega) (by omega) (by omega), i1 (p + 7) (by omega) (by omega) (by omega) (by omega), i1 (p + 8) (by omega) (by omega) (by omega) (by omega)]; exact q6
  · intro c' hc
    rw [u2_a _ _ _ _ _ (by omega), fs]; exact q7 c' hc
  · intro d' hd
    rw [f0 7 (by decide)] at hd
    rw [u2_a _ _ _ _ _ (by decide), nmG_a (by decide) (by decide), if_neg (by simp)]
    exact h8 d' hd
  · intro g hg
    rw [f8] at hg
    rw [nmG_a (by decide) (by decide)]
    by_cases e : g = F 0 8
    · rw [e, u2_s, if_pos (by simp)]
    · rw [u2_k _ _ _ _ _ e, if_neg (by simp [e])]; exact h9 g (by omega)
end RDA
