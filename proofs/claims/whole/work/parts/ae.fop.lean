/-! a field is told: what changes hands -/
def sw (R : Nat → Nat → Option Nat) (p s : Nat) : Nat → Nat → Option Nat := u2 (u2 (u2 R 1 3 (some p)) 0 9 (some s)) 0 8 (some p)
theorem sw_a {R : Nat → Nat → Option Nat} {p s a : Nat} (h : 2 ≤ a) : sw R p s a = R a := by
  unfold sw
  rw [u2_a _ _ _ _ _ (by omega), u2_a _ _ _ _ _ (by omega), u2_a _ _ _ _ _ (by omega)]
theorem sw_0 {R : Nat → Nat → Option Nat} {p s k : Nat} (h : k ≠ 8) (h2 : k ≠ 9) : sw R p s 0 k = R 0 k := by
  unfold sw
  rw [u2_k _ _ _ _ _ h, u2_k _ _ _ _ _ h2, u2_a _ _ _ _ _ (by decide)]
theorem sw_1 {R : Nat → Nat → Option Nat} {p s k : Nat} (h : k ≠ 3) : sw R p s 1 k = R 1 k := by
  unfold sw
  rw [u2_a _ _ _ _ _ (by decide), u2_a _ _ _ _ _ (by decide), u2_k _ _ _ _ _ h]
section FOP
variable {z : Nat} {E : aEt} {n : Nat} {K N : Nat → Nat} {R : Nat → Nat → Option Nat} {I : Nat → Nat → Int32} {J : Nat → Nat → Int64} {lx : List Value → aH → aO} {p s q m e : Nat} {T : Nat → Nat} {F G : Nat → Nat → Nat} {w r : Bool} {x : Exc Nat}
theorem CL_sw (h : CL K N R s p) : CL K N (sw R p s) p s := by
  obtain ⟨c0, c1, c2, c3, c4, c5, c6, c7, c8, c9, c10, c11, c12, c13, c14, c15, c16, c17, c18, c19, c20, c21, c22, c23, c24, c25, c26, c27, c28, c29, c30, c31, c32, c33, c34, c35, c36, c37, c38, c39, c40, c41, c42, c43, c44, c45, c46, c47, c48, c49, c50, c51, c52, c53, c54, c55, c56, c57⟩ := h
  exact ⟨c0, by rw [sw_0 (by decide) (by decide)]; exact c1, by rw [sw_0 (by decide) (by decide)]; exact c2, by rw [sw_0 (by decide) (by decide)]; exact c3, by rw [sw_0 (by decide) (by decide)]; exact c4, by rw [sw_0 (by decide) (by decide)]; exact c5, by rw [sw_0 (by decide) (by decide)]; exact c6, by rw [sw_0 (by decide) (by decide)]; exact c7, by rw [sw_0 (by decide) (by decide)]; exact c8, u2_s _ _ _ _, by unfold sw; rw [u2_k _ _ _ _ _ (by decide), u2_s], c11, by rw [sw_1 (by decide)]; exact c12, by rw [sw_1 (by decide)]; exact c13, by rw [sw_1 (by decide)]; exact c14, c15, c16, c17, c18, c19, by rw [sw_a (by decide)]; exact c20, c21, c22, c23, by rw [sw_a (by decide)]; exact c24, by rw [sw_a (by decide)]; exact c25, c26, c27, c28, c29, c30, by rw [sw_a (by decide)]; exact c31, c32, c33, c34, by rw [sw_a (by decide)]; exact c35, by rw [sw_a (by decide)]; exact c36, by rw [sw_a (by decide)]; exact c37, c38, c39, c40, c41, c42, c43, c44, by rw [sw_a (by decide)]; exact c45, by rw [sw_a (by decide)]; exact c46, by rw [sw_a (by decide)]; exact c47, by rw [sw_a (by decide)]; exact c48, c49, c50, c51, c52, c53, c54, c55, c56, c57⟩
theorem Wk_sw {v : Nat} (h : Wk K N R v) (hv : 2 ≤ v) : Wk K N (sw R p s) v := by
  unfold Wk; rw [sw_a hv]; exact h
theorem Pl_sw {v : Nat} (h : Pl K N R v) (hv : 2 ≤ v) : Pl K N (sw R p s) v := by
  unfold Pl; rw [sw_a hv]; exact h
theorem CLw_sw (h : CLw K N R s p) : CLw K N (sw R p s) p s := by
  obtain ⟨h1, h2, h3, h4, h5, h6, h7⟩ := h
  refine ⟨Wk_sw h1 (by decide), Wk_sw h2 (by decide), Pl_sw h4 (by omega), Pl_sw h3 (by omega), by omega, fun i hi => ?_, fun i hi => ?_⟩
  · rw [sw_a (by decide)]; exact ⟨(h6 i hi).1, Wk_sw (h6 i hi).2 (by omega)⟩
  · rw [sw_a (by decide)]; exact ⟨(h7 i hi).1, Wk_sw (h7 i hi).2 (by omega)⟩
theorem Rd_of (hL : CL K N R s p) (hW : CLw K N R s p) : Rd K N (u2 R 1 3 (some p)) p := by
  obtain ⟨c0, c1, c2, c3, c4, c5, c6, c7, c8, c9, c10, c11, c12, c13, c14, c15, c16, c17, c18, c19, c20, c21, c22, _⟩ := hL
  obtain ⟨_, _, _, h4, h5, _⟩ := hW
  have hp : 114 ≤ p := by omega
  refine ⟨c11, by rw [u2_k _ _ _ _ _ (by decide)]; exact c12, by rw [u2_k _ _ _ _ _ (by decide)]; exact c13, by rw [u2_k _ _ _ _ _ (by decide)]; exact c14, c15, c16, c17, c18, c19, by rw [u2_a _ _ _ _ _ (by decide)]; exact c20, c21, c22, u2_s _ _ _ _, ?_, hp⟩
  unfold Pl
  rw [u2_a _ _ _ p _ (by omega)]; exact h4
theorem wR_S0 (k b : Nat) : wR (St z E n K N R I J) z k (some (z + b)) = St z E n K N (u2 R 0 k (some b)) I J := wR_St 0 k b
/-- the class takes what it has read -/
theorem c_113o {nxt : Nat} {H M : Nat → Nat → Nat} (hL : CL K N R s p) (hW : CLw K N R s p) (hx : nxt < 16) (h2 : I 23 2 = nI nxt) (h : COk I J p T m F true r G q) (hO : FOk F) : ∃ I' J', Am lx 113 36 [some (.ref z), none, none, none] [] (0, 0) (St z E n K N (u2 R 1 3 (some p)) I J) = some (some (.int (nI (F 0 8))), St z E n K N (sw R p s) I' J') ∧ CT K N (sw R p s) I' J' p s F (ini F) 0 0 H M ∧ CSc I' F ∧ (∀ a, 1 ≤ a → a < 15 ∨ 110 < a → I' a = I a ∧ J' a = J a) ∧ I' 0 11 = nI 0 := by
  have hL' := CL_sw hL
  have hW' := CLw_sw hW
  have hR := Rd_of hL hW
  obtain ⟨h1, _, _, _, _, _, hF, _, _⟩ := h
  have hp := hR.2.2.2.2.2.2.2.2.2.2.2.2.2.2
  have kp := hW'.2.2.1.1
  obtain ⟨k0, r0, r1, r2, r3, r4, r5, r6, r7, r8, r9, k1, _, _, _, _, _, _, _, _, _, _, _, k23, _⟩ := id hL'
  have k108 : K 108 = 4 := by
    obtain ⟨c0, c1, c2, c3, c4, c5, c6, c7, c8, c9, c10, c11, c12, c13, c14, c15, c16, c17, c18, c19, c20, c21, c22, c23, c24, c25, c26, c27, c28, c29, c30, c31, c32, c33, c34, c35, c36, c37, c38, c39, c40, c41, c42, c43, c44, c45, c46, c47, c48, c49, c50, c51, c52, c53, c54, c55, c56, c57⟩ := id hL'
    exact c44
  have k15 := hW'.1.1
  have s0 : R 0 0 = some 1 := hL.2.1
  have s8 : R 0 8 = some s := hL.2.2.2.2.2.2.2.2.2.1
  have s9 : R 0 9 = some p := hL.2.2.2.2.2.2.2.2.2.2.1
  have hF1 : PI (u2 I 0 10 (nI 1)) J p F := PI_c hF (fun a a1 a2 => u2_a _ _ _ _ _ (by omega)) rfl
  obtain ⟨I2, J2, e1, e2, e3⟩ := c_94 (lx := lx) (z := z) (E := E) (n := n) hW'.2.2.1 hF1 hW'.1 hO hp
  have hF2 : PI (u2 (u2 I2 23 3 (nI 0)) 23 4 (nI 0)) J2 p F := PI_c hF1 (fun a a1 a2 => by rw [u2_a _ _ _ _ _ (by omega), u2_a _ _ _ _ _ (by omega)]; exact (e3 a (by omega)).1) (e3 p (by omega)).2
  obtain ⟨I3, g1, g2, g3⟩ := c_61 (lx := lx) (z := z) (E := E) (n := n) hL' hW'.2.2.1 hF2 hO hp
  have p8 : I3 p 8 = nI (F 0 8) := by rw [g3 p (by omega)]; exact hF2.1 8 (by decide)
  have run : Am lx 113 36 [some (.ref z), none, none, none] [] (0, 0) (St z E n K N (u2 R 1 3 (some p)) I J) = some (some (.int (nI (F 0 8))), St z E n K N (sw R p s) (u2 I3 0 11 (nI 0)) J2) := by
    have t0 : u2 R 1 3 (some p) 0 0 = some 1 := by rw [u2_a _ _ _ _ _ (by decide)]; exact s0
    have t8 : u2 R 1 3 (some p) 0 8 = some s := by rw [u2_a _ _ _ _ _ (by decide)]; exact s8
    have t9 : u2 R 1 3 (some p) 0 9 = some p := by rw [u2_a _ _ _ _ _ (by decide)]; exact s9
    have esw : u2 (u2 (u2 R 1 3 (some p)) 0 9 (some s)) 0 8 (some p) = sw R p s := rfl
    rw [e_113_36]
    simp (disch := first | assumption | omega) [k_St, n_St, i_St, j_St, r_St, wI_St, wJ_St, k_S0, n_S0, i_S0, j_S0, r_S0, wI_S0, wJ_S0, cI_s, cJ_s, cV_s, nR_s, nQ_s, nQ_n, lt_s_, gd_T, gd_t, Option.map_some, lits, neg_mI, nI_add, pk_mul, nI_clamp, nI_eq, nI_leI, nI_ltI, nm_eq, mn_eq, nm_lt, mn_lt, nm_le, mn_le, m_eq, bI_0, bI_1, wR_S0, k0, k1, t0, t8, t9, h1, esw, r1, r8, k15, e1, r3, k23]
    rw [f_17]
    simp (disch := first | assumption | omega) [k_St, n_St, i_St, j_St, r_St, wI_St, wJ_St, k_S0, n_S0, i_S0, j_S0, r_S0, wI_S0, wJ_S0, cI_s, cJ_s, cV_s, nR_s, nQ_s, nQ_n, lt_s_, gd_T, gd_t, Option.map_some, lits, neg_mI, nI_add, pk_mul, nI_clamp, nI_eq, nI_leI, nI_ltI, nm_eq, mn_eq, nm_lt, mn_lt, nm_le, mn_le, m_eq, bI_0, bI_1, k23, k0, r6, r8, k108, g1, p8, kp, u2_s, u2_a, u2_k]
  have oth : ∀ a, 1 ≤ a → a < 15 ∨ 110 < a → u2 I3 0 11 (nI 0) a = I a ∧ J2 a = J a := fun a a0 a1 => by
    rw [u2_a _ _ _ _ _ (by omega), g3 a (by omega), u2_a _ _ _ _ _ (by omega), u2_a _ _ _ _ _ (by omega), (e3 a (by omega)).1, (e3 a (by omega)).2, u2_a _ _ _ _ _ (by omega)]
    exact ⟨rfl, rfl⟩
  have i15 : ∀ a, 15 ≤ a → a ≤ 18 → u2 I3 0 11 (nI 0) a = I2 a := fun a a0 a1 => by
    rw [u2_a _ _ _ _ _ (by omega), g3 a (by omega), u2_a _ _ _ _ _ (by omega), u2_a _ _ _ _ _ (by omega)]
  obtain ⟨⟨x1, x2, x3, x4, x5, x6⟩, x7⟩ := e2
  have rk := ini_k hO
  refine ⟨_, _, run, ⟨⟨hL', hW', ?_, ?_, hO, ⟨?_, ?_, ?_, ?_, x5, x6⟩, rk.1, ?_, rk.2⟩, nxt, ?_, hx, ?_, by decide, ?_, by decide, fun i hi => by omega, fun i hi => by omega⟩, ?_, oth, u2_s _ _ _ _⟩
  · rw [u2_k _ _ _ _ _ (by decide), g3 0 (by omega), u2_a _ _ _ _ _ (by decide), u2_a _ _ _ _ _ (by decide), (e3 0 (by omega)).1, u2_s]
  · exact PI_c hF2 (fun a a1 a2 => by rw [u2_a _ _ _ _ _ (by omega)]; exact g3 a (by omega)) rfl
  · rw [i15 _ (by decide) (by decide)]; exact x1
  · rw [i15 _ (by decide) (by decide)]; exact x2
  · rw [i15 _ (by decide) (by decide)]; exact x3
  · rw [i15 _ (by decide) (by decide)]; exact x4
  · rw [i15 _ (by decide) (by decide)]; exact x7
  · rw [u2_a _ _ _ _ _ (by decide), g3 23 (by omega), u2_k _ _ _ _ _ (by decide), u2_k _ _ _ _ _ (by decide), (e3 23 (by omega)).1, u2_a _ _ _ _ _ (by decide)]; exact h2
  · rw [u2_a _ _ _ _ _ (by decide), g3 23 (by omega), u2_k _ _ _ _ _ (by decide), u2_s]
  · rw [u2_a _ _ _ _ _ (by decide), g3 23 (by omega), u2_s]
  · unfold CSc
    rw [u2_a _ _ _ _ _ (by decide), u2_a _ _ _ _ _ (by decide), u2_a _ _ _ _ _ (by decide)]; exact g2
end FOP
