/-! the works are changed -/
section WWR
variable {z : Nat} {E : aEt} {n : Nat} {K N : Nat → Nat} {R : Nat → Nat → Option Nat} {I : Nat → Nat → Int32} {J : Nat → Nat → Int64} {lx : List Value → aH → aO} {p w v : Nat} {F : Nat → Nat → Nat} {ρ : Nat → Nat}
theorem PI_c {I' : Nat → Nat → Int32} {J' : Nat → Nat → Int64} (h : PI I J p F) (e : ∀ a, p ≤ a → a ≤ p + 8 → I' a = I a) (e2 : J' p = J p) : PI I' J' p F := by
  obtain ⟨h0, h1, h2, h3, h4, h5, h6, h7⟩ := h
  refine ⟨?_, ?_, ?_, ?_, ?_, ?_, ?_, ?_⟩
  · rw [e p (by omega) (by omega)]; exact h0
  · rw [e (p + 1) (by omega) (by omega)]; exact h1
  · rw [e (p + 2) (by omega) (by omega)]; exact h2
  · rw [e (p + 3) (by omega) (by omega)]; exact h3
  · rw [e (p + 4) (by omega) (by omega)]; exact h4
  · rw [e (p + 5) (by omega) (by omega)]; exact h5
  · rw [e (p + 6) (by omega) (by omega), e (p + 7) (by omega) (by omega), e (p + 8) (by omega) (by omega)]; exact h6
  · rw [e2]; exact h7
/-- all but the works at w is as it was -/
def Fw (w : Nat) (I I' : Nat → Nat → Int32) (J J' : Nat → Nat → Int64) : Prop := ∀ a, a < w ∨ w + 3 < a → I' a = I a ∧ J' a = J a
theorem Fw_r : Fw w I I J J := fun _ _ => ⟨rfl, rfl⟩
theorem Fw_t {I1 I2 : Nat → Nat → Int32} {J1 J2 : Nat → Nat → Int64} (h : Fw w I I1 J J1) (h2 : Fw w I1 I2 J1 J2) : Fw w I I2 J J2 :=
  fun a ha => ⟨(h2 a ha).1.trans (h a ha).1, (h2 a ha).2.trans (h a ha).2⟩
theorem Fw_u {b k : Nat} {x : Int32} (h : w ≤ b) (h2 : b ≤ w + 3) : Fw w I (u2 I b k x) J J :=
  fun a ha => ⟨u2_a I b k a x (by omega), rfl⟩
theorem Fw_j {k : Nat} {x : Int64} : Fw w I I J (u2 J w k x) :=
  fun a ha => ⟨rfl, u2_a J w k a x (by omega)⟩
theorem PI_w {I' : Nat → Nat → Int32} {J' : Nat → Nat → Int64} (hF : PI I J p F) (hd : w + 3 < p) (h : Fw w I I' J J') : PI I' J' p F :=
  PI_c hF (fun a h1 _ => (h a (by omega)).1) (h p (by omega)).2
theorem WR_w {I' : Nat → Nat → Int32} {J' : Nat → Nat → Int64} (hR : WR I J v F ρ) (hd : w + 3 < v ∨ v + 3 < w) (h : Fw w I I' J J') : WR I' J' v F ρ := by
  obtain ⟨r1, r2, r3, r4, r5, r6⟩ := hR
  have e0 := h v (by omega)
  have e1 := (h (v + 1) (by omega)).1
  have e2 := (h (v + 2) (by omega)).1
  have e3 := (h (v + 3) (by omega)).1
  unfold WR
  rw [e1, e2, e3, e0.1, e0.2]
  exact ⟨r1, r2, r3, r4, r5, r6⟩
theorem WR_c {σ : Nat → Nat} (hR : WR I J w F ρ) (o7 : F 0 7 ≤ 4) (o8 : F 0 8 ≤ 4) (h : ∀ j, j < 145 → j ≠ 16 → σ j = ρ j) : WR I J w F σ := by
  obtain ⟨r1, r2, r3, r4, r5, r6⟩ := hR
  refine ⟨?_, ?_, ?_, ?_, ?_, ?_⟩
  · intro g hg; rw [r1 g hg, h g (by omega) (by omega)]
  · intro g hg; rw [r2 g hg, dgg_c (h g (by omega) (by omega)) (h (8 + g) (by omega) (by omega)), h (4 + g) (by omega) (by omega)]
  · intro d hd; rw [r3 d hd, h (12 + d) (by omega) (by omega)]
  · rw [r4]; congr 1
    apply msk_c; intro g hg; rw [h (8 + g) (by omega) (by omega)]
  · intro c hc; rw [r5 c hc, h (17 + c) (by omega) (by omega)]
  · intro c hc; rw [r6 c hc, h (81 + c) (by omega) (by omega)]
theorem WR_l (hR : WR I J w F ρ) (o7 : F 0 7 ≤ 4) (o8 : F 0 8 ≤ 4) {g x : Nat} (hg : g < F 0 8) : WR (u2 I (w + 2) g (nI (if dgg F ρ g then x else 0))) J w F (up ρ (4 + g) x) := by
  obtain ⟨r1, r2, r3, r4, r5, r6⟩ := hR
  refine ⟨?_, ?_, ?_, ?_, ?_, ?_⟩
  · intro i hi; rw [u2_a _ _ _ _ _ (by omega), r1 i hi, up_n (by omega)]
  · intro i hi
    rw [dgg_c (ρ := ρ) (up_n (by omega)) (up_n (by omega))]
    by_cases e : i = g
    · subst e; rw [u2_s, up_s]
    · rw [u2_k _ _ _ _ _ e, r2 i hi, up_n (by omega)]
  · intro d hd; rw [u2_a _ _ _ _ _ (by omega), r3 d hd, up_n (by omega)]
  · rw [u2_a _ _ _ _ _ (by omega), r4]; congr 1
    apply msk_c; intro i hi; rw [up_n (by omega)]
  · intro c hc; rw [r5 c hc, up_n (by omega)]
  · intro c hc; rw [r6 c hc, up_n (by omega)]
theorem WR_m (hR : WR I J w F ρ) (o7 : F 0 7 ≤ 4) (o8 : F 0 8 ≤ 4) {g x : Nat} (hg : g < F 0 8) : WR (u2 (u2 I (w + 2) g (nI 0)) (w + 1) g (nI x)) J w F (up (up ρ (4 + g) 0) g x) := by
  obtain ⟨r1, r2, r3, r4, r5, r6⟩ := hR
  refine ⟨?_, ?_, ?_, ?_, ?_, ?_⟩
  · intro i hi
    by_cases e : i = g
    · subst e; rw [u2_s, up_s]
    · rw [u2_k _ _ _ _ _ e, u2_a _ _ _ _ _ (by omega), r1 i hi, up_n e, up_n (by omega)]
  · intro i hi
    rw [u2_a _ _ _ _ _ (by omega)]
    by_cases e : i = g
    · subst e; rw [u2_s, up_n (by omega), up_s]; simp
    · have dq : dgg F (up (up ρ (4 + g) 0) g x) i = dgg F ρ i := dgg_c (by rw [up_n e, up_n (by omega)]) (by rw [up_n (by omega), up_n (by omega)])
      rw [u2_k _ _ _ _ _ e, r2 i hi, dq, up_n (by omega), up_n (by omega)]
  · intro d hd; rw [u2_a _ _ _ _ _ (by omega), u2_a _ _ _ _ _ (by omega), r3 d hd, up_n (by omega), up_n (by omega)]
  · rw [u2_a _ _ _ _ _ (by omega), u2_a _ _ _ _ _ (by omega), r4]; congr 1
    apply msk_c; intro i hi; rw [up_n (by omega), up_n (by omega)]
  · intro c hc; rw [r5 c hc, up_n (by omega), up_n (by omega)]
  · intro c hc; rw [r6 c hc, up_n (by omega), up_n (by omega)]
theorem WR_d (hR : WR I J w F ρ) (o7 : F 0 7 ≤ 4) (o8 : F 0 8 ≤ 4) {c : Nat} (hc : c < 64) : WR I (u2 J w 0 (J w 0 ||| ((1 : Int64) <<< ((nI c).toInt64 &&& 63)))) w F (up ρ (17 + c) 1) := by
  obtain ⟨r1, r2, r3, r4, r5, r6⟩ := hR
  refine ⟨?_, ?_, ?_, ?_, ?_, ?_⟩
  · intro i hi; rw [r1 i hi, up_n (by omega)]
  · intro i hi
    rw [r2 i hi, dgg_c (ρ := ρ) (up_n (by omega)) (up_n (by omega)), up_n (by omega)]
  · intro d hd; rw [r3 d hd, up_n (by omega)]
  · rw [r4]; congr 1
    apply msk_c; intro i hi; rw [up_n (by omega)]
  · intro i hi
    rw [u2_s, hb_o _ hc, r5 i hi]
    by_cases e : i = c
    · subst e; rw [up_s]; simp
    · rw [up_n (by omega)]; simp [e]
  · intro i hi; rw [u2_k _ _ _ _ _ (by omega), r6 i hi, up_n (by omega)]
theorem s_97 (hP : Pl K N R p) (hF : PI I J p F) (hW : Wk K N R w) (hR : WR I J w F ρ) (hO : FOk F) (hρ : ROa F ρ) {g : Nat} (hg : g < F 0 8) (h0 : ρ (8 + g) = 0) : ∃ I', Ca lx 97 [.ref (z + w), .ref (z + p), .int (nI g)] (St z E n K N R I J) = some (none, St z E n K N R I' J) ∧ WR I' J w F (bgn F ρ g) ∧ Fw w I I' J J ∧ I' w = I w := by
  have o8 : F 0 8 ≤ 4 := hO.2.2.2.2.2.2.2.2.2.2.2.2.1
  have o7 : F 0 7 ≤ 4 := hO.2.2.2.2.2.2.2.2.2.2.2.1
  have oG := hO.2.2.2.2.2.2.2.2.2.2.2.2.2.2.2.2.1 g hg
  have w1 := hR.1 g hg
  have kp := hP.1
  have hP' := hP
  obtain ⟨_, _, _, _, pr4, _, _, _, _, _, _, _, pk4, _, _, _, _, _, _, _, pn4, _⟩ := hP
  have q4 := hF.2.2.2.2.1 g hg
  have hW' := hW
  obtain ⟨w0, wr1, wr2, wr3, wk1, wk2, wk3, wn1, wn2, wn3⟩ := hW
  have b1 := (hρ.1 g hg).1
  refine ⟨u2 I (w + 2) g (nI (if dgg F ρ g then (if tks F ρ (F 5 (g * 9 + (ρ g + 1))) = 0 then 1 else tks F ρ (F 5 (g * 9 + (ρ g + 1)))) else 0)), ?_, ?_, Fw_u (by omega) (by omega), u2_a _ _ _ _ _ (by omega)⟩
  · rw [f_97]
    by_cases hlt : ρ g < F 4 g
    · have hd : dgg F ρ g = true := by simp [dgg, h0, hlt]
      have hS := oG.2.2.2 (ρ g + 1) (by omega)
      have hc := isS_lt hS
      have hl := tks_le hO hρ hS
      have e1 : Ca lx 31 [.ref (z + p), .int (nI g), .int (nI (ρ g + 1))] (St z E n K N R I J) = some (some (.int (nI (F 5 (g * 9 + (ρ g + 1))))), (St z E n K N R I J)) := s_31 hP' hF hO hg (by omega)
      have e2 : Ca lx 99 [.ref (z + w), .ref (z + p), .int (nI (F 5 (g * 9 + (ρ g + 1))))] (St z E n K N R I J) = some (some (.int (nI (tks F ρ (F 5 (g * 9 + (ρ g + 1)))))), (St z E n K N R I J)) := s_99 hP' hF hW' hR hρ hc (isS_in hS)
      by_cases e0 : tks F ρ (F 5 (g * 9 + (ρ g + 1))) = 0
      · rw [e0] at e2
        simp (disch := first | assumption | omega) [k_St, n_St, i_St, j_St, r_St, wI_St, wJ_St, k_S0, n_S0, i_S0, j_S0, r_S0, wI_S0, wJ_S0, cI_s, cJ_s, cV_s, nR_s, nQ_s, nQ_n, lt_s_, gd_T, gd_t, Option.map_some, lits, neg_mI, nI_add, pk_mul, nI_clamp, nI_eq, nI_leI, nI_ltI, nm_eq, mn_eq, nm_lt, mn_lt, nm_le, mn_le, m_eq, bI_0, bI_1, if_neg, if_pos, w0, wr1, wk1, wn1, w1, kp, pr4, pk4, pn4, q4, e_97_13, wr2, wk2, wn2, e1, e2, ca_901, hd, e0]
      · by_cases e3 : 1 < tks F ρ (F 5 (g * 9 + (ρ g + 1)))
        · simp (disch := first | assumption | omega) [k_St, n_St, i_St, j_St, r_St, wI_St, wJ_St, k_S0, n_S0, i_S0, j_S0, r_S0, wI_S0, wJ_S0, cI_s, cJ_s, cV_s, nR_s, nQ_s, nQ_n, lt_s_, gd_T, gd_t, Option.map_some, lits, neg_mI, nI_add, pk_mul, nI_clamp, nI_eq, nI_leI, nI_ltI, nm_eq, mn_eq, nm_lt, mn_lt, nm_le, mn_le, m_eq, bI_0, bI_1, if_neg, if_pos, w0, wr1, wk1, wn1, w1, kp, pr4, pk4, pn4, q4, e_97_13, wr2, wk2, wn2, e1, e2, ca_901, hd, e0, e3]
        · have e4 : tks F ρ (F 5 (g * 9 + (ρ g + 1))) = 1 := by omega
          rw [e4] at e2
          simp (disch := first | assumption | omega) [k_St, n_St, i_St, j_St, r_St, wI_St, wJ_St, k_S0, n_S0, i_S0, j_S0, r_S0, wI_S0, wJ_S0, cI_s, cJ_s, cV_s, nR_s, nQ_s, nQ_n, lt_s_, gd_T, gd_t, Option.map_some, lits, neg_mI, nI_add, pk_mul, nI_clamp, nI_eq, nI_leI, nI_ltI, nm_eq, mn_eq, nm_lt, mn_lt, nm_le, mn_le, m_eq, bI_0, bI_1, if_neg, if_pos, w0, wr1, wk1, wn1, w1, kp, pr4, pk4, pn4, q4, e_97_13, wr2, wk2, wn2, e1, e2, ca_901, hd, e4]
    · have hd : dgg F ρ g = false := by simp [dgg, hlt]
      have oG3 := oG.2.2.1
      simp (disch := first | assumption | omega) [k_St, n_St, i_St, j_St, r_St, wI_St, wJ_St, k_S0, n_S0, i_S0, j_S0, r_S0, wI_S0, wJ_S0, cI_s, cJ_s, cV_s, nR_s, nQ_s, nQ_n, lt_s_, gd_T, gd_t, Option.map_some, lits, neg_mI, nI_add, pk_mul, nI_clamp, nI_eq, nI_leI, nI_ltI, nm_eq, mn_eq, nm_lt, mn_lt, nm_le, mn_le, m_eq, bI_0, bI_1, if_neg, if_pos, w0, wr1, wk1, wn1, w1, kp, pr4, pk4, pn4, q4, e_97_13, wr2, wk2, wn2, hd]
  · unfold bgn
    have := WR_l hR o7 o8 (g := g) (x := if dgg F ρ g then (if tks F ρ (F 5 (g * 9 + (ρ g + 1))) = 0 then 1 else tks F ρ (F 5 (g * 9 + (ρ g + 1)))) else 0) hg
    cases hd : dgg F ρ g
    · rw [hd] at this; simpa using this
    · rw [hd] at this; simpa using this
end WWR
