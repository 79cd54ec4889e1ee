/-! calls that only ask: cells, galleries, drums, nights to come -/
section OP1
variable {z : Nat} {E : aEt} {n : Nat} {K N : Nat → Nat} {R : Nat → Nat → Option Nat} {I : Nat → Nat → Int32} {J : Nat → Nat → Int64} {lx : List Value → aH → aO} {p s f : Nat} {F : Nat → Nat → Nat} {ρ : Nat → Nat}
/-- looking ahead -/
theorem c_169 (h : CW K N R I J p s F ρ) {m : Nat} (hm : m ≤ 60) : ∃ I' J', Ca lx 169 [.ref z, .int (nI m)] (St z E n K N R I J) = some (none, St z E n K N R I' J') ∧ WR I' J' 19 F (ngs F ρ m) ∧ Fw 19 I I' J J' := by
  obtain ⟨hL, ⟨hW15, hW19, hP, hPs, hps, _⟩, _, hF, hO, hR, hρ, _⟩ := h
  have o8 : F 0 8 ≤ 4 := hO.2.2.2.2.2.2.2.2.2.2.2.2.1
  have o7 : F 0 7 ≤ 4 := hO.2.2.2.2.2.2.2.2.2.2.2.1
  obtain ⟨k0, _, r1, r2, _, _, _, _, _, rp, _⟩ := hL
  have k19 := hW19.1
  have A : ∀ i, i ≤ m → ∃ I' J', Am lx 169 8 [some (.ref z), some (.int (nI m)), some (.int (nI 0))] [] (0, 0) (St z E n K N R (cpI I 19 15) (cpJ J 19 15)) = Am lx 169 8 [some (.ref z), some (.int (nI m)), some (.int (nI i))] [] (0, 0) (St z E n K N R I' J') ∧ WR I' J' 19 F (ngs F ρ i) ∧ Fw 19 I I' J J' := by
    intro i
    induction i with
    | zero => intro _; exact ⟨_, _, rfl, cp_W hR o7 o8 (by omega), cp_F⟩
    | succ i ih =>
      intro hi
      obtain ⟨I1, J1, e1, w1, f1⟩ := ih (by omega)
      have hF1 := PI_w hF (show 19 + 3 < p by omega) f1
      obtain ⟨I2, J2, e2, w2, f2, _⟩ := s_96 (lx := lx) (z := z) (E := E) (n := n) hP hF1 hW19 w1 hO (ngs_ok hO hρ i) (by omega)
      refine ⟨I2, J2, ?_, w2, Fw_t f1 f2⟩
      rw [e1, e_169_8]
      simp (disch := first | assumption | omega) [k_St, n_St, i_St, j_St, r_St, wI_St, wJ_St, k_S0, n_S0, i_S0, j_S0, r_S0, wI_S0, wJ_S0, cI_s, cJ_s, cV_s, nR_s, nQ_s, nQ_n, lt_s_, gd_T, gd_t, Option.map_some, lits, neg_mI, nI_add, pk_mul, nI_clamp, nI_eq, nI_leI, nI_ltI, nm_eq, mn_eq, nm_lt, mn_lt, nm_le, mn_le, m_eq, bI_0, bI_1, if_neg, k0, r2, rp, k19, e2]
  obtain ⟨I1, J1, e1, w1, f1⟩ := A m (Nat.le_refl _)
  refine ⟨I1, J1, ?_, w1, f1⟩
  rw [f_169]
  have e95 := s_95 (lx := lx) (z := z) (E := E) (n := n) (I := I) (J := J) hW19 hW15 (by omega)
  simp (disch := first | assumption | omega) [k_St, n_St, i_St, j_St, r_St, wI_St, wJ_St, k_S0, n_S0, i_S0, j_S0, r_S0, wI_S0, wJ_S0, cI_s, cJ_s, cV_s, nR_s, nQ_s, nQ_n, lt_s_, gd_T, gd_t, Option.map_some, lits, neg_mI, nI_add, pk_mul, nI_clamp, nI_eq, nI_leI, nI_ltI, nm_eq, mn_eq, nm_lt, mn_lt, nm_le, mn_le, m_eq, bI_0, bI_1, k0, r1, r2, k19, e95, e1]
  rw [e_169_8]
  simp (disch := first | assumption | omega) [k_St, n_St, i_St, j_St, r_St, wI_St, wJ_St, k_S0, n_S0, i_S0, j_S0, r_S0, wI_S0, wJ_S0, cI_s, cJ_s, cV_s, nR_s, nQ_s, nQ_n, lt_s_, gd_T, gd_t, Option.map_some, lits, neg_mI, nI_add, pk_mul, nI_clamp, nI_eq, nI_leI, nI_ltI, nm_eq, mn_eq, nm_lt, mn_lt, nm_le, mn_le, m_eq, bI_0, bI_1]
def soP (what g o : Nat) (F : Nat → Nat → Nat) (ρ : Nat → Nat) : Bool := if what = 0 then !dgg F ρ g else if what = 1 then decide (apt (plc F ρ g) (plc F ρ o) ≤ 1) else if what = 2 then bkA F ρ else hrd F ρ g
theorem c_171 (hL : CL K N R p s) (hP : Pl K N R p) (hF : PI I J p F) (hW : Wk K N R 19) (hR : WR I J 19 F ρ) (hO : FOk F) (hρ : ROk F ρ) {what g o : Nat} (hw : what < 4) (hg : what ≠ 2 → g < F 0 8) (ho : what = 1 → o < F 0 8) : Ca lx 171 [.ref z, .int (nI what), .int (nI g), .int (nI o)] (St z E n K N R I J) = some (some (.int (bI (soP what g o F ρ))), (St z E n K N R I J)) := by
  rw [f_171]
  have o8 : F 0 8 ≤ 4 := hO.2.2.2.2.2.2.2.2.2.2.2.2.1
  obtain ⟨k0, _, r1, r2, _, _, _, _, _, rp, _⟩ := hL
  have k19 := hW.1
  have ws : what = 0 ∨ what = 1 ∨ what = 2 ∨ what = 3 := by omega
  rcases ws with e | e | e | e
  · subst e
    have e1 := s_102 (lx := lx) (z := z) (E := E) (n := n) hW hR hO hρ (hg (by decide))
    cases hd : dgg F ρ g
    · rw [hd] at e1
      simp (disch := first | assumption | omega) [k_St, n_St, i_St, j_St, r_St, wI_St, wJ_St, k_S0, n_S0, i_S0, j_S0, r_S0, wI_S0, wJ_S0, cI_s, cJ_s, cV_s, nR_s, nQ_s, nQ_n, lt_s_, gd_T, gd_t, Option.map_some, lits, neg_mI, nI_add, pk_mul, nI_clamp, nI_eq, nI_leI, nI_ltI, nm_eq, mn_eq, nm_lt, mn_lt, nm_le, mn_le, m_eq, bI_0, bI_1, k0, r2, k19, e1, soP, hd]; rfl
    · rw [hd] at e1
      simp (disch := first | assumption | omega) [k_St, n_St, i_St, j_St, r_St, wI_St, wJ_St, k_S0, n_S0, i_S0, j_S0, r_S0, wI_S0, wJ_S0, cI_s, cJ_s, cV_s, nR_s, nQ_s, nQ_n, lt_s_, gd_T, gd_t, Option.map_some, lits, neg_mI, nI_add, pk_mul, nI_clamp, nI_eq, nI_leI, nI_ltI, nm_eq, mn_eq, nm_lt, mn_lt, nm_le, mn_le, m_eq, bI_0, bI_1, k0, r2, k19, e1, soP, hd]; rfl
  · subst e
    have e1 := s_105 (lx := lx) (z := z) (E := E) (n := n) hP hF hW hR hO (ROk_a hρ) (hg (by decide)) (ho rfl)
    by_cases hd : apt (plc F ρ g) (plc F ρ o) ≤ 1
    · simp only [hd, decide_true] at e1
      simp (disch := first | assumption | omega) [k_St, n_St, i_St, j_St, r_St, wI_St, wJ_St, k_S0, n_S0, i_S0, j_S0, r_S0, wI_S0, wJ_S0, cI_s, cJ_s, cV_s, nR_s, nQ_s, nQ_n, lt_s_, gd_T, gd_t, Option.map_some, lits, neg_mI, nI_add, pk_mul, nI_clamp, nI_eq, nI_leI, nI_ltI, nm_eq, mn_eq, nm_lt, mn_lt, nm_le, mn_le, m_eq, bI_0, bI_1, k0, r2, rp, k19, e1, soP, hd]
    · simp only [hd, decide_false] at e1
      simp (disch := first | assumption | omega) [k_St, n_St, i_St, j_St, r_St, wI_St, wJ_St, k_S0, n_S0, i_S0, j_S0, r_S0, wI_S0, wJ_S0, cI_s, cJ_s, cV_s, nR_s, nQ_s, nQ_n, lt_s_, gd_T, gd_t, Option.map_some, lits, neg_mI, nI_add, pk_mul, nI_clamp, nI_eq, nI_leI, nI_ltI, nm_eq, mn_eq, nm_lt, mn_lt, nm_le, mn_le, m_eq, bI_0, bI_1, k0, r2, rp, k19, e1, soP, hd]
  · subst e
    have e1 := s_106 (lx := lx) (z := z) (E := E) (n := n) hP hF hW hR hO (ROk_a hρ)
    cases hd : fps F ρ with
    | none =>
      rw [hd] at e1
      simp (disch := first | assumption | omega) [k_St, n_St, i_St, j_St, r_St, wI_St, wJ_St, k_S0, n_S0, i_S0, j_S0, r_S0, wI_S0, wJ_S0, cI_s, cJ_s, cV_s, nR_s, nQ_s, nQ_n, lt_s_, gd_T, gd_t, Option.map_some, lits, neg_mI, nI_add, pk_mul, nI_clamp, nI_eq, nI_leI, nI_ltI, nm_eq, mn_eq, nm_lt, mn_lt, nm_le, mn_le, m_eq, bI_0, bI_1, k0, r2, rp, k19, e1, soP, hd, bkA, ofp]; rfl
    | some x =>
      have hl := fpS_lt _ o8 _ _ _ x hd
      rw [hd] at e1
      simp (disch := first | assumption | omega) [k_St, n_St, i_St, j_St, r_St, wI_St, wJ_St, k_S0, n_S0, i_S0, j_S0, r_S0, wI_S0, wJ_S0, cI_s, cJ_s, cV_s, nR_s, nQ_s, nQ_n, lt_s_, gd_T, gd_t, Option.map_some, lits, neg_mI, nI_add, pk_mul, nI_clamp, nI_eq, nI_leI, nI_ltI, nm_eq, mn_eq, nm_lt, mn_lt, nm_le, mn_le, m_eq, bI_0, bI_1, k0, r2, rp, k19, e1, soP, hd, bkA, ofp]; rfl
  · subst e
    have e1 := s_108 (lx := lx) (z := z) (E := E) (n := n) hP hF hW hR hO hρ (hg (by decide))
    cases hd : hrd F ρ g
    · rw [hd] at e1
      simp (disch := first | assumption | omega) [k_St, n_St, i_St, j_St, r_St, wI_St, wJ_St, k_S0, n_S0, i_S0, j_S0, r_S0, wI_S0, wJ_S0, cI_s, cJ_s, cV_s, nR_s, nQ_s, nQ_n, lt_s_, gd_T, gd_t, Option.map_some, lits, neg_mI, nI_add, pk_mul, nI_clamp, nI_eq, nI_leI, nI_ltI, nm_eq, mn_eq, nm_lt, mn_lt, nm_le, mn_le, m_eq, bI_0, bI_1, k0, r2, rp, k19, e1, soP, hd]
    · rw [hd] at e1
      simp (disch := first | assumption | omega) [k_St, n_St, i_St, j_St, r_St, wI_St, wJ_St, k_S0, n_S0, i_S0, j_S0, r_S0, wI_S0, wJ_S0, cI_s, cJ_s, cV_s, nR_s, nQ_s, nQ_n, lt_s_, gd_T, gd_t, Option.map_some, lits, neg_mI, nI_add, pk_mul, nI_clamp, nI_eq, nI_leI, nI_ltI, nm_eq, mn_eq, nm_lt, mn_lt, nm_le, mn_le, m_eq, bI_0, bI_1, k0, r2, rp, k19, e1, soP, hd]
theorem c_170 (h : CW K N R I J p s F ρ) {what g o : Nat} (hw : what < 4) (hg : what ≠ 2 → g < F 0 8) (ho : what = 1 → o < F 0 8) : ∃ I' J', Ca lx 170 [.ref z, .int (nI what), .int (nI g), .int (nI o)] (St z E n K N R I J) = some (some (.int (ef (fnd (fun i => soP what g o F (ngs F ρ i)) 61))), St z E n K N R I' J') ∧ WR I' J' 19 F (ngs F ρ (fnd (fun i => soP what g o F (ngs F ρ i)) 61)) ∧ Fw 19 I I' J J' := by
  obtain ⟨hL, ⟨hW15, hW19, hP, hPs, hps, _⟩, _, hF, hO, hR, hρ, _⟩ := h
  have o8 : F 0 8 ≤ 4 := hO.2.2.2.2.2.2.2.2.2.2.2.2.1
  have o7 : F 0 7 ≤ 4 := hO.2.2.2.2.2.2.2.2.2.2.2.1
  have hL' := hL
  obtain ⟨k0, _, r1, r2, _, _, _, _, _, rp, _⟩ := hL
  have k19 := hW19.1
  have A : ∀ m, m ≤ 61 → (∀ i, i < m → soP what g o F (ngs F ρ i) = false) → ∃ I' J', Am lx 170 8 [some (.ref z), some (.int (nI what)), some (.int (nI g)), some (.int (nI o)), some (.int (nI 0))] [] (0, 0) (St z E n K N R (cpI I 19 15) (cpJ J 19 15)) = Am lx 170 8 [some (.ref z), some (.int (nI what)), some (.int (nI g)), some (.int (nI o)), some (.int (nI m))] [] (0, 0) (St z E n K N R I' J') ∧ WR I' J' 19 F (ngs F ρ m) ∧ Fw 19 I I' J J' := by
    intro i
    induction i with
    | zero => intro _ _; exact ⟨_, _, rfl, cp_W hR o7 o8 (by omega), cp_F⟩
    | succ i ih =>
      intro hi hq
      obtain ⟨I1, J1, e1, w1, f1⟩ := ih (by omega) (fun j hj => hq j (by omega))
      have hF1 := PI_w hF (show 19 + 3 < p by omega) f1
      obtain ⟨I2, J2, e2, w2, f2, _⟩ := s_96 (lx := lx) (z := z) (E := E) (n := n) hP hF1 hW19 w1 hO (ngs_ok hO hρ i) (by omega)
      have e3 := c_171 (lx := lx) (z := z) (E := E) (n := n) hL' hP hF1 hW19 w1 hO (ngs_ok hO hρ i) hw hg ho
      rw [hq i (by omega)] at e3
      refine ⟨I2, J2, ?_, w2, Fw_t f1 f2⟩
      rw [e1, e_170_8]
      simp (disch := first | assumption | omega) [k_St, n_St, i_St, j_St, r_St, wI_St, wJ_St, k_S0, n_S0, i_S0, j_S0, r_S0, wI_S0, wJ_S0, cI_s, cJ_s, cV_s, nR_s, nQ_s, nQ_n, lt_s_, gd_T, gd_t, Option.map_some, lits, neg_mI, nI_add, pk_mul, nI_clamp, nI_eq, nI_leI, nI_ltI, nm_eq, mn_eq, nm_lt, mn_lt, nm_le, mn_le, m_eq, bI_0, bI_1, if_neg, k0, r2, rp, k19, e2, e3]
  have e95 := s_95 (lx := lx) (z := z) (E := E) (n := n) (I := I) (J := J) hW19 hW15 (by omega)
  rcases first_ (fun i => soP what g o F (ngs F ρ i)) 61 with hf | ⟨m, hm, h1, h2⟩
  · obtain ⟨I1, J1, e1, w1, f1⟩ := A 61 (Nat.le_refl _) hf
    rw [fnd_n hf]
    refine ⟨I1, J1, ?_, w1, f1⟩
    rw [f_170]
    simp (disch := first | assumption | omega) [k_St, n_St, i_St, j_St, r_St, wI_St, wJ_St, k_S0, n_S0, i_S0, j_S0, r_S0, wI_S0, wJ_S0, cI_s, cJ_s, cV_s, nR_s, nQ_s, nQ_n, lt_s_, gd_T, gd_t, Option.map_some, lits, neg_mI, nI_add, pk_mul, nI_clamp, nI_eq, nI_leI, nI_ltI, nm_eq, mn_eq, nm_lt, mn_lt, nm_le, mn_le, m_eq, bI_0, bI_1, k0, r1, r2, k19, e95, e1]
    rw [e_170_8]
    simp (disch := first | assumption | omega) [k_St, n_St, i_St, j_St, r_St, wI_St, wJ_St, k_S0, n_S0, i_S0, j_S0, r_S0, wI_S0, wJ_S0, cI_s, cJ_s, cV_s, nR_s, nQ_s, nQ_n, lt_s_, gd_T, gd_t, Option.map_some, lits, neg_mI, nI_add, pk_mul, nI_clamp, nI_eq, nI_leI, nI_ltI, nm_eq, mn_eq, nm_lt, mn_lt, nm_le, mn_le, m_eq, bI_0, bI_1, if_pos]
    rfl
  · obtain ⟨I1, J1, e1, w1, f1⟩ := A m (by omega) h2
    rw [fnd_m h1 h2 hm]
    have hF1 := PI_w hF (show 19 + 3 < p by omega) f1
    have e3 := c_171 (lx := lx) (z := z) (E := E) (n := n) hL' hP hF1 hW19 w1 hO (ngs_ok hO hρ m) hw hg ho
    try simp only at h1
    rw [h1] at e3
    refine ⟨I1, J1, ?_, w1, f1⟩
    rw [f_170]
    simp (disch := first | assumption | omega) [k_St, n_St, i_St, j_St, r_St, wI_St, wJ_St, k_S0, n_S0, i_S0, j_S0, r_S0, wI_S0, wJ_S0, cI_s, cJ_s, cV_s, nR_s, nQ_s, nQ_n, lt_s_, gd_T, gd_t, Option.map_some, lits, neg_mI, nI_add, pk_mul, nI_clamp, nI_eq, nI_leI, nI_ltI, nm_eq, mn_eq, nm_lt, mn_lt, nm_le, mn_le, m_eq, bI_0, bI_1, k0, r1, r2, k19, e95, e1]
    rw [e_170_8]
    simp (disch := first | assumption | omega) [k_St, n_St, i_St, j_St, r_St, wI_St, wJ_St, k_S0, n_S0, i_S0, j_S0, r_S0, wI_S0, wJ_S0, cI_s, cJ_s, cV_s, nR_s, nQ_s, nQ_n, lt_s_, gd_T, gd_t, Option.map_some, lits, neg_mI, nI_add, pk_mul, nI_clamp, nI_eq, nI_leI, nI_ltI, nm_eq, mn_eq, nm_lt, mn_lt, nm_le, mn_le, m_eq, bI_0, bI_1, if_neg, k0, e3]
    rw [ef_m (by omega)]
end OP1
