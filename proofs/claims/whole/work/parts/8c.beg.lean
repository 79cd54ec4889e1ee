/-! a field is begun -/
def iA (F : Nat → Nat → Nat) : Nat → (Nat → Nat)
  | 0 => fun _ => 0
  | i + 1 => up (iA F i) (12 + i) (F 2 i)
def iB (F : Nat → Nat → Nat) : Nat → (Nat → Nat)
  | 0 => iA F (F 0 7)
  | g + 1 => up (iB F g) (17 + F 5 (g * 9)) 1
def iC (F : Nat → Nat → Nat) : Nat → (Nat → Nat)
  | 0 => iB F (F 0 8)
  | g + 1 => bgn F (iC F g) g
def ini (F : Nat → Nat → Nat) : Nat → Nat := iC F (F 0 8)
section BEG
variable {z : Nat} {E : aEt} {n : Nat} {K N : Nat → Nat} {R : Nat → Nat → Option Nat} {I : Nat → Nat → Int32} {J : Nat → Nat → Int64} {lx : List Value → aH → aO} {p s f : Nat} {F : Nat → Nat → Nat} {ρ : Nat → Nat}
theorem iA_o {j : Nat} : ∀ {i : Nat}, (∀ d, d < i → j ≠ 12 + d) → iA F i j = 0
  | 0, _ => rfl
  | i + 1, h => by rw [iA, up_n (h i (by omega))]; exact iA_o (fun d hd => h d (by omega))
theorem iA_d {d : Nat} : ∀ {i : Nat}, d < i → iA F i (12 + d) = F 2 d
  | 0, h => by omega
  | i + 1, h => by
    rw [iA]
    by_cases e : d = i
    · subst e; rw [up_s]
    · rw [up_n (by omega)]; exact iA_d (by omega)
theorem iB_o {j : Nat} (hj : j < 17) : ∀ {g : Nat}, iB F g j = iA F (F 0 7) j
  | 0 => rfl
  | g + 1 => by rw [iB, up_n (by omega)]; exact iB_o hj
theorem iB_u {j : Nat} (hj : 81 ≤ j) (h : ∀ g, g < F 0 8 → F 5 (g * 9) < 64) : ∀ {g : Nat}, g ≤ F 0 8 → iB F g j = iA F (F 0 7) j
  | 0, _ => rfl
  | g + 1, hg => by
    have := h g (by omega)
    rw [iB, up_n (by omega)]; exact iB_u hj h (by omega)
theorem iB_1 (o7 : F 0 7 ≤ 4) : ∀ {g c : Nat}, iB F g (17 + c) ≤ 1
  | 0, c => by rw [iB, iA_o (fun d hd => by omega)]; omega
  | g + 1, c => by
    rw [iB]
    by_cases e : 17 + c = 17 + F 5 (g * 9)
    · rw [e, up_s]; omega
    · rw [up_n e]; exact iB_1 o7
theorem iC_o {j : Nat} : ∀ {g : Nat}, (∀ q, q < g → j ≠ 4 + q) → iC F g j = iB F (F 0 8) j
  | 0, _ => rfl
  | g + 1, h => by rw [iC, bgn_o (h g (by omega))]; exact iC_o (fun q hq => h q (by omega))
theorem iB_ok (hO : FOk F) : ROa F (iB F (F 0 8)) := by
  obtain ⟨o0, o0x, o1, o2, o2x, o3, o4, o4x, o5, o5x, o6, o7, o8, o9, oS, oD, oG, oH⟩ := hO
  have h5 : ∀ g, g < F 0 8 → F 5 (g * 9) < 64 := fun g hg => isS_lt ((oG g hg).2.2.2 0 (by omega))
  refine ⟨?_, ?_, ?_⟩
  · intro g hg
    rw [iB_o (by omega), iB_o (by omega), iB_o (by omega), iA_o (fun d hd => by omega), iA_o (fun d hd => by omega), iA_o (fun d hd => by omega)]
    omega
  · intro d hd
    rw [iB_o (by omega), iA_d hd]; exact oD d hd
  · intro c hc
    refine ⟨iB_1 o7, ?_⟩
    rw [iB_u (by omega) h5 (Nat.le_refl _), iA_o (fun d hd => by omega)]; omega
theorem iC_ok (hO : FOk F) : ∀ {g : Nat}, g ≤ F 0 8 → ROa F (iC F g)
  | 0, _ => iB_ok hO
  | g + 1, h => bgn_ok hO (by omega) (iC_ok hO (by omega))
theorem ini_k (hO : FOk F) : RK F (ini F) := by
  have o8 : F 0 8 ≤ 4 := hO.2.2.2.2.2.2.2.2.2.2.2.2.1
  have o7 : F 0 7 ≤ 4 := hO.2.2.2.2.2.2.2.2.2.2.2.1
  obtain ⟨a1, a2, a3⟩ := iC_ok hO (Nat.le_refl (F 0 8))
  refine ⟨⟨a1, a2, a3, ?_⟩, ?_⟩
  · intro g hg hd
    -- what stands at g behind its own turn stays
    have key : ∀ i, g < i → i ≤ F 0 8 → 1 ≤ iC F i (4 + g) := by
      intro i
      induction i with
      | zero => intro h; omega
      | succ i ih =>
        intro h1 h2
        rw [iC]
        by_cases e : g = i
        · subst e
          unfold bgn
          rw [up_s]
          have : dgg F (iC F g) g = true := by
            rw [← hd]
            exact dgg_c (by unfold ini; rw [iC_o (fun q hq => by omega), iC_o (fun q hq => by omega)]) (by unfold ini; rw [iC_o (fun q hq => by omega), iC_o (fun q hq => by omega)])
          rw [this]
          simp only [if_true]
          split <;> omega
        · rw [bgn_o (by omega)]; exact ih (by omega) (by omega)
    exact key (F 0 8) hg (Nat.le_refl _)
  · unfold ini
    rw [iC_o (fun q hq => by omega), iB_o (by omega), iA_o (fun d hd => by omega)]; omega
/-- works as they stand while they are begun: all but what is left -/
def WB (I : Nat → Nat → Int32) (J : Nat → Nat → Int64) (F : Nat → Nat → Nat) (ρ : Nat → Nat) : Prop := (∀ g, g < F 0 8 → I 16 g = nI (ρ g)) ∧ (∀ c, c < 64 → hb (J 15 0) c = decide (ρ (17 + c) = 1)) ∧ (∀ c, c < 64 → hb (J 15 1) c = decide (ρ (81 + c) = 1))
theorem b_99 (hP : Pl K N R p) (hF : PI I J p F) (hW : Wk K N R 15) (hR : WB I J F ρ) (hρ : ROa F ρ) {c : Nat} (hc : c < 64) (hi : inF F c = true) : Ca lx 99 [.ref (z + 15), .ref (z + p), .int (nI c)] (St z E n K N R I J) = some (some (.int (nI (tks F ρ c))), (St z E n K N R I J)) := by
  rw [f_99]
  have e := s_25 (lx := lx) (z := z) (E := E) (n := n) hP hF hc
  have kp := hP.1
  have kw := hW.1
  obtain ⟨_, r5, r6⟩ := hR
  have b := (hρ.2.2 c hc).2
  simp only [k_St, kp, kw, gd_t, j_St, s_5 _ hc, cI_s, e, r5 c hc, r6 c hc, hi, if_true, lits, bI_0]
  unfold tks
  by_cases h : ρ (17 + c) = 1
  · simp [h]
  · by_cases h2 : ρ (81 + c) = 1
    · simp [h, h2, nI_add]
    · have : ρ (81 + c) = 0 := by omega
      simp [h, this, nI_add]
theorem b_97 (hP : Pl K N R p) (hF : PI I J p F) (hW : Wk K N R 15) (hR : WB I J F ρ) (hO : FOk F) (hρ : ROa F ρ) {g : Nat} (hg : g < F 0 8) (h0 : ρ (8 + g) = 0) : Ca lx 97 [.ref (z + 15), .ref (z + p), .int (nI g)] (St z E n K N R I J) = some (none, St z E n K N R (u2 I 17 g (nI (bgn F ρ g (4 + g)))) J) := by
  have o8 : F 0 8 ≤ 4 := hO.2.2.2.2.2.2.2.2.2.2.2.2.1
  have oG := hO.2.2.2.2.2.2.2.2.2.2.2.2.2.2.2.2.1 g hg
  have w1 := hR.1 g hg
  have kp := hP.1
  have hP' := hP
  obtain ⟨_, _, _, _, pr4, _, _, _, _, _, _, _, pk4, _, _, _, _, _, _, _, pn4, _⟩ := hP
  have q4 := hF.2.2.2.2.1 g hg
  have hW' := hW
  obtain ⟨w0, wr1, wr2, wr3, wk1, wk2, wk3, wn1, wn2, wn3⟩ := hW
  have b1 := (hρ.1 g hg).1
  unfold bgn
  rw [up_s, f_97]
  by_cases hlt : ρ g < F 4 g
  · have hd : dgg F ρ g = true := by simp [dgg, h0, hlt]
    have hS := oG.2.2.2 (ρ g + 1) (by omega)
    have hc := isS_lt hS
    have hl := tks_le hO hρ hS
    have e1 : Ca lx 31 [.ref (z + p), .int (nI g), .int (nI (ρ g + 1))] (St z E n K N R I J) = some (some (.int (nI (F 5 (g * 9 + (ρ g + 1))))), (St z E n K N R I J)) := s_31 hP' hF hO hg (by omega)
    have e2 : Ca lx 99 [.ref (z + 15), .ref (z + p), .int (nI (F 5 (g * 9 + (ρ g + 1))))] (St z E n K N R I J) = some (some (.int (nI (tks F ρ (F 5 (g * 9 + (ρ g + 1)))))), (St z E n K N R I J)) := b_99 hP' hF hW' hR hρ hc (isS_in hS)
    by_cases e0 : tks F ρ (F 5 (g * 9 + (ρ g + 1))) = 0
    · rw [e0] at e2
      simp (disch := first | assumption | omega) [k_St, n_St, i_St, j_St, r_St, wI_St, wJ_St, k_S0, n_S0, i_S0, j_S0, r_S0, wI_S0, wJ_S0, cI_s, cJ_s, cV_s, nR_s, nQ_s, nQ_n, lt_s_, gd_T, gd_t, Option.map_some, lits, neg_mI, nI_add, pk_mul, nI_clamp, nI_eq, nI_leI, nI_ltI, nm_eq, mn_eq, nm_lt, mn_lt, nm_le, mn_le, m_eq, bI_0, bI_1, if_neg, if_pos, w0, wr1, wk1, wn1, w1, kp, pr4, pk4, pn4, q4, e_97_13, wr2, wk2, wn2, e1, e2, ca_901, hd, e0]
    · by_cases e3 : 1 < tks F ρ (F 5 (g * 9 + (ρ g + 1)))
      · simp (disch := first | assumption | omega) [k_St, n_St, i_St, j_St, r_St, wI_St, wJ_St, k_S0, n_S0, i_S0, j_S0, r_S0, wI_S0, wJ_S0, cI_s, cJ_s, cV_s, nR_s, nQ_s, nQ_n, lt_s_, gd_T, gd_t, Option.map_some, lits, neg_mI, nI_add, pk_mul, nI_clamp, nI_eq, nI_leI, nI_ltI, nm_eq, mn_eq, nm_lt, mn_lt, nm_le, mn_le, m_eq, bI_0, bI_1, if_neg, if_pos, w0, wr1, wk1, wn1, w1, kp, pr4, pk4, pn4, q4, e_97_13, wr2, wk2, wn2, e1, e2, ca_901, hd, e0, e3]
      · have e4 : tks F ρ (F 5 (g * 9 + (ρ g + 1))) = 1 := by omega
        rw [e4] at e2
        simp (disch := first | assumption | omega) [k_St, n_St, i_St, j_St, r_St, wI_St, wJ_St, k_S0, n_S0, i_S0, j_S0, r_S0, wI_S0, wJ_S0, cI_s, cJ_s, cV_s, nR_s, nQ_s, nQ_n, lt_s_, gd_T, gd_t, Option.map_some, lits, neg_mI, nI_add, pk_mul, nI_clamp, nI_eq, nI_leI, nI_ltI, nm_eq, mn_eq, nm_lt, mn_lt, nm_le, mn_le, m_eq, bI_0, bI_1, if_neg, if_pos, w0, wr1, wk1, wn1, w1, kp, pr4, pk4, pn4, q4, e_97_13, wr2, wk2, wn2, e1, e2, ca_901, hd, e4]
  · have hd : dgg F ρ g = false := by simp [dgg, hlt]
    have oG3 := oG.2.2.1
    simp (disch := first | assumption | omega) [k_St, n_St, i_St, j_St, r_St, wI_St, wJ_St, k_S0, n_S0, i_S0, j_S0, r_S0, wI_S0, wJ_S0, cI_s, cJ_s, cV_s, nR_s, nQ_s, nQ_n, lt_s_, gd_T, gd_t, Option.map_some, lits, neg_mI, nI_add, pk_mul, nI_clamp, nI_eq, nI_leI, nI_ltI, nm_eq, mn_eq, nm_lt, mn_lt, nm_le, mn_le, m_eq, bI_0, bI_1, if_neg, if_pos, w0, wr1, wk1, wn1, w1, kp, pr4, pk4, pn4, q4, e_97_13, wr2, wk2, wn2, hd]
theorem c_94 (hP : Pl K N R p) (hF : PI I J p F) (hW : Wk K N R 15) (hO : FOk F) (hp : 114 ≤ p) : ∃ I' J', Ca lx 94 [.ref (z + 15), .ref (z + p)] (St z E n K N R I J) = some (none, St z E n K N R I' J') ∧ WN I' J' 15 F (ini F) ∧ Fw 15 I I' J J' := by
  have o8 : F 0 8 ≤ 4 := hO.2.2.2.2.2.2.2.2.2.2.2.2.1
  have o7 : F 0 7 ≤ 4 := hO.2.2.2.2.2.2.2.2.2.2.2.1
  have oG := hO.2.2.2.2.2.2.2.2.2.2.2.2.2.2.2.2.1
  have kp := hP.1
  have hW' := hW
  obtain ⟨w0, wr1, wr2, wr3, wk1, wk2, wk3, wn1, wn2, wn3⟩ := hW
  obtain ⟨_, _, pr2, _, _, _, _, _, _, _, pk2, _, _, _, _, _, _, _, pn2, _⟩ := id hP
  have h5 : ∀ g, g < F 0 8 → F 5 (g * 9) < 64 := fun g hg => isS_lt ((oG g hg).2.2.2 0 (by omega))
  -- drums
  have A : ∀ i, i ≤ F 0 7 → ∃ I', Am lx 94 15 [some (.ref (z + 15)), some (.ref (z + p)), some (.int (nI 0))] [] (0, 0) (St z E n K N R (u2 (u2 I 15 2 (nI 0)) 15 3 (nI 0)) (u2 (u2 J 15 0 0) 15 1 0)) = Am lx 94 15 [some (.ref (z + 15)), some (.ref (z + p)), some (.int (nI i))] [] (0, 0) (St z E n K N R I' (u2 (u2 J 15 0 0) 15 1 0)) ∧ (∀ d, d < i → I' 18 d = nI (F 2 d)) ∧ ∀ a, a ≠ 18 → I' a = u2 (u2 I 15 2 (nI 0)) 15 3 (nI 0) a := by
    intro i
    induction i with
    | zero => intro _; exact ⟨_, rfl, fun d hd => by omega, fun _ _ => rfl⟩
    | succ i ih =>
      intro hi
      obtain ⟨I1, e1, a1, a2⟩ := ih (by omega)
      have q7 : I1 p 7 = nI (F 0 7) := by rw [a2 p (by omega), u2_a _ _ _ _ _ (by omega), u2_a _ _ _ _ _ (by omega)]; exact hF.1 7 (by decide)
      have q2 : I1 (p + 2) i = nI (F 2 i) := by rw [a2 (p + 2) (by omega), u2_a _ _ _ _ _ (by omega), u2_a _ _ _ _ _ (by omega)]; exact hF.2.2.1 i (by omega)
      refine ⟨u2 I1 18 i (nI (F 2 i)), ?_, ?_, ?_⟩
      · rw [e1, e_94_15]
        simp (disch := first | assumption | omega) [k_St, n_St, i_St, j_St, r_St, wI_St, wJ_St, k_S0, n_S0, i_S0, j_S0, r_S0, wI_S0, wJ_S0, cI_s, cJ_s, cV_s, nR_s, nQ_s, nQ_n, lt_s_, gd_T, gd_t, Option.map_some, lits, neg_mI, nI_add, pk_mul, nI_clamp, nI_eq, nI_leI, nI_ltI, nm_eq, mn_eq, nm_lt, mn_lt, nm_le, mn_le, m_eq, bI_0, bI_1, if_neg, kp, q7, w0, wr3, wk3, wn3, pr2, pk2, pn2, q2]
      · intro d hd
        by_cases e : d = i
        · subst e; rw [u2_s]
        · rw [u2_k _ _ _ _ _ e]; exact a1 d (by omega)
      · intro a ha
        rw [u2_a _ _ _ _ _ ha]; exact a2 a ha
  obtain ⟨I1, e1, a1, a2⟩ := A (F 0 7) (Nat.le_refl _)
  have fr1 : ∀ a, a ≠ 18 → a ≠ 15 → I1 a = I a := fun a h1 h2 => by rw [a2 a h1, u2_a _ _ _ _ _ h2, u2_a _ _ _ _ _ h2]
  -- first cells
  have B : ∀ g, g ≤ F 0 8 → ∃ I' J', Am lx 94 32 [some (.ref (z + 15)), some (.ref (z + p)), some (.int (nI 0))] [] (0, 0) (St z E n K N R I1 (u2 (u2 J 15 0 0) 15 1 0)) = Am lx 94 32 [some (.ref (z + 15)), some (.ref (z + p)), some (.int (nI g))] [] (0, 0) (St z E n K N R I' J') ∧ (∀ q, q < g → I' 16 q = nI 0) ∧ (∀ a, a ≠ 16 → I' a = I1 a) ∧ (∀ c, c < 64 → hb (J' 15 0) c = decide (iB F g (17 + c) = 1)) ∧ J' 15 1 = 0 ∧ ∀ a, a ≠ 15 → J' a = J a := by
    intro g
    induction g with
    | zero =>
      intro _
      refine ⟨_, _, rfl, fun q hq => by omega, fun _ _ => rfl, fun c hc => ?_, u2_s _ _ _ _, fun a ha => by rw [u2_a _ _ _ _ _ ha, u2_a _ _ _ _ _ ha]⟩
      rw [u2_k _ _ _ _ _ (by decide), u2_s, hb_0, iB, iA_o (fun d hd => by omega)]; simp
    | succ g ih =>
      intro hg
      obtain ⟨I2, J2, e2, b1, b2, b3, b4, b5⟩ := ih (by omega)
      have q8 : I2 p 8 = nI (F 0 8) := by rw [b2 p (by omega), fr1 p (by omega) (by omega)]; exact hF.1 8 (by decide)
      have hF2 : PI (u2 I2 16 g (nI 0)) J2 p F := PI_c hF (fun a a1 a2' => by rw [u2_a _ _ _ _ _ (by omega), b2 a (by omega), fr1 a (by omega) (by omega)]) (b5 p (by omega))
      have e31 := s_31 (lx := lx) (z := z) (E := E) (n := n) hP hF2 hO (show g < F 0 8 by omega) (Nat.zero_le _)
      rw [Nat.add_zero] at e31
      refine ⟨u2 I2 16 g (nI 0), u2 J2 15 0 (J2 15 0 ||| ((1 : Int64) <<< ((nI (F 5 (g * 9))).toInt64 &&& 63))), ?_, ?_, ?_, ?_, ?_, ?_⟩
      · rw [e2, e_94_32]
        simp (disch := first | assumption | omega) [k_St, n_St, i_St, j_St, r_St, wI_St, wJ_St, k_S0, n_S0, i_S0, j_S0, r_S0, wI_S0, wJ_S0, cI_s, cJ_s, cV_s, nR_s, nQ_s, nQ_n, lt_s_, gd_T, gd_t, Option.map_some, lits, neg_mI, nI_add, pk_mul, nI_clamp, nI_eq, nI_leI, nI_ltI, nm_eq, mn_eq, nm_lt, mn_lt, nm_le, mn_le, m_eq, bI_0, bI_1, if_neg, kp, q8, w0, wr1, wk1, wn1, e31]
      · intro q hq
        by_cases e : q = g
        · subst e; rw [u2_s]
        · rw [u2_k _ _ _ _ _ e]; exact b1 q (by omega)
      · intro a ha
        rw [u2_a _ _ _ _ _ ha]; exact b2 a ha
      · intro c hc
        rw [u2_s, hb_o _ (h5 g (by omega)), b3 c hc, iB]
        by_cases e : c = F 5 (g * 9)
        · subst e; rw [up_s]; simp
        · rw [up_n (by omega)]; simp [e]
      · rw [u2_k _ _ _ _ _ (by decide)]; exact b4
      · intro a ha
        rw [u2_a _ _ _ _ _ ha]; exact b5 a ha
  obtain ⟨I2, J2, e2, b1, b2, b3, b4, b5⟩ := B (F 0 8) (Nat.le_refl _)
  have fr2 : ∀ a, a ≠ 18 → a ≠ 15 → a ≠ 16 → I2 a = I a := fun a h1 h2 h3 => by rw [b2 a h3, fr1 a h1 h2]
  -- what is left
  have C : ∀ g, g ≤ F 0 8 → ∃ I', Am lx 94 57 [some (.ref (z + 15)), some (.ref (z + p)), some (.int (nI 0))] [] (0, 0) (St z E n K N R I2 J2) = Am lx 94 57 [some (.ref (z + 15)), some (.ref (z + p)), some (.int (nI g))] [] (0, 0) (St z E n K N R I' J2) ∧ (∀ q, q < g → I' 17 q = nI (iC F g (4 + q))) ∧ ∀ a, a ≠ 17 → I' a = I2 a := by
    intro g
    induction g with
    | zero => intro _; exact ⟨_, rfl, fun q hq => by omega, fun _ _ => rfl⟩
    | succ g ih =>
      intro hg
      obtain ⟨I3, e3, c1, c2⟩ := ih (by omega)
      have q8 : I3 p 8 = nI (F 0 8) := by rw [c2 p (by omega), fr2 p (by omega) (by omega) (by omega)]; exact hF.1 8 (by decide)
      have hF3 : PI I3 J2 p F := PI_c hF (fun a a1 a2' => by rw [c2 a (by omega), fr2 a (by omega) (by omega) (by omega)]) (b5 p (by omega))
      have hWB : WB I3 J2 F (iC F g) := by
        refine ⟨fun q hq => ?_, fun c hc => ?_, fun c hc => ?_⟩
        · rw [c2 16 (by omega), b1 q hq, iC_o (fun x hx => by omega), iB_o (by omega), iA_o (fun d hd => by omega)]
        · rw [b3 c hc, iC_o (fun x hx => by omega)]
        · rw [b4, hb_0, iC_o (fun x hx => by omega), iB_u (by omega) h5 (Nat.le_refl _), iA_o (fun d hd => by omega)]; simp
      have e97 := b_97 (lx := lx) (z := z) (E := E) (n := n) hP hF3 hW' hWB hO (iC_ok hO (by omega)) (show g < F 0 8 by omega) (by rw [iC_o (fun x hx => by omega), iB_o (by omega), iA_o (fun d hd => by omega)])
      refine ⟨u2 I3 17 g (nI (bgn F (iC F g) g (4 + g))), ?_, ?_, ?_⟩
      · rw [e3, e_94_57]
        simp (disch := first | assumption | omega) [k_St, n_St, i_St, j_St, r_St, wI_St, wJ_St, k_S0, n_S0, i_S0, j_S0, r_S0, wI_S0, wJ_S0, cI_s, cJ_s, cV_s, nR_s, nQ_s, nQ_n, lt_s_, gd_T, gd_t, Option.map_some, lits, neg_mI, nI_add, pk_mul, nI_clamp, nI_eq, nI_leI, nI_ltI, nm_eq, mn_eq, nm_lt, mn_lt, nm_le, mn_le, m_eq, bI_0, bI_1, if_neg, kp, q8, w0, e97]
      · intro q hq
        rw [iC]
        by_cases e : q = g
        · subst e; rw [u2_s]
        · rw [u2_k _ _ _ _ _ e, bgn_o (by omega)]; exact c1 q (by omega)
      · intro a ha
        rw [u2_a _ _ _ _ _ ha]; exact c2 a ha
  obtain ⟨I3, e3, c1, c2⟩ := C (F 0 8) (Nat.le_refl _)
  have q71 : I1 p 7 = nI (F 0 7) := by rw [fr1 p (by omega) (by omega)]; exact hF.1 7 (by decide)
  have q82 : I2 p 8 = nI (F 0 8) := by rw [fr2 p (by omega) (by omega) (by omega)]; exact hF.1 8 (by decide)
  have q83 : I3 p 8 = nI (F 0 8) := by rw [c2 p (by omega)]; exact q82
  have lo : ∀ j, j < 4 ∨ (8 ≤ j ∧ j < 12) ∨ j = 16 → ini F j = 0 := by
    intro j hj
    unfold ini
    rw [iC_o (fun x hx => by omega), iB_o (by omega), iA_o (fun d hd => by omega)]
  have x15 : I3 15 = u2 (u2 I 15 2 (nI 0)) 15 3 (nI 0) 15 := by rw [c2 15 (by omega), b2 15 (by omega), a2 15 (by omega)]
  refine ⟨I3, J2, ?_, ⟨⟨?_, ?_, ?_, ?_, ?_, ?_⟩, ?_⟩, ?_⟩
  · rw [f_94]
    simp (disch := first | assumption | omega) [k_St, n_St, i_St, j_St, r_St, wI_St, wJ_St, k_S0, n_S0, i_S0, j_S0, r_S0, wI_S0, wJ_S0, cI_s, cJ_s, cV_s, nR_s, nQ_s, nQ_n, lt_s_, gd_T, gd_t, Option.map_some, lits, neg_mI, nI_add, pk_mul, nI_clamp, nI_eq, nI_leI, nI_ltI, nm_eq, mn_eq, nm_lt, mn_lt, nm_le, mn_le, m_eq, bI_0, bI_1, w0, e1]
    rw [e_94_15]
    simp (disch := first | assumption | omega) [k_St, n_St, i_St, j_St, r_St, wI_St, wJ_St, k_S0, n_S0, i_S0, j_S0, r_S0, wI_S0, wJ_S0, cI_s, cJ_s, cV_s, nR_s, nQ_s, nQ_n, lt_s_, gd_T, gd_t, Option.map_some, lits, neg_mI, nI_add, pk_mul, nI_clamp, nI_eq, nI_leI, nI_ltI, nm_eq, mn_eq, nm_lt, mn_lt, nm_le, mn_le, m_eq, bI_0, bI_1, if_pos, kp, q71, e2]
    rw [e_94_32]
    simp (disch := first | assumption | omega) [k_St, n_St, i_St, j_St, r_St, wI_St, wJ_St, k_S0, n_S0, i_S0, j_S0, r_S0, wI_S0, wJ_S0, cI_s, cJ_s, cV_s, nR_s, nQ_s, nQ_n, lt_s_, gd_T, gd_t, Option.map_some, lits, neg_mI, nI_add, pk_mul, nI_clamp, nI_eq, nI_leI, nI_ltI, nm_eq, mn_eq, nm_lt, mn_lt, nm_le, mn_le, m_eq, bI_0, bI_1, if_pos, kp, q82, e3]
    rw [e_94_57]
    simp (disch := first | assumption | omega) [k_St, n_St, i_St, j_St, r_St, wI_St, wJ_St, k_S0, n_S0, i_S0, j_S0, r_S0, wI_S0, wJ_S0, cI_s, cJ_s, cV_s, nR_s, nQ_s, nQ_n, lt_s_, gd_T, gd_t, Option.map_some, lits, neg_mI, nI_add, pk_mul, nI_clamp, nI_eq, nI_leI, nI_ltI, nm_eq, mn_eq, nm_lt, mn_lt, nm_le, mn_le, m_eq, bI_0, bI_1, if_pos, kp, q83]
  · intro g hg
    rw [c2 (15 + 1) (by omega), b1 g hg, lo g (by omega)]
  · intro g hg
    rw [c1 g hg]
    cases hd : dgg F (ini F) g
    · -- not digging: nothing is left
      have : iC F (F 0 8) (4 + g) = 0 := by
        have key : ∀ i, g < i → i ≤ F 0 8 → iC F i (4 + g) = 0 := by
          intro i
          induction i with
          | zero => intro h; omega
          | succ i ih =>
            intro h1 h2
            rw [iC]
            by_cases e : g = i
            · subst e
              unfold bgn
              rw [up_s]
              have : dgg F (iC F g) g = false := by
                rw [← hd]
                exact dgg_c (by unfold ini; rw [iC_o (fun q hq => by omega), iC_o (fun q hq => by omega)]) (by unfold ini; rw [iC_o (fun q hq => by omega), iC_o (fun q hq => by omega)])
              rw [this]; simp
            · rw [bgn_o (by omega)]; exact ih (by omega) (by omega)
        exact key (F 0 8) hg (Nat.le_refl _)
      rw [this]; simp
    · rfl
  · intro d hd
    rw [c2 (15 + 3) (by omega), b2 (15 + 3) (by omega), a1 d hd]
    unfold ini
    rw [iC_o (fun x hx => by omega), iB_o (by omega), iA_d hd]
  · rw [x15, u2_s]
    have : msk (fun g => decide (ini F (8 + g) = 1)) (F 0 8) = msk (fun _ => false) (F 0 8) := msk_c (fun g hg => by rw [lo (8 + g) (by omega)]; simp)
    rw [this]
    have z : ∀ m, msk (fun _ => false) m = 0 := fun m => by
      induction m with
      | zero => rfl
      | succ m ih => rw [msk, ih]; simp
    rw [z]
  · intro c hc
    rw [b3 c hc]
    unfold ini
    rw [iC_o (fun x hx => by omega)]
  · intro c hc
    unfold ini
    rw [b4, hb_0, iC_o (fun x hx => by omega), iB_u (by omega) h5 (Nat.le_refl _), iA_o (fun d hd => by omega)]; simp
  · rw [x15, u2_k _ _ _ _ _ (by decide), u2_s, lo 16 (by omega)]
  · intro a ha
    refine ⟨?_, b5 a (by omega)⟩
    rw [c2 a (by omega), b2 a (by omega), fr1 a (by omega) (by omega)]
end BEG
