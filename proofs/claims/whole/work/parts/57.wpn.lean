section WPN
variable {z : Nat} {E : aEt} {n : Nat} {K N : Nat → Nat} {R : Nat → Nat → Option Nat} {I : Nat → Nat → Int32} {J : Nat → Nat → Int64} {lx : List Value → aH → aO} {p w v : Nat} {F : Nat → Nat → Nat} {ρ σ : Nat → Nat}
theorem s_96a (hP : Pl K N R p) (hF : PI I J p F) (hW : Wk K N R w) (hR : WR I J w F σ) (hO : FOk F) (hρ : ROa F σ) (hd : w + 3 < p) {i m : Nat} (hi : i < F 0 8) (hg : dgg F σ i = true → 1 ≤ σ (4 + i)) (hm : m < 2 ^ i) : ∃ I' J', Am lx 96 5 [some (.ref (z + w)), some (.ref (z + p)), some (.int (nI m)), some (.int (nI i))] [] (0, 0) (St z E n K N R I J) = Am lx 96 5 [some (.ref (z + w)), some (.ref (z + p)), some (.int (nI (m + if cA F σ i then 2 ^ i else 0))), some (.int (nI (i + 1)))] [] (0, 0) (St z E n K N R I' J') ∧ WR I' J' w F (gA F σ i) ∧ Fw w I I' J J' ∧ I' w = I w := by
  have o8 : F 0 8 ≤ 4 := hO.2.2.2.2.2.2.2.2.2.2.2.2.1
  have o7 : F 0 7 ≤ 4 := hO.2.2.2.2.2.2.2.2.2.2.2.1
  have oG := hO.2.2.2.2.2.2.2.2.2.2.2.2.2.2.2.2.1 i hi
  have kp := hP.1
  have q8 := hF.1 8 (by decide)
  have hW' := hW
  obtain ⟨w0, wr1, wr2, wr3, wk1, wk2, wk3, wn1, wn2, wn3⟩ := hW
  have l1 := hR.1 i hi
  have l2 := hR.2.1 i hi
  have b := (hρ.1 i hi).2.1
  have i4 : i < 4 := by omega
  rw [e_96_5]
  unfold cA gA
  cases hdg : dgg F σ i
  · rw [hdg] at l2
    refine ⟨I, J, ?_, ?_, Fw_r, rfl⟩
    · simp (disch := first | assumption | omega) [k_St, n_St, i_St, j_St, r_St, wI_St, wJ_St, k_S0, n_S0, i_S0, j_S0, r_S0, wI_S0, wJ_S0, cI_s, cJ_s, cV_s, nR_s, nQ_s, nQ_n, lt_s_, gd_T, gd_t, Option.map_some, lits, neg_mI, nI_add, pk_mul, nI_clamp, nI_eq, nI_leI, nI_ltI, nm_eq, mn_eq, nm_lt, mn_lt, nm_le, mn_le, m_eq, bI_0, bI_1, if_neg, kp, q8, w0, wr2, wk2, wn2, l2]
    · simpa using hR
  · rw [hdg] at l2
    have g1 := hg hdg
    have hlt : σ i < F 4 i := by simp [dgg] at hdg; exact hdg.2
    have hS := oG.2.2.2 (σ i + 1) (by omega)
    have hc := isS_lt hS
    have oG3 := oG.2.2.1
    by_cases e0 : σ (4 + i) - 1 = 0
    · have hR2 := WR_m hR o7 o8 (g := i) (x := σ i + 1) hi
      have hF2 : PI (u2 (u2 I (w + 2) i (nI 0)) (w + 1) i (nI (σ i + 1))) J p F := PI_w hF hd (Fw_t (Fw_u (by omega) (by omega)) (Fw_u (by omega) (by omega)))
      have e1 : Ca lx 100 [.ref (z + w), .ref (z + p), .int (nI i)] (St z E n K N R (u2 (u2 I (w + 2) i (nI 0)) (w + 1) i (nI (σ i + 1))) J) = some (some (.int (nI (F 5 (i * 9 + (σ i + 1))))), St z E n K N R (u2 (u2 I (w + 2) i (nI 0)) (w + 1) i (nI (σ i + 1))) J) := by
        rw [f_100]
        have a1 : Ca lx 101 [.ref (z + w), .int (nI i)] (St z E n K N R (u2 (u2 I (w + 2) i (nI 0)) (w + 1) i (nI (σ i + 1))) J) = some (some (.int (nI (σ i + 1))), St z E n K N R (u2 (u2 I (w + 2) i (nI 0)) (w + 1) i (nI (σ i + 1))) J) := by
          rw [s_101 hW' hR2 hO hi, up_s]
        have a2 := s_31 (lx := lx) (z := z) (E := E) (n := n) hP hF2 hO hi (show σ i + 1 ≤ F 4 i by omega)
        simp only [k_St, w0, kp, gd_t, a1, a2, cI_s]
      refine ⟨u2 (u2 I (w + 2) i (nI 0)) (w + 1) i (nI (σ i + 1)), u2 J w 0 (J w 0 ||| ((1 : Int64) <<< ((nI (F 5 (i * 9 + (σ i + 1)))).toInt64 &&& 63))), ?_, ?_, ?_, ?_⟩
      · have e2 : u2 I (w + 2) i (nI 0) (w + 1) i = nI (σ i) := by rw [u2_a _ _ _ _ _ (by omega), l1]
        simp (disch := first | assumption | omega) [k_St, n_St, i_St, j_St, r_St, wI_St, wJ_St, k_S0, n_S0, i_S0, j_S0, r_S0, wI_S0, wJ_S0, cI_s, cJ_s, cV_s, nR_s, nQ_s, nQ_n, lt_s_, gd_T, gd_t, Option.map_some, lits, neg_mI, nI_add, pk_mul, nI_clamp, nI_eq, nI_leI, nI_ltI, nm_eq, mn_eq, nm_lt, mn_lt, nm_le, mn_le, m_eq, bI_0, bI_1, if_neg, if_pos, kp, q8, w0, wr2, wk2, wn2, l2, pk_sub, e0, u2_s, e2, e1, bt_o i4 hm, wr1, wk1, wn1]
      · simp only [if_true, e0]
        exact WR_d hR2 o7 o8 hc
      · exact Fw_t (Fw_t (Fw_u (by omega) (by omega)) (Fw_u (by omega) (by omega))) Fw_j
      · rw [u2_a _ _ _ _ _ (by omega), u2_a _ _ _ _ _ (by omega)]
    · refine ⟨u2 I (w + 2) i (nI (σ (4 + i) - 1)), J, ?_, ?_, Fw_u (by omega) (by omega), u2_a _ _ _ _ _ (by omega)⟩
      · simp (disch := first | assumption | omega) [k_St, n_St, i_St, j_St, r_St, wI_St, wJ_St, k_S0, n_S0, i_S0, j_S0, r_S0, wI_S0, wJ_S0, cI_s, cJ_s, cV_s, nR_s, nQ_s, nQ_n, lt_s_, gd_T, gd_t, Option.map_some, lits, neg_mI, nI_add, pk_mul, nI_clamp, nI_eq, nI_leI, nI_ltI, nm_eq, mn_eq, nm_lt, mn_lt, nm_le, mn_le, m_eq, bI_0, bI_1, if_neg, if_pos, kp, q8, w0, wr2, wk2, wn2, l2, pk_sub, e0, u2_s]
      · have := WR_l hR o7 o8 (g := i) (x := σ (4 + i) - 1) hi
        rw [hdg] at this
        simpa [e0] using this
theorem s_96b (hP : Pl K N R p) (hF : PI I J p F) (hW : Wk K N R w) (hR : WR I J w F σ) (hO : FOk F) (hρ : ROa F σ) {i : Nat} {P : Nat → Bool} (hi : i < F 0 8) (hg : P i = true → σ (8 + i) = 0) : ∃ I', Am lx 96 57 [some (.ref (z + w)), some (.ref (z + p)), some (.int (nI (msk P (F 0 8)))), some (.int (nI i))] [] (0, 0) (St z E n K N R I J) = Am lx 96 57 [some (.ref (z + w)), some (.ref (z + p)), some (.int (nI (msk P (F 0 8)))), some (.int (nI (i + 1)))] [] (0, 0) (St z E n K N R I' J) ∧ WR I' J w F (if P i then bgn F σ i else σ) ∧ Fw w I I' J J ∧ I' w = I w := by
  have o8 : F 0 8 ≤ 4 := hO.2.2.2.2.2.2.2.2.2.2.2.2.1
  have kp := hP.1
  have kw := hW.1
  have q8 := hF.1 8 (by decide)
  have t := bt_t (msk_16 P o8) (show i < 4 by omega)
  rw [msk_b P o8 hi] at t
  rw [e_96_57]
  cases hp : P i
  · rw [hp] at t
    refine ⟨I, ?_, by simpa using hR, Fw_r, rfl⟩
    simp (disch := first | assumption | omega) [k_St, n_St, i_St, j_St, r_St, wI_St, wJ_St, k_S0, n_S0, i_S0, j_S0, r_S0, wI_S0, wJ_S0, cI_s, cJ_s, cV_s, nR_s, nQ_s, nQ_n, lt_s_, gd_T, gd_t, Option.map_some, lits, neg_mI, nI_add, pk_mul, nI_clamp, nI_eq, nI_leI, nI_ltI, nm_eq, mn_eq, nm_lt, mn_lt, nm_le, mn_le, m_eq, bI_0, bI_1, if_neg, kp, q8, t]
  · rw [hp] at t
    obtain ⟨I', e, h1, h2, h3⟩ := s_97 (lx := lx) (z := z) (E := E) (n := n) hP hF hW hR hO hρ hi (hg hp)
    refine ⟨I', ?_, by simpa using h1, h2, h3⟩
    simp (disch := first | assumption | omega) [k_St, n_St, i_St, j_St, r_St, wI_St, wJ_St, k_S0, n_S0, i_S0, j_S0, r_S0, wI_S0, wJ_S0, cI_s, cJ_s, cV_s, nR_s, nQ_s, nQ_n, lt_s_, gd_T, gd_t, Option.map_some, lits, neg_mI, nI_add, pk_mul, nI_clamp, nI_eq, nI_leI, nI_ltI, nm_eq, mn_eq, nm_lt, mn_lt, nm_le, mn_le, m_eq, bI_0, bI_1, if_neg, kp, kw, q8, t, e]
theorem s_96 (hP : Pl K N R p) (hF : PI I J p F) (hW : Wk K N R w) (hR : WR I J w F ρ) (hO : FOk F) (hρ : ROk F ρ) (hd : w + 3 < p) : ∃ I' J', Ca lx 96 [.ref (z + w), .ref (z + p)] (St z E n K N R I J) = some (some (.int (nI (msk (cam F ρ) (F 0 8)))), St z E n K N R I' J') ∧ WR I' J' w F (ngt F ρ) ∧ Fw w I I' J J' ∧ I' w 2 = I w 2 + 1 := by
  have o8 : F 0 8 ≤ 4 := hO.2.2.2.2.2.2.2.2.2.2.2.2.1
  have o7 : F 0 7 ≤ 4 := hO.2.2.2.2.2.2.2.2.2.2.2.1
  have h1 := on1_ok hO hρ
  have hR1 : WR I J w F (on1 ρ) := WR_c hR o7 o8 (fun j _ h => by simp [on1, up, h])
  have kp := hP.1
  have kw := hW.1
  have A : ∀ i, i ≤ F 0 8 → ∃ I' J', Am lx 96 5 [some (.ref (z + w)), some (.ref (z + p)), some (.int (nI 0)), some (.int (nI 0))] [] (0, 0) (St z E n K N R I J) = Am lx 96 5 [some (.ref (z + w)), some (.ref (z + p)), some (.int (nI (msk (cam F ρ) i))), some (.int (nI i))] [] (0, 0) (St z E n K N R I' J') ∧ WR I' J' w F (rA F (on1 ρ) i) ∧ Fw w I I' J J' ∧ I' w = I w := by
    intro i
    induction i with
    | zero => intro _; exact ⟨I, J, rfl, hR1, Fw_r, rfl⟩
    | succ i ih =>
      intro hi
      obtain ⟨I1, J1, e1, r1, f1, g1⟩ := ih (by omega)
      obtain ⟨I2, J2, e2, r2, f2, g2⟩ := s_96a (lx := lx) (z := z) (E := E) (n := n) hP (PI_w hF hd f1) hW r1 hO (rA_ok hO (ROk_a h1) (by omega)) hd (i := i) (m := msk (cam F ρ) i) (by omega) (by
        intro hdg
        rw [rA_o (fun q hq => by omega) (by omega)]
        apply h1.2.2.2 i (by omega)
        rw [← hdg]
        exact (dgg_c (rA_o (fun q hq => by omega) (by omega)) (rA_o (fun q hq => by omega) (by omega))).symm) (msk_lt _ i)
      refine ⟨I2, J2, e1.trans (e2.trans rfl), r2, Fw_t f1 f2, g2.trans g1⟩
  obtain ⟨I1, J1, e1, r1, f1, g1⟩ := A (F 0 8) (Nat.le_refl _)
  have B : ∀ i, i ≤ F 0 8 → ∃ I', Am lx 96 57 [some (.ref (z + w)), some (.ref (z + p)), some (.int (nI (msk (cam F ρ) (F 0 8)))), some (.int (nI 0))] [] (0, 0) (St z E n K N R I1 J1) = Am lx 96 57 [some (.ref (z + w)), some (.ref (z + p)), some (.int (nI (msk (cam F ρ) (F 0 8)))), some (.int (nI i))] [] (0, 0) (St z E n K N R I' J1) ∧ WR I' J1 w F (rB F (rA F (on1 ρ) (F 0 8)) (cam F ρ) i) ∧ Fw w I I' J J1 ∧ I' w = I w := by
    intro i
    induction i with
    | zero => intro _; exact ⟨I1, rfl, r1, f1, g1⟩
    | succ i ih =>
      intro hi
      obtain ⟨I2, e2, r2, f2, g2⟩ := ih (by omega)
      obtain ⟨I3, e3, r3, f3, g3⟩ := s_96b (lx := lx) (z := z) (E := E) (n := n) hP (PI_w hF hd f2) hW r2 hO (rB_ok hO (rA_ok hO (ROk_a h1) (Nat.le_refl _)) (by omega)) (i := i) (P := cam F ρ) (by omega) (by
        intro hc
        rw [rB_o (fun q hq => by omega), rA_o (fun q hq => by omega) (by omega)]
        unfold cam cmP cA at hc
        have hdg : dgg F (rA F (on1 ρ) i) i = true := by simp at hc; exact hc.1
        have : rA F (on1 ρ) i (8 + i) = 0 := by simp [dgg] at hdg; exact hdg.1
        rwa [rA_o (fun q hq => by omega) (by omega)] at this)
      refine ⟨I3, e2.trans e3, r3, Fw_t f2 f3, g3.trans g2⟩
  obtain ⟨I2, e2, r2, f2, g2⟩ := B (F 0 8) (Nat.le_refl _)
  have q1 := (PI_w hF hd f1).1 8 (by decide)
  have q2 := (PI_w hF hd f2).1 8 (by decide)
  refine ⟨u2 I2 w 2 (I2 w 2 + nI 1), J1, ?_, ?_, Fw_t f2 (Fw_u (by omega) (by omega)), ?_⟩
  · rw [f_96]
    have z0 : (0 : Int32) = nI 0 := rfl
    rw [z0, e1, e_96_5]
    simp (disch := first | assumption | omega) [k_St, n_St, i_St, j_St, r_St, wI_St, wJ_St, k_S0, n_S0, i_S0, j_S0, r_S0, wI_S0, wJ_S0, cI_s, cJ_s, cV_s, nR_s, nQ_s, nQ_n, lt_s_, gd_T, gd_t, Option.map_some, lits, neg_mI, nI_add, pk_mul, nI_clamp, nI_eq, nI_leI, nI_ltI, nm_eq, mn_eq, nm_lt, mn_lt, nm_le, mn_le, m_eq, bI_0, bI_1, if_pos, kp, q1, e2]
    rw [e_96_57]
    simp (disch := first | assumption | omega) [k_St, n_St, i_St, j_St, r_St, wI_St, wJ_St, k_S0, n_S0, i_S0, j_S0, r_S0, wI_S0, wJ_S0, cI_s, cJ_s, cV_s, nR_s, nQ_s, nQ_n, lt_s_, gd_T, gd_t, Option.map_some, lits, neg_mI, nI_add, pk_mul, nI_clamp, nI_eq, nI_leI, nI_ltI, nm_eq, mn_eq, nm_lt, mn_lt, nm_le, mn_le, m_eq, bI_0, bI_1, if_pos, kp, kw, q2]
  · obtain ⟨a1, a2, a3, a4, a5, a6⟩ := r2
    refine ⟨?_, ?_, ?_, ?_, a5, a6⟩
    · intro g hg; rw [u2_a _ _ _ _ _ (by omega)]; exact a1 g hg
    · intro g hg; rw [u2_a _ _ _ _ _ (by omega)]; exact a2 g hg
    · intro g hg; rw [u2_a _ _ _ _ _ (by omega)]; exact a3 g hg
    · rw [u2_k _ _ _ _ _ (by omega)]; exact a4
  · rw [u2_s, g2]; rfl
/-! a copy -/
def cpI (I : Nat → Nat → Int32) (w v : Nat) : Nat → Nat → Int32 := fun a k => if (a = w + 1 ∨ a = w + 2 ∨ a = w + 3) ∧ k < 4 then I (v + (a - w)) k else if a = w ∧ (k = 2 ∨ k = 3) then I v k else I a k
def cpJ (J : Nat → Nat → Int64) (w v : Nat) : Nat → Nat → Int64 := u2 (u2 J w 0 (J v 0)) w 1 (J v 1)
theorem s_95 (hW : Wk K N R w) (hV : Wk K N R v) (hd : w + 3 < v ∨ v + 3 < w) : Ca lx 95 [.ref (z + w), .ref (z + v)] (St z E n K N R I J) = some (none, St z E n K N R (cpI I w v) (cpJ J w v)) := by
  rw [f_95]
  obtain ⟨w0, wr1, wr2, wr3, wk1, wk2, wk3, wn1, wn2, wn3⟩ := hW
  obtain ⟨v0, vr1, vr2, vr3, vk1, vk2, vk3, vn1, vn2, vn3⟩ := hV
  have nv : v ≠ w := by omega
  have L := loopN (X := fun i => Am lx 95 19 [some (.ref (z + w)), some (.ref (z + v)), some (.int (nI i))] [] (0, 0) (St z E n K N R (fun a k => if (a = w + 1 ∨ a = w + 2 ∨ a = w + 3) ∧ k < i then I (v + (a - w)) k else if a = w ∧ (k = 2 ∨ k = 3) then I v k else I a k) (cpJ J w v))) (n := 4) (by
    intro i hi
    try simp only
    rw [e_95_19]
    have e1 : (fun a k => if (a = w + 1 ∨ a = w + 2 ∨ a = w + 3) ∧ k < i then I (v + (a - w)) k else if a = w ∧ (k = 2 ∨ k = 3) then I v k else I a k) (v + 1) i = I (v + 1) i := by
      have a1 : ¬ (v + 1 = w + 1 ∨ v + 1 = w + 2 ∨ v + 1 = w + 3) := by omega
      have a2 : ¬ v + 1 = w := by omega
      simp only [a1, a2, false_and, if_false]
    have e2 : u2 (fun a k => if (a = w + 1 ∨ a = w + 2 ∨ a = w + 3) ∧ k < i then I (v + (a - w)) k else if a = w ∧ (k = 2 ∨ k = 3) then I v k else I a k) (w + 1) i (I (v + 1) i) (v + 2) i = I (v + 2) i := by
      rw [u2_a _ _ _ _ _ (by omega)]
      have a1 : ¬ (v + 2 = w + 1 ∨ v + 2 = w + 2 ∨ v + 2 = w + 3) := by omega
      have a2 : ¬ v + 2 = w := by omega
      simp only [a1, a2, false_and, if_false]
    have e3 : u2 (u2 (fun a k => if (a = w + 1 ∨ a = w + 2 ∨ a = w + 3) ∧ k < i then I (v + (a - w)) k else if a = w ∧ (k = 2 ∨ k = 3) then I v k else I a k) (w + 1) i (I (v + 1) i)) (w + 2) i (I (v + 2) i) (v + 3) i = I (v + 3) i := by
      rw [u2_a _ _ _ _ _ (by omega), u2_a _ _ _ _ _ (by omega)]
      have a1 : ¬ (v + 3 = w + 1 ∨ v + 3 = w + 2 ∨ v + 3 = w + 3) := by omega
      have a2 : ¬ v + 3 = w := by omega
      simp only [a1, a2, false_and, if_false]
    have e4 : u2 (u2 (u2 (fun a k => if (a = w + 1 ∨ a = w + 2 ∨ a = w + 3) ∧ k < i then I (v + (a - w)) k else if a = w ∧ (k = 2 ∨ k = 3) then I v k else I a k) (w + 1) i (I (v + 1) i)) (w + 2) i (I (v + 2) i)) (w + 3) i (I (v + 3) i) = fun a k => if (a = w + 1 ∨ a = w + 2 ∨ a = w + 3) ∧ k < i + 1 then I (v + (a - w)) k else if a = w ∧ (k = 2 ∨ k = 3) then I v k else I a k := by
      funext a k
      unfold u2
      have t1 : w + 1 - w = 1 := by omega
      have t2 : w + 2 - w = 2 := by omega
      have t3 : w + 3 - w = 3 := by omega
      by_cases hk : k = i
      · subst hk
        by_cases h1 : a = w + 1
        · subst h1; simp [t1]
        · by_cases h2 : a = w + 2
          · subst h2; simp [t2]
          · by_cases h3 : a = w + 3
            · subst h3; simp [t3]
            · simp [h1, h2, h3]
      · have : k < i + 1 ↔ k < i := by omega
        simp [hk, this]
    simp only at e1 e2 e3
    simp (disch := first | assumption | omega) [k_St, n_St, i_St, j_St, r_St, wI_St, wJ_St, k_S0, n_S0, i_S0, j_S0, r_S0, wI_S0, wJ_S0, cI_s, cJ_s, cV_s, nR_s, nQ_s, nQ_n, lt_s_, gd_T, gd_t, Option.map_some, lits, neg_mI, nI_add, pk_mul, nI_clamp, nI_eq, nI_leI, nI_ltI, nm_eq, mn_eq, nm_lt, mn_lt, nm_le, mn_le, m_eq, bI_0, bI_1, if_neg, w0, wr1, wr2, wr3, wk1, wk2, wk3, wn1, wn2, wn3, v0, vr1, vr2, vr3, vk1, vk2, vk3, vn1, vn2, vn3]
    simp only [e1, e2, e3, e4])
  try simp only at L
  have e0 : (fun a k => if (a = w + 1 ∨ a = w + 2 ∨ a = w + 3) ∧ k < 0 then I (v + (a - w)) k else if a = w ∧ (k = 2 ∨ k = 3) then I v k else I a k) = u2 (u2 I w 2 (I v 2)) w 3 (I v 3) := by
    funext a k
    unfold u2
    by_cases ha : a = w
    · subst ha
      by_cases h2 : k = 2
      · simp [h2]
      · by_cases h3 : k = 3
        · simp [h3]
        · simp [h2, h3]
    · simp [ha]
  rw [e0] at L
  have x1 : u2 J w 0 (J v 0) v 1 = J v 1 := by rw [u2_a _ _ _ _ _ nv]
  have x2 : u2 I w 2 (I v 2) v 3 = I v 3 := by rw [u2_a _ _ _ _ _ nv]
  have x3 : u2 (u2 J w 0 (J v 0)) w 1 (J v 1) = cpJ J w v := rfl
  simp only [k_St, w0, v0, gd_t, j_St, i_St, wJ_St, wI_St, lt_s_, x1, x2, x3]
  have z0 : (0 : Int32) = nI 0 := rfl
  rw [z0, L, e_95_19]
  simp (disch := first | assumption | omega) [k_St, n_St, i_St, j_St, r_St, wI_St, wJ_St, k_S0, n_S0, i_S0, j_S0, r_S0, wI_S0, wJ_S0, cI_s, cJ_s, cV_s, nR_s, nQ_s, nQ_n, lt_s_, gd_T, gd_t, Option.map_some, lits, neg_mI, nI_add, pk_mul, nI_clamp, nI_eq, nI_leI, nI_ltI, nm_eq, mn_eq, nm_lt, mn_lt, nm_le, mn_le, m_eq, bI_0, bI_1]
  rfl
theorem cp_W (hR : WR I J v F ρ) (o7 : F 0 7 ≤ 4) (o8 : F 0 8 ≤ 4) (hd : w + 3 < v ∨ v + 3 < w) : WR (cpI I w v) (cpJ J w v) w F ρ := by
  obtain ⟨r1, r2, r3, r4, r5, r6⟩ := hR
  have t1 : w + 1 - w = 1 := by omega
  have t2 : w + 2 - w = 2 := by omega
  have t3 : w + 3 - w = 3 := by omega
  refine ⟨?_, ?_, ?_, ?_, ?_, ?_⟩
  · intro g hg; have : g < 4 := by omega
    simp [cpI, this, t1, r1 g hg]
  · intro g hg; have : g < 4 := by omega
    simp [cpI, this, t2, r2 g hg]
  · intro g hg; have : g < 4 := by omega
    simp [cpI, this, t3, r3 g hg]
  · simp [cpI, r4]
  · intro c hc
    rw [← r5 c hc]
    simp [cpJ, u2]
  · intro c hc
    rw [← r6 c hc]
    simp [cpJ, u2]
theorem cp_n : cpI I w v w 2 = I v 2 := by simp [cpI]
theorem cp_F : Fw w I (cpI I w v) J (cpJ J w v) := by
  intro a ha
  refine ⟨?_, ?_⟩
  · funext k
    have a1 : ¬ (a = w + 1 ∨ a = w + 2 ∨ a = w + 3) := by omega
    have a2 : ¬ a = w := by omega
    simp [cpI, a1, a2]
  · have a2 : ¬ a = w := by omega
    unfold cpJ
    rw [u2_a _ _ _ _ _ a2, u2_a _ _ _ _ _ a2]
end WPN
