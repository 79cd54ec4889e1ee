/-! a charge -/
def eB (F : Nat → Nat → Nat) (c r : Nat) (ρ : Nat → Nat) : Nat → (Nat → Nat)
  | 0 => ρ
  | i + 1 => if isS F i && decide (apt i c ≤ r) then up (up (eB F c r ρ i) (81 + i) 1) (17 + i) 0 else eB F c r ρ i
def eS (P : Nat → Bool) (ρ : Nat → Nat) : Nat → (Nat → Nat)
  | 0 => ρ
  | g + 1 => if P g then up (eS P ρ g) (8 + g) 1 else eS P ρ g
def hit (F : Nat → Nat → Nat) (ρ : Nat → Nat) (c r g : Nat) : Bool := nrP F ρ c r g && !decide (ρ (8 + g) = 1)
def exq (F : Nat → Nat → Nat) (ρ : Nat → Nat) (c r : Nat) : Nat → Nat := eS (hit F ρ c r) (eB F c r ρ 64) (F 0 8)
section ACT2
variable {z : Nat} {E : aEt} {n : Nat} {K N : Nat → Nat} {R : Nat → Nat → Option Nat} {I : Nat → Nat → Int32} {J : Nat → Nat → Int64} {lx : List Value → aH → aO} {p s f : Nat} {F : Nat → Nat → Nat} {ρ : Nat → Nat} {c r : Nat}
theorem eB_o {j : Nat} (hj : j < 17) : ∀ {i : Nat}, eB F c r ρ i j = ρ j
  | 0 => rfl
  | i + 1 => by
    rw [eB]
    split
    · rw [up_n (by omega), up_n (by omega)]; exact eB_o hj
    · exact eB_o hj
theorem eB_le (h : ∀ c, c < 64 → ρ (17 + c) ≤ 1 ∧ ρ (81 + c) ≤ 1) : ∀ {i : Nat}, i ≤ 64 → ∀ c', c' < 64 → eB F c r ρ i (17 + c') ≤ 1 ∧ eB F c r ρ i (81 + c') ≤ 1
  | 0, _, c', hc => h c' hc
  | i + 1, hi, c', hc => by
    have ih := eB_le h (i := i) (by omega) c' hc
    rw [eB]
    split
    · constructor
      · by_cases e : c' = i
        · subst e; rw [up_s]; omega
        · rw [up_n (by omega), up_n (by omega)]; exact ih.1
      · rw [up_n (by omega)]
        by_cases e : c' = i
        · subst e; rw [up_s]; omega
        · rw [up_n (by omega)]; exact ih.2
    · exact ih
theorem eS_o {P : Nat → Bool} {j : Nat} : ∀ {i : Nat}, (∀ g, g < i → j ≠ 8 + g) → eS P ρ i j = ρ j
  | 0, _ => rfl
  | i + 1, h => by
    rw [eS]
    split
    · rw [up_n (h i (by omega))]; exact eS_o (fun g hg => h g (by omega))
    · exact eS_o (fun g hg => h g (by omega))
theorem eS_g {P : Nat → Bool} {g : Nat} : ∀ {i : Nat}, g < i → eS P ρ i (8 + g) = if P g then 1 else ρ (8 + g)
  | 0, h => by omega
  | i + 1, h => by
    rw [eS]
    by_cases e : g = i
    · subst e
      cases hp : P g
      · simp; exact eS_o (fun q hq => by omega)
      · simp [up_s]
    · have ih := eS_g (P := P) (g := g) (i := i) (by omega)
      split
      · rw [up_n (by omega)]; exact ih
      · exact ih
theorem exq_lo (o8 : F 0 8 ≤ 4) {j : Nat} (hj : j < 8 ∨ (12 ≤ j ∧ j < 17)) : exq F ρ c r j = ρ j := by
  unfold exq
  rw [eS_o (fun g hg => by omega), eB_o (by omega)]
theorem exq_sh (o8 : F 0 8 ≤ 4) {g : Nat} (hg : g < F 0 8) : exq F ρ c r (8 + g) = if hit F ρ c r g then 1 else ρ (8 + g) := by
  unfold exq
  rw [eS_g hg, eB_o (by omega)]
theorem exq_hi (o8 : F 0 8 ≤ 4) {j : Nat} (hj : 17 ≤ j) : exq F ρ c r j = eB F c r ρ 64 j := by
  unfold exq
  rw [eS_o (fun g hg => by omega)]
theorem exq_d (o8 : F 0 8 ≤ 4) {g : Nat} (hg : g < F 0 8) : dgg F (exq F ρ c r) g = (!hit F ρ c r g && dgg F ρ g) := by
  unfold dgg
  rw [exq_sh o8 hg, exq_lo o8 (by omega)]
  cases hit F ρ c r g <;> simp
theorem exq_ok (hO : FOk F) (h : RK F ρ) : RK F (exq F ρ c r) := by
  have o8 : F 0 8 ≤ 4 := hO.2.2.2.2.2.2.2.2.2.2.2.2.1
  have o7 : F 0 7 ≤ 4 := hO.2.2.2.2.2.2.2.2.2.2.2.1
  obtain ⟨⟨a1, a2, a3, a4⟩, a5⟩ := h
  refine ⟨⟨?_, ?_, ?_, ?_⟩, by rw [exq_lo o8 (by omega)]; exact a5⟩
  · intro g hg
    rw [exq_lo o8 (by omega), exq_lo o8 (by omega), exq_sh o8 hg]
    refine ⟨(a1 g hg).1, (a1 g hg).2.1, ?_⟩
    split
    · omega
    · exact (a1 g hg).2.2
  · intro d hd
    rw [exq_lo o8 (by omega)]; exact a2 d hd
  · intro i hi
    rw [exq_hi o8 (by omega), exq_hi o8 (by omega)]
    exact eB_le a3 (Nat.le_refl _) i hi
  · intro g hg hd
    rw [exq_d o8 hg] at hd
    rw [exq_lo o8 (by omega)]
    apply a4 g hg
    simp at hd; exact hd.2
theorem s_98 (hP : Pl K N R p) (hF : PI I J p F) (hW : Wk K N R 15) (hR : WN I J 15 F ρ) (hO : FOk F) (hρ : RK F ρ) (hp : 114 ≤ p) (hc : c < 64) (hr : r ≤ 2) : ∃ I' J', Ca lx 98 [.ref (z + 15), .ref (z + p), .int (nI c), .int (nI r)] (St z E n K N R I J) = some (some (.int (nI (msk (hit F ρ c r) (F 0 8)))), St z E n K N R I' J') ∧ WN I' J' 15 F (exq F ρ c r) ∧ Fw 15 I I' J J' := by
  have o8 : F 0 8 ≤ 4 := hO.2.2.2.2.2.2.2.2.2.2.2.2.1
  have o7 : F 0 7 ≤ 4 := hO.2.2.2.2.2.2.2.2.2.2.2.1
  have kp := hP.1
  have k15 := hW.1
  obtain ⟨_, wr1, wr2, wr3, wk1, wk2, wk3, wn1, wn2, wn3⟩ := id hW
  have e4 := s_104 (lx := lx) (z := z) (E := E) (n := n) hP hF hW hR.1 hO (ROk_a hρ.1) hc hr
  have eh : (fun g => nrP F ρ c r g && !decide (ρ (8 + g) = 1)) = hit F ρ c r := rfl
  rw [eh] at e4
  have A : ∀ i, i ≤ 64 → ∃ J', Am lx 98 9 [some (.ref (z + 15)), some (.ref (z + p)), some (.int (nI c)), some (.int (nI r)), some (.int (nI (msk (hit F ρ c r) (F 0 8)))), some (.int (nI 0))] [] (0, 0) (St z E n K N R I J) = Am lx 98 9 [some (.ref (z + 15)), some (.ref (z + p)), some (.int (nI c)), some (.int (nI r)), some (.int (nI (msk (hit F ρ c r) (F 0 8)))), some (.int (nI i))] [] (0, 0) (St z E n K N R I J') ∧ (∀ x, x < 64 → hb (J' 15 0) x = decide (eB F c r ρ i (17 + x) = 1) ∧ hb (J' 15 1) x = decide (eB F c r ρ i (81 + x) = 1)) ∧ ∀ a, a ≠ 15 → J' a = J a := by
    intro i
    induction i with
    | zero => intro _; exact ⟨J, rfl, fun x hx => ⟨hR.1.2.2.2.2.1 x hx, hR.1.2.2.2.2.2 x hx⟩, fun _ _ => rfl⟩
    | succ i ih =>
      intro hi
      obtain ⟨J1, e1, b1, g1⟩ := ih (by omega)
      have hi' : i < 64 := by omega
      have hF1 : PI I J1 p F := PI_c hF (fun _ _ _ => rfl) (g1 p (by omega))
      have a1 := s_26c (lx := lx) (z := z) (E := E) (n := n) hP hF1 hi'
      have a2 := s_4 (lx := lx) hi' hc
      have ha := apt_le hi' hc
      cases c1 : isS F i
      · rw [c1] at a1
        refine ⟨J1, ?_, ?_, g1⟩
        · rw [e1, e_98_9]
          simp (disch := first | assumption | omega) [k_St, n_St, i_St, j_St, r_St, wI_St, wJ_St, k_S0, n_S0, i_S0, j_S0, r_S0, wI_S0, wJ_S0, cI_s, cJ_s, cV_s, nR_s, nQ_s, nQ_n, lt_s_, gd_T, gd_t, Option.map_some, lits, neg_mI, nI_add, pk_mul, nI_clamp, nI_eq, nI_leI, nI_ltI, nm_eq, mn_eq, nm_lt, mn_lt, nm_le, mn_le, m_eq, bI_0, bI_1, if_neg, kp, a1]
        · rw [eB, c1]; simpa using b1
      · rw [c1] at a1
        by_cases c2 : apt i c ≤ r
        · refine ⟨u2 (u2 J1 15 1 (J1 15 1 ||| ((1 : Int64) <<< ((nI i).toInt64 &&& 63)))) 15 0 (J1 15 0 &&& (((1 : Int64) <<< ((nI i).toInt64 &&& 63)) ^^^ (-1))), ?_, ?_, ?_⟩
          · rw [e1, e_98_9]
            have x1 : u2 J1 15 1 (J1 15 1 ||| ((1 : Int64) <<< ((nI i).toInt64 &&& 63))) 15 0 = J1 15 0 := u2_k _ _ _ _ _ (by decide)
            simp (disch := first | assumption | omega) [k_St, n_St, i_St, j_St, r_St, wI_St, wJ_St, k_S0, n_S0, i_S0, j_S0, r_S0, wI_S0, wJ_S0, cI_s, cJ_s, cV_s, nR_s, nQ_s, nQ_n, lt_s_, gd_T, gd_t, Option.map_some, lits, neg_mI, nI_add, pk_mul, nI_clamp, nI_eq, nI_leI, nI_ltI, nm_eq, mn_eq, nm_lt, mn_lt, nm_le, mn_le, m_eq, bI_0, bI_1, if_neg, kp, k15, a1, a2, c2, x1]
          · intro x hx
            obtain ⟨b2, b3⟩ := b1 x hx
            rw [eB, c1]
            simp only [Bool.true_and, c2, decide_true, if_true]
            rw [u2_s, u2_k _ _ _ _ _ (by decide), u2_s, hb_a _ hi' hx, hb_o _ hi', b2, b3]
            constructor
            · by_cases e : x = i
              · subst e; rw [up_s]; simp
              · rw [up_n (by omega), up_n (by omega)]; simp [e]
            · rw [up_n (show 81 + x ≠ 17 + i by omega)]
              by_cases e : x = i
              · subst e; rw [up_s]; simp
              · rw [up_n (by omega)]; simp [e]
          · intro a ha
            rw [u2_a _ _ _ _ _ ha, u2_a _ _ _ _ _ ha]; exact g1 a ha
        · refine ⟨J1, ?_, ?_, g1⟩
          · rw [e1, e_98_9]
            simp (disch := first | assumption | omega) [k_St, n_St, i_St, j_St, r_St, wI_St, wJ_St, k_S0, n_S0, i_S0, j_S0, r_S0, wI_S0, wJ_S0, cI_s, cJ_s, cV_s, nR_s, nQ_s, nQ_n, lt_s_, gd_T, gd_t, Option.map_some, lits, neg_mI, nI_add, pk_mul, nI_clamp, nI_eq, nI_leI, nI_ltI, nm_eq, mn_eq, nm_lt, mn_lt, nm_le, mn_le, m_eq, bI_0, bI_1, if_neg, if_pos, kp, a1, a2, c2]
          · rw [eB, c1]; simpa [c2] using b1
  obtain ⟨J1, e1, b1, g1⟩ := A 64 (Nat.le_refl _)
  have hF1 : PI I J1 p F := PI_c hF (fun _ _ _ => rfl) (g1 p (by omega))
  have q8 := hF1.1 8 (by decide)
  have w4 := hR.1.2.2.2.1
  have B : ∀ i, i ≤ F 0 8 → ∃ I', Am lx 98 50 [some (.ref (z + 15)), some (.ref (z + p)), none, none, some (.int (nI (msk (hit F ρ c r) (F 0 8)))), some (.int (nI 0))] [] (0, 0) (St z E n K N R (u2 I 15 3 (nI (msk (fun g => decide (ρ (8 + g) = 1) || hit F ρ c r g) (F 0 8)))) J1) = Am lx 98 50 [some (.ref (z + 15)), some (.ref (z + p)), none, none, some (.int (nI (msk (hit F ρ c r) (F 0 8)))), some (.int (nI i))] [] (0, 0) (St z E n K N R I' J1) ∧ (∀ g, g < F 0 8 → I' 17 g = nI (if g < i ∧ hit F ρ c r g = true then 0 else if dgg F ρ g then ρ (4 + g) else 0)) ∧ ∀ a, a ≠ 17 → I' a = u2 I 15 3 (nI (msk (fun g => decide (ρ (8 + g) = 1) || hit F ρ c r g) (F 0 8))) a := by
    intro i
    induction i with
    | zero =>
      intro _
      refine ⟨_, rfl, ?_, fun _ _ => rfl⟩
      intro g hg
      have := hR.1.2.1 g hg
      rw [u2_a _ _ _ _ _ (by decide)]
      simpa using this
    | succ i ih =>
      intro hi
      obtain ⟨I1, e2, b2, g2⟩ := ih (by omega)
      have q : I1 p 8 = nI (F 0 8) := by rw [g2 p (by omega), u2_a _ _ _ _ _ (by omega)]; exact q8
      have t := bt_t (msk_16 (hit F ρ c r) o8) (show i < 4 by omega)
      rw [msk_b _ o8 (by omega)] at t
      cases hp : hit F ρ c r i
      · rw [hp] at t
        refine ⟨I1, ?_, ?_, g2⟩
        · rw [e2, e_98_50]
          simp (disch := first | assumption | omega) [k_St, n_St, i_St, j_St, r_St, wI_St, wJ_St, k_S0, n_S0, i_S0, j_S0, r_S0, wI_S0, wJ_S0, cI_s, cJ_s, cV_s, nR_s, nQ_s, nQ_n, lt_s_, gd_T, gd_t, Option.map_some, lits, neg_mI, nI_add, pk_mul, nI_clamp, nI_eq, nI_leI, nI_ltI, nm_eq, mn_eq, nm_lt, mn_lt, nm_le, mn_le, m_eq, bI_0, bI_1, if_neg, kp, q, t]
        · intro g hg
          rw [b2 g hg]
          congr 1
          by_cases e : g = i
          · subst e; simp [hp]
          · have : g < i + 1 ↔ g < i := by omega
            simp [this]
      · rw [hp] at t
        refine ⟨u2 I1 17 i (nI 0), ?_, ?_, ?_⟩
        · rw [e2, e_98_50]
          simp (disch := first | assumption | omega) [k_St, n_St, i_St, j_St, r_St, wI_St, wJ_St, k_S0, n_S0, i_S0, j_S0, r_S0, wI_S0, wJ_S0, cI_s, cJ_s, cV_s, nR_s, nQ_s, nQ_n, lt_s_, gd_T, gd_t, Option.map_some, lits, neg_mI, nI_add, pk_mul, nI_clamp, nI_eq, nI_leI, nI_ltI, nm_eq, mn_eq, nm_lt, mn_lt, nm_le, mn_le, m_eq, bI_0, bI_1, if_neg, kp, q, t, k15, wr2, wk2, wn2]
        · intro g hg
          by_cases e : g = i
          · subst e; rw [u2_s]; simp [hp]
          · rw [u2_k _ _ _ _ _ e, b2 g hg]
            have : g < i + 1 ↔ g < i := by omega
            simp [this]
        · intro a ha
          rw [u2_a _ _ _ _ _ ha]; exact g2 a ha
  obtain ⟨I2, e2, b2, g2⟩ := B (F 0 8) (Nat.le_refl _)
  have q2 : I2 p 8 = nI (F 0 8) := by rw [g2 p (by omega), u2_a _ _ _ _ _ (by omega)]; exact q8
  refine ⟨I2, J1, ?_, ⟨⟨?_, ?_, ?_, ?_, ?_, ?_⟩, ?_⟩, ?_⟩
  · rw [f_98]
    have z0 : (0 : Int32) = nI 0 := rfl
    simp only [k_St, k15, gd_t, e4, cI_s, z0]
    rw [e1, e_98_9]
    simp (disch := first | assumption | omega) [k_St, n_St, i_St, j_St, r_St, wI_St, wJ_St, k_S0, n_S0, i_S0, j_S0, r_S0, wI_S0, wJ_S0, cI_s, cJ_s, cV_s, nR_s, nQ_s, nQ_n, lt_s_, gd_T, gd_t, Option.map_some, lits, neg_mI, nI_add, pk_mul, nI_clamp, nI_eq, nI_leI, nI_ltI, nm_eq, mn_eq, nm_lt, mn_lt, nm_le, mn_le, m_eq, bI_0, bI_1, if_pos, k15, w4, msk_or _ _ o8, e2]
    rw [e_98_50]
    simp (disch := first | assumption | omega) [k_St, n_St, i_St, j_St, r_St, wI_St, wJ_St, k_S0, n_S0, i_S0, j_S0, r_S0, wI_S0, wJ_S0, cI_s, cJ_s, cV_s, nR_s, nQ_s, nQ_n, lt_s_, gd_T, gd_t, Option.map_some, lits, neg_mI, nI_add, pk_mul, nI_clamp, nI_eq, nI_leI, nI_ltI, nm_eq, mn_eq, nm_lt, mn_lt, nm_le, mn_le, m_eq, bI_0, bI_1, if_pos, kp, q2]
  · intro g hg
    rw [g2 (15 + 1) (by omega), u2_a _ _ _ _ _ (by omega), exq_lo o8 (by omega)]; exact hR.1.1 g hg
  · intro g hg
    rw [b2 g hg, exq_d o8 hg, exq_lo o8 (by omega)]
    cases hp : hit F ρ c r g <;> simp [hg]
  · intro d hd
    rw [g2 (15 + 3) (by omega), u2_a _ _ _ _ _ (by omega), exq_lo o8 (by omega)]; exact hR.1.2.2.1 d hd
  · rw [g2 15 (by omega), u2_s]
    congr 1
    apply msk_c
    intro g hg
    rw [exq_sh o8 hg]
    cases hit F ρ c r g <;> simp
  · intro x hx
    rw [(b1 x hx).1, exq_hi o8 (by omega)]
  · intro x hx
    rw [(b1 x hx).2, exq_hi o8 (by omega)]
  · rw [g2 15 (by omega), u2_k _ _ _ _ _ (by decide), exq_lo o8 (by omega)]; exact hR.2
  · intro a ha
    refine ⟨?_, g1 a (by omega)⟩
    rw [g2 a (by omega), u2_a _ _ _ _ _ (by omega)]
end ACT2
