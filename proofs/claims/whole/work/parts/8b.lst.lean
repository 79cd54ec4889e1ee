/-! galleries led to their ends; sizes -/
def ldS (F : Nat → Nat → Nat) (ρ : Nat → Nat) (x : Int32) : Nat → Nat → Nat → Option Nat
  | 0, _, _ => none
  | t + 1, g, sn => if dgg F ρ g then ldS F ρ x t (g + 1) sn else if nI sn = x then some g else ldS F ρ x t (g + 1) (sn + 1)
section LST
variable {z : Nat} {E : aEt} {n : Nat} {K N : Nat → Nat} {R : Nat → Nat → Option Nat} {I : Nat → Nat → Int32} {J : Nat → Nat → Int64} {lx : List Value → aH → aO} {p s f : Nat} {F : Nat → Nat → Nat} {ρ : Nat → Nat} {cnt img : Nat} {H M : Nat → Nat → Nat}
def ldV (o : Option Nat) : Value := o.elim (.retAddr 7) (fun g => .int (nI g))
theorem c_316 (h : CW K N R I J p s F ρ) (x : Int32) : Ca lx 316 [.ref z, .int x] (St z E n K N R I J) = some (some (ldV (ldS F ρ x (F 0 8) 0 0)), (St z E n K N R I J)) := by
  obtain ⟨hL, ⟨hW15, hW19, hP, hPs, hps, _⟩, h10, hF, hO, hR, hρ, _, h16⟩ := h
  have hL' := hL
  unfold CL at hL'
  have k0 : K 0 = 9 := by simp [hL']
  have r1 : R 0 1 = some 15 := by simp [hL']
  have rp : R 0 8 = some p := by simp [hL']
  have kp := hP.1
  have k15 := hW15.1
  have o8 : F 0 8 ≤ 4 := hO.2.2.2.2.2.2.2.2.2.2.2.2.1
  have q8 := hF.1 8 (by decide)
  have A : ∀ t g sn, g + t = F 0 8 → Am lx 316 5 [some (.ref z), some (.int x), some (.int (nI sn)), some (.int (nI g))] [] (1, 6) (St z E n K N R I J) = some (some (ldV (ldS F ρ x t g sn)), (St z E n K N R I J)) := by
    intro t
    induction t with
    | zero =>
      intro g sn hg
      rw [e_316_5]
      simp (disch := first | assumption | omega) [k_St, n_St, i_St, j_St, r_St, wI_St, wJ_St, k_S0, n_S0, i_S0, j_S0, r_S0, wI_S0, wJ_S0, cI_s, cJ_s, cV_s, nR_s, nQ_s, nQ_n, lt_s_, gd_T, gd_t, Option.map_some, lits, neg_mI, nI_add, pk_mul, nI_clamp, nI_eq, nI_leI, nI_ltI, nm_eq, mn_eq, nm_lt, mn_lt, nm_le, mn_le, m_eq, bI_0, bI_1, if_pos, k0, rp, kp, q8, ldS, ldV]
    | succ t ih =>
      intro g sn hg
      have e := s_102 (lx := lx) (z := z) (E := E) (n := n) hW15 hR hO hρ (show g < F 0 8 by omega)
      rw [e_316_5, ldS]
      cases hd : dgg F ρ g
      · rw [hd] at e
        by_cases c : nI sn = x
        · simp (disch := first | assumption | omega) [k_St, n_St, i_St, j_St, r_St, wI_St, wJ_St, k_S0, n_S0, i_S0, j_S0, r_S0, wI_S0, wJ_S0, cI_s, cJ_s, cV_s, nR_s, nQ_s, nQ_n, lt_s_, gd_T, gd_t, Option.map_some, lits, neg_mI, nI_add, pk_mul, nI_clamp, nI_eq, nI_leI, nI_ltI, nm_eq, mn_eq, nm_lt, mn_lt, nm_le, mn_le, m_eq, bI_0, bI_1, if_neg, k0, rp, kp, q8, r1, k15, e, c, ldV]
        · have i1 := ih (g + 1) (sn + 1) (by omega)
          simp (disch := first | assumption | omega) [k_St, n_St, i_St, j_St, r_St, wI_St, wJ_St, k_S0, n_S0, i_S0, j_S0, r_S0, wI_S0, wJ_S0, cI_s, cJ_s, cV_s, nR_s, nQ_s, nQ_n, lt_s_, gd_T, gd_t, Option.map_some, lits, neg_mI, nI_add, pk_mul, nI_clamp, nI_eq, nI_leI, nI_ltI, nm_eq, mn_eq, nm_lt, mn_lt, nm_le, mn_le, m_eq, bI_0, bI_1, if_neg, k0, rp, kp, q8, r1, k15, e, c, i1]
      · rw [hd] at e
        have i1 := ih (g + 1) sn (by omega)
        simp (disch := first | assumption | omega) [k_St, n_St, i_St, j_St, r_St, wI_St, wJ_St, k_S0, n_S0, i_S0, j_S0, r_S0, wI_S0, wJ_S0, cI_s, cJ_s, cV_s, nR_s, nQ_s, nQ_n, lt_s_, gd_T, gd_t, Option.map_some, lits, neg_mI, nI_add, pk_mul, nI_clamp, nI_eq, nI_leI, nI_ltI, nm_eq, mn_eq, nm_lt, mn_lt, nm_le, mn_le, m_eq, bI_0, bI_1, if_neg, k0, rp, kp, q8, r1, k15, e, i1]
  rw [f_316]
  exact A (F 0 8) 0 0 (by omega)
theorem d_311 (hM : MV K N R I f F ρ) (x : Int32) : Ca lx 311 [.ref (z + 132), .int x] (St z E n K N R I J) = some (some (.int ((ldS F ρ x (F 0 8) 0 0).elim (nI 0) nI)), St z E n K N R (u2 (pr (u2 I 132 0 (nI 0)) 135 145 ρ) 132 0 ((ldS F ρ x (F 0 8) 0 0).elim (nI 1) (fun _ => nI 0))) J) := by
  have hM0 := MV_0 hM
  have hρ := hM.2.2.1
  have e231 := s_231 (lx := lx) (z := z) (E := E) (n := n) (J := J) hM0.1 hM0.2.1
  obtain ⟨⟨km, _⟩, ⟨f0, kf, _⟩, rf, ⟨q0, _⟩, hO⟩ := hM0.1
  have o8 : F 0 8 ≤ 4 := hO.2.2.2.2.2.2.2.2.2.2.2.2.1
  have q8 : pr (u2 I 132 0 (nI 0)) 135 145 ρ f 8 = nI (F 0 8) := by rw [pr_n (by omega)]; exact q0 8 (by decide)
  have u0 : u2 (pr (u2 I 132 0 (nI 0)) 135 145 ρ) 132 0 (nI 0) = pr (u2 I 132 0 (nI 0)) 135 145 ρ := by
    rw [pr_x (by decide), u2_uu]
  have A : ∀ t g sn, g + t = F 0 8 → Am lx 311 13 [some (.ref (z + 132)), some (.int x), some (.int (nI sn)), some (.int (nI g))] [] (0, 0) (St z E n K N R (pr (u2 I 132 0 (nI 0)) 135 145 ρ) J) = some (some (.int ((ldS F ρ x t g sn).elim (nI 0) nI)), St z E n K N R (u2 (pr (u2 I 132 0 (nI 0)) 135 145 ρ) 132 0 ((ldS F ρ x t g sn).elim (nI 1) (fun _ => nI 0))) J) := by
    intro t
    induction t with
    | zero =>
      intro g sn hg
      rw [e_311_13]
      simp (disch := first | assumption | omega) [k_St, n_St, i_St, j_St, r_St, wI_St, wJ_St, k_S0, n_S0, i_S0, j_S0, r_S0, wI_S0, wJ_S0, cI_s, cJ_s, cV_s, nR_s, nQ_s, nQ_n, lt_s_, gd_T, gd_t, Option.map_some, lits, neg_mI, nI_add, pk_mul, nI_clamp, nI_eq, nI_leI, nI_ltI, nm_eq, mn_eq, nm_lt, mn_lt, nm_le, mn_le, m_eq, bI_0, bI_1, if_pos, km, rf, kf, q8, ldS, e_311_35]
    | succ t ih =>
      intro g sn hg
      have e := s_234 (lx := lx) (z := z) (E := E) (n := n) (J := J) hM0.1 (ROk_a hρ) (show g < F 0 8 by omega)
      rw [e_311_13, ldS]
      cases hd : dgg F ρ g
      · rw [hd] at e
        by_cases c : nI sn = x
        · simp (disch := first | assumption | omega) [k_St, n_St, i_St, j_St, r_St, wI_St, wJ_St, k_S0, n_S0, i_S0, j_S0, r_S0, wI_S0, wJ_S0, cI_s, cJ_s, cV_s, nR_s, nQ_s, nQ_n, lt_s_, gd_T, gd_t, Option.map_some, lits, neg_mI, nI_add, pk_mul, nI_clamp, nI_eq, nI_leI, nI_ltI, nm_eq, mn_eq, nm_lt, mn_lt, nm_le, mn_le, m_eq, bI_0, bI_1, if_neg, km, rf, kf, q8, e, c, u0]
        · have i1 := ih (g + 1) (sn + 1) (by omega)
          simp (disch := first | assumption | omega) [k_St, n_St, i_St, j_St, r_St, wI_St, wJ_St, k_S0, n_S0, i_S0, j_S0, r_S0, wI_S0, wJ_S0, cI_s, cJ_s, cV_s, nR_s, nQ_s, nQ_n, lt_s_, gd_T, gd_t, Option.map_some, lits, neg_mI, nI_add, pk_mul, nI_clamp, nI_eq, nI_leI, nI_ltI, nm_eq, mn_eq, nm_lt, mn_lt, nm_le, mn_le, m_eq, bI_0, bI_1, if_neg, km, rf, kf, q8, e, c, i1]
      · rw [hd] at e
        have i1 := ih (g + 1) sn (by omega)
        simp (disch := first | assumption | omega) [k_St, n_St, i_St, j_St, r_St, wI_St, wJ_St, k_S0, n_S0, i_S0, j_S0, r_S0, wI_S0, wJ_S0, cI_s, cJ_s, cV_s, nR_s, nQ_s, nQ_n, lt_s_, gd_T, gd_t, Option.map_some, lits, neg_mI, nI_add, pk_mul, nI_clamp, nI_eq, nI_leI, nI_ltI, nm_eq, mn_eq, nm_lt, mn_lt, nm_le, mn_le, m_eq, bI_0, bI_1, if_neg, km, rf, kf, q8, e, i1]
  rw [f_311]
  have a := A (F 0 8) 0 0 (by omega)
  simp (disch := first | assumption | omega) [k_St, n_St, i_St, j_St, r_St, wI_St, wJ_St, k_S0, n_S0, i_S0, j_S0, r_S0, wI_S0, wJ_S0, cI_s, cJ_s, cV_s, nR_s, nQ_s, nQ_n, lt_s_, gd_T, gd_t, Option.map_some, lits, neg_mI, nI_add, pk_mul, nI_clamp, nI_eq, nI_leI, nI_ltI, nm_eq, mn_eq, nm_lt, mn_lt, nm_le, mn_le, m_eq, bI_0, bI_1, km, rf, e231, a]
/-- what size tells -/
def szT (F : Nat → Nat → Nat) (ρ : Nat → Nat) (cnt img hd : Nat) (x : Int32) : Int32 := if rg x 13 then nI (match x.toNatClampNeg with | 0 => F 0 0 | 1 => F 0 1 | 2 => F 0 2 | 3 => F 0 3 | 4 => F 0 4 | 5 => F 0 5 | 6 => F 0 7 | 7 => F 0 8 | 8 => F 0 9 | 9 => ρ 16 | 10 => cnt | 11 => img | _ => hd) else mI 1
theorem rg_ne {x : Int32} {m k : Nat} (h : rg x m = false) (hk : k < m) (hm : m < 2 ^ 31) : ¬ x = nI k := by
  intro e; rw [e, rg_t hk hm] at h; cases h
theorem c_157 (h : CT K N R I J p s F ρ cnt img H M) {hd : Nat} (hh : I 2 1 = nI hd) (x : Int32) : Ca lx 157 [.ref z, .int x] (St z E n K N R I J) = some (some (.int (szT F ρ cnt img hd x)), (St z E n K N R I J)) := by
  obtain ⟨⟨hL, ⟨hW15, hW19, hP, hPs, hps, _⟩, h10, hF, hO, hR, hρ, hn, h16⟩, nxt, hH⟩ := h
  have hL' := hL
  unfold CL at hL'
  have k0 : K 0 = 9 := by simp [hL']
  have r0 : R 0 0 = some 1 := by simp [hL']
  have r1 : R 0 1 = some 15 := by simp [hL']
  have r3 : R 0 3 = some 23 := by simp [hL']
  have rp : R 0 8 = some p := by simp [hL']
  have k1 : K 1 = 3 := by simp [hL']
  have r10 : R 1 0 = some 2 := by simp [hL']
  have k2 : K 2 = 6 := by simp [hL']
  have k23 : K 23 = 1 := by simp [hL']
  have kp := hP.1
  have k15 := hW15.1
  have q := hF.1
  rw [f_157]
  unfold szT
  rcases rg_i x (n := 13) (by omega) with c | ⟨j, hj, ej⟩
  · have ne : ∀ k, k < 13 → ¬ x = nI k := fun k hk => rg_ne c hk (by omega)
    rw [c]
    simp [k_St, n_St, i_St, j_St, r_St, wI_St, wJ_St, k_S0, n_S0, i_S0, j_S0, r_S0, wI_S0, wJ_S0, cI_s, cJ_s, cV_s, nR_s, nQ_s, nQ_n, lt_s_, gd_T, gd_t, Option.map_some, lits, neg_mI, nI_add, pk_mul, nI_clamp, nI_eq, nI_leI, nI_ltI, nm_eq, mn_eq, nm_lt, mn_lt, nm_le, mn_le, m_eq, bI_0, bI_1, ne 0, ne 1, ne 2, ne 3, ne 4, ne 5, ne 6, ne 7, ne 8, ne 9, ne 10, ne 11, ne 12]
  · subst ej
    rw [rg_t hj (by omega), nI_clamp (by omega)]
    have js : j = 0 ∨ j = 1 ∨ j = 2 ∨ j = 3 ∨ j = 4 ∨ j = 5 ∨ j = 6 ∨ j = 7 ∨ j = 8 ∨ j = 9 ∨ j = 10 ∨ j = 11 ∨ j = 12 := by omega
    rcases js with e | e | e | e | e | e | e | e | e | e | e | e | e <;> subst e <;> simp (disch := first | assumption | omega) [k_St, n_St, i_St, j_St, r_St, wI_St, wJ_St, k_S0, n_S0, i_S0, j_S0, r_S0, wI_S0, wJ_S0, cI_s, cJ_s, cV_s, nR_s, nQ_s, nQ_n, lt_s_, gd_T, gd_t, Option.map_some, lits, neg_mI, nI_add, pk_mul, nI_clamp, nI_eq, nI_leI, nI_ltI, nm_eq, mn_eq, nm_lt, mn_lt, nm_le, mn_le, m_eq, bI_0, bI_1, k0, r0, r1, r3, rp, k1, r10, k2, k23, kp, k15, q, hn, hH.2.2.1, hH.2.2.2.2.1, hh]
theorem d_312 (h : MT K N R I f F ρ cnt img H M) {hd : Nat} (hh : I 132 6 = nI hd) (x : Int32) : Ca lx 312 [.ref (z + 132), .int x] (St z E n K N R I J) = some (some (.int (szT F ρ cnt img hd x)), St z E n K N R (u2 I 132 0 (nI 0)) J) := by
  have h0 := MT_0 h
  have v16 := h0.1.2.1 16 (by decide)
  obtain ⟨g1, g2, g3, _⟩ := h0.2
  have hh0 : u2 I 132 0 (nI 0) 132 6 = nI hd := by rw [u2_k _ _ _ _ _ (by decide)]; exact hh
  obtain ⟨⟨km, _, r16, r17, _, _, _, _, _, _, _, _, _, _, _, k134, k135, _, _, _, _, _, _, _, _, _, _, _, n134, n135, _⟩, ⟨f0, kf, _⟩, rf, ⟨q, _⟩, hO⟩ := h0.1.1
  rw [f_312]
  unfold szT
  have e87 := d_187 (lx := lx) x (m := 11) (by omega)
  rcases rg_i x (n := 13) (by omega) with c | ⟨j, hj, ej⟩
  · have n12 := rg_ne (k := 12) c (by omega) (by omega)
    have c11 : rg x 12 = false := by
      rcases rg_i x (n := 12) (by omega) with c2 | ⟨j, hj, ej⟩
      · exact c2
      · rw [ej, rg_t (show j < 13 by omega) (by omega)] at c; cases c
    rw [c]
    rw [c11] at e87
    simp [k_St, n_St, i_St, j_St, r_St, wI_St, wJ_St, k_S0, n_S0, i_S0, j_S0, r_S0, wI_S0, wJ_S0, cI_s, cJ_s, cV_s, nR_s, nQ_s, nQ_n, lt_s_, gd_T, gd_t, Option.map_some, lits, neg_mI, nI_add, pk_mul, nI_clamp, nI_eq, nI_leI, nI_ltI, nm_eq, mn_eq, nm_lt, mn_lt, nm_le, mn_le, m_eq, bI_0, bI_1, km, n12, e87]
  · subst ej
    rw [rg_t hj (by omega), nI_clamp (by omega)]
    by_cases j12 : j = 12
    · subst j12
      simp (disch := first | assumption | omega) [k_St, n_St, i_St, j_St, r_St, wI_St, wJ_St, k_S0, n_S0, i_S0, j_S0, r_S0, wI_S0, wJ_S0, cI_s, cJ_s, cV_s, nR_s, nQ_s, nQ_n, lt_s_, gd_T, gd_t, Option.map_some, lits, neg_mI, nI_add, pk_mul, nI_clamp, nI_eq, nI_leI, nI_ltI, nm_eq, mn_eq, nm_lt, mn_lt, nm_le, mn_le, m_eq, bI_0, bI_1, km, hh0]
    · rw [rg_t (show j < 12 by omega) (by omega)] at e87
      have js : j = 0 ∨ j = 1 ∨ j = 2 ∨ j = 3 ∨ j = 4 ∨ j = 5 ∨ j = 6 ∨ j = 7 ∨ j = 8 ∨ j = 9 ∨ j = 10 ∨ j = 11 := by omega
      rcases js with e | e | e | e | e | e | e | e | e | e | e | e <;> subst e <;> simp (disch := first | assumption | omega) [k_St, n_St, i_St, j_St, r_St, wI_St, wJ_St, k_S0, n_S0, i_S0, j_S0, r_S0, wI_S0, wJ_S0, cI_s, cJ_s, cV_s, nR_s, nQ_s, nQ_n, lt_s_, gd_T, gd_t, Option.map_some, lits, neg_mI, nI_add, pk_mul, nI_clamp, nI_eq, nI_leI, nI_ltI, nm_eq, mn_eq, nm_lt, mn_lt, nm_le, mn_le, m_eq, bI_0, bI_1, km, e87, rf, kf, q, r16, k134, n134, v16, g1, g3]
end LST
