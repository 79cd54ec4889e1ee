section SEC2
variable {z : Nat} {E : aEt} {n : Nat} {K N : Nat → Nat} {R : Nat → Nat → Option Nat} {I : Nat → Nat → Int32} {J : Nat → Nat → Int64} {lx : List Value → aH → aO} {p s f : Nat} {F : Nat → Nat → Nat} {ρ : Nat → Nat}
/-- the reference's fits -/
theorem s_279 (h : MD K N R I f F) {one m : Nat} (h1 : one < 320) (hs : isS F (one / 5) = true) (hm : m ≤ 60) : Ca lx 279 [.ref (z + 132), .int (nI one), .int (nI m)] (St z E n K N R I J) = some (some (.int (nI (stp F (one % 5) (m / F 0 2) (one / 5)))), (St z E n K N R I J)) := by
  have hO := h.2.2.2.2
  have km := h.1.1
  have kf := h.2.1.2.1
  have rf := h.2.2.1
  have q2 := h.2.2.2.1.1 2 (by decide)
  obtain ⟨o0, o0x, o1, o2, o2x, o3, o4, o4x, o5, o5x, o6, o7, o8, o9, oS, oD, oG, oH⟩ := hO
  have dv : nI m / nI (F 0 2) = nI (m / F 0 2) := pk_div (by omega) (by omega) (by omega)
  have dl : m / F 0 2 ≤ 60 := Nat.le_trans (Nat.div_le_self _ _) hm
  have d5 : nI one / nI 5 = nI (one / 5) := pk_div (by omega) (by omega) (by omega)
  have r5 : nI one - nI one / nI 5 * nI 5 = nI (one % 5) := pk_rem (by omega) (by omega) (by omega)
  have r5' := r5
  rw [d5, pk_mul] at r5'
  have A : ∀ j x, j ≤ 60 → isS F x = true → Am lx 279 11 [some (.ref (z + 132)), some (.int (nI one)), none, some (.int (nI x)), some (.int (nI j)), none] [] (0, 0) (St z E n K N R I J) = some (some (.int (nI (stp F (one % 5) j x))), (St z E n K N R I J)) := by
    intro j
    induction j with
    | zero =>
      intro x _ hx
      rw [e_279_11]
      simp (disch := first | assumption | omega) [k_St, n_St, i_St, j_St, r_St, wI_St, wJ_St, k_S0, n_S0, i_S0, j_S0, r_S0, wI_S0, wJ_S0, cI_s, cJ_s, cV_s, nR_s, nQ_s, nQ_n, lt_s_, gd_T, gd_t, Option.map_some, lits, neg_mI, nI_add, pk_mul, nI_clamp, nI_eq, nI_leI, nI_ltI, nm_eq, mn_eq, nm_lt, mn_lt, nm_le, mn_le, m_eq, bI_0, bI_1, if_pos, stp]
    | succ j ih =>
      intro x hj hx
      rw [e_279_11, stp]
      have pr1 : nI (j + 1) + mI 1 = nI j := pk_m1 j
      have xl := isS_lt hx
      by_cases w0 : one % 5 = 0
      · have no : isS F (nxc x (one % 5)) = false := by rw [w0]; simp [nxc, isS]
        rw [no]
        simp (disch := first | assumption | omega) [k_St, n_St, i_St, j_St, r_St, wI_St, wJ_St, k_S0, n_S0, i_S0, j_S0, r_S0, wI_S0, wJ_S0, cI_s, cJ_s, cV_s, nR_s, nQ_s, nQ_n, lt_s_, gd_T, gd_t, Option.map_some, lits, neg_mI, nI_add, pk_mul, nI_clamp, nI_eq, nI_leI, nI_ltI, nm_eq, mn_eq, nm_lt, mn_lt, nm_le, mn_le, m_eq, bI_0, bI_1, if_neg, if_pos, r5, w0]
      · have e177 := s_177 (lx := lx) (z := z) (E := E) (n := n) (J := J) h xl (isS_in hx) (show one % 5 < 5 by omega) (by omega)
        have e179 := s_179 (lx := lx) (z := z) (E := E) (n := n) (J := J) h (nf F x (one % 5))
        rw [nf_S] at e179
        cases e : isS F (nxc x (one % 5))
        · rw [e] at e179
          simp (disch := first | assumption | omega) [k_St, n_St, i_St, j_St, r_St, wI_St, wJ_St, k_S0, n_S0, i_S0, j_S0, r_S0, wI_S0, wJ_S0, cI_s, cJ_s, cV_s, nR_s, nQ_s, nQ_n, lt_s_, gd_T, gd_t, Option.map_some, lits, neg_mI, nI_add, pk_mul, nI_clamp, nI_eq, nI_leI, nI_ltI, nm_eq, mn_eq, nm_lt, mn_lt, nm_le, mn_le, m_eq, bI_0, bI_1, if_neg, r5, w0, km, rf, kf, e177, e179]
        · rw [e] at e179
          have hn := isS_lt e
          rw [nf_e e, oI_lt hn] at e177 e179
          have i1 := ih (nxc x (one % 5)) (by omega) e
          simp (disch := first | assumption | omega) [k_St, n_St, i_St, j_St, r_St, wI_St, wJ_St, k_S0, n_S0, i_S0, j_S0, r_S0, wI_S0, wJ_S0, cI_s, cJ_s, cV_s, nR_s, nQ_s, nQ_n, lt_s_, gd_T, gd_t, Option.map_some, lits, neg_mI, nI_add, pk_mul, nI_clamp, nI_eq, nI_leI, nI_ltI, nm_eq, mn_eq, nm_lt, mn_lt, nm_le, mn_le, m_eq, bI_0, bI_1, if_neg, r5, w0, km, rf, kf, e177, e179, pr1, i1]
  rw [f_279]
  have a := A (m / F 0 2) (one / 5) dl hs
  simp (disch := first | assumption | omega) [k_St, n_St, i_St, j_St, r_St, wI_St, wJ_St, k_S0, n_S0, i_S0, j_S0, r_S0, wI_S0, wJ_S0, cI_s, cJ_s, cV_s, nR_s, nQ_s, nQ_n, lt_s_, gd_T, gd_t, Option.map_some, lits, neg_mI, nI_add, pk_mul, nI_clamp, nI_eq, nI_leI, nI_ltI, nm_eq, mn_eq, nm_lt, mn_lt, nm_le, mn_le, m_eq, bI_0, bI_1, km, rf, kf, q2, d5, dv, a]
theorem s_280 (h : MD K N R I f F) {one : Nat} (h1 : one < 320) (hs : isS F (one / 5) = true) : Ca lx 280 [.ref (z + 132), .int (nI one)] (St z E n K N R I J) = some (some (.int (bI (!anyB (fun k => !hkP F one k) (F 0 9)))), (St z E n K N R I J)) := by
  have hO := h.2.2.2.2
  have hh := h
  have q9 := h.2.2.2.1.1 9 (by decide)
  have q1 := h.2.2.2.1.1 1 (by decide)
  obtain ⟨⟨km, _⟩, ⟨f0, kf, _, r13, _, _, _, r17, r18, r19, _, _, _, _, k2, _, _, _, k6, k7, k8, _, _, _, _, n2, _, _, _, n6, n7, n8, _⟩, rf, ⟨_, _, g2, _, _, _, g6⟩, _⟩ := hh
  obtain ⟨o0, o0x, o1, o2, o2x, o3, o4, o4x, o5, o5x, o6, o7, o8, o9, oS, oD, oG, oH⟩ := hO
  have st : ∀ i, i < F 0 9 → Am lx 280 3 [some (.ref (z + 132)), some (.int (nI one)), some (.int (nI i))] [] (0, 0) (St z E n K N R I J) = if hkP F one i then Am lx 280 3 [some (.ref (z + 132)), some (.int (nI one)), some (.int (nI (i + 1)))] [] (0, 0) (St z E n K N R I J) else some (some (.int (nI 0)), (St z E n K N R I J)) := by
    intro i hi
    obtain ⟨h6, h7, h8⟩ := oH i hi
    obtain ⟨a6, a7, a8⟩ := g6 i hi
    have a2 := g2 (F 6 i) h6
    have dl := isS_lt (oD (F 6 i) h6)
    have e79 := s_279 (lx := lx) (z := z) (E := E) (n := n) (J := J) h h1 hs h7
    have pl1 := isS_lt (stp_S (w := one % 5) (F 7 i / F 0 2) (one / 5) hs)
    have e4 := s_191 (lx := lx) dl pl1
    rw [apt_c] at e4
    have al := apt_le pl1 dl
    have ac := ab_m al h8 o1
    have e87 := s_187 (lx := lx) (nI (apt (stp F (one % 5) (F 7 i / F 0 2) (one / 5)) (F 2 (F 6 i))) - nI (F 8 i)) (mI (F 0 1)) (nI (F 0 1))
    rw [ac] at e87
    rw [e_280_3]
    unfold hkP
    by_cases q : abd (apt (stp F (one % 5) (F 7 i / F 0 2) (one / 5)) (F 2 (F 6 i))) (F 8 i) ≤ F 0 1
    · simp only [q, decide_true] at e87
      simp (disch := first | assumption | omega) [k_St, n_St, i_St, j_St, r_St, wI_St, wJ_St, k_S0, n_S0, i_S0, j_S0, r_S0, wI_S0, wJ_S0, cI_s, cJ_s, cV_s, nR_s, nQ_s, nQ_n, lt_s_, gd_T, gd_t, Option.map_some, lits, neg_mI, nI_add, pk_mul, nI_clamp, nI_eq, nI_leI, nI_ltI, nm_eq, mn_eq, nm_lt, mn_lt, nm_le, mn_le, m_eq, bI_0, bI_1, if_neg, km, rf, kf, q9, q1, r13, r17, k6, n6, a6, k2, n2, r18, k7, n7, a7, e79, a2, e4, r19, k8, n8, a8, e87, q]
    · simp only [q, decide_false] at e87
      simp (disch := first | assumption | omega) [k_St, n_St, i_St, j_St, r_St, wI_St, wJ_St, k_S0, n_S0, i_S0, j_S0, r_S0, wI_S0, wJ_S0, cI_s, cJ_s, cV_s, nR_s, nQ_s, nQ_n, lt_s_, gd_T, gd_t, Option.map_some, lits, neg_mI, nI_add, pk_mul, nI_clamp, nI_eq, nI_leI, nI_ltI, nm_eq, mn_eq, nm_lt, mn_lt, nm_le, mn_le, m_eq, bI_0, bI_1, if_neg, km, rf, kf, q9, q1, r13, r17, k6, n6, a6, k2, n2, r18, k7, n7, a7, e79, a2, e4, r19, k8, n8, a8, e87, q]
  rw [f_280]
  have z0 : (0 : Int32) = nI 0 := rfl
  rw [z0]
  rcases first_ (fun k => !hkP F one k) (F 0 9) with hf | ⟨m, hm, c1, c2⟩
  · have L := loopN (X := fun i => Am lx 280 3 [some (.ref (z + 132)), some (.int (nI one)), some (.int (nI i))] [] (0, 0) (St z E n K N R I J)) (n := F 0 9) (by
      intro i hi
      try simp only
      rw [st i hi, if_pos (by simpa using hf i hi)])
    try simp only at L
    rw [L, e_280_3, anyB_f.mpr hf]
    simp (disch := first | assumption | omega) [k_St, n_St, i_St, j_St, r_St, wI_St, wJ_St, k_S0, n_S0, i_S0, j_S0, r_S0, wI_S0, wJ_S0, cI_s, cJ_s, cV_s, nR_s, nQ_s, nQ_n, lt_s_, gd_T, gd_t, Option.map_some, lits, neg_mI, nI_add, pk_mul, nI_clamp, nI_eq, nI_leI, nI_ltI, nm_eq, mn_eq, nm_lt, mn_lt, nm_le, mn_le, m_eq, bI_0, bI_1, km, rf, kf, q9]; rfl
  · have L := loopN (X := fun i => Am lx 280 3 [some (.ref (z + 132)), some (.int (nI one)), some (.int (nI i))] [] (0, 0) (St z E n K N R I J)) (n := m) (by
      intro i hi
      try simp only
      rw [st i (by omega), if_pos (by simpa using c2 i hi)])
    try simp only at L
    rw [L, st m hm, if_neg (by simpa using c1), anyB_m hm c1]; rfl
/-- what holds once the reference has gone through all -/
def MFt (I I' : Nat → Nat → Int32) (F : Nat → Nat → Nat) : Prop := (∀ k, k < fct F → I' 143 k = nI (fa F 320 k)) ∧ I' 132 31 = nI (fct F) ∧ (∀ a, a ≠ 132 → a ≠ 143 → I' a = I a) ∧ ∀ k, k ≠ 31 → I' 132 k = I 132 k
theorem d_281 (h : MD K N R I f F) : ∃ I', Ca lx 281 [.ref (z + 132)] (St z E n K N R I J) = some (none, St z E n K N R I' J) ∧ MFt I I' F := by
  obtain ⟨km, _, _, _, _, _, _, _, _, _, _, r28, _, _, _, _, _, _, _, _, _, _, _, _, k143, _, _, _, _, _, _, _, _, _, _, _, _, n143, _⟩ := h.1
  have A : ∀ m, m ≤ 320 → ∃ I', Am lx 281 6 [some (.ref (z + 132)), some (.int (nI 0))] [] (0, 0) (St z E n K N R (u2 I 132 31 (nI 0)) J) = Am lx 281 6 [some (.ref (z + 132)), some (.int (nI m))] [] (0, 0) (St z E n K N R I' J) ∧ (∀ k, k < ctB (ftP F) m → I' 143 k = nI (fa F m k)) ∧ I' 132 31 = nI (ctB (ftP F) m) ∧ (∀ a, a ≠ 132 → a ≠ 143 → I' a = I a) ∧ ∀ k, k ≠ 31 → I' 132 k = I 132 k := by
    intro m
    induction m with
    | zero =>
      intro _
      exact ⟨_, rfl, fun k hk => by simp [ctB] at hk, u2_s _ _ _ _, fun a h1 _ => u2_a _ _ _ _ _ h1, fun k hk => u2_k _ _ _ _ _ hk⟩
    | succ m ih =>
      intro hm
      obtain ⟨I1, e1, a1, a2, a3, a4⟩ := ih (by omega)
      have md1 : MD K N R I1 f F := MD_c h (fun a ha => a3 a (by omega) (by omega))
      have d5 : nI m / nI 5 = nI (m / 5) := pk_div (by omega) (by omega) (by omega)
      have e67 := s_267 (lx := lx) (z := z) (E := E) (n := n) (J := J) md1 (show m / 5 < 64 by omega)
      have cl := ctB_le (ftP F) m
      cases hs : isS F (m / 5)
      · have nf' : ftP F m = false := by simp [ftP, hs]
        rw [hs] at e67
        refine ⟨I1, ?_, ?_, ?_, a3, a4⟩
        · rw [e1, e_281_6]
          simp (disch := first | assumption | omega) [k_St, n_St, i_St, j_St, r_St, wI_St, wJ_St, k_S0, n_S0, i_S0, j_S0, r_S0, wI_S0, wJ_S0, cI_s, cJ_s, cV_s, nR_s, nQ_s, nQ_n, lt_s_, gd_T, gd_t, Option.map_some, lits, neg_mI, nI_add, pk_mul, nI_clamp, nI_eq, nI_leI, nI_ltI, nm_eq, mn_eq, nm_lt, mn_lt, nm_le, mn_le, m_eq, bI_0, bI_1, if_neg, d5, km, e67]
        · intro k hk
          rw [ctB, nf'] at hk
          rw [fa, nf']
          simpa using a1 k (by simpa using hk)
        · rw [ctB, nf']; simpa using a2
      · rw [hs] at e67
        have e80 := s_280 (lx := lx) (z := z) (E := E) (n := n) (J := J) md1 (show m < 320 by omega) hs
        cases ha : anyB (fun k => !hkP F m k) (F 0 9)
        · have yf : ftP F m = true := by simp [ftP, hs, ha]
          rw [ha] at e80
          refine ⟨u2 (u2 I1 143 (ctB (ftP F) m) (nI m)) 132 31 (nI (ctB (ftP F) m + 1)), ?_, ?_, ?_, ?_, ?_⟩
          · rw [e1, e_281_6]
            have x31 : u2 I1 143 (ctB (ftP F) m) (nI m) 132 31 = nI (ctB (ftP F) m) := by rw [u2_a _ _ _ _ _ (by decide)]; exact a2
            simp (disch := first | assumption | omega) [k_St, n_St, i_St, j_St, r_St, wI_St, wJ_St, k_S0, n_S0, i_S0, j_S0, r_S0, wI_S0, wJ_S0, cI_s, cJ_s, cV_s, nR_s, nQ_s, nQ_n, lt_s_, gd_T, gd_t, Option.map_some, lits, neg_mI, nI_add, pk_mul, nI_clamp, nI_eq, nI_leI, nI_ltI, nm_eq, mn_eq, nm_lt, mn_lt, nm_le, mn_le, m_eq, bI_0, bI_1, if_neg, d5, km, e67, e80, r28, a2, k143, n143, x31]
          · intro k hk
            rw [ctB, yf] at hk
            rw [fa, yf, u2_a _ _ _ _ _ (by decide)]
            simp only [if_true]
            by_cases c : k = ctB (ftP F) m
            · rw [c, u2_s, up_s]
            · rw [u2_k _ _ _ _ _ c, up_n c]
              exact a1 k (by simp at hk; omega)
          · rw [u2_s, ctB, yf]; rfl
          · intro a h1 h2
            rw [u2_a _ _ _ _ _ h1, u2_a _ _ _ _ _ h2]; exact a3 a h1 h2
          · intro k hk
            rw [u2_k _ _ _ _ _ hk, u2_a _ _ _ _ _ (by decide)]; exact a4 k hk
        · have nf' : ftP F m = false := by simp [ftP, ha]
          rw [ha] at e80
          refine ⟨I1, ?_, ?_, ?_, a3, a4⟩
          · rw [e1, e_281_6]
            simp (disch := first | assumption | omega) [k_St, n_St, i_St, j_St, r_St, wI_St, wJ_St, k_S0, n_S0, i_S0, j_S0, r_S0, wI_S0, wJ_S0, cI_s, cJ_s, cV_s, nR_s, nQ_s, nQ_n, lt_s_, gd_T, gd_t, Option.map_some, lits, neg_mI, nI_add, pk_mul, nI_clamp, nI_eq, nI_leI, nI_ltI, nm_eq, mn_eq, nm_lt, mn_lt, nm_le, mn_le, m_eq, bI_0, bI_1, if_neg, d5, km, e67, e80]
          · intro k hk
            rw [ctB, nf'] at hk
            rw [fa, nf']
            simpa using a1 k (by simpa using hk)
          · rw [ctB, nf']; simpa using a2
  obtain ⟨I1, e1, a1, a2, a3, a4⟩ := A 320 (Nat.le_refl _)
  refine ⟨I1, ?_, a1, a2, a3, a4⟩
  rw [f_281]
  simp (disch := first | assumption | omega) [k_St, n_St, i_St, j_St, r_St, wI_St, wJ_St, k_S0, n_S0, i_S0, j_S0, r_S0, wI_S0, wJ_S0, cI_s, cJ_s, cV_s, nR_s, nQ_s, nQ_n, lt_s_, gd_T, gd_t, Option.map_some, lits, neg_mI, nI_add, pk_mul, nI_clamp, nI_eq, nI_leI, nI_ltI, nm_eq, mn_eq, nm_lt, mn_lt, nm_le, mn_le, m_eq, bI_0, bI_1, km, e1]
  rw [e_281_6]
  simp (disch := first | assumption | omega) [k_St, n_St, i_St, j_St, r_St, wI_St, wJ_St, k_S0, n_S0, i_S0, j_S0, r_S0, wI_S0, wJ_S0, cI_s, cJ_s, cV_s, nR_s, nQ_s, nQ_n, lt_s_, gd_T, gd_t, Option.map_some, lits, neg_mI, nI_add, pk_mul, nI_clamp, nI_eq, nI_leI, nI_ltI, nm_eq, mn_eq, nm_lt, mn_lt, nm_le, mn_le, m_eq, bI_0, bI_1, if_pos]
end SEC2
