section FLD
variable {z : Nat} {E : aEt} {n : Nat} {K N : Nat → Nat} {R : Nat → Nat → Option Nat} {I : Nat → Nat → Int32} {J : Nat → Nat → Int64} {lx : List Value → aH → aO} {p s f : Nat} {F : Nat → Nat → Nat} {ρ : Nat → Nat}
def CG (I I' : Nat → Nat → Int32) (F : Nat → Nat → Nat) (m : Nat) : Prop := (∀ k, k < ctB (ftP F) m → I' 109 k = nI (fa F m k / 5) ∧ I' 110 k = nI (fa F m k % 5)) ∧ I' 108 2 = nI (ctB (ftP F) m) ∧ (∀ a, a < 108 ∨ 110 < a → I' a = I a) ∧ ∀ k, k ≠ 2 → I' 108 k = I 108 k
theorem c_61 (hL : CL K N R p s) (hP : Pl K N R p) (hF : PI I J p F) (hO : FOk F) (hp : 114 ≤ p) : ∃ I', Ca lx 61 [.ref (z + 108), .ref (z + p)] (St z E n K N R I J) = some (none, St z E n K N R I' J) ∧ CSc I' F ∧ (∀ a, a < 108 ∨ 110 < a → I' a = I a) := by
  have hL' := hL
  unfold CL at hL'
  have k4 : K 108 = 4 := by simp [hL']
  have r0 : R 108 0 = some 109 := by simp [hL']
  have r1 : R 108 1 = some 110 := by simp [hL']
  have k9 : K 109 = 13 := by simp [hL']
  have n9 : N 109 = 320 := by simp [hL']
  have k10 : K 110 = 13 := by simp [hL']
  have n10 : N 110 = 320 := by simp [hL']
  have kp := hP.1
  have step : ∀ a t I1, a < 64 → t < 5 → CG I I1 F (a * 5 + t) → ∃ I2, Am lx 61 12 [some (.ref (z + 108)), some (.ref (z + p)), some (.int (nI a)), some (.int (nI t))] [] (0, 0) (St z E n K N R I1 J) = Am lx 61 12 [some (.ref (z + 108)), some (.ref (z + p)), some (.int (nI a)), some (.int (nI (t + 1)))] [] (0, 0) (St z E n K N R I2 J) ∧ CG I I2 F (a * 5 + (t + 1)) := by
    intro a t I1 ha ht hg
    obtain ⟨g1, g2, g3, g4⟩ := hg
    have hF1 : PI I1 J p F := PI_c hF (fun b b1 b2 => g3 b (by omega)) rfl
    have e26 := s_26c (lx := lx) (z := z) (E := E) (n := n) hP hF1 ha
    have d5 : (a * 5 + t) / 5 = a := by omega
    have m5 : (a * 5 + t) % 5 = t := by omega
    have cl := ctB_le (ftP F) (a * 5 + t)
    have sm : a * 5 + (t + 1) = a * 5 + t + 1 := by omega
    rw [sm]
    have keep : ftP F (a * 5 + t) = false → CG I I1 F (a * 5 + t + 1) := by
      intro nf'
      refine ⟨fun k hk => ?_, ?_, g3, g4⟩
      · rw [ctB, nf'] at hk
        rw [fa, nf']
        simpa using g1 k (by simpa using hk)
      · rw [ctB, nf']; simpa using g2
    cases hs : isS F a
    · rw [hs] at e26
      refine ⟨I1, ?_, keep (by simp [ftP, d5, hs])⟩
      rw [e_61_12]
      simp (disch := first | assumption | omega) [k_St, n_St, i_St, j_St, r_St, wI_St, wJ_St, k_S0, n_S0, i_S0, j_S0, r_S0, wI_S0, wJ_S0, cI_s, cJ_s, cV_s, nR_s, nQ_s, nQ_n, lt_s_, gd_T, gd_t, Option.map_some, lits, neg_mI, nI_add, pk_mul, nI_clamp, nI_eq, nI_leI, nI_ltI, nm_eq, mn_eq, nm_lt, mn_lt, nm_le, mn_le, m_eq, bI_0, bI_1, if_neg, kp, e26]
    · rw [hs] at e26
      have e62 := s_62 (lx := lx) (z := z) (E := E) (n := n) hP hF1 hO hs ht
      cases hq : anyB (fun k => !hkP F (a * 5 + t) k) (F 0 9)
      · have yf : ftP F (a * 5 + t) = true := by simp [ftP, d5, hs, hq]
        rw [hq] at e62
        refine ⟨u2 (u2 (u2 I1 109 (ctB (ftP F) (a * 5 + t)) (nI a)) 110 (ctB (ftP F) (a * 5 + t)) (nI t)) 108 2 (nI (ctB (ftP F) (a * 5 + t) + 1)), ?_, ?_, ?_, ?_, ?_⟩
        · rw [e_61_12]
          have y1 : u2 I1 109 (ctB (ftP F) (a * 5 + t)) (nI a) 108 2 = nI (ctB (ftP F) (a * 5 + t)) := by rw [u2_a _ _ _ _ _ (by decide)]; exact g2
          have y2 : u2 (u2 I1 109 (ctB (ftP F) (a * 5 + t)) (nI a)) 110 (ctB (ftP F) (a * 5 + t)) (nI t) 108 2 = nI (ctB (ftP F) (a * 5 + t)) := by rw [u2_a _ _ _ _ _ (by decide)]; exact y1
          simp (disch := first | assumption | omega) [k_St, n_St, i_St, j_St, r_St, wI_St, wJ_St, k_S0, n_S0, i_S0, j_S0, r_S0, wI_S0, wJ_S0, cI_s, cJ_s, cV_s, nR_s, nQ_s, nQ_n, lt_s_, gd_T, gd_t, Option.map_some, lits, neg_mI, nI_add, pk_mul, nI_clamp, nI_eq, nI_leI, nI_ltI, nm_eq, mn_eq, nm_lt, mn_lt, nm_le, mn_le, m_eq, bI_0, bI_1, if_neg, kp, e26, e62, k4, g2, r0, k9, n9, r1, k10, n10, y1, y2]
        · intro k hk
          rw [ctB, yf] at hk
          rw [fa, yf]
          simp only [if_true]
          rw [u2_a _ 108 _ 109 _ (by decide), u2_a _ 110 _ 109 _ (by decide), u2_a _ 108 _ 110 _ (by decide)]
          by_cases c : k = ctB (ftP F) (a * 5 + t)
          · rw [c, u2_s, up_s, u2_s, d5, m5]; exact ⟨rfl, rfl⟩
          · rw [u2_k _ _ _ _ _ c, up_n c, u2_k _ _ _ _ _ c, u2_a _ 109 _ 110 _ (by decide)]
            exact g1 k (by simp at hk; omega)
        · rw [u2_s, ctB, yf]; rfl
        · intro b hb
          rw [u2_a _ _ _ _ _ (by omega), u2_a _ _ _ _ _ (by omega), u2_a _ _ _ _ _ (by omega)]; exact g3 b hb
        · intro k hk
          rw [u2_k _ _ _ _ _ hk, u2_a _ _ _ _ _ (by decide), u2_a _ _ _ _ _ (by decide)]; exact g4 k hk
      · rw [hq] at e62
        refine ⟨I1, ?_, keep (by simp [ftP, hq])⟩
        rw [e_61_12]
        simp (disch := first | assumption | omega) [k_St, n_St, i_St, j_St, r_St, wI_St, wJ_St, k_S0, n_S0, i_S0, j_S0, r_S0, wI_S0, wJ_S0, cI_s, cJ_s, cV_s, nR_s, nQ_s, nQ_n, lt_s_, gd_T, gd_t, Option.map_some, lits, neg_mI, nI_add, pk_mul, nI_clamp, nI_eq, nI_leI, nI_ltI, nm_eq, mn_eq, nm_lt, mn_lt, nm_le, mn_le, m_eq, bI_0, bI_1, if_neg, kp, e26, e62]
  have inner : ∀ a, a < 64 → ∀ t I1, t ≤ 5 → CG I I1 F (a * 5) → ∃ I2, Am lx 61 12 [some (.ref (z + 108)), some (.ref (z + p)), some (.int (nI a)), some (.int (nI 0))] [] (0, 0) (St z E n K N R I1 J) = Am lx 61 12 [some (.ref (z + 108)), some (.ref (z + p)), some (.int (nI a)), some (.int (nI t))] [] (0, 0) (St z E n K N R I2 J) ∧ CG I I2 F (a * 5 + t) := by
    intro a ha t
    induction t with
    | zero => intro I1 _ hg; exact ⟨I1, rfl, hg⟩
    | succ t ih =>
      intro I1 ht hg
      obtain ⟨I2, e2, g2⟩ := ih I1 (by omega) hg
      obtain ⟨I3, e3, g3⟩ := step a t I2 ha (by omega) g2
      exact ⟨I3, e2.trans e3, g3⟩
  have outer : ∀ a, a ≤ 64 → ∃ I2, Am lx 61 6 [some (.ref (z + 108)), some (.ref (z + p)), some (.int (nI 0)), none] [] (0, 0) (St z E n K N R (u2 I 108 2 (nI 0)) J) = Am lx 61 6 [some (.ref (z + 108)), some (.ref (z + p)), some (.int (nI a)), none] [] (0, 0) (St z E n K N R I2 J) ∧ CG I I2 F (a * 5) := by
    intro a
    induction a with
    | zero =>
      intro _
      exact ⟨_, rfl, fun k hk => by simp [ctB] at hk, u2_s _ _ _ _, fun b hb => u2_a _ _ _ _ _ (by omega), fun k hk => u2_k _ _ _ _ _ hk⟩
    | succ a ih =>
      intro ha
      obtain ⟨I2, e2, g2⟩ := ih (by omega)
      obtain ⟨I3, e3, g3⟩ := inner a (by omega) 5 I2 (Nat.le_refl _) g2
      refine ⟨I3, ?_, by have : (a + 1) * 5 = a * 5 + 5 := by omega
                         rw [this]; exact g3⟩
      rw [e2, e_61_6]
      simp (disch := first | assumption | omega) [k_St, n_St, i_St, j_St, r_St, wI_St, wJ_St, k_S0, n_S0, i_S0, j_S0, r_S0, wI_S0, wJ_S0, cI_s, cJ_s, cV_s, nR_s, nQ_s, nQ_n, lt_s_, gd_T, gd_t, Option.map_some, lits, neg_mI, nI_add, pk_mul, nI_clamp, nI_eq, nI_leI, nI_ltI, nm_eq, mn_eq, nm_lt, mn_lt, nm_le, mn_le, m_eq, bI_0, bI_1, if_neg, e3]
      rw [e_61_12]
      simp (disch := first | assumption | omega) [k_St, n_St, i_St, j_St, r_St, wI_St, wJ_St, k_S0, n_S0, i_S0, j_S0, r_S0, wI_S0, wJ_S0, cI_s, cJ_s, cV_s, nR_s, nQ_s, nQ_n, lt_s_, gd_T, gd_t, Option.map_some, lits, neg_mI, nI_add, pk_mul, nI_clamp, nI_eq, nI_leI, nI_ltI, nm_eq, mn_eq, nm_lt, mn_lt, nm_le, mn_le, m_eq, bI_0, bI_1, if_pos]
  obtain ⟨I2, e2, g1, g2, g3, g4⟩ := outer 64 (Nat.le_refl _)
  refine ⟨I2, ?_, ⟨g2, g1⟩, g3⟩
  rw [f_61]
  simp (disch := first | assumption | omega) [k_St, n_St, i_St, j_St, r_St, wI_St, wJ_St, k_S0, n_S0, i_S0, j_S0, r_S0, wI_S0, wJ_S0, cI_s, cJ_s, cV_s, nR_s, nQ_s, nQ_n, lt_s_, gd_T, gd_t, Option.map_some, lits, neg_mI, nI_add, pk_mul, nI_clamp, nI_eq, nI_leI, nI_ltI, nm_eq, mn_eq, nm_lt, mn_lt, nm_le, mn_le, m_eq, bI_0, bI_1, k4, e2]
  rw [e_61_6]
  simp (disch := first | assumption | omega) [k_St, n_St, i_St, j_St, r_St, wI_St, wJ_St, k_S0, n_S0, i_S0, j_S0, r_S0, wI_S0, wJ_S0, cI_s, cJ_s, cV_s, nR_s, nQ_s, nQ_n, lt_s_, gd_T, gd_t, Option.map_some, lits, neg_mI, nI_add, pk_mul, nI_clamp, nI_eq, nI_leI, nI_ltI, nm_eq, mn_eq, nm_lt, mn_lt, nm_le, mn_le, m_eq, bI_0, bI_1, if_pos]
/-- the reference's field, once it is read without a fault -/
theorem d_223t (h : MD K N R I f F) (b : aB) : Am lx 223 57 [some (.ref (z + 132)), none, some (.int (nI 0))] [] b (St z E n K N R I J) = some (some (.int (nI (F 0 8))), St z E n K N R (u2 (u2 (u2 (u2 (pr (pr I 135 145 (ini F)) 134 145 (ini F)) 132 20 (nI 0)) 132 21 (nI 0)) 132 1 (nI 0)) 132 2 (mI 1)) J) := by
  have hO := h.2.2.2.2
  have hh := h
  obtain ⟨⟨km, _, r16, r17, _, _, _, _, _, _, _, _, _, _, _, k134, k135, _, _, _, _, _, _, _, _, _, _, _, n134, n135, _⟩, ⟨f0, kf, _, r13, _, _, _, _, _, _, _, _, _, _, k2, _, _, _, _, _, _, _, _, _, _, n2, _⟩, rf, ⟨q0, _, q2, _⟩, _⟩ := hh
  have hO' := hO
  obtain ⟨o0, o0x, o1, o2, o2x, o3, o4, o4x, o5, o5x, o6, o7, o8, o9, oS, oD, oG, oH⟩ := hO
  have h5 : ∀ g, g < F 0 8 → F 5 (g * 9) < 64 := fun g hg => isS_lt ((oG g hg).2.2.2 0 (by omega))
  have L1 := loopN (X := fun i => Am lx 223 57 [some (.ref (z + 132)), none, some (.int (nI i))] [] b (St z E n K N R (fun c k => if c = 135 ∧ k < i then nI 0 else I c k) J)) (n := 145) (by
    intro i hi
    try simp only
    rw [e_223_57]
    have e : u2 (fun c k => if c = 135 ∧ k < i then nI 0 else I c k) 135 i (nI 0) = fun c k => if c = 135 ∧ k < i + 1 then nI 0 else I c k := by
      funext c k
      unfold u2
      by_cases hc : c = 135
      · by_cases hk : k = i
        · simp [hc, hk]
        · have : k < i + 1 ↔ k < i := by omega
          simp [hc, hk, this]
      · simp [hc]
    simp (disch := first | assumption | omega) [k_St, n_St, i_St, j_St, r_St, wI_St, wJ_St, k_S0, n_S0, i_S0, j_S0, r_S0, wI_S0, wJ_S0, cI_s, cJ_s, cV_s, nR_s, nQ_s, nQ_n, lt_s_, gd_T, gd_t, Option.map_some, lits, neg_mI, nI_add, pk_mul, nI_clamp, nI_eq, nI_leI, nI_ltI, nm_eq, mn_eq, nm_lt, mn_lt, nm_le, mn_le, m_eq, bI_0, bI_1, if_neg, km, r17, k135, n135, e])
  try simp only at L1
  have e0 : (fun c k => if c = 135 ∧ k < 0 then nI 0 else I c k) = I := by funext c k; simp
  have e145 : (fun c k => if c = 135 ∧ k < 145 then nI 0 else I c k) = pr I 135 145 (iA F 0) := rfl
  rw [e0, e145] at L1
  have qq : ∀ τ j, j < 10 → pr I 135 145 τ f j = nI (F 0 j) := fun τ j hj => by rw [pr_n (by omega)]; exact q0 j hj
  have L2 := loopN (X := fun i => Am lx 223 70 [some (.ref (z + 132)), none, some (.int (nI i))] [] b (St z E n K N R (pr I 135 145 (iA F i)) J)) (n := F 0 7) (by
    intro i hi
    try simp only
    rw [e_223_70, iA]
    have x2 : pr I 135 145 (iA F i) (f + 2) i = nI (F 2 i) := by rw [pr_n (by omega)]; exact q2 i hi
    simp (disch := first | assumption | omega) [k_St, n_St, i_St, j_St, r_St, wI_St, wJ_St, k_S0, n_S0, i_S0, j_S0, r_S0, wI_S0, wJ_S0, cI_s, cJ_s, cV_s, nR_s, nQ_s, nQ_n, lt_s_, gd_T, gd_t, Option.map_some, lits, neg_mI, nI_add, pk_mul, nI_clamp, nI_eq, nI_leI, nI_ltI, nm_eq, mn_eq, nm_lt, mn_lt, nm_le, mn_le, m_eq, bI_0, bI_1, if_neg, km, rf, kf, qq, r17, r13, k2, n2, x2, k135, n135, pr_u])
  try simp only at L2
  have L3 := loopN (X := fun g => Am lx 223 91 [some (.ref (z + 132)), none, some (.int (nI g))] [] b (St z E n K N R (pr I 135 145 (iB F g)) J)) (n := F 0 8) (by
    intro g hg
    try simp only
    rw [e_223_91, iB]
    have e232 := s_232 (lx := lx) (z := z) (E := E) (n := n) (J := J) (MD_p (ρ := iB F g) (m := 145) h (by decide : 135 < 147)) hg (Nat.zero_le _)
    rw [Nat.add_zero] at e232
    have := h5 g hg
    simp (disch := first | assumption | omega) [k_St, n_St, i_St, j_St, r_St, wI_St, wJ_St, k_S0, n_S0, i_S0, j_S0, r_S0, wI_S0, wJ_S0, cI_s, cJ_s, cV_s, nR_s, nQ_s, nQ_n, lt_s_, gd_T, gd_t, Option.map_some, lits, neg_mI, nI_add, pk_mul, nI_clamp, nI_eq, nI_leI, nI_ltI, nm_eq, mn_eq, nm_lt, mn_lt, nm_le, mn_le, m_eq, bI_0, bI_1, if_neg, km, rf, kf, qq, r17, e232, k135, n135, pr_u])
  try simp only at L3
  have L4 := loopN (X := fun g => Am lx 223 111 [some (.ref (z + 132)), none, some (.int (nI g))] [] b (St z E n K N R (pr I 135 145 (iC F g)) J)) (n := F 0 8) (by
    intro g hg
    try simp only
    rw [e_223_111, iC]
    have e236 := s_236 (lx := lx) (z := z) (E := E) (n := n) (J := J) h (iC_ok (g := g) hO' (by omega)) hg
    simp (disch := first | assumption | omega) [k_St, n_St, i_St, j_St, r_St, wI_St, wJ_St, k_S0, n_S0, i_S0, j_S0, r_S0, wI_S0, wJ_S0, cI_s, cJ_s, cV_s, nR_s, nQ_s, nQ_n, lt_s_, gd_T, gd_t, Option.map_some, lits, neg_mI, nI_add, pk_mul, nI_clamp, nI_eq, nI_leI, nI_ltI, nm_eq, mn_eq, nm_lt, mn_lt, nm_le, mn_le, m_eq, bI_0, bI_1, if_neg, km, rf, kf, qq, e236])
  try simp only at L4
  have L5 := loopN (X := fun i => Am lx 223 124 [some (.ref (z + 132)), none, some (.int (nI i))] [] b (St z E n K N R (fun c k => if c = 134 ∧ k < i then nI (ini F k) else pr I 135 145 (ini F) c k) J)) (n := 145) (by
    intro i hi
    try simp only
    rw [e_223_124]
    have e : u2 (fun c k => if c = 134 ∧ k < i then nI (ini F k) else pr I 135 145 (ini F) c k) 134 i (nI (ini F i)) = fun c k => if c = 134 ∧ k < i + 1 then nI (ini F k) else pr I 135 145 (ini F) c k := by
      funext c k
      unfold u2
      by_cases hc : c = 134
      · by_cases hk : k = i
        · simp [hc, hk]
        · have : k < i + 1 ↔ k < i := by omega
          simp [hc, hk, this]
      · simp [hc]
    have x1 : (fun c k => if c = 134 ∧ k < i then nI (ini F k) else pr I 135 145 (ini F) c k) 135 i = nI (ini F i) := by simp [pr_s hi]
    simp only at x1
    simp (disch := first | assumption | omega) [k_St, n_St, i_St, j_St, r_St, wI_St, wJ_St, k_S0, n_S0, i_S0, j_S0, r_S0, wI_S0, wJ_S0, cI_s, cJ_s, cV_s, nR_s, nQ_s, nQ_n, lt_s_, gd_T, gd_t, Option.map_some, lits, neg_mI, nI_add, pk_mul, nI_clamp, nI_eq, nI_leI, nI_ltI, nm_eq, mn_eq, nm_lt, mn_lt, nm_le, mn_le, m_eq, bI_0, bI_1, if_neg, km, r16, r17, k134, k135, n134, n135, pr_s, e])
  try simp only at L5
  have f0' : (fun c k => if c = 134 ∧ k < 0 then nI (ini F k) else pr I 135 145 (ini F) c k) = pr I 135 145 (ini F) := by funext c k; simp
  have f145 : (fun c k => if c = 134 ∧ k < 145 then nI (ini F k) else pr I 135 145 (ini F) c k) = pr (pr I 135 145 (ini F)) 134 145 (ini F) := rfl
  rw [f0', f145] at L5
  have qf : u2 (u2 (pr (pr I 135 145 (ini F)) 134 145 (ini F)) 132 20 (nI 0)) 132 21 (nI 0) f 8 = nI (F 0 8) := by
    rw [u2_a _ _ _ _ _ (by omega), u2_a _ _ _ _ _ (by omega), pr_n (by omega)]; exact qq _ 8 (by decide)
  rw [L1, e_223_57]
  simp (disch := first | assumption | omega) [k_St, n_St, i_St, j_St, r_St, wI_St, wJ_St, k_S0, n_S0, i_S0, j_S0, r_S0, wI_S0, wJ_S0, cI_s, cJ_s, cV_s, nR_s, nQ_s, nQ_n, lt_s_, gd_T, gd_t, Option.map_some, lits, neg_mI, nI_add, pk_mul, nI_clamp, nI_eq, nI_leI, nI_ltI, nm_eq, mn_eq, nm_lt, mn_lt, nm_le, mn_le, m_eq, bI_0, bI_1, if_pos, L2]
  rw [e_223_70]
  have ib0 : iA F (F 0 7) = iB F 0 := rfl
  rw [ib0]
  simp (disch := first | assumption | omega) [k_St, n_St, i_St, j_St, r_St, wI_St, wJ_St, k_S0, n_S0, i_S0, j_S0, r_S0, wI_S0, wJ_S0, cI_s, cJ_s, cV_s, nR_s, nQ_s, nQ_n, lt_s_, gd_T, gd_t, Option.map_some, lits, neg_mI, nI_add, pk_mul, nI_clamp, nI_eq, nI_leI, nI_ltI, nm_eq, mn_eq, nm_lt, mn_lt, nm_le, mn_le, m_eq, bI_0, bI_1, if_pos, km, rf, kf, qq, L3]
  rw [e_223_91]
  have ic0 : iB F (F 0 8) = iC F 0 := rfl
  rw [ic0]
  simp (disch := first | assumption | omega) [k_St, n_St, i_St, j_St, r_St, wI_St, wJ_St, k_S0, n_S0, i_S0, j_S0, r_S0, wI_S0, wJ_S0, cI_s, cJ_s, cV_s, nR_s, nQ_s, nQ_n, lt_s_, gd_T, gd_t, Option.map_some, lits, neg_mI, nI_add, pk_mul, nI_clamp, nI_eq, nI_leI, nI_ltI, nm_eq, mn_eq, nm_lt, mn_lt, nm_le, mn_le, m_eq, bI_0, bI_1, if_pos, km, rf, kf, qq, L4]
  rw [e_223_111]
  have ice : iC F (F 0 8) = ini F := rfl
  rw [ice]
  simp (disch := first | assumption | omega) [k_St, n_St, i_St, j_St, r_St, wI_St, wJ_St, k_S0, n_S0, i_S0, j_S0, r_S0, wI_S0, wJ_S0, cI_s, cJ_s, cV_s, nR_s, nQ_s, nQ_n, lt_s_, gd_T, gd_t, Option.map_some, lits, neg_mI, nI_add, pk_mul, nI_clamp, nI_eq, nI_leI, nI_ltI, nm_eq, mn_eq, nm_lt, mn_lt, nm_le, mn_le, m_eq, bI_0, bI_1, if_pos, km, rf, kf, qq, L5]
  rw [e_223_124]
  simp (disch := first | assumption | omega) [k_St, n_St, i_St, j_St, r_St, wI_St, wJ_St, k_S0, n_S0, i_S0, j_S0, r_S0, wI_S0, wJ_S0, cI_s, cJ_s, cV_s, nR_s, nQ_s, nQ_n, lt_s_, gd_T, gd_t, Option.map_some, lits, neg_mI, nI_add, pk_mul, nI_clamp, nI_eq, nI_leI, nI_ltI, nm_eq, mn_eq, nm_lt, mn_lt, nm_le, mn_le, m_eq, bI_0, bI_1, if_pos, km, rf, kf, qf, s_185]
end FLD
