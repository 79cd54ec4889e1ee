/-! the first of them -/
def fnd (Q : Nat → Bool) : Nat → Nat
  | 0 => 0
  | n + 1 => if fnd Q n < n then fnd Q n else if Q n then n else n + 1
theorem fnd_n {Q : Nat → Bool} : ∀ {n : Nat}, (∀ i, i < n → Q i = false) → fnd Q n = n
  | 0, _ => rfl
  | n + 1, h => by
    rw [fnd, fnd_n (fun i hi => h i (by omega)), if_neg (by omega), h n (by omega)]; simp
theorem fnd_m {Q : Nat → Bool} {m : Nat} (h1 : Q m = true) (h2 : ∀ i, i < m → Q i = false) : ∀ {n : Nat}, m < n → fnd Q n = m
  | 0, h => by omega
  | n + 1, h => by
    rw [fnd]
    by_cases e : m = n
    · subst e
      rw [fnd_n h2, if_neg (by omega), h1]; simp
    · rw [fnd_m h1 h2 (by omega), if_pos (by omega)]
def ef (x : Nat) : Int32 := if x ≤ 60 then nI x else mI 2
theorem ef_m {x : Nat} (h : x ≤ 60) : ef x = nI x := if_pos h
section MQ
variable {z : Nat} {E : aEt} {n : Nat} {K N : Nat → Nat} {R : Nat → Nat → Option Nat} {I : Nat → Nat → Int32} {J : Nat → Nat → Int64} {lx : List Value → aH → aO} {f : Nat} {F : Nat → Nat → Nat} {ρ : Nat → Nat}
theorem s_187 (x a b : Int32) (S : aH) : Ca lx 187 [.int x, .int a, .int b] S = some (some (.int (bI (decide (a ≤ x ∧ x ≤ b)))), S) := by
  rw [f_187]
  by_cases h : x < a
  · have h' : ¬ a ≤ x := Int32.not_le.mpr h
    simp [h, h', gd_T]; rfl
  · have h' : a ≤ x := Int32.not_lt.mp h
    by_cases h2 : b < x
    · have h2' : ¬ x ≤ b := Int32.not_le.mpr h2
      simp [h, h2, h2', gd_T]; rfl
    · have h2' : x ≤ b := Int32.not_lt.mp h2
      simp [h, h', h2, h2', gd_T]; rfl
theorem s_229 (x y : Nat) (S : aH) : Ca lx 229 [.int (nI x), .int (nI y)] S = some (some (.int (nI (8 * y + x))), S) := by
  rw [f_229]; simp only [lits, pk_mul, nI_add]
theorem s_230 {c : Nat} (hc : c < 64) (S : aH) : Ca lx 230 [.int (nI c)] S = some (some (.int (nI (whl c))), S) := by
  rw [f_230]
  have e8 : (8 : Int32) = nI 8 := rfl
  have c2 : nI c / 8 = nI (c / 8) := by rw [e8]; exact pk_div (by omega) (by omega) (by omega)
  have c1 : nI c - nI c / 8 * 8 = nI (c % 8) := by rw [e8]; exact pk_rem (by omega) (by omega) (by omega)
  have g8 : (¬ (8 : Int32) = 0) := by decide
  have e10 : (10 : Int32) = nI 10 := rfl
  rw [c1, c2, e10, pk_mul, nI_add]; simp [gd_T, whl]
theorem s_250 (h : MD K N R I f F) (hρ : ROa F ρ) {g o : Nat} (hg : g < F 0 8) (ho : o < F 0 8) : Ca lx 250 [.ref (z + 132), .int (nI g), .int (nI o)] (St z E n K N R (pr I 135 145 ρ) J) = some (some (.int (bI (bkP F ρ g o))), St z E n K N R (pr I 135 145 ρ) J) := by
  rw [f_250]
  have hO := h.2.2.2.2
  have o8 : F 0 8 ≤ 4 := hO.2.2.2.2.2.2.2.2.2.2.2.2.1
  have oG := hO.2.2.2.2.2.2.2.2.2.2.2.2.2.2.2.2.1
  have e1 := s_233 (lx := lx) (z := z) (E := E) (n := n) (J := J) h hρ hg
  have e2 := s_233 (lx := lx) (z := z) (E := E) (n := n) (J := J) h hρ ho
  have l1 := plc_l hO hρ hg
  have l2 := plc_l hO hρ ho
  have e3 := s_191 (lx := lx) l1 l2
  have ha := apt_le l1 l2
  have b1 := (oG g hg).1
  have b2 := (oG o ho).1
  obtain ⟨⟨km, _⟩, ⟨f0, kf, _, _, r14, _, _, _, _, _, _, _, _, _, _, k3, _, _, _, _, _, _, _, _, _, _, n3, _⟩, rf, ⟨_, _, _, q3, _⟩, _⟩ := h
  have p3 : pr I 135 145 ρ (f + 3) = I (f + 3) := pr_n (by omega)
  unfold bkP
  by_cases c1 : F 3 g = F 3 o
  · simp (disch := first | assumption | omega) [k_St, n_St, i_St, j_St, r_St, wI_St, wJ_St, k_S0, n_S0, i_S0, j_S0, r_S0, wI_S0, wJ_S0, cI_s, cJ_s, cV_s, nR_s, nQ_s, nQ_n, lt_s_, gd_T, gd_t, Option.map_some, lits, neg_mI, nI_add, pk_mul, nI_clamp, nI_eq, nI_leI, nI_ltI, nm_eq, mn_eq, nm_lt, mn_lt, nm_le, mn_le, m_eq, bI_0, bI_1, km, rf, kf, r14, k3, n3, p3, q3 g hg, q3 o ho, c1]; rfl
  · by_cases c2 : apt (plc F ρ g) (plc F ρ o) ≤ 1
    · simp (disch := first | assumption | omega) [k_St, n_St, i_St, j_St, r_St, wI_St, wJ_St, k_S0, n_S0, i_S0, j_S0, r_S0, wI_S0, wJ_S0, cI_s, cJ_s, cV_s, nR_s, nQ_s, nQ_n, lt_s_, gd_T, gd_t, Option.map_some, lits, neg_mI, nI_add, pk_mul, nI_clamp, nI_eq, nI_leI, nI_ltI, nm_eq, mn_eq, nm_lt, mn_lt, nm_le, mn_le, m_eq, bI_0, bI_1, if_neg, km, rf, kf, r14, k3, n3, p3, q3 g hg, q3 o ho, c1, e1, e2, e3, c2]; rfl
    · simp (disch := first | assumption | omega) [k_St, n_St, i_St, j_St, r_St, wI_St, wJ_St, k_S0, n_S0, i_S0, j_S0, r_S0, wI_S0, wJ_S0, cI_s, cJ_s, cV_s, nR_s, nQ_s, nQ_n, lt_s_, gd_T, gd_t, Option.map_some, lits, neg_mI, nI_add, pk_mul, nI_clamp, nI_eq, nI_leI, nI_ltI, nm_eq, mn_eq, nm_lt, mn_lt, nm_le, mn_le, m_eq, bI_0, bI_1, if_pos, km, rf, kf, r14, k3, n3, p3, q3 g hg, q3 o ho, c1, e1, e2, e3, c2]; rfl
theorem s_252 (h : MD K N R I f F) (hρ : ROa F ρ) : Ca lx 252 [.ref (z + 132)] (St z E n K N R (pr I 135 145 ρ) J) = some (some (.int (ofp 2 (fps F ρ))), St z E n K N R (pr I 135 145 ρ) J) := by
  have hO := h.2.2.2.2
  have o8 : F 0 8 ≤ 4 := hO.2.2.2.2.2.2.2.2.2.2.2.2.1
  have h2 := h
  obtain ⟨⟨km, _⟩, ⟨f0, kf, _⟩, rf, ⟨q0, _⟩, _⟩ := h2
  have q8 : pr I 135 145 ρ f 8 = nI (F 0 8) := by rw [pr_n (by omega)]; exact q0 8 (by decide)
  have A : ∀ t g h, g < F 0 8 → h ≤ 5 → 40 - 6 * g - h ≤ t → Am lx 252 13 [some (.ref (z + 132)), some (.int (nI g)), some (.int (nI h))] [] (0, 0) (St z E n K N R (pr I 135 145 ρ) J) = some (some (.int (ofp 2 (fpS (bkP F ρ) (F 0 8) t g h))), St z E n K N R (pr I 135 145 ρ) J) := by
    intro t
    induction t with
    | zero => intro g h hg hh ht; omega
    | succ t ih =>
      intro g o hg hh ht
      rw [e_252_13, fpS, if_neg (show ¬ F 0 8 ≤ g by omega)]
      by_cases h2 : F 0 8 ≤ o
      · rw [if_pos h2]
        simp (disch := first | assumption | omega) [k_St, n_St, i_St, j_St, r_St, wI_St, wJ_St, k_S0, n_S0, i_S0, j_S0, r_S0, wI_S0, wJ_S0, cI_s, cJ_s, cV_s, nR_s, nQ_s, nQ_n, lt_s_, gd_T, gd_t, Option.map_some, lits, neg_mI, nI_add, pk_mul, nI_clamp, nI_eq, nI_leI, nI_ltI, nm_eq, mn_eq, nm_lt, mn_lt, nm_le, mn_le, m_eq, bI_0, bI_1, if_pos, km, kf, rf, q8]
        rw [e_252_3]
        by_cases h3 : F 0 8 ≤ g + 1
        · have : fpS (bkP F ρ) (F 0 8) t (g + 1) (g + 2) = none := by
            cases t with
            | zero => rfl
            | succ t => rw [fpS, if_pos h3]
          rw [this]
          simp (disch := first | assumption | omega) [k_St, n_St, i_St, j_St, r_St, wI_St, wJ_St, k_S0, n_S0, i_S0, j_S0, r_S0, wI_S0, wJ_S0, cI_s, cJ_s, cV_s, nR_s, nQ_s, nQ_n, lt_s_, gd_T, gd_t, Option.map_some, lits, neg_mI, nI_add, pk_mul, nI_clamp, nI_eq, nI_leI, nI_ltI, nm_eq, mn_eq, nm_lt, mn_lt, nm_le, mn_le, m_eq, bI_0, bI_1, if_pos, km, kf, rf, q8]
          rfl
        · simp (disch := first | assumption | omega) [k_St, n_St, i_St, j_St, r_St, wI_St, wJ_St, k_S0, n_S0, i_S0, j_S0, r_S0, wI_S0, wJ_S0, cI_s, cJ_s, cV_s, nR_s, nQ_s, nQ_n, lt_s_, gd_T, gd_t, Option.map_some, lits, neg_mI, nI_add, pk_mul, nI_clamp, nI_eq, nI_leI, nI_ltI, nm_eq, mn_eq, nm_lt, mn_lt, nm_le, mn_le, m_eq, bI_0, bI_1, if_neg, km, kf, rf, q8]
          exact ih (g + 1) (g + 2) (by omega) (by omega) (by omega)
      · rw [if_neg h2]
        have e1 := s_250 (lx := lx) (z := z) (E := E) (n := n) (J := J) h hρ hg (show o < F 0 8 by omega)
        have i1 := ih g (o + 1) hg (by omega) (by omega)
        cases hb : bkP F ρ g o
        · rw [hb] at e1
          simp (disch := first | assumption | omega) [k_St, n_St, i_St, j_St, r_St, wI_St, wJ_St, k_S0, n_S0, i_S0, j_S0, r_S0, wI_S0, wJ_S0, cI_s, cJ_s, cV_s, nR_s, nQ_s, nQ_n, lt_s_, gd_T, gd_t, Option.map_some, lits, neg_mI, nI_add, pk_mul, nI_clamp, nI_eq, nI_leI, nI_ltI, nm_eq, mn_eq, nm_lt, mn_lt, nm_le, mn_le, m_eq, bI_0, bI_1, if_neg, km, kf, rf, q8, e1, i1]
        · rw [hb] at e1
          simp (disch := first | assumption | omega) [k_St, n_St, i_St, j_St, r_St, wI_St, wJ_St, k_S0, n_S0, i_S0, j_S0, r_S0, wI_S0, wJ_S0, cI_s, cJ_s, cV_s, nR_s, nQ_s, nQ_n, lt_s_, gd_T, gd_t, Option.map_some, lits, neg_mI, nI_add, pk_mul, nI_clamp, nI_eq, nI_leI, nI_ltI, nm_eq, mn_eq, nm_lt, mn_lt, nm_le, mn_le, m_eq, bI_0, bI_1, if_neg, km, kf, rf, q8, e1, ofp]
  rw [f_252, e_252_3]
  unfold fps
  by_cases h0 : F 0 8 = 0
  · have : fpS (bkP F ρ) (F 0 8) 41 0 1 = none := by rw [fpS, if_pos (by omega)]
    rw [this]
    simp (disch := first | assumption | omega) [k_St, n_St, i_St, j_St, r_St, wI_St, wJ_St, k_S0, n_S0, i_S0, j_S0, r_S0, wI_S0, wJ_S0, cI_s, cJ_s, cV_s, nR_s, nQ_s, nQ_n, lt_s_, gd_T, gd_t, Option.map_some, lits, neg_mI, nI_add, pk_mul, nI_clamp, nI_eq, nI_leI, nI_ltI, nm_eq, mn_eq, nm_lt, mn_lt, nm_le, mn_le, m_eq, bI_0, bI_1, if_pos, km, kf, rf, q8, h0]
    rfl
  · simp (disch := first | assumption | omega) [k_St, n_St, i_St, j_St, r_St, wI_St, wJ_St, k_S0, n_S0, i_S0, j_S0, r_S0, wI_S0, wJ_S0, cI_s, cJ_s, cV_s, nR_s, nQ_s, nQ_n, lt_s_, gd_T, gd_t, Option.map_some, lits, neg_mI, nI_add, pk_mul, nI_clamp, nI_eq, nI_leI, nI_ltI, nm_eq, mn_eq, nm_lt, mn_lt, nm_le, mn_le, m_eq, bI_0, bI_1, if_neg, km, kf, rf, q8]
    exact A 41 0 1 (by omega) (by omega) (by omega)
def bkA (F : Nat → Nat → Nat) (ρ : Nat → Nat) : Bool := (fps F ρ).isSome
theorem s_253 (h : MD K N R I f F) (hρ : ROk F ρ) (h16 : ρ 16 ≤ 999) (hv : ∀ k, k < 145 → I 134 k = nI (ρ k)) : Ca lx 253 [.ref (z + 132)] (St z E n K N R I J) = some (some (.int (ef (fnd (fun i => bkA F (ngs F ρ i)) 61))), St z E n K N R (pr I 135 145 (ngs F ρ (fnd (fun i => bkA F (ngs F ρ i)) 61))) J) := by
  rw [f_253]
  have hO := h.2.2.2.2
  have o8 : F 0 8 ≤ 4 := hO.2.2.2.2.2.2.2.2.2.2.2.2.1
  have km := h.1.1
  have st : ∀ i, i ≤ 60 → bkA F (ngs F ρ i) = false → Am lx 253 5 [some (.ref (z + 132)), some (.int (nI i))] [] (0, 0) (St z E n K N R (pr I 135 145 (ngs F ρ i)) J) = Am lx 253 5 [some (.ref (z + 132)), some (.int (nI (i + 1)))] [] (0, 0) (St z E n K N R (pr I 135 145 (ngs F ρ (i + 1))) J) := by
    intro i hi hb
    rw [e_253_5]
    have e1 := s_252 (lx := lx) (z := z) (E := E) (n := n) (J := J) h (ROk_a (ngs_ok hO hρ i))
    have e2 := s_237 (lx := lx) (z := z) (E := E) (n := n) (J := J) h (ngs_ok hO hρ i) (by rw [ngs_16 hO]; omega)
    have : fps F (ngs F ρ i) = none := by simpa [bkA] using hb
    rw [this] at e1
    simp (disch := first | assumption | omega) [k_St, n_St, i_St, j_St, r_St, wI_St, wJ_St, k_S0, n_S0, i_S0, j_S0, r_S0, wI_S0, wJ_S0, cI_s, cJ_s, cV_s, nR_s, nQ_s, nQ_n, lt_s_, gd_T, gd_t, Option.map_some, lits, neg_mI, nI_add, pk_mul, nI_clamp, nI_eq, nI_leI, nI_ltI, nm_eq, mn_eq, nm_lt, mn_lt, nm_le, mn_le, m_eq, bI_0, bI_1, if_neg, km, e1, e2, ofp, ngs]
  have st2 : ∀ i, i ≤ 60 → bkA F (ngs F ρ i) = true → Am lx 253 5 [some (.ref (z + 132)), some (.int (nI i))] [] (0, 0) (St z E n K N R (pr I 135 145 (ngs F ρ i)) J) = some (some (.int (nI i)), St z E n K N R (pr I 135 145 (ngs F ρ i)) J) := by
    intro i hi hb
    rw [e_253_5]
    have e1 := s_252 (lx := lx) (z := z) (E := E) (n := n) (J := J) h (ROk_a (ngs_ok hO hρ i))
    obtain ⟨x, hx⟩ : ∃ x, fps F (ngs F ρ i) = some x := by
      unfold bkA at hb
      exact Option.isSome_iff_exists.mp hb
    have hl := fpS_lt _ o8 _ _ _ x hx
    rw [hx] at e1
    simp (disch := first | assumption | omega) [k_St, n_St, i_St, j_St, r_St, wI_St, wJ_St, k_S0, n_S0, i_S0, j_S0, r_S0, wI_S0, wJ_S0, cI_s, cJ_s, cV_s, nR_s, nQ_s, nQ_n, lt_s_, gd_T, gd_t, Option.map_some, lits, neg_mI, nI_add, pk_mul, nI_clamp, nI_eq, nI_leI, nI_ltI, nm_eq, mn_eq, nm_lt, mn_lt, nm_le, mn_le, m_eq, bI_0, bI_1, if_neg, km, e1, ofp]
  have e0 := s_231 (lx := lx) (z := z) (E := E) (n := n) (J := J) h hv
  rcases first_ (fun i => bkA F (ngs F ρ i)) 61 with hf | ⟨m, hm, h1, h2⟩
  · have L := loopN (X := fun i => Am lx 253 5 [some (.ref (z + 132)), some (.int (nI i))] [] (0, 0) (St z E n K N R (pr I 135 145 (ngs F ρ i)) J)) (n := 61) (fun i hi => st i (by omega) (hf i hi))
    try simp only at L
    rw [fnd_n hf]
    have g0 : ngs F ρ 0 = ρ := rfl
    rw [g0] at L
    simp (disch := first | assumption | omega) [k_St, n_St, i_St, j_St, r_St, wI_St, wJ_St, k_S0, n_S0, i_S0, j_S0, r_S0, wI_S0, wJ_S0, cI_s, cJ_s, cV_s, nR_s, nQ_s, nQ_n, lt_s_, gd_T, gd_t, Option.map_some, lits, neg_mI, nI_add, pk_mul, nI_clamp, nI_eq, nI_leI, nI_ltI, nm_eq, mn_eq, nm_lt, mn_lt, nm_le, mn_le, m_eq, bI_0, bI_1, km, e0, L]
    rw [e_253_5]
    simp (disch := first | assumption | omega) [k_St, n_St, i_St, j_St, r_St, wI_St, wJ_St, k_S0, n_S0, i_S0, j_S0, r_S0, wI_S0, wJ_S0, cI_s, cJ_s, cV_s, nR_s, nQ_s, nQ_n, lt_s_, gd_T, gd_t, Option.map_some, lits, neg_mI, nI_add, pk_mul, nI_clamp, nI_eq, nI_leI, nI_ltI, nm_eq, mn_eq, nm_lt, mn_lt, nm_le, mn_le, m_eq, bI_0, bI_1, if_pos]
    rfl
  · have L := loopN (X := fun i => Am lx 253 5 [some (.ref (z + 132)), some (.int (nI i))] [] (0, 0) (St z E n K N R (pr I 135 145 (ngs F ρ i)) J)) (n := m) (fun i hi => st i (by omega) (h2 i hi))
    try simp only at L
    rw [fnd_m h1 h2 hm]
    have g0 : ngs F ρ 0 = ρ := rfl
    rw [g0] at L
    simp (disch := first | assumption | omega) [k_St, n_St, i_St, j_St, r_St, wI_St, wJ_St, k_S0, n_S0, i_S0, j_S0, r_S0, wI_S0, wJ_S0, cI_s, cJ_s, cV_s, nR_s, nQ_s, nQ_n, lt_s_, gd_T, gd_t, Option.map_some, lits, neg_mI, nI_add, pk_mul, nI_clamp, nI_eq, nI_leI, nI_ltI, nm_eq, mn_eq, nm_lt, mn_lt, nm_le, mn_le, m_eq, bI_0, bI_1, km, e0, L]
    rw [st2 m (by omega) h1, ef_m (by omega)]
theorem s_256 (h : MD K N R I f F) (hρ : ROa F ρ) {d g : Nat} (hd : d < F 0 7) (hg : g < F 0 8) : Ca lx 256 [.ref (z + 132), .int (nI d), .int (nI g)] (St z E n K N R (pr I 135 145 ρ) J) = some (some (.int (bI (dgg F ρ g && decide (apt (plc F ρ g) (ρ (12 + d)) ≤ F 0 0)))), St z E n K N R (pr I 135 145 ρ) J) := by
  rw [f_256]
  have hO := h.2.2.2.2
  have o8 : F 0 8 ≤ 4 := hO.2.2.2.2.2.2.2.2.2.2.2.2.1
  have o7 : F 0 7 ≤ 4 := hO.2.2.2.2.2.2.2.2.2.2.2.1
  have o0 : F 0 0 ≤ 14 := hO.2.1
  have e1 := s_233 (lx := lx) (z := z) (E := E) (n := n) (J := J) h hρ hg
  have e2 := s_234 (lx := lx) (z := z) (E := E) (n := n) (J := J) h hρ hg
  have l1 := plc_l hO hρ hg
  have l2 := isS_lt (hρ.2.1 d hd)
  have e3 := s_191 (lx := lx) l2 l1
  have ha := apt_le l2 l1
  have ac := apt_c (plc F ρ g) (ρ (12 + d))
  obtain ⟨⟨km, _, r16, r17, _, _, _, _, _, _, _, _, _, _, _, k134, k135, _, _, _, _, _, _, _, _, _, _, _, n134, n135, _⟩, ⟨f0, kf, _⟩, rf, ⟨q0, _⟩, _⟩ := h
  have q : pr I 135 145 ρ f 0 = nI (F 0 0) := by rw [pr_n (by omega)]; exact q0 0 (by decide)
  rw [ac]
  cases c1 : dgg F ρ g
  · rw [c1] at e2
    simp (disch := first | assumption | omega) [k_St, n_St, i_St, j_St, r_St, wI_St, wJ_St, k_S0, n_S0, i_S0, j_S0, r_S0, wI_S0, wJ_S0, cI_s, cJ_s, cV_s, nR_s, nQ_s, nQ_n, lt_s_, gd_T, gd_t, Option.map_some, lits, neg_mI, nI_add, pk_mul, nI_clamp, nI_eq, nI_leI, nI_ltI, nm_eq, mn_eq, nm_lt, mn_lt, nm_le, mn_le, m_eq, bI_0, bI_1, km, e2]; rfl
  · rw [c1] at e2
    by_cases c2 : apt (ρ (12 + d)) (plc F ρ g) ≤ F 0 0
    · simp (disch := first | assumption | omega) [k_St, n_St, i_St, j_St, r_St, wI_St, wJ_St, k_S0, n_S0, i_S0, j_S0, r_S0, wI_S0, wJ_S0, cI_s, cJ_s, cV_s, nR_s, nQ_s, nQ_n, lt_s_, gd_T, gd_t, Option.map_some, lits, neg_mI, nI_add, pk_mul, nI_clamp, nI_eq, nI_leI, nI_ltI, nm_eq, mn_eq, nm_lt, mn_lt, nm_le, mn_le, m_eq, bI_0, bI_1, if_neg, km, e2, r17, k135, n135, pr_s, e1, e3, rf, kf, q, c2]; rfl
    · simp (disch := first | assumption | omega) [k_St, n_St, i_St, j_St, r_St, wI_St, wJ_St, k_S0, n_S0, i_S0, j_S0, r_S0, wI_S0, wJ_S0, cI_s, cJ_s, cV_s, nR_s, nQ_s, nQ_n, lt_s_, gd_T, gd_t, Option.map_some, lits, neg_mI, nI_add, pk_mul, nI_clamp, nI_eq, nI_leI, nI_ltI, nm_eq, mn_eq, nm_lt, mn_lt, nm_le, mn_le, m_eq, bI_0, bI_1, if_pos, km, e2, r17, k135, n135, pr_s, e1, e3, rf, kf, q, c2]; rfl
theorem s_259 (h : MD K N R I f F) (hρ : ROa F ρ) (hv : ∀ k, k < 145 → I 134 k = nI (ρ k)) {c : Nat} (hc : c < 64) : Ca lx 259 [.ref (z + 132), .int (nI c)] (St z E n K N R I J) = some (some (.int (bI (!ovr F ρ c))), (St z E n K N R I J)) := by
  rw [f_259]
  have hO := h.2.2.2.2
  have o7 : F 0 7 ≤ 4 := hO.2.2.2.2.2.2.2.2.2.2.2.1
  have o0 : F 0 0 ≤ 14 := hO.2.1
  obtain ⟨⟨km, _, r16, r17, _, _, _, _, _, _, _, _, _, _, _, k134, k135, _, _, _, _, _, _, _, _, _, _, _, n134, n135, _⟩, ⟨f0, kf, _⟩, rf, ⟨q0, _⟩, _⟩ := h
  have q7 := q0 7 (by decide)
  have qr := q0 0 (by decide)
  have st : ∀ i, i < F 0 7 → Am lx 259 3 [some (.ref (z + 132)), some (.int (nI c)), some (.int (nI i))] [] (0, 0) (St z E n K N R I J) = if apt c (ρ (12 + i)) ≤ F 0 0 then some (some (.int (nI 0)), (St z E n K N R I J)) else Am lx 259 3 [some (.ref (z + 132)), some (.int (nI c)), some (.int (nI (i + 1)))] [] (0, 0) (St z E n K N R I J) := by
    intro i hi
    rw [e_259_3]
    have l2 := isS_lt (hρ.2.1 i hi)
    have e3 := s_191 (lx := lx) l2 hc
    have ha := apt_le l2 hc
    have hx := hv (12 + i) (by omega)
    rw [apt_c c]
    by_cases c2 : apt (ρ (12 + i)) c ≤ F 0 0
    · simp (disch := first | assumption | omega) [k_St, n_St, i_St, j_St, r_St, wI_St, wJ_St, k_S0, n_S0, i_S0, j_S0, r_S0, wI_S0, wJ_S0, cI_s, cJ_s, cV_s, nR_s, nQ_s, nQ_n, lt_s_, gd_T, gd_t, Option.map_some, lits, neg_mI, nI_add, pk_mul, nI_clamp, nI_eq, nI_leI, nI_ltI, nm_eq, mn_eq, nm_lt, mn_lt, nm_le, mn_le, m_eq, bI_0, bI_1, if_neg, if_pos, km, rf, kf, q7, qr, r16, k134, n134, hx, e3, c2]
    · simp (disch := first | assumption | omega) [k_St, n_St, i_St, j_St, r_St, wI_St, wJ_St, k_S0, n_S0, i_S0, j_S0, r_S0, wI_S0, wJ_S0, cI_s, cJ_s, cV_s, nR_s, nQ_s, nQ_n, lt_s_, gd_T, gd_t, Option.map_some, lits, neg_mI, nI_add, pk_mul, nI_clamp, nI_eq, nI_leI, nI_ltI, nm_eq, mn_eq, nm_lt, mn_lt, nm_le, mn_le, m_eq, bI_0, bI_1, if_neg, if_pos, km, rf, kf, q7, qr, r16, k134, n134, hx, e3, c2]
  have z0 : (0 : Int32) = nI 0 := rfl
  rw [z0]
  unfold ovr
  rcases first_ (fun d => decide (apt c (ρ (12 + d)) ≤ F 0 0)) (F 0 7) with h | ⟨m, hm, h1, h2⟩
  · have L := loopN (X := fun i => Am lx 259 3 [some (.ref (z + 132)), some (.int (nI c)), some (.int (nI i))] [] (0, 0) (St z E n K N R I J)) (n := F 0 7) (by
      intro i hi
      try simp only
      rw [st i hi, if_neg (by simpa using h i hi)])
    try simp only at L
    rw [L, e_259_3, anyB_f.mpr h]
    simp (disch := first | assumption | omega) [k_St, n_St, i_St, j_St, r_St, wI_St, wJ_St, k_S0, n_S0, i_S0, j_S0, r_S0, wI_S0, wJ_S0, cI_s, cJ_s, cV_s, nR_s, nQ_s, nQ_n, lt_s_, gd_T, gd_t, Option.map_some, lits, neg_mI, nI_add, pk_mul, nI_clamp, nI_eq, nI_leI, nI_ltI, nm_eq, mn_eq, nm_lt, mn_lt, nm_le, mn_le, m_eq, bI_0, bI_1, km, rf, kf, q7]; rfl
  · have L := loopN (X := fun i => Am lx 259 3 [some (.ref (z + 132)), some (.int (nI c)), some (.int (nI i))] [] (0, 0) (St z E n K N R I J)) (n := m) (by
      intro i hi
      try simp only
      rw [st i (by omega), if_neg (by simpa using h2 i hi)])
    try simp only at L
    rw [L, st m hm, if_pos (by simpa using h1), anyB_m hm h1]; rfl
theorem s_275 (h : MD K N R I f F) (hρ : ROa F ρ) {c r : Nat} (hc : c < 64) (hr : r ≤ 2) : Ca lx 275 [.ref (z + 132), .int (nI c), .int (nI r)] (St z E n K N R (pr I 135 145 ρ) J) = some (some (.int (nI (msk (fun g => nrP F ρ c r g && !decide (ρ (8 + g) = 1)) (F 0 8)))), St z E n K N R (pr I 135 145 ρ) J) := by
  rw [f_275]
  have hO := h.2.2.2.2
  have o8 : F 0 8 ≤ 4 := hO.2.2.2.2.2.2.2.2.2.2.2.2.1
  have h2 := h
  obtain ⟨⟨km, _, r16, r17, _, _, _, _, _, _, _, _, _, _, _, k134, k135, _, _, _, _, _, _, _, _, _, _, _, n134, n135, _⟩, ⟨f0, kf, _⟩, rf, ⟨q0, _⟩, _⟩ := h2
  have q8 : pr I 135 145 ρ f 8 = nI (F 0 8) := by rw [pr_n (by omega)]; exact q0 8 (by decide)
  have L := loopN (X := fun i => Am lx 275 5 [some (.ref (z + 132)), some (.int (nI c)), some (.int (nI r)), some (.int (nI (msk (fun g => nrP F ρ c r g && !decide (ρ (8 + g) = 1)) i))), some (.int (nI i))] [] (0, 0) (St z E n K N R (pr I 135 145 ρ) J)) (n := F 0 8) (by
    intro i hi
    try simp only
    rw [e_275_5]
    have e1 := s_233 (lx := lx) (z := z) (E := E) (n := n) (J := J) h hρ hi
    have l1 := plc_l hO hρ hi
    have e3 := s_191 (lx := lx) hc l1
    have ha := apt_le hc l1
    have hm := msk_lt (fun g => nrP F ρ c r g && !decide (ρ (8 + g) = 1)) i
    have i4 : i < 4 := by omega
    have b8 := (hρ.1 i hi).2.2
    have ac := apt_c (plc F ρ i) c
    have o0 : ∀ m : Nat, m < 16 → nI m ||| nI 0 = nI m := by
      intro m hm
      have : ∀ m : Fin 16, nI m.val ||| nI 0 = nI m.val := by decide +kernel
      exact this ⟨m, hm⟩
    have oo := o0 _ (msk_16 (fun g => nrP F ρ c r g && !decide (ρ (8 + g) = 1)) (show i ≤ 4 by omega))
    rw [msk]
    unfold nrP at oo hm ⊢
    rw [ac]
    by_cases c1 : ρ (8 + i) = 0
    · by_cases c2 : apt c (plc F ρ i) ≤ r
      · simp (disch := first | assumption | omega) [k_St, n_St, i_St, j_St, r_St, wI_St, wJ_St, k_S0, n_S0, i_S0, j_S0, r_S0, wI_S0, wJ_S0, cI_s, cJ_s, cV_s, nR_s, nQ_s, nQ_n, lt_s_, gd_T, gd_t, Option.map_some, lits, neg_mI, nI_add, pk_mul, nI_clamp, nI_eq, nI_leI, nI_ltI, nm_eq, mn_eq, nm_lt, mn_lt, nm_le, mn_le, m_eq, bI_0, bI_1, if_neg, if_pos, km, rf, kf, q8, r17, k135, n135, pr_s, c1, e1, e3, c2, e_275_31, bt_o i4 hm]
      · simp (disch := first | assumption | omega) [k_St, n_St, i_St, j_St, r_St, wI_St, wJ_St, k_S0, n_S0, i_S0, j_S0, r_S0, wI_S0, wJ_S0, cI_s, cJ_s, cV_s, nR_s, nQ_s, nQ_n, lt_s_, gd_T, gd_t, Option.map_some, lits, neg_mI, nI_add, pk_mul, nI_clamp, nI_eq, nI_leI, nI_ltI, nm_eq, mn_eq, nm_lt, mn_lt, nm_le, mn_le, m_eq, bI_0, bI_1, if_neg, if_pos, km, rf, kf, q8, r17, k135, n135, pr_s, c1, e1, e3, c2, e_275_31, oo]
    · have c3 : ρ (8 + i) = 1 := by omega
      simp (disch := first | assumption | omega) [k_St, n_St, i_St, j_St, r_St, wI_St, wJ_St, k_S0, n_S0, i_S0, j_S0, r_S0, wI_S0, wJ_S0, cI_s, cJ_s, cV_s, nR_s, nQ_s, nQ_n, lt_s_, gd_T, gd_t, Option.map_some, lits, neg_mI, nI_add, pk_mul, nI_clamp, nI_eq, nI_leI, nI_ltI, nm_eq, mn_eq, nm_lt, mn_lt, nm_le, mn_le, m_eq, bI_0, bI_1, if_neg, if_pos, km, rf, kf, q8, r17, k135, n135, pr_s, c3, e_275_31, oo])
  try simp only at L
  have i0 : msk (fun g => nrP F ρ c r g && !decide (ρ (8 + g) = 1)) 0 = 0 := rfl
  rw [i0] at L
  have z0 : (0 : Int32) = nI 0 := rfl
  rw [z0, L, e_275_5]
  simp (disch := first | assumption | omega) [k_St, n_St, i_St, j_St, r_St, wI_St, wJ_St, k_S0, n_S0, i_S0, j_S0, r_S0, wI_S0, wJ_S0, cI_s, cJ_s, cV_s, nR_s, nQ_s, nQ_n, lt_s_, gd_T, gd_t, Option.map_some, lits, neg_mI, nI_add, pk_mul, nI_clamp, nI_eq, nI_leI, nI_ltI, nm_eq, mn_eq, nm_lt, mn_lt, nm_le, mn_le, m_eq, bI_0, bI_1, if_pos, km, rf, kf, q8]
theorem s_267 (h : MD K N R I f F) {c : Nat} (hc : c < 64) : Ca lx 267 [.ref (z + 132), .int (nI c)] (St z E n K N R I J) = some (some (.int (bI (isS F c))), (St z E n K N R I J)) := by
  rw [f_267]
  have e1 := s_178 (lx := lx) (z := z) (E := E) (n := n) (J := J) h hc
  have hO := h.2.2.2.2
  obtain ⟨o0, o0x, o1, o2, o2x, o3, o4, o4x, o5, o5x, o6, o7, o8, o9, oS, oD, oG, oH⟩ := hO
  obtain ⟨⟨km, _⟩, ⟨f0, kf, _⟩, rf, ⟨q0, _⟩, _⟩ := h
  have q4 := q0 4 (by decide)
  have q5 := q0 5 (by decide)
  have e8 : (8 : Int32) = nI 8 := rfl
  have c2 : nI c / 8 = nI (c / 8) := by rw [e8]; exact pk_div (by omega) (by omega) (by omega)
  have c1 : nI c - nI c / 8 * 8 = nI (c % 8) := by rw [e8]; exact pk_rem (by omega) (by omega) (by omega)
  have g8 : (¬ (8 : Int32) = 0) := by decide
  rw [c1, c2]
  unfold isS inF
  by_cases d1 : c % 8 < F 0 4
  · by_cases d2 : c / 8 < F 0 5
    · by_cases d3 : F 1 c = 3
      · simp (disch := first | assumption | omega) [k_St, n_St, i_St, j_St, r_St, wI_St, wJ_St, k_S0, n_S0, i_S0, j_S0, r_S0, wI_S0, wJ_S0, cI_s, cJ_s, cV_s, nR_s, nQ_s, nQ_n, lt_s_, gd_T, gd_t, Option.map_some, lits, neg_mI, nI_add, pk_mul, nI_clamp, nI_eq, nI_leI, nI_ltI, nm_eq, mn_eq, nm_lt, mn_lt, nm_le, mn_le, m_eq, bI_0, bI_1, if_neg, if_pos, km, rf, kf, q4, q5, e1, d1, d2, d3]; rfl
      · simp (disch := first | assumption | omega) [k_St, n_St, i_St, j_St, r_St, wI_St, wJ_St, k_S0, n_S0, i_S0, j_S0, r_S0, wI_S0, wJ_S0, cI_s, cJ_s, cV_s, nR_s, nQ_s, nQ_n, lt_s_, gd_T, gd_t, Option.map_some, lits, neg_mI, nI_add, pk_mul, nI_clamp, nI_eq, nI_leI, nI_ltI, nm_eq, mn_eq, nm_lt, mn_lt, nm_le, mn_le, m_eq, bI_0, bI_1, if_neg, if_pos, km, rf, kf, q4, q5, e1, d1, d2, d3, hc]; rfl
    · simp (disch := first | assumption | omega) [k_St, n_St, i_St, j_St, r_St, wI_St, wJ_St, k_S0, n_S0, i_S0, j_S0, r_S0, wI_S0, wJ_S0, cI_s, cJ_s, cV_s, nR_s, nQ_s, nQ_n, lt_s_, gd_T, gd_t, Option.map_some, lits, neg_mI, nI_add, pk_mul, nI_clamp, nI_eq, nI_leI, nI_ltI, nm_eq, mn_eq, nm_lt, mn_lt, nm_le, mn_le, m_eq, bI_0, bI_1, if_neg, if_pos, km, rf, kf, q4, q5, d1, d2]; rfl
  · simp (disch := first | assumption | omega) [k_St, n_St, i_St, j_St, r_St, wI_St, wJ_St, k_S0, n_S0, i_S0, j_S0, r_S0, wI_S0, wJ_S0, cI_s, cJ_s, cV_s, nR_s, nQ_s, nQ_n, lt_s_, gd_T, gd_t, Option.map_some, lits, neg_mI, nI_add, pk_mul, nI_clamp, nI_eq, nI_leI, nI_ltI, nm_eq, mn_eq, nm_lt, mn_lt, nm_le, mn_le, m_eq, bI_0, bI_1, if_neg, if_pos, km, rf, kf, q4, q5, d1]; rfl
theorem s_266 (h : MD K N R I f F) : Ca lx 266 [.ref (z + 132)] (St z E n K N R I J) = some (some (.int (nI (8 * (F 0 5 - 1) + F 0 4 - 1))), (St z E n K N R I J)) := by
  rw [f_266]
  have hO := h.2.2.2.2
  obtain ⟨o0, o0x, o1, o2, o2x, o3, o4, o4x, o5, o5x, o6, o7, o8, o9, oS, oD, oG, oH⟩ := hO
  obtain ⟨⟨km, _⟩, ⟨f0, kf, _⟩, rf, ⟨q0, _⟩, _⟩ := h
  have q4 := q0 4 (by decide)
  have q5 := q0 5 (by decide)
  simp (disch := first | assumption | omega) [k_St, n_St, i_St, j_St, r_St, wI_St, wJ_St, k_S0, n_S0, i_S0, j_S0, r_S0, wI_S0, wJ_S0, cI_s, cJ_s, cV_s, nR_s, nQ_s, nQ_n, lt_s_, gd_T, gd_t, Option.map_some, lits, neg_mI, nI_add, pk_mul, nI_clamp, nI_eq, nI_leI, nI_ltI, nm_eq, mn_eq, nm_lt, mn_lt, nm_le, mn_le, m_eq, bI_0, bI_1, km, rf, kf, q4, q5, pk_sub]
end MQ
