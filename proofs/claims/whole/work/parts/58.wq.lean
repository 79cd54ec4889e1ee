/-! what is asked of works -/
def ovr (F : Nat → Nat → Nat) (ρ : Nat → Nat) (c : Nat) : Bool := anyB (fun d => decide (apt c (ρ (12 + d)) ≤ F 0 0)) (F 0 7)
def fpS (P : Nat → Nat → Bool) (n : Nat) : Nat → Nat → Nat → Option Nat
  | 0, _, _ => none
  | t + 1, g, h => if n ≤ g then none else if n ≤ h then fpS P n t (g + 1) (g + 2) else if P g h then some (10 * g + h) else fpS P n t g (h + 1)
def bkP (F : Nat → Nat → Nat) (ρ : Nat → Nat) (g o : Nat) : Bool := decide (F 3 g ≠ F 3 o) && decide (apt (plc F ρ g) (plc F ρ o) ≤ 1)
def fps (F : Nat → Nat → Nat) (ρ : Nat → Nat) : Option Nat := fpS (bkP F ρ) (F 0 8) 41 0 1
def ofp (d : Nat) (o : Option Nat) : Int32 := o.elim (mI d) nI
theorem fpS_lt (P : Nat → Nat → Bool) {n : Nat} (hn : n ≤ 4) : ∀ t g h x, fpS P n t g h = some x → x < 100
  | 0, _, _, x, e => by simp [fpS] at e
  | t + 1, g, h, x, e => by
    rw [fpS] at e
    by_cases h1 : n ≤ g
    · simp [h1] at e
    · by_cases h2 : n ≤ h
      · simp only [h1, h2, if_true, if_false] at e
        exact fpS_lt P hn t _ _ x e
      · by_cases h3 : P g h = true
        · simp only [h1, h2, h3, if_true, if_false, Option.some.injEq] at e
          omega
        · simp only [h1, h2, h3, if_false] at e
          exact fpS_lt P hn t _ _ x e
theorem ofp_1 {o : Option Nat} (h : ∀ x, o = some x → x < 100) : (ofp 1 o = mI 1) ↔ o = none := by
  cases o with
  | none => simp [ofp]
  | some x =>
    have := h x rfl
    simp (disch := first | assumption | omega) [ofp, nm_eq]
theorem ofp_2 {o : Option Nat} (h : ∀ x, o = some x → x < 100) : (ofp 2 o = mI 2) ↔ o = none := by
  cases o with
  | none => simp [ofp]
  | some x =>
    have := h x rfl
    simp (disch := first | assumption | omega) [ofp, nm_eq]
def npk (F : Nat → Nat → Nat) (ρ : Nat → Nat) (d : Nat) : Nat → Nat
  | 0 => 99
  | i + 1 => if dgg F ρ i && decide (apt (plc F ρ i) (ρ (12 + d)) ≤ F 0 0) && decide (apt (plc F ρ i) (ρ (12 + d)) < npk F ρ d i) then apt (plc F ρ i) (ρ (12 + d)) else npk F ρ d i
def eN (x : Nat) : Int32 := if x = 99 then mI 2 else nI x
section WQ
variable {z : Nat} {E : aEt} {n : Nat} {K N : Nat → Nat} {R : Nat → Nat → Option Nat} {I : Nat → Nat → Int32} {J : Nat → Nat → Int64} {lx : List Value → aH → aO} {p w v : Nat} {F : Nat → Nat → Nat} {ρ σ : Nat → Nat}
theorem npk_le (hO : FOk F) (hρ : ROa F ρ) {d : Nat} (hd : d < F 0 7) : ∀ {i : Nat}, i ≤ F 0 8 → npk F ρ d i = 99 ∨ npk F ρ d i ≤ 14
  | 0, _ => Or.inl rfl
  | i + 1, hi => by
    rw [npk]
    split
    · right; exact apt_le (plc_l hO hρ (by omega)) (isS_lt (hρ.2.1 d hd))
    · exact npk_le hO hρ hd (by omega)
theorem s_106 (hP : Pl K N R p) (hF : PI I J p F) (hW : Wk K N R w) (hR : WR I J w F ρ) (hO : FOk F) (hρ : ROa F ρ) : Ca lx 106 [.ref (z + w), .ref (z + p)] (St z E n K N R I J) = some (some (.int (ofp 1 (fps F ρ))), (St z E n K N R I J)) := by
  have o8 : F 0 8 ≤ 4 := hO.2.2.2.2.2.2.2.2.2.2.2.2.1
  have oG := hO.2.2.2.2.2.2.2.2.2.2.2.2.2.2.2.2.1
  have kp := hP.1
  have kw := hW.1
  have q8 := hF.1 8 (by decide)
  obtain ⟨_, _, _, pr3, _, _, _, _, _, _, _, pk3, _, _, _, _, _, _, _, pn3, _⟩ := id hP
  have q3 := hF.2.2.2.1
  have A : ∀ t g h, g < F 0 8 → h ≤ 5 → 40 - 6 * g - h ≤ t → Am lx 106 12 [some (.ref (z + w)), some (.ref (z + p)), some (.int (nI g)), some (.int (nI h))] [] (0, 0) (St z E n K N R I J) = some (some (.int (ofp 1 (fpS (bkP F ρ) (F 0 8) t g h))), (St z E n K N R I J)) := by
    intro t
    induction t with
    | zero => intro g h hg hh ht; omega
    | succ t ih =>
      intro g h hg hh ht
      rw [e_106_12, fpS, if_neg (show ¬ F 0 8 ≤ g by omega)]
      by_cases h2 : F 0 8 ≤ h
      · rw [if_pos h2]
        simp (disch := first | assumption | omega) [k_St, n_St, i_St, j_St, r_St, wI_St, wJ_St, k_S0, n_S0, i_S0, j_S0, r_S0, wI_S0, wJ_S0, cI_s, cJ_s, cV_s, nR_s, nQ_s, nQ_n, lt_s_, gd_T, gd_t, Option.map_some, lits, neg_mI, nI_add, pk_mul, nI_clamp, nI_eq, nI_leI, nI_ltI, nm_eq, mn_eq, nm_lt, mn_lt, nm_le, mn_le, m_eq, bI_0, bI_1, if_pos, kp, q8]
        rw [e_106_3]
        by_cases h3 : F 0 8 ≤ g + 1
        · have : fpS (bkP F ρ) (F 0 8) t (g + 1) (g + 2) = none := by
            cases t with
            | zero => rfl
            | succ t => rw [fpS, if_pos h3]
          rw [this]
          simp (disch := first | assumption | omega) [k_St, n_St, i_St, j_St, r_St, wI_St, wJ_St, k_S0, n_S0, i_S0, j_S0, r_S0, wI_S0, wJ_S0, cI_s, cJ_s, cV_s, nR_s, nQ_s, nQ_n, lt_s_, gd_T, gd_t, Option.map_some, lits, neg_mI, nI_add, pk_mul, nI_clamp, nI_eq, nI_leI, nI_ltI, nm_eq, mn_eq, nm_lt, mn_lt, nm_le, mn_le, m_eq, bI_0, bI_1, if_pos, kp, q8]
          rfl
        · simp (disch := first | assumption | omega) [k_St, n_St, i_St, j_St, r_St, wI_St, wJ_St, k_S0, n_S0, i_S0, j_S0, r_S0, wI_S0, wJ_S0, cI_s, cJ_s, cV_s, nR_s, nQ_s, nQ_n, lt_s_, gd_T, gd_t, Option.map_some, lits, neg_mI, nI_add, pk_mul, nI_clamp, nI_eq, nI_leI, nI_ltI, nm_eq, mn_eq, nm_lt, mn_lt, nm_le, mn_le, m_eq, bI_0, bI_1, if_neg, kp, q8]
          exact ih (g + 1) (g + 2) (by omega) (by omega) (by omega)
      · rw [if_neg h2]
        have e1 := s_105 (lx := lx) (z := z) (E := E) (n := n) hP hF hW hR hO hρ hg (show h < F 0 8 by omega)
        have b1 := (oG g hg).1
        have b2 := (oG h (by omega)).1
        have i1 := ih g (h + 1) hg (by omega) (by omega)
        unfold bkP at i1 ⊢
        by_cases h4 : F 3 g = F 3 h
        · simp (disch := first | assumption | omega) [k_St, n_St, i_St, j_St, r_St, wI_St, wJ_St, k_S0, n_S0, i_S0, j_S0, r_S0, wI_S0, wJ_S0, cI_s, cJ_s, cV_s, nR_s, nQ_s, nQ_n, lt_s_, gd_T, gd_t, Option.map_some, lits, neg_mI, nI_add, pk_mul, nI_clamp, nI_eq, nI_leI, nI_ltI, nm_eq, mn_eq, nm_lt, mn_lt, nm_le, mn_le, m_eq, bI_0, bI_1, if_neg, if_pos, kp, kw, q8, pr3, pk3, pn3, q3 g hg, q3 h (by omega), h4, i1]
        · by_cases h5 : apt (plc F ρ g) (plc F ρ h) ≤ 1
          · simp only [h5, decide_true] at e1
            simp (disch := first | assumption | omega) [k_St, n_St, i_St, j_St, r_St, wI_St, wJ_St, k_S0, n_S0, i_S0, j_S0, r_S0, wI_S0, wJ_S0, cI_s, cJ_s, cV_s, nR_s, nQ_s, nQ_n, lt_s_, gd_T, gd_t, Option.map_some, lits, neg_mI, nI_add, pk_mul, nI_clamp, nI_eq, nI_leI, nI_ltI, nm_eq, mn_eq, nm_lt, mn_lt, nm_le, mn_le, m_eq, bI_0, bI_1, if_neg, if_pos, kp, kw, q8, pr3, pk3, pn3, q3 g hg, q3 h (by omega), h4, e1, h5, ofp]
          · simp only [h5, decide_false] at e1
            simp (disch := first | assumption | omega) [k_St, n_St, i_St, j_St, r_St, wI_St, wJ_St, k_S0, n_S0, i_S0, j_S0, r_S0, wI_S0, wJ_S0, cI_s, cJ_s, cV_s, nR_s, nQ_s, nQ_n, lt_s_, gd_T, gd_t, Option.map_some, lits, neg_mI, nI_add, pk_mul, nI_clamp, nI_eq, nI_leI, nI_ltI, nm_eq, mn_eq, nm_lt, mn_lt, nm_le, mn_le, m_eq, bI_0, bI_1, if_neg, if_pos, kp, kw, q8, pr3, pk3, pn3, q3 g hg, q3 h (by omega), h4, e1, h5, i1]
  rw [f_106, e_106_3]
  unfold fps
  by_cases h0 : F 0 8 = 0
  · have : fpS (bkP F ρ) (F 0 8) 41 0 1 = none := by rw [fpS, if_pos (by omega)]
    rw [this]
    simp (disch := first | assumption | omega) [k_St, n_St, i_St, j_St, r_St, wI_St, wJ_St, k_S0, n_S0, i_S0, j_S0, r_S0, wI_S0, wJ_S0, cI_s, cJ_s, cV_s, nR_s, nQ_s, nQ_n, lt_s_, gd_T, gd_t, Option.map_some, lits, neg_mI, nI_add, pk_mul, nI_clamp, nI_eq, nI_leI, nI_ltI, nm_eq, mn_eq, nm_lt, mn_lt, nm_le, mn_le, m_eq, bI_0, bI_1, if_pos, kp, q8, h0]
    rfl
  · simp (disch := first | assumption | omega) [k_St, n_St, i_St, j_St, r_St, wI_St, wJ_St, k_S0, n_S0, i_S0, j_S0, r_S0, wI_S0, wJ_S0, cI_s, cJ_s, cV_s, nR_s, nQ_s, nQ_n, lt_s_, gd_T, gd_t, Option.map_some, lits, neg_mI, nI_add, pk_mul, nI_clamp, nI_eq, nI_leI, nI_ltI, nm_eq, mn_eq, nm_lt, mn_lt, nm_le, mn_le, m_eq, bI_0, bI_1, if_neg, kp, q8]
    exact A 41 0 1 (by omega) (by omega) (by omega)
theorem s_107 (hP : Pl K N R p) (hF : PI I J p F) (hW : Wk K N R w) (hR : WR I J w F ρ) (hO : FOk F) (hρ : ROk F ρ) {d : Nat} (hd : d < F 0 7) : Ca lx 107 [.ref (z + w), .ref (z + p), .int (nI d)] (St z E n K N R I J) = some (some (.int (eN (npk F ρ d (F 0 8)))), (St z E n K N R I J)) := by
  have o8 : F 0 8 ≤ 4 := hO.2.2.2.2.2.2.2.2.2.2.2.2.1
  have o7 : F 0 7 ≤ 4 := hO.2.2.2.2.2.2.2.2.2.2.2.1
  have o0 : F 0 0 ≤ 14 := hO.2.1
  have kp := hP.1
  have q8 := hF.1 8 (by decide)
  have q0 := hF.1 0 (by decide)
  have hW' := hW
  obtain ⟨w0, wr1, wr2, wr3, wk1, wk2, wk3, wn1, wn2, wn3⟩ := hW
  have r3 := hR.2.2.1 d hd
  have hdl := isS_lt (hρ.2.1 d hd)
  have L := loopN (X := fun i => Am lx 107 12 [some (.ref (z + w)), some (.ref (z + p)), some (.int (nI d)), some (.int (eN (npk F ρ d i))), some (.int (nI i)), none] [] (0, 0) (St z E n K N R I J)) (n := F 0 8) (by
    intro i hi
    try simp only
    rw [e_107_12]
    have e1 := s_100 (lx := lx) (z := z) (E := E) (n := n) hP hF hW' hR hO (ROk_a hρ) hi
    have e2 := s_102 (lx := lx) (z := z) (E := E) (n := n) hW' hR hO hρ hi
    have l1 := plc_l hO (ROk_a hρ) hi
    have s4 := s_4 (lx := lx) l1 hdl
    have ha := apt_le l1 hdl
    have hl := npk_le hO (ROk_a hρ) hd (i := i) (by omega)
    rw [npk]
    by_cases c1 : dgg F ρ i = true
    · rw [c1] at e2
      by_cases c2 : apt (plc F ρ i) (ρ (12 + d)) ≤ F 0 0
      · by_cases c3 : npk F ρ d i = 99
        · have c4 : apt (plc F ρ i) (ρ (12 + d)) < 99 := by omega
          have c5 : apt (plc F ρ i) (ρ (12 + d)) ≠ 99 := by omega
          simp (disch := first | assumption | omega) [k_St, n_St, i_St, j_St, r_St, wI_St, wJ_St, k_S0, n_S0, i_S0, j_S0, r_S0, wI_S0, wJ_S0, cI_s, cJ_s, cV_s, nR_s, nQ_s, nQ_n, lt_s_, gd_T, gd_t, Option.map_some, lits, neg_mI, nI_add, pk_mul, nI_clamp, nI_eq, nI_leI, nI_ltI, nm_eq, mn_eq, nm_lt, mn_lt, nm_le, mn_le, m_eq, bI_0, bI_1, if_neg, if_pos, kp, q8, q0, w0, wr3, wk3, wn3, r3, e1, e2, s4, c1, c2, c3, c4, c5, eN, e_107_41]
        · by_cases c4 : apt (plc F ρ i) (ρ (12 + d)) < npk F ρ d i
          · have c5 : apt (plc F ρ i) (ρ (12 + d)) ≠ 99 := by omega
            simp (disch := first | assumption | omega) [k_St, n_St, i_St, j_St, r_St, wI_St, wJ_St, k_S0, n_S0, i_S0, j_S0, r_S0, wI_S0, wJ_S0, cI_s, cJ_s, cV_s, nR_s, nQ_s, nQ_n, lt_s_, gd_T, gd_t, Option.map_some, lits, neg_mI, nI_add, pk_mul, nI_clamp, nI_eq, nI_leI, nI_ltI, nm_eq, mn_eq, nm_lt, mn_lt, nm_le, mn_le, m_eq, bI_0, bI_1, if_neg, if_pos, kp, q8, q0, w0, wr3, wk3, wn3, r3, e1, e2, s4, c1, c2, c3, c4, c5, eN, e_107_41]
          · simp (disch := first | assumption | omega) [k_St, n_St, i_St, j_St, r_St, wI_St, wJ_St, k_S0, n_S0, i_S0, j_S0, r_S0, wI_S0, wJ_S0, cI_s, cJ_s, cV_s, nR_s, nQ_s, nQ_n, lt_s_, gd_T, gd_t, Option.map_some, lits, neg_mI, nI_add, pk_mul, nI_clamp, nI_eq, nI_leI, nI_ltI, nm_eq, mn_eq, nm_lt, mn_lt, nm_le, mn_le, m_eq, bI_0, bI_1, if_neg, if_pos, kp, q8, q0, w0, wr3, wk3, wn3, r3, e1, e2, s4, c1, c2, c3, c4, eN, e_107_41]
      · simp (disch := first | assumption | omega) [k_St, n_St, i_St, j_St, r_St, wI_St, wJ_St, k_S0, n_S0, i_S0, j_S0, r_S0, wI_S0, wJ_S0, cI_s, cJ_s, cV_s, nR_s, nQ_s, nQ_n, lt_s_, gd_T, gd_t, Option.map_some, lits, neg_mI, nI_add, pk_mul, nI_clamp, nI_eq, nI_leI, nI_ltI, nm_eq, mn_eq, nm_lt, mn_lt, nm_le, mn_le, m_eq, bI_0, bI_1, if_neg, if_pos, kp, q8, q0, w0, wr3, wk3, wn3, r3, e1, e2, s4, c1, c2]
    · have c1' : dgg F ρ i = false := by simpa using c1
      rw [c1'] at e2
      simp (disch := first | assumption | omega) [k_St, n_St, i_St, j_St, r_St, wI_St, wJ_St, k_S0, n_S0, i_S0, j_S0, r_S0, wI_S0, wJ_S0, cI_s, cJ_s, cV_s, nR_s, nQ_s, nQ_n, lt_s_, gd_T, gd_t, Option.map_some, lits, neg_mI, nI_add, pk_mul, nI_clamp, nI_eq, nI_leI, nI_ltI, nm_eq, mn_eq, nm_lt, mn_lt, nm_le, mn_le, m_eq, bI_0, bI_1, if_neg, if_pos, kp, q8, q0, w0, wr3, wk3, wn3, r3, e1, e2, s4, c1'])
  try simp only at L
  have e0 : eN (npk F ρ d 0) = mI 2 := rfl
  rw [e0] at L
  rw [f_107]
  simp (disch := first | assumption | omega) [k_St, n_St, i_St, j_St, r_St, wI_St, wJ_St, k_S0, n_S0, i_S0, j_S0, r_S0, wI_S0, wJ_S0, cI_s, cJ_s, cV_s, nR_s, nQ_s, nQ_n, lt_s_, gd_T, gd_t, Option.map_some, lits, neg_mI, nI_add, pk_mul, nI_clamp, nI_eq, nI_leI, nI_ltI, nm_eq, mn_eq, nm_lt, mn_lt, nm_le, mn_le, m_eq, bI_0, bI_1, if_neg, if_pos, L]
  rw [e_107_12]
  simp (disch := first | assumption | omega) [k_St, n_St, i_St, j_St, r_St, wI_St, wJ_St, k_S0, n_S0, i_S0, j_S0, r_S0, wI_S0, wJ_S0, cI_s, cJ_s, cV_s, nR_s, nQ_s, nQ_n, lt_s_, gd_T, gd_t, Option.map_some, lits, neg_mI, nI_add, pk_mul, nI_clamp, nI_eq, nI_leI, nI_ltI, nm_eq, mn_eq, nm_lt, mn_lt, nm_le, mn_le, m_eq, bI_0, bI_1, if_pos, kp, q8]
def hrd (F : Nat → Nat → Nat) (ρ : Nat → Nat) (g : Nat) : Bool := dgg F ρ g && ovr F ρ (plc F ρ g)
theorem s_108 (hP : Pl K N R p) (hF : PI I J p F) (hW : Wk K N R w) (hR : WR I J w F ρ) (hO : FOk F) (hρ : ROk F ρ) {g : Nat} (hg : g < F 0 8) : Ca lx 108 [.ref (z + w), .ref (z + p), .int (nI g)] (St z E n K N R I J) = some (some (.int (bI (hrd F ρ g))), (St z E n K N R I J)) := by
  have e1 := s_102 (lx := lx) (z := z) (E := E) (n := n) hW hR hO hρ hg
  have e2 := s_100 (lx := lx) (z := z) (E := E) (n := n) hP hF hW hR hO (ROk_a hρ) hg
  have l1 := plc_l hO (ROk_a hρ) hg
  have e3 := s_109 (lx := lx) (z := z) (E := E) (n := n) hP hF hW hR hO (ROk_a hρ) l1
  have kw := hW.1
  rw [f_108]
  unfold hrd ovr
  simp only [k_St, kw, gd_t, e1, cI_s, lits, bI_0, e2, e3]
  cases dgg F ρ g
  · simp [gd_T]; rfl
  · cases anyB (fun d => decide (apt (plc F ρ g) (ρ (12 + d)) ≤ F 0 0)) (F 0 7) <;> simp [gd_T] <;> rfl
def unh (F : Nat → Nat → Nat) (ρ : Nat → Nat) (c : Nat) : Bool := isS F c && !ovr F ρ c
theorem s_110 (hP : Pl K N R p) (hF : PI I J p F) (hW : Wk K N R w) (hR : WR I J w F ρ) (hO : FOk F) (hρ : ROa F ρ) : Ca lx 110 [.ref (z + w), .ref (z + p)] (St z E n K N R I J) = some (some (.long (sto (unh F ρ))), (St z E n K N R I J)) := by
  have kw := hW.1
  have kp := hP.1
  have L := loopN (X := fun i => Am lx 110 5 [some (.ref (z + w)), some (.ref (z + p)), some (.long (sto (fun c => decide (c < i) && unh F ρ c))), none, some (.int (nI i))] [] (0, 0) (St z E n K N R I J)) (n := 64) (by
    intro i hi
    try simp only
    rw [e_110_5]
    have e1 := s_26c (lx := lx) (z := z) (E := E) (n := n) hP hF hi
    have e2 := s_109 (lx := lx) (z := z) (E := E) (n := n) hP hF hW hR hO hρ hi
    have same : unh F ρ i = false → sto (fun c => decide (c < i + 1) && unh F ρ c) = sto (fun c => decide (c < i) && unh F ρ c) := by
      intro h
      apply sto_c
      intro c hc
      by_cases e : c = i
      · subst e; simp [h]
      · have : c < i + 1 ↔ c < i := by omega
        simp [this]
    have more : unh F ρ i = true → sto (fun c => decide (c < i) && unh F ρ c) ||| ((1 : Int64) <<< ((nI i).toInt64 &&& 63)) = sto (fun c => decide (c < i + 1) && unh F ρ c) := by
      intro h
      rw [sto_o _ hi]
      apply sto_c
      intro c hc
      by_cases e : c = i
      · subst e; simp [h]
      · have : c < i + 1 ↔ c < i := by omega
        simp [this, e]
    cases h1 : isS F i
    · have hu : unh F ρ i = false := by simp [unh, h1]
      rw [h1] at e1
      rw [same hu]
      simp (disch := first | assumption | omega) [k_St, n_St, i_St, j_St, r_St, wI_St, wJ_St, k_S0, n_S0, i_S0, j_S0, r_S0, wI_S0, wJ_S0, cI_s, cJ_s, cV_s, nR_s, nQ_s, nQ_n, lt_s_, gd_T, gd_t, Option.map_some, lits, neg_mI, nI_add, pk_mul, nI_clamp, nI_eq, nI_leI, nI_ltI, nm_eq, mn_eq, nm_lt, mn_lt, nm_le, mn_le, m_eq, bI_0, bI_1, if_neg, kp, e1]
    · rw [h1] at e1
      cases h2 : ovr F ρ i
      · have hu : unh F ρ i = true := by simp [unh, h1, h2]
        unfold ovr at h2
        rw [h2] at e2
        rw [← more hu]
        simp (disch := first | assumption | omega) [k_St, n_St, i_St, j_St, r_St, wI_St, wJ_St, k_S0, n_S0, i_S0, j_S0, r_S0, wI_S0, wJ_S0, cI_s, cJ_s, cV_s, nR_s, nQ_s, nQ_n, lt_s_, gd_T, gd_t, Option.map_some, lits, neg_mI, nI_add, pk_mul, nI_clamp, nI_eq, nI_leI, nI_ltI, nm_eq, mn_eq, nm_lt, mn_lt, nm_le, mn_le, m_eq, bI_0, bI_1, if_neg, kp, kw, e1, e2]
      · have hu : unh F ρ i = false := by simp [unh, h2]
        unfold ovr at h2
        rw [h2] at e2
        rw [same hu]
        simp (disch := first | assumption | omega) [k_St, n_St, i_St, j_St, r_St, wI_St, wJ_St, k_S0, n_S0, i_S0, j_S0, r_S0, wI_S0, wJ_S0, cI_s, cJ_s, cV_s, nR_s, nQ_s, nQ_n, lt_s_, gd_T, gd_t, Option.map_some, lits, neg_mI, nI_add, pk_mul, nI_clamp, nI_eq, nI_leI, nI_ltI, nm_eq, mn_eq, nm_lt, mn_lt, nm_le, mn_le, m_eq, bI_0, bI_1, if_neg, kp, kw, e1, e2])
  try simp only at L
  have e0 : sto (fun c => decide (c < 0) && unh F ρ c) = 0 := hb_ext (fun c hc => by rw [hb_s _ hc, hb_0]; simp)
  have e64 : sto (fun c => decide (c < 64) && unh F ρ c) = sto (unh F ρ) := sto_c (fun c hc => by simp [hc])
  rw [e0, e64] at L
  rw [f_110]
  have z0 : (0 : Int32) = nI 0 := rfl
  rw [z0, L, e_110_5]
  simp (disch := first | assumption | omega) [k_St, n_St, i_St, j_St, r_St, wI_St, wJ_St, k_S0, n_S0, i_S0, j_S0, r_S0, wI_S0, wJ_S0, cI_s, cJ_s, cV_s, nR_s, nQ_s, nQ_n, lt_s_, gd_T, gd_t, Option.map_some, lits, neg_mI, nI_add, pk_mul, nI_clamp, nI_eq, nI_leI, nI_ltI, nm_eq, mn_eq, nm_lt, mn_lt, nm_le, mn_le, m_eq, bI_0, bI_1]
end WQ
