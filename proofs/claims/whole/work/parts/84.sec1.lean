/-! the secret pick -/
def stp (F : Nat → Nat → Nat) (w : Nat) : Nat → Nat → Nat
  | 0, c => c
  | k + 1, c => if isS F (nxc c w) then stp F w k (nxc c w) else c
def rm (c w : Nat) : Nat := if w = 1 then c / 8 else if w = 2 then 7 - c % 8 else if w = 3 then 7 - c / 8 else if w = 4 then c % 8 else 0
theorem rm_n {c w : Nat} (hc : c < 64) (hn : nxc c w < 64) : rm (nxc c w) w + 1 = rm c w := by
  unfold nxc at *
  by_cases h1 : w = 1
  · subst h1; simp only [if_true] at *
    by_cases e : c / 8 = 0
    · simp [e] at hn
    · simp only [e, if_false, rm, if_true]; omega
  · by_cases h2 : w = 2
    · subst h2; simp only [if_true, if_false, show ¬ (2 = 1) by decide] at *
      by_cases e : c % 8 = 7
      · simp [e] at hn
      · simp only [e, if_false, rm, if_true, show ¬ (2 = 1) by decide]; omega
    · by_cases h3 : w = 3
      · subst h3; simp only [if_true, if_false, show ¬ (3 = 1) by decide, show ¬ (3 = 2) by decide] at *
        by_cases e : c / 8 = 7
        · simp [e] at hn
        · simp only [e, if_false, rm, if_true, show ¬ (3 = 1) by decide, show ¬ (3 = 2) by decide]; omega
      · by_cases h4 : w = 4
        · subst h4; simp only [if_true, if_false, show ¬ (4 = 1) by decide, show ¬ (4 = 2) by decide, show ¬ (4 = 3) by decide] at *
          by_cases e : c % 8 = 0
          · simp [e] at hn
          · simp only [e, if_false, rm, if_true, show ¬ (4 = 1) by decide, show ¬ (4 = 2) by decide, show ¬ (4 = 3) by decide]; omega
        · simp [h1, h2, h3, h4] at hn
theorem rm_7 {c w : Nat} (hc : c < 64) : rm c w ≤ 7 := by unfold rm; (repeat' split) <;> omega
theorem stp_e {F : Nat → Nat → Nat} {w : Nat} : ∀ m c k k', c < 64 → rm c w ≤ m → rm c w ≤ k → rm c w ≤ k' → stp F w k c = stp F w k' c := by
  intro m
  induction m with
  | zero =>
    intro c k k' hc hm hk hk'
    have no : isS F (nxc c w) = false := by
      cases e : isS F (nxc c w)
      · rfl
      · have := rm_n hc (isS_lt e); omega
    have : ∀ j, stp F w j c = c := fun j => by cases j with
      | zero => rfl
      | succ j => rw [stp, no]; simp
    rw [this k, this k']
  | succ m ih =>
    intro c k k' hc hm hk hk'
    cases e : isS F (nxc c w)
    · have : ∀ j, stp F w j c = c := fun j => by cases j with
        | zero => rfl
        | succ j => rw [stp, e]; simp
      rw [this k, this k']
    · have hn := isS_lt e
      have r := rm_n hc hn
      cases k with
      | zero => omega
      | succ k =>
        cases k' with
        | zero => omega
        | succ k' =>
          rw [stp, stp, e]
          simp only [if_true]
          exact ih (nxc c w) k k' hn (by omega) (by omega) (by omega)
theorem stp_8 {F : Nat → Nat → Nat} {w c k : Nat} (hc : c < 64) : stp F w k c = stp F w (if k < 8 then k else 8) c := by
  have := rm_7 (w := w) hc
  by_cases h : k < 8
  · rw [if_pos h]
  · rw [if_neg h]; exact stp_e 7 c k 8 hc this (by omega) (by omega)
theorem stp_S {F : Nat → Nat → Nat} {w : Nat} : ∀ k c, isS F c = true → isS F (stp F w k c) = true
  | 0, c, h => h
  | k + 1, c, h => by
    rw [stp]
    cases e : isS F (nxc c w)
    · simpa using h
    · simpa using stp_S k _ e
def abd (a b : Nat) : Nat := (a - b) + (b - a)
def hkP (F : Nat → Nat → Nat) (one k : Nat) : Bool := decide (abd (apt (stp F (one % 5) (F 7 k / F 0 2) (one / 5)) (F 2 (F 6 k))) (F 8 k) ≤ F 0 1)
def ftP (F : Nat → Nat → Nat) (one : Nat) : Bool := isS F (one / 5) && !anyB (fun k => !hkP F one k) (F 0 9)
def fa (F : Nat → Nat → Nat) : Nat → (Nat → Nat)
  | 0 => fun _ => 0
  | m + 1 => if ftP F m then up (fa F m) (ctB (ftP F) m) m else fa F m
def fct (F : Nat → Nat → Nat) : Nat := ctB (ftP F) 320
theorem fa_p (F : Nat → Nat → Nat) : ∀ m k, k < ctB (ftP F) m → fa F m k < m ∧ ftP F (fa F m k) = true
  | 0, k, h => by simp [ctB] at h
  | m + 1, k, h => by
    rw [ctB] at h
    rw [fa]
    cases e : ftP F m
    · rw [e] at h
      have := fa_p F m k (by simpa using h)
      simp only [Bool.false_eq_true, if_false]
      exact ⟨by omega, this.2⟩
    · rw [e] at h
      simp only [if_true]
      by_cases c : k = ctB (ftP F) m
      · rw [c, up_s]; exact ⟨by omega, e⟩
      · have hk : k < ctB (ftP F) m := by simp at h; omega
        have := fa_p F m k hk
        rw [up_n c]
        exact ⟨by omega, this.2⟩
theorem ab_c {a b e : Nat} (ha : a ≤ 14) (hb : b ≤ 14) (he : e ≤ 3) : ((if 0 ≤ nI a - nI b then nI a - nI b else 0 - (nI a - nI b)) ≤ nI e) ↔ abd a b ≤ e := by
  have : ∀ a b : Fin 15, ∀ e : Fin 4, ((if 0 ≤ nI a.val - nI b.val then nI a.val - nI b.val else 0 - (nI a.val - nI b.val)) ≤ nI e.val) ↔ abd a.val b.val ≤ e.val := by decide +kernel
  exact this ⟨a, by omega⟩ ⟨b, by omega⟩ ⟨e, by omega⟩
theorem ab_m {a b e : Nat} (ha : a ≤ 14) (hb : b ≤ 14) (he : e ≤ 3) : decide (mI e ≤ nI a - nI b ∧ nI a - nI b ≤ nI e) = decide (abd a b ≤ e) := by
  have : ∀ a b : Fin 15, ∀ e : Fin 4, decide (mI e.val ≤ nI a.val - nI b.val ∧ nI a.val - nI b.val ≤ nI e.val) = decide (abd a.val b.val ≤ e.val) := by decide +kernel
  exact this ⟨a, by omega⟩ ⟨b, by omega⟩ ⟨e, by omega⟩
section SEC1
variable {z : Nat} {E : aEt} {n : Nat} {K N : Nat → Nat} {R : Nat → Nat → Option Nat} {I : Nat → Nat → Int32} {J : Nat → Nat → Int64} {lx : List Value → aH → aO} {p s f : Nat} {F : Nat → Nat → Nat} {ρ : Nat → Nat}
theorem s_63 (hP : Pl K N R p) (hF : PI I J p F) (hO : FOk F) {c w m : Nat} (hc : c < 64) (hw : w < 5) (hm : m ≤ 60) : Ca lx 63 [.ref (z + p), .int (nI c), .int (nI w), .int (nI m)] (St z E n K N R I J) = some (some (.int (nI (stp F w (m / F 0 2) c))), (St z E n K N R I J)) := by
  have kp := hP.1
  have q2 := hF.1 2 (by decide)
  obtain ⟨o0, o0x, o1, o2, o2x, o3, o4, o4x, o5, o5x, o6, o7, o8, o9, oS, oD, oG, oH⟩ := hO
  have dv : nI m / nI (F 0 2) = nI (m / F 0 2) := pk_div (by omega) (by omega) (by omega)
  have dl : m / F 0 2 ≤ 60 := Nat.le_trans (Nat.div_le_self _ _) hm
  have A : ∀ j i x, i + j = 8 → x < 64 → Am lx 63 16 [some (.ref (z + p)), none, some (.int (nI w)), none, some (.int (nI (m / F 0 2))), some (.int (nI x)), some (.int (nI i)), none] [] (0, 0) (St z E n K N R I J) = some (some (.int (nI (stp F w (if m / F 0 2 - i < j then m / F 0 2 - i else j) x))), (St z E n K N R I J)) := by
    intro j
    induction j with
    | zero =>
      intro i x hi hx
      have : i = 8 := by omega
      subst this
      rw [e_63_16]
      by_cases c1 : m / F 0 2 ≤ 8
      · simp (disch := first | assumption | omega) [k_St, n_St, i_St, j_St, r_St, wI_St, wJ_St, k_S0, n_S0, i_S0, j_S0, r_S0, wI_S0, wJ_S0, cI_s, cJ_s, cV_s, nR_s, nQ_s, nQ_n, lt_s_, gd_T, gd_t, Option.map_some, lits, neg_mI, nI_add, pk_mul, nI_clamp, nI_eq, nI_leI, nI_ltI, nm_eq, mn_eq, nm_lt, mn_lt, nm_le, mn_le, m_eq, bI_0, bI_1, if_pos, c1, stp]
      · simp (disch := first | assumption | omega) [k_St, n_St, i_St, j_St, r_St, wI_St, wJ_St, k_S0, n_S0, i_S0, j_S0, r_S0, wI_S0, wJ_S0, cI_s, cJ_s, cV_s, nR_s, nQ_s, nQ_n, lt_s_, gd_T, gd_t, Option.map_some, lits, neg_mI, nI_add, pk_mul, nI_clamp, nI_eq, nI_leI, nI_ltI, nm_eq, mn_eq, nm_lt, mn_lt, nm_le, mn_le, m_eq, bI_0, bI_1, if_pos, if_neg, stp]
    | succ j ih =>
      intro i x hi hx
      rw [e_63_16]
      have e7 := s_7 (lx := lx) hx hw
      have e26 := s_26 (lx := lx) (z := z) (E := E) (n := n) hP hF (nxc x w)
      by_cases c1 : m / F 0 2 ≤ i
      · have : m / F 0 2 - i = 0 := by omega
        simp (disch := first | assumption | omega) [k_St, n_St, i_St, j_St, r_St, wI_St, wJ_St, k_S0, n_S0, i_S0, j_S0, r_S0, wI_S0, wJ_S0, cI_s, cJ_s, cV_s, nR_s, nQ_s, nQ_n, lt_s_, gd_T, gd_t, Option.map_some, lits, neg_mI, nI_add, pk_mul, nI_clamp, nI_eq, nI_leI, nI_ltI, nm_eq, mn_eq, nm_lt, mn_lt, nm_le, mn_le, m_eq, bI_0, bI_1, if_pos, c1, this, stp]
      · have sc : (if m / F 0 2 - i < j + 1 then m / F 0 2 - i else j + 1) = (if m / F 0 2 - (i + 1) < j then m / F 0 2 - (i + 1) else j) + 1 := by
          by_cases q : m / F 0 2 - i < j + 1
          · rw [if_pos q]
            by_cases q' : m / F 0 2 - (i + 1) < j
            · rw [if_pos q']; omega
            · rw [if_neg q']; omega
          · rw [if_neg q, if_neg (by omega)]
        rw [sc, stp]
        cases e : isS F (nxc x w)
        · rw [e] at e26
          simp (disch := first | assumption | omega) [k_St, n_St, i_St, j_St, r_St, wI_St, wJ_St, k_S0, n_S0, i_S0, j_S0, r_S0, wI_S0, wJ_S0, cI_s, cJ_s, cV_s, nR_s, nQ_s, nQ_n, lt_s_, gd_T, gd_t, Option.map_some, lits, neg_mI, nI_add, pk_mul, nI_clamp, nI_eq, nI_leI, nI_ltI, nm_eq, mn_eq, nm_lt, mn_lt, nm_le, mn_le, m_eq, bI_0, bI_1, if_neg, kp, e7, e26]
        · rw [e] at e26
          have hn := isS_lt e
          have i1 := ih (i + 1) (nxc x w) (by omega) hn
          rw [oI_lt hn] at e7 e26
          simp (disch := first | assumption | omega) [k_St, n_St, i_St, j_St, r_St, wI_St, wJ_St, k_S0, n_S0, i_S0, j_S0, r_S0, wI_S0, wJ_S0, cI_s, cJ_s, cV_s, nR_s, nQ_s, nQ_n, lt_s_, gd_T, gd_t, Option.map_some, lits, neg_mI, nI_add, pk_mul, nI_clamp, nI_eq, nI_leI, nI_ltI, nm_eq, mn_eq, nm_lt, mn_lt, nm_le, mn_le, m_eq, bI_0, bI_1, if_neg, kp, e7, e26, i1]
  rw [f_63]
  have a8 := A 8 0 c (by omega) hc
  rw [stp_8 (k := m / F 0 2) hc]
  simp only [Nat.sub_zero] at a8
  simp (disch := first | assumption | omega) [k_St, n_St, i_St, j_St, r_St, wI_St, wJ_St, k_S0, n_S0, i_S0, j_S0, r_S0, wI_S0, wJ_S0, cI_s, cJ_s, cV_s, nR_s, nQ_s, nQ_n, lt_s_, gd_T, gd_t, Option.map_some, lits, neg_mI, nI_add, pk_mul, nI_clamp, nI_eq, nI_leI, nI_ltI, nm_eq, mn_eq, nm_lt, mn_lt, nm_le, mn_le, m_eq, bI_0, bI_1, if_neg, kp, q2, dv, e_63_10, a8]
theorem s_62 (hP : Pl K N R p) (hF : PI I J p F) (hO : FOk F) {c w : Nat} (hs : isS F c = true) (hw : w < 5) : Ca lx 62 [.ref (z + p), .int (nI c), .int (nI w)] (St z E n K N R I J) = some (some (.int (bI (!anyB (fun k => !hkP F (c * 5 + w) k) (F 0 9)))), (St z E n K N R I J)) := by
  have hc := isS_lt hs
  have kp := hP.1
  have q7 := hF.1 7 (by decide)
  have q9 := hF.1 9 (by decide)
  have q1 := hF.1 1 (by decide)
  obtain ⟨_, _, pr2, _, _, _, pr6, pr7, pr8, _, pk2, _, _, _, pk6, pk7, pk8, _, pn2, _, _, _, pn6, pn7, pn8⟩ := id hP
  have hO' := hO
  obtain ⟨o0, o0x, o1, o2, o2x, o3, o4, o4x, o5, o5x, o6, o7, o8, o9, oS, oD, oG, oH⟩ := hO
  have d5 : (c * 5 + w) / 5 = c := by omega
  have m5 : (c * 5 + w) % 5 = w := by omega
  have st : ∀ i, i < F 0 9 → Am lx 62 3 [some (.ref (z + p)), some (.int (nI c)), some (.int (nI w)), some (.int (nI i)), none, none] [] (0, 0) (St z E n K N R I J) = if hkP F (c * 5 + w) i then Am lx 62 3 [some (.ref (z + p)), some (.int (nI c)), some (.int (nI w)), some (.int (nI (i + 1))), none, none] [] (0, 0) (St z E n K N R I J) else some (some (.int (nI 0)), (St z E n K N R I J)) := by
    intro i hi
    obtain ⟨h6, h7, h8⟩ := oH i hi
    obtain ⟨g6, g7, g8⟩ := hF.2.2.2.2.2.2.1 i hi
    have g2 := hF.2.2.1 (F 6 i) h6
    have dl := isS_lt (oD (F 6 i) h6)
    have e63 := s_63 (lx := lx) (z := z) (E := E) (n := n) hP hF hO' hc hw h7
    have pl1 := isS_lt (stp_S (w := w) (F 7 i / F 0 2) c hs)
    have e4 := s_4 (lx := lx) pl1 dl
    have al := apt_le pl1 dl
    have ac := ab_c al h8 o1
    rw [e_62_3]
    unfold hkP
    rw [d5, m5]
    by_cases q : abd (apt (stp F w (F 7 i / F 0 2) c) (F 2 (F 6 i))) (F 8 i) ≤ F 0 1
    · have q' := ac.mpr q
      simp (disch := first | assumption | omega) [k_St, n_St, i_St, j_St, r_St, wI_St, wJ_St, k_S0, n_S0, i_S0, j_S0, r_S0, wI_S0, wJ_S0, cI_s, cJ_s, cV_s, nR_s, nQ_s, nQ_n, lt_s_, gd_T, gd_t, Option.map_some, lits, neg_mI, nI_add, pk_mul, nI_clamp, nI_eq, nI_leI, nI_ltI, nm_eq, mn_eq, nm_lt, mn_lt, nm_le, mn_le, m_eq, bI_0, bI_1, if_neg, kp, q7, q9, q1, pr6, pk6, pn6, g6, pr7, pk7, pn7, g7, e63, pr2, pk2, pn2, g2, e4, pr8, pk8, pn8, g8, ca_900, q]
      simp only [lits] at q'
      intro hx; exact absurd q' (Int32.not_le.mpr hx)
    · have q' : ¬ _ := fun h => q (ac.mp h)
      simp (disch := first | assumption | omega) [k_St, n_St, i_St, j_St, r_St, wI_St, wJ_St, k_S0, n_S0, i_S0, j_S0, r_S0, wI_S0, wJ_S0, cI_s, cJ_s, cV_s, nR_s, nQ_s, nQ_n, lt_s_, gd_T, gd_t, Option.map_some, lits, neg_mI, nI_add, pk_mul, nI_clamp, nI_eq, nI_leI, nI_ltI, nm_eq, mn_eq, nm_lt, mn_lt, nm_le, mn_le, m_eq, bI_0, bI_1, if_neg, kp, q7, q9, q1, pr6, pk6, pn6, g6, pr7, pk7, pn7, g7, e63, pr2, pk2, pn2, g2, e4, pr8, pk8, pn8, g8, ca_900, q]
      simp only [lits] at q'
      intro hx; exact absurd hx q'
  rw [f_62]
  have z0 : (0 : Int32) = nI 0 := rfl
  rw [z0]
  rcases first_ (fun k => !hkP F (c * 5 + w) k) (F 0 9) with h | ⟨m, hm, h1, h2⟩
  · have L := loopN (X := fun i => Am lx 62 3 [some (.ref (z + p)), some (.int (nI c)), some (.int (nI w)), some (.int (nI i)), none, none] [] (0, 0) (St z E n K N R I J)) (n := F 0 9) (by
      intro i hi
      try simp only
      rw [st i hi, if_pos (by simpa using h i hi)])
    try simp only at L
    rw [L, e_62_3, anyB_f.mpr h]
    simp (disch := first | assumption | omega) [k_St, n_St, i_St, j_St, r_St, wI_St, wJ_St, k_S0, n_S0, i_S0, j_S0, r_S0, wI_S0, wJ_S0, cI_s, cJ_s, cV_s, nR_s, nQ_s, nQ_n, lt_s_, gd_T, gd_t, Option.map_some, lits, neg_mI, nI_add, pk_mul, nI_clamp, nI_eq, nI_leI, nI_ltI, nm_eq, mn_eq, nm_lt, mn_lt, nm_le, mn_le, m_eq, bI_0, bI_1, kp, q9]; rfl
  · have L := loopN (X := fun i => Am lx 62 3 [some (.ref (z + p)), some (.int (nI c)), some (.int (nI w)), some (.int (nI i)), none, none] [] (0, 0) (St z E n K N R I J)) (n := m) (by
      intro i hi
      try simp only
      rw [st i (by omega), if_pos (by simpa using h2 i hi)])
    try simp only at L
    rw [L, st m hm, if_neg (by simpa using h1), anyB_m hm h1]; rfl
end SEC1
