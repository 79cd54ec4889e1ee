section BR
variable {z : Nat} {E : aEt} {n : Nat} {K N : Nat → Nat} {R : Nat → Nat → Option Nat} {I : Nat → Nat → Int32} {J : Nat → Nat → Int64} {lx : List Value → aH → aO}
theorem n_S0 : aN (St z E n K N R I J) z = N 0 := n_St 0
theorem j_S0 (k : Nat) : aJ (St z E n K N R I J) z k = J 0 k := j_St 0 k
theorem wJ_S0 (k : Nat) (v : Int64) : wJ (St z E n K N R I J) z k v = St z E n K N R I (u2 J 0 k v) := wJ_St 0 k v
/-! cells -/
def apt (c d : Nat) : Nat := (c % 8 - d % 8) + (d % 8 - c % 8) + ((c / 8 - d / 8) + (d / 8 - c / 8))
def whl (c : Nat) : Nat := c % 8 + 10 * (c / 8)
def nxc (c w : Nat) : Nat := if w = 1 then (if c / 8 = 0 then 64 else c - 8) else if w = 2 then (if c % 8 = 7 then 64 else c + 1) else if w = 3 then (if c / 8 = 7 then 64 else c + 8) else if w = 4 then (if c % 8 = 0 then 64 else c - 1) else 64
theorem apt_c (c d : Nat) : apt c d = apt d c := by unfold apt; omega
theorem apt_le {c d : Nat} (hc : c < 64) (hd : d < 64) : apt c d ≤ 14 := by unfold apt; omega
theorem nxc_le {c : Nat} (hc : c < 64) (w : Nat) : nxc c w ≤ 64 := by
  unfold nxc; (repeat' split) <;> omega
theorem s_0 (x y : Nat) (S : aH) : Ca lx 0 [.int (nI x), .int (nI y)] S = some (some (.int (nI (8 * y + x))), S) := by
  rw [f_0]; simp only [lits, pk_mul, nI_add]
theorem s_1 {c : Nat} (hc : c < 64) (S : aH) : Ca lx 1 [.int (nI c)] S = some (some (.int (nI (c % 8))), S) := by
  rw [f_1]
  have h : ∀ c : Fin 64, nI c.val &&& 7 = nI (c.val % 8) := by decide +kernel
  rw [h ⟨c, hc⟩]
theorem s_2 {c : Nat} (hc : c < 64) (S : aH) : Ca lx 2 [.int (nI c)] S = some (some (.int (nI (c / 8))), S) := by
  rw [f_2]
  have h : ∀ c : Fin 64, nI c.val >>> ((3 : Int32) &&& 31) = nI (c.val / 8) := by decide +kernel
  rw [h ⟨c, hc⟩]
theorem s_3 {c : Nat} (hc : c < 64) (S : aH) : Ca lx 3 [.int (nI c)] S = some (some (.int (nI (whl c))), S) := by
  rw [f_3]; simp only [s_1 hc, s_2 hc, cI_s, lits, pk_mul, nI_add, whl]
theorem s_4 {c d : Nat} (hc : c < 64) (hd : d < 64) (S : aH) : Ca lx 4 [.int (nI c), .int (nI d)] S = some (some (.int (nI (apt c d))), S) := by
  rw [f_4]; simp only [s_1 hc, s_2 hc, s_1 hd, s_2 hd, cI_s, ca_900]
  have h : ∀ a b : Fin 8, (if 0 ≤ nI a.val - nI b.val then nI a.val - nI b.val else 0 - (nI a.val - nI b.val)) = nI ((a.val - b.val) + (b.val - a.val)) := by decide +kernel
  have h1 := h ⟨c % 8, by omega⟩ ⟨d % 8, by omega⟩
  have h2 := h ⟨c / 8, by omega⟩ ⟨d / 8, by omega⟩
  simp only at h1 h2
  rw [h1, h2, nI_add]; rfl
theorem s_5 (x : Int64) {c : Nat} (hc : c < 64) (S : aH) : Ca lx 5 [.long x, .int (nI c)] S = some (some (.int (bI (hb x c))), S) := by
  rw [f_5]
  simp only [lg_cmp_eq, hb_t x hc]
  cases h : hb x c <;> simp [gd_T, bI, nI_0] <;> rfl
theorem s_6 {c : Nat} (hc : c < 64) (S : aH) : Ca lx 6 [.int (nI c)] S = some (some (.int (bI true)), S) := by
  rw [f_6]
  simp (disch := first | assumption | omega) [k_St, n_St, i_St, j_St, r_St, wI_St, wJ_St, k_S0, n_S0, i_S0, j_S0, r_S0, wI_S0, wJ_S0, cI_s, cJ_s, cV_s, nR_s, nQ_s, nQ_n, lt_s_, gd_T, gd_t, Option.map_some, lits, neg_mI, nI_add, pk_mul, nI_clamp, nI_eq, nI_leI, nI_ltI, nm_eq, mn_eq, nm_lt, mn_lt, nm_le, mn_le, m_eq, bI_0, bI_1, if_neg]; rfl
theorem s_6o (x : Nat) (S : aH) : Ca lx 6 [.int (oI x)] S = some (some (.int (bI (decide (x < 64)))), S) := by
  by_cases h : x < 64
  · rw [oI_lt h, s_6 h]; simp [h]
  · rw [oI_ge h, f_6]
    simp (disch := first | assumption | omega) [k_St, n_St, i_St, j_St, r_St, wI_St, wJ_St, k_S0, n_S0, i_S0, j_S0, r_S0, wI_S0, wJ_S0, cI_s, cJ_s, cV_s, nR_s, nQ_s, nQ_n, lt_s_, gd_T, gd_t, Option.map_some, lits, neg_mI, nI_add, pk_mul, nI_clamp, nI_eq, nI_leI, nI_ltI, nm_eq, mn_eq, nm_lt, mn_lt, nm_le, mn_le, m_eq, bI_0, bI_1, h]; rfl
theorem s_7 {c w : Nat} (hc : c < 64) (hw : w < 5) (S : aH) : Ca lx 7 [.int (nI c), .int (nI w)] S = some (some (.int (oI (nxc c w))), S) := by
  rw [f_7]; simp only [s_1 hc, s_2 hc, cI_s]
  have h : ∀ c : Fin 64, ∀ w : Fin 5, (if nI w.val = 1 then (if nI (c.val / 8) ≤ 0 then (-1) else nI c.val - 8) else if nI w.val = 2 then (if 7 ≤ nI (c.val % 8) then (-1) else nI c.val + 1) else if nI w.val = 3 then (if 7 ≤ nI (c.val / 8) then (-1) else nI c.val + 8) else if nI w.val = 4 then (if nI (c.val % 8) ≤ 0 then (-1) else nI c.val - 1) else (-1)) = oI (nxc c.val w.val) := by decide +kernel
  have := h ⟨c, hc⟩ ⟨w, hw⟩
  simp only at this
  rw [← this]
  (repeat' split) <;> rfl
theorem s_15 {w : Nat} (hw : w < 5) (h0 : 1 ≤ w) (S : aH) : Ca lx 15 [.int (nI w)] S = some (some (.int (nI (if w ≤ 2 then w + 2 else w - 2))), S) := by
  rw [f_15]
  have : w = 1 ∨ w = 2 ∨ w = 3 ∨ w = 4 := by omega
  rcases this with h | h | h | h <;> subst h <;> first | (rw [if_neg (by decide)]; rfl) | (rw [if_pos (by decide)]; rfl)
end BR
/-! the field that is told -/
def inF (F : Nat → Nat → Nat) (c : Nat) : Bool := decide (c % 8 < F 0 4) && decide (c / 8 < F 0 5)
def isS (F : Nat → Nat → Nat) (c : Nat) : Bool := decide (c < 64) && inF F c && decide (F 1 c ≠ 3)
def FOk (F : Nat → Nat → Nat) : Prop := 1 ≤ F 0 0 ∧ F 0 0 ≤ 14 ∧ F 0 1 ≤ 3 ∧ 1 ≤ F 0 2 ∧ F 0 2 ≤ 9 ∧ F 0 3 ≤ 100 ∧ 2 ≤ F 0 4 ∧ F 0 4 ≤ 8 ∧ 2 ≤ F 0 5 ∧ F 0 5 ≤ 8 ∧ isS F (F 0 6) = true ∧ F 0 7 ≤ 4 ∧ F 0 8 ≤ 4 ∧ F 0 9 ≤ 6 ∧ (∀ c, c < 64 → F 1 c ≤ 3) ∧ (∀ d, d < F 0 7 → isS F (F 2 d) = true) ∧ (∀ g, g < F 0 8 → F 3 g ≤ 1 ∧ 1 ≤ F 4 g ∧ F 4 g ≤ 8 ∧ ∀ k, k ≤ F 4 g → isS F (F 5 (g * 9 + k)) = true) ∧ (∀ k, k < F 0 9 → F 6 k < F 0 7 ∧ F 7 k ≤ 60 ∧ F 8 k ≤ 14)
theorem isS_lt {F : Nat → Nat → Nat} {c : Nat} (h : isS F c = true) : c < 64 := by simp [isS] at h; exact h.1.1
theorem isS_in {F : Nat → Nat → Nat} {c : Nat} (h : isS F c = true) : inF F c = true := by simp only [isS, Bool.and_eq_true] at h; exact h.1.2
theorem isS_64 (F : Nat → Nat → Nat) {c : Nat} (h : ¬ c < 64) : isS F c = false := by simp [isS, h]
/-- a plan that stands at p -/
def Pl (K N : Nat → Nat) (R : Nat → Nat → Option Nat) (p : Nat) : Prop := K p = 2 ∧ R p 11 = some (p + 1) ∧ R p 12 = some (p + 2) ∧ R p 13 = some (p + 3) ∧ R p 14 = some (p + 4) ∧ R p 15 = some (p + 5) ∧ R p 16 = some (p + 6) ∧ R p 17 = some (p + 7) ∧ R p 18 = some (p + 8) ∧ K (p + 1) = 13 ∧ K (p + 2) = 13 ∧ K (p + 3) = 13 ∧ K (p + 4) = 13 ∧ K (p + 5) = 13 ∧ K (p + 6) = 13 ∧ K (p + 7) = 13 ∧ K (p + 8) = 13 ∧ N (p + 1) = 64 ∧ N (p + 2) = 4 ∧ N (p + 3) = 4 ∧ N (p + 4) = 4 ∧ N (p + 5) = 36 ∧ N (p + 6) = 6 ∧ N (p + 7) = 6 ∧ N (p + 8) = 6
def PI (I : Nat → Nat → Int32) (J : Nat → Nat → Int64) (p : Nat) (F : Nat → Nat → Nat) : Prop := (∀ j, j < 10 → I p j = nI (F 0 j)) ∧ (∀ c, c < 64 → I (p + 1) c = nI (if inF F c then F 1 c else 3)) ∧ (∀ d, d < F 0 7 → I (p + 2) d = nI (F 2 d)) ∧ (∀ g, g < F 0 8 → I (p + 3) g = nI (F 3 g)) ∧ (∀ g, g < F 0 8 → I (p + 4) g = nI (F 4 g)) ∧ (∀ g k, g < F 0 8 → k ≤ F 4 g → I (p + 5) (g * 9 + k) = nI (F 5 (g * 9 + k))) ∧ (∀ k, k < F 0 9 → I (p + 6) k = nI (F 6 k) ∧ I (p + 7) k = nI (F 7 k) ∧ I (p + 8) k = nI (F 8 k)) ∧ (∀ c, c < 64 → hb (J p 10) c = isS F c)
section PLN
variable {z : Nat} {E : aEt} {n : Nat} {K N : Nat → Nat} {R : Nat → Nat → Option Nat} {I : Nat → Nat → Int32} {J : Nat → Nat → Int64} {lx : List Value → aH → aO} {p : Nat} {F : Nat → Nat → Nat}
theorem s_24 (hP : Pl K N R p) (hF : PI I J p F) (hO : FOk F) (x y : Int32) : Ca lx 24 [.ref (z + p), .int x, .int y] (St z E n K N R I J) = some (some (.int (bI (decide (0 ≤ x ∧ x < nI (F 0 4) ∧ 0 ≤ y ∧ y < nI (F 0 5))))), (St z E n K N R I J)) := by
  rw [f_24]
  obtain ⟨p0, pr1, pr2, pr3, pr4, pr5, pr6, pr7, pr8, pk1, pk2, pk3, pk4, pk5, pk6, pk7, pk8, pn1, pn2, pn3, pn4, pn5, pn6, pn7, pn8⟩ := hP
  obtain ⟨q0, q1, q2, q3, q4, q5, q6, q7⟩ := hF
  have e4 := q0 4 (by decide)
  have e5 := q0 5 (by decide)
  simp only [k_St, i_St, p0, gd_t, e4, e5]
  by_cases h : x < 0
  · have h' : ¬ 0 ≤ x := Int32.not_le.mpr h
    simp [h, h', gd_T]; rfl
  · have h' : 0 ≤ x := Int32.not_lt.mp h
    by_cases h2 : nI (F 0 4) ≤ x
    · have h2' : ¬ x < nI (F 0 4) := Int32.not_lt.mpr h2
      simp [h, h2, h2', gd_T]; rfl
    · have h2' : x < nI (F 0 4) := Int32.not_le.mp h2
      by_cases h3 : y < 0
      · have h3' : ¬ 0 ≤ y := Int32.not_le.mpr h3
        simp [h, h', h2, h2', h3, h3', gd_T]; rfl
      · have h3' : 0 ≤ y := Int32.not_lt.mp h3
        by_cases h4 : nI (F 0 5) ≤ y
        · have h4' : ¬ y < nI (F 0 5) := Int32.not_lt.mpr h4
          simp [h, h', h2, h2', h3, h3', h4, h4', gd_T]; rfl
        · have h4' : y < nI (F 0 5) := Int32.not_le.mp h4
          simp [h, h', h2, h2', h3, h3', h4, h4', gd_T]; rfl
theorem s_25 (hP : Pl K N R p) (hF : PI I J p F) {c : Nat} (hc : c < 64) : Ca lx 25 [.ref (z + p), .int (nI c)] (St z E n K N R I J) = some (some (.int (nI (if inF F c then F 1 c else 3))), (St z E n K N R I J)) := by
  rw [f_25]
  obtain ⟨p0, pr1, pr2, pr3, pr4, pr5, pr6, pr7, pr8, pk1, pk2, pk3, pk4, pk5, pk6, pk7, pk8, pn1, pn2, pn3, pn4, pn5, pn6, pn7, pn8⟩ := hP
  obtain ⟨q0, q1, q2, q3, q4, q5, q6, q7⟩ := hF
  simp (disch := first | assumption | omega) [k_St, n_St, i_St, j_St, r_St, wI_St, wJ_St, k_S0, n_S0, i_S0, j_S0, r_S0, wI_S0, wJ_S0, cI_s, cJ_s, cV_s, nR_s, nQ_s, nQ_n, lt_s_, gd_T, gd_t, Option.map_some, lits, neg_mI, nI_add, pk_mul, nI_clamp, nI_eq, nI_leI, nI_ltI, nm_eq, mn_eq, nm_lt, mn_lt, nm_le, mn_le, m_eq, bI_0, bI_1, s_6 hc, p0, pr1, pk1, pn1, q1 c hc]
theorem s_26 (hP : Pl K N R p) (hF : PI I J p F) (x : Nat) : Ca lx 26 [.ref (z + p), .int (oI x)] (St z E n K N R I J) = some (some (.int (bI (isS F x))), (St z E n K N R I J)) := by
  rw [f_26]
  obtain ⟨p0, pr1, pr2, pr3, pr4, pr5, pr6, pr7, pr8, pk1, pk2, pk3, pk4, pk5, pk6, pk7, pk8, pn1, pn2, pn3, pn4, pn5, pn6, pn7, pn8⟩ := hP
  obtain ⟨q0, q1, q2, q3, q4, q5, q6, q7⟩ := hF
  simp only [s_6o, cI_s]
  by_cases h : x < 64
  · simp only [oI_lt h, j_St, s_5 _ h, q7 x h, cI_s, k_St, p0, h]
    cases hs : isS F x <;> simp [lits, bI_0, bI_1, gd_T] <;> rfl
  · simp [h, lits, bI_0, isS_64, gd_T]; rfl
theorem s_26c (hP : Pl K N R p) (hF : PI I J p F) {x : Nat} (h : x < 64) : Ca lx 26 [.ref (z + p), .int (nI x)] (St z E n K N R I J) = some (some (.int (bI (isS F x))), (St z E n K N R I J)) := by
  have := s_26 (lx := lx) (z := z) (E := E) (n := n) hP hF x
  rwa [oI_lt h] at this
theorem s_31 (hP : Pl K N R p) (hF : PI I J p F) (hO : FOk F) {g k : Nat} (hg : g < F 0 8) (hk : k ≤ F 4 g) : Ca lx 31 [.ref (z + p), .int (nI g), .int (nI k)] (St z E n K N R I J) = some (some (.int (nI (F 5 (g * 9 + k)))), (St z E n K N R I J)) := by
  rw [f_31]
  obtain ⟨p0, pr1, pr2, pr3, pr4, pr5, pr6, pr7, pr8, pk1, pk2, pk3, pk4, pk5, pk6, pk7, pk8, pn1, pn2, pn3, pn4, pn5, pn6, pn7, pn8⟩ := hP
  obtain ⟨q0, q1, q2, q3, q4, q5, q6, q7⟩ := hF
  obtain ⟨o0, o0x, o1, o2, o2x, o3, o4, o4x, o5, o5x, o6, o7, o8, o9, oS, oD, oG, oH⟩ := hO
  have h8 := (oG g hg).2.2.1
  simp (disch := first | assumption | omega) [k_St, n_St, i_St, j_St, r_St, wI_St, wJ_St, k_S0, n_S0, i_S0, j_S0, r_S0, wI_S0, wJ_S0, cI_s, cJ_s, cV_s, nR_s, nQ_s, nQ_n, lt_s_, gd_T, gd_t, Option.map_some, lits, neg_mI, nI_add, pk_mul, nI_clamp, nI_eq, nI_leI, nI_ltI, nm_eq, mn_eq, nm_lt, mn_lt, nm_le, mn_le, m_eq, bI_0, bI_1, if_neg, if_pos, p0, pr5, pk5, pn5, q5 g k hg hk]
end PLN
