/-! the works: what acts change, as one row of numbers (as the reference lays it) -/
def dgg (F : Nat → Nat → Nat) (ρ : Nat → Nat) (g : Nat) : Bool := decide (ρ (8 + g) = 0) && decide (ρ g < F 4 g)
def plc (F : Nat → Nat → Nat) (ρ : Nat → Nat) (g : Nat) : Nat := F 5 (g * 9 + ρ g)
def tks (F : Nat → Nat → Nat) (ρ : Nat → Nat) (c : Nat) : Nat := if ρ (17 + c) = 1 then 0 else F 1 c + 1 + ρ (81 + c)
def Wk (K N : Nat → Nat) (R : Nat → Nat → Option Nat) (w : Nat) : Prop := K w = 8 ∧ R w 4 = some (w + 1) ∧ R w 5 = some (w + 2) ∧ R w 6 = some (w + 3) ∧ K (w + 1) = 13 ∧ K (w + 2) = 13 ∧ K (w + 3) = 13 ∧ N (w + 1) = 4 ∧ N (w + 2) = 4 ∧ N (w + 3) = 4
def WR (I : Nat → Nat → Int32) (J : Nat → Nat → Int64) (w : Nat) (F : Nat → Nat → Nat) (ρ : Nat → Nat) : Prop := (∀ g, g < F 0 8 → I (w + 1) g = nI (ρ g)) ∧ (∀ g, g < F 0 8 → I (w + 2) g = nI (if dgg F ρ g then ρ (4 + g) else 0)) ∧ (∀ d, d < F 0 7 → I (w + 3) d = nI (ρ (12 + d))) ∧ I w 3 = nI (msk (fun g => decide (ρ (8 + g) = 1)) (F 0 8)) ∧ (∀ c, c < 64 → hb (J w 0) c = decide (ρ (17 + c) = 1)) ∧ (∀ c, c < 64 → hb (J w 1) c = decide (ρ (81 + c) = 1))
def ROk (F : Nat → Nat → Nat) (ρ : Nat → Nat) : Prop := (∀ g, g < F 0 8 → ρ g ≤ F 4 g ∧ ρ (4 + g) ≤ 4 ∧ ρ (8 + g) ≤ 1) ∧ (∀ d, d < F 0 7 → isS F (ρ (12 + d)) = true) ∧ (∀ c, c < 64 → ρ (17 + c) ≤ 1 ∧ ρ (81 + c) ≤ 1) ∧ (∀ g, g < F 0 8 → dgg F ρ g = true → 1 ≤ ρ (4 + g))
/-- as ROk, while a night goes by -/
def ROa (F : Nat → Nat → Nat) (ρ : Nat → Nat) : Prop := (∀ g, g < F 0 8 → ρ g ≤ F 4 g ∧ ρ (4 + g) ≤ 4 ∧ ρ (8 + g) ≤ 1) ∧ (∀ d, d < F 0 7 → isS F (ρ (12 + d)) = true) ∧ (∀ c, c < 64 → ρ (17 + c) ≤ 1 ∧ ρ (81 + c) ≤ 1)
theorem ROk_a {F : Nat → Nat → Nat} {ρ : Nat → Nat} (h : ROk F ρ) : ROa F ρ := ⟨h.1, h.2.1, h.2.2.1⟩
/-! searches -/
def anyB (P : Nat → Bool) : Nat → Bool
  | 0 => false
  | n + 1 => anyB P n || P n
theorem anyB_f {P : Nat → Bool} : ∀ {n : Nat}, anyB P n = false ↔ ∀ i, i < n → P i = false
  | 0 => by simp [anyB]
  | n + 1 => by
    simp only [anyB, Bool.or_eq_false_iff, anyB_f (n := n)]
    constructor
    · intro h i hi
      by_cases e : i = n
      · rw [e]; exact h.2
      · exact h.1 i (by omega)
    · intro h
      exact ⟨fun i hi => h i (by omega), h n (by omega)⟩
theorem anyB_t {P : Nat → Bool} {n : Nat} : anyB P n = true ↔ ∃ i, i < n ∧ P i = true := by
  constructor
  · intro h
    apply Classical.byContradiction
    intro c
    have : anyB P n = false := anyB_f.mpr (fun i hi => by
      cases e : P i with
      | false => rfl
      | true => exact absurd ⟨i, hi, e⟩ c)
    rw [this] at h; cases h
  · intro ⟨i, hi, e⟩
    cases h : anyB P n with
    | true => rfl
    | false => rw [anyB_f.mp h i hi] at e; cases e
theorem first_ (P : Nat → Bool) (n : Nat) : (∀ i, i < n → P i = false) ∨ ∃ m, m < n ∧ P m = true ∧ ∀ i, i < m → P i = false := by
  induction n with
  | zero => exact Or.inl (fun i hi => absurd hi (Nat.not_lt_zero i))
  | succ n ih =>
    rcases ih with h | ⟨m, hm, h1, h2⟩
    · cases e : P n with
      | true => exact Or.inr ⟨n, by omega, e, h⟩
      | false => exact Or.inl (fun i hi => by
          by_cases he : i = n
          · rw [he]; exact e
          · exact h i (by omega))
    · exact Or.inr ⟨m, by omega, h1, h2⟩
theorem anyB_m {P : Nat → Bool} {n m : Nat} (hm : m < n) (h : P m = true) : anyB P n = true := anyB_t.mpr ⟨m, hm, h⟩
/-! sets of cells as longs -/
theorem msk_tb (P : Nat → Bool) : ∀ n j, (msk P n).testBit j = (decide (j < n) && P j)
  | 0, j => by simp [msk]
  | n + 1, j => by
    rw [msk]
    have ih := msk_tb P n
    have hl := msk_lt P n
    by_cases hp : P n
    · rw [if_pos hp, Nat.add_comm]
      rcases Nat.lt_trichotomy j n with h | h | h
      · rw [Nat.testBit_two_pow_add_gt h, ih]
        have : j < n + 1 := by omega
        simp [h, this]
      · subst h
        rw [Nat.testBit_two_pow_add_eq, ih]
        simp [hp]
      · have : ¬ j < n + 1 := by omega
        simp only [this, decide_false, Bool.false_and]
        apply Nat.testBit_lt_two_pow
        have : 2 ^ (n + 1) ≤ 2 ^ j := Nat.pow_le_pow_right (by decide) (by omega)
        rw [Nat.pow_succ] at this
        omega
    · rw [if_neg hp, Nat.add_zero, ih]
      by_cases h : j = n
      · subst h; simp [hp]
      · by_cases h2 : j < n
        · have : j < n + 1 := by omega
          simp [h2, this]
        · have : ¬ j < n + 1 := by omega
          simp [h2, this]
def sto (P : Nat → Bool) : Int64 := ⟨⟨BitVec.ofNat 64 (msk P 64)⟩⟩
theorem hb_s (P : Nat → Bool) {c : Nat} (hc : c < 64) : hb (sto P) c = P c := by
  have : hb (sto P) c = (BitVec.ofNat 64 (msk P 64)).getLsbD c := rfl
  rw [this, BitVec.getLsbD_ofNat, msk_tb]
  simp [hc]
theorem sto_x {P : Nat → Bool} {x : Int64} (h : ∀ c, c < 64 → hb x c = P c) : x = sto P := hb_ext (fun c hc => by rw [h c hc, hb_s P hc])
theorem sto_c {P Q : Nat → Bool} (h : ∀ c, c < 64 → P c = Q c) : sto P = sto Q := sto_x (fun c hc => by rw [hb_s P hc, h c hc])
theorem sto_o (P : Nat → Bool) {c : Nat} (hc : c < 64) : sto P ||| ((1 : Int64) <<< ((nI c).toInt64 &&& 63)) = sto (fun i => P i || decide (i = c)) :=
  sto_x (fun i hi => by rw [hb_o _ hc, hb_s P hi])
section WRK
variable {z : Nat} {E : aEt} {n : Nat} {K N : Nat → Nat} {R : Nat → Nat → Option Nat} {I : Nat → Nat → Int32} {J : Nat → Nat → Int64} {lx : List Value → aH → aO} {p w : Nat} {F : Nat → Nat → Nat} {ρ : Nat → Nat}
theorem plc_S (hO : FOk F) (hρ : ROa F ρ) {g : Nat} (hg : g < F 0 8) : isS F (plc F ρ g) = true := by
  obtain ⟨o0, o0x, o1, o2, o2x, o3, o4, o4x, o5, o5x, o6, o7, o8, o9, oS, oD, oG, oH⟩ := hO
  exact (oG g hg).2.2.2 _ (hρ.1 g hg).1
theorem plc_l (hO : FOk F) (hρ : ROa F ρ) {g : Nat} (hg : g < F 0 8) : plc F ρ g < 64 := isS_lt (plc_S hO hρ hg)
theorem s_99 (hP : Pl K N R p) (hF : PI I J p F) (hW : Wk K N R w) (hR : WR I J w F ρ) (hρ : ROa F ρ) {c : Nat} (hc : c < 64) (hi : inF F c = true) : Ca lx 99 [.ref (z + w), .ref (z + p), .int (nI c)] (St z E n K N R I J) = some (some (.int (nI (tks F ρ c))), (St z E n K N R I J)) := by
  rw [f_99]
  have e := s_25 (lx := lx) (z := z) (E := E) (n := n) hP hF hc
  have kp := hP.1
  have kw := hW.1
  obtain ⟨r1, r2, r3, r4, r5, r6⟩ := hR
  obtain ⟨v1, v2, v3⟩ := hρ
  have b := (v3 c hc).2
  simp only [k_St, kp, kw, gd_t, j_St, s_5 _ hc, cI_s, e, r5 c hc, r6 c hc, hi, if_true, lits, bI_0]
  unfold tks
  by_cases h : ρ (17 + c) = 1
  · simp [h]
  · by_cases h2 : ρ (81 + c) = 1
    · simp [h, h2, nI_add]
    · have : ρ (81 + c) = 0 := by omega
      simp [h, this, nI_add]
theorem s_101 (hW : Wk K N R w) (hR : WR I J w F ρ) (hO : FOk F) {g : Nat} (hg : g < F 0 8) : Ca lx 101 [.ref (z + w), .int (nI g)] (St z E n K N R I J) = some (some (.int (nI (ρ g))), (St z E n K N R I J)) := by
  rw [f_101]
  obtain ⟨w0, wr1, wr2, wr3, wk1, wk2, wk3, wn1, wn2, wn3⟩ := hW
  obtain ⟨r1, r2, r3, r4, r5, r6⟩ := hR
  obtain ⟨o0, o0x, o1, o2, o2x, o3, o4, o4x, o5, o5x, o6, o7, o8, o9, oS, oD, oG, oH⟩ := hO
  simp (disch := first | assumption | omega) [k_St, n_St, i_St, j_St, r_St, wI_St, wJ_St, k_S0, n_S0, i_S0, j_S0, r_S0, wI_S0, wJ_S0, cI_s, cJ_s, cV_s, nR_s, nQ_s, nQ_n, lt_s_, gd_T, gd_t, Option.map_some, lits, neg_mI, nI_add, pk_mul, nI_clamp, nI_eq, nI_leI, nI_ltI, nm_eq, mn_eq, nm_lt, mn_lt, nm_le, mn_le, m_eq, bI_0, bI_1, if_neg, if_pos, w0, wr1, wk1, wn1, r1 g hg]
theorem s_100 (hP : Pl K N R p) (hF : PI I J p F) (hW : Wk K N R w) (hR : WR I J w F ρ) (hO : FOk F) (hρ : ROa F ρ) {g : Nat} (hg : g < F 0 8) : Ca lx 100 [.ref (z + w), .ref (z + p), .int (nI g)] (St z E n K N R I J) = some (some (.int (nI (plc F ρ g))), (St z E n K N R I J)) := by
  rw [f_100]
  simp only [k_St, hW.1, hP.1, gd_t, s_101 hW hR hO hg, cI_s, s_31 hP hF hO hg (hρ.1 g hg).1]
  rfl
theorem s_102 (hW : Wk K N R w) (hR : WR I J w F ρ) (hO : FOk F) (hρ : ROk F ρ) {g : Nat} (hg : g < F 0 8) : Ca lx 102 [.ref (z + w), .int (nI g)] (St z E n K N R I J) = some (some (.int (bI (dgg F ρ g))), (St z E n K N R I J)) := by
  rw [f_102]
  obtain ⟨w0, wr1, wr2, wr3, wk1, wk2, wk3, wn1, wn2, wn3⟩ := hW
  obtain ⟨r1, r2, r3, r4, r5, r6⟩ := hR
  obtain ⟨o0, o0x, o1, o2, o2x, o3, o4, o4x, o5, o5x, o6, o7, o8, o9, oS, oD, oG, oH⟩ := hO
  obtain ⟨v1, v2, v3, v4⟩ := hρ
  have h1 := v4 g hg
  have h2 := (v1 g hg).2.1
  cases h : dgg F ρ g
  · simp (disch := first | assumption | omega) [k_St, n_St, i_St, j_St, r_St, wI_St, wJ_St, k_S0, n_S0, i_S0, j_S0, r_S0, wI_S0, wJ_S0, cI_s, cJ_s, cV_s, nR_s, nQ_s, nQ_n, lt_s_, gd_T, gd_t, Option.map_some, lits, neg_mI, nI_add, pk_mul, nI_clamp, nI_eq, nI_leI, nI_ltI, nm_eq, mn_eq, nm_lt, mn_lt, nm_le, mn_le, m_eq, bI_0, bI_1, if_neg, if_pos, w0, wr2, wk2, wn2, r2 g hg, h]; rfl
  · have h3 := h1 h
    simp (disch := first | assumption | omega) [k_St, n_St, i_St, j_St, r_St, wI_St, wJ_St, k_S0, n_S0, i_S0, j_S0, r_S0, wI_S0, wJ_S0, cI_s, cJ_s, cV_s, nR_s, nQ_s, nQ_n, lt_s_, gd_T, gd_t, Option.map_some, lits, neg_mI, nI_add, pk_mul, nI_clamp, nI_eq, nI_leI, nI_ltI, nm_eq, mn_eq, nm_lt, mn_lt, nm_le, mn_le, m_eq, bI_0, bI_1, if_neg, if_pos, w0, wr2, wk2, wn2, r2 g hg, h]; rfl
theorem s_105 (hP : Pl K N R p) (hF : PI I J p F) (hW : Wk K N R w) (hR : WR I J w F ρ) (hO : FOk F) (hρ : ROa F ρ) {g o : Nat} (hg : g < F 0 8) (ho : o < F 0 8) : Ca lx 105 [.ref (z + w), .ref (z + p), .int (nI g), .int (nI o)] (St z E n K N R I J) = some (some (.int (bI (decide (apt (plc F ρ g) (plc F ρ o) ≤ 1)))), (St z E n K N R I J)) := by
  rw [f_105]
  have e1 := s_100 (lx := lx) (z := z) (E := E) (n := n) hP hF hW hR hO hρ hg
  have e2 := s_100 (lx := lx) (z := z) (E := E) (n := n) hP hF hW hR hO hρ ho
  have l1 := plc_l hO hρ hg
  have l2 := plc_l hO hρ ho
  have ha := apt_le l1 l2
  simp only [k_St, hW.1, gd_t, e1, e2, cI_s, s_4 l1 l2]
  by_cases h : apt (plc F ρ g) (plc F ρ o) ≤ 1
  · simp (disch := first | assumption | omega) [k_St, n_St, i_St, j_St, r_St, wI_St, wJ_St, k_S0, n_S0, i_S0, j_S0, r_S0, wI_S0, wJ_S0, cI_s, cJ_s, cV_s, nR_s, nQ_s, nQ_n, lt_s_, gd_T, gd_t, Option.map_some, lits, neg_mI, nI_add, pk_mul, nI_clamp, nI_eq, nI_leI, nI_ltI, nm_eq, mn_eq, nm_lt, mn_lt, nm_le, mn_le, m_eq, bI_0, bI_1, h, if_neg]; rfl
  · simp (disch := first | assumption | omega) [k_St, n_St, i_St, j_St, r_St, wI_St, wJ_St, k_S0, n_S0, i_S0, j_S0, r_S0, wI_S0, wJ_S0, cI_s, cJ_s, cV_s, nR_s, nQ_s, nQ_n, lt_s_, gd_T, gd_t, Option.map_some, lits, neg_mI, nI_add, pk_mul, nI_clamp, nI_eq, nI_leI, nI_ltI, nm_eq, mn_eq, nm_lt, mn_lt, nm_le, mn_le, m_eq, bI_0, bI_1, h, if_pos]; rfl
def nrP (F : Nat → Nat → Nat) (ρ : Nat → Nat) (c r g : Nat) : Bool := decide (apt (plc F ρ g) c ≤ r)
theorem s_103 (hP : Pl K N R p) (hF : PI I J p F) (hW : Wk K N R w) (hR : WR I J w F ρ) (hO : FOk F) (hρ : ROa F ρ) {c r : Nat} (hc : c < 64) (hr : r ≤ 2) : Ca lx 103 [.ref (z + w), .ref (z + p), .int (nI c), .int (nI r)] (St z E n K N R I J) = some (some (.int (nI (msk (nrP F ρ c r) (F 0 8)))), (St z E n K N R I J)) := by
  rw [f_103]
  have kp := hP.1
  have kw := hW.1
  have q := hF.1 8 (by decide)
  have o8 : F 0 8 ≤ 4 := hO.2.2.2.2.2.2.2.2.2.2.2.2.1
  have L := loopN (X := fun i => Am lx 103 5 [some (.ref (z + w)), some (.ref (z + p)), some (.int (nI c)), some (.int (nI r)), some (.int (nI (msk (nrP F ρ c r) i))), some (.int (nI i))] [] (0, 0) (St z E n K N R I J)) (n := F 0 8) (by
    intro i hi
    try simp only
    rw [e_103_5]
    have e1 := s_100 (lx := lx) (z := z) (E := E) (n := n) hP hF hW hR hO hρ hi
    have l1 := plc_l hO hρ hi
    have ha := apt_le l1 hc
    have hm := msk_lt (nrP F ρ c r) i
    have i4 : i < 4 := by omega
    simp only [k_St, i_St, kp, kw, q, gd_t, e1, cI_s, s_4 l1 hc]
    by_cases h : apt (plc F ρ i) c ≤ r
    · simp (disch := first | assumption | omega) [k_St, n_St, i_St, j_St, r_St, wI_St, wJ_St, k_S0, n_S0, i_S0, j_S0, r_S0, wI_S0, wJ_S0, cI_s, cJ_s, cV_s, nR_s, nQ_s, nQ_n, lt_s_, gd_T, gd_t, Option.map_some, lits, neg_mI, nI_add, pk_mul, nI_clamp, nI_eq, nI_leI, nI_ltI, nm_eq, mn_eq, nm_lt, mn_lt, nm_le, mn_le, m_eq, bI_0, bI_1, if_neg, if_pos, msk, nrP, h, bt_o i4 hm]
    · simp (disch := first | assumption | omega) [k_St, n_St, i_St, j_St, r_St, wI_St, wJ_St, k_S0, n_S0, i_S0, j_S0, r_S0, wI_S0, wJ_S0, cI_s, cJ_s, cV_s, nR_s, nQ_s, nQ_n, lt_s_, gd_T, gd_t, Option.map_some, lits, neg_mI, nI_add, pk_mul, nI_clamp, nI_eq, nI_leI, nI_ltI, nm_eq, mn_eq, nm_lt, mn_lt, nm_le, mn_le, m_eq, bI_0, bI_1, if_neg, if_pos, msk, nrP, h])
  simp only [msk] at L
  have z0 : (0 : Int32) = nI 0 := rfl
  rw [z0, L, e_103_5]
  simp (disch := first | assumption | omega) [k_St, n_St, i_St, j_St, r_St, wI_St, wJ_St, k_S0, n_S0, i_S0, j_S0, r_S0, wI_S0, wJ_S0, cI_s, cJ_s, cV_s, nR_s, nQ_s, nQ_n, lt_s_, gd_T, gd_t, Option.map_some, lits, neg_mI, nI_add, pk_mul, nI_clamp, nI_eq, nI_leI, nI_ltI, nm_eq, mn_eq, nm_lt, mn_lt, nm_le, mn_le, m_eq, bI_0, bI_1, kp, q]
theorem s_104 (hP : Pl K N R p) (hF : PI I J p F) (hW : Wk K N R w) (hR : WR I J w F ρ) (hO : FOk F) (hρ : ROa F ρ) {c r : Nat} (hc : c < 64) (hr : r ≤ 2) : Ca lx 104 [.ref (z + w), .ref (z + p), .int (nI c), .int (nI r)] (St z E n K N R I J) = some (some (.int (nI (msk (fun g => nrP F ρ c r g && !decide (ρ (8 + g) = 1)) (F 0 8)))), (St z E n K N R I J)) := by
  rw [f_104]
  have o8 : F 0 8 ≤ 4 := hO.2.2.2.2.2.2.2.2.2.2.2.2.1
  simp only [k_St, hW.1, gd_t, s_103 hP hF hW hR hO hρ hc hr, cI_s, i_St, hR.2.2.2.1, lits, neg_mI]
  rw [msk_and _ _ o8]
theorem s_109 (hP : Pl K N R p) (hF : PI I J p F) (hW : Wk K N R w) (hR : WR I J w F ρ) (hO : FOk F) (hρ : ROa F ρ) {c : Nat} (hc : c < 64) : Ca lx 109 [.ref (z + w), .ref (z + p), .int (nI c)] (St z E n K N R I J) = some (some (.int (bI (anyB (fun d => decide (apt c (ρ (12 + d)) ≤ F 0 0)) (F 0 7)))), (St z E n K N R I J)) := by
  rw [f_109]
  have kp := hP.1
  have q := hF.1 7 (by decide)
  have q0 := hF.1 0 (by decide)
  obtain ⟨w0, wr1, wr2, wr3, wk1, wk2, wk3, wn1, wn2, wn3⟩ := hW
  obtain ⟨r1, r2, r3, r4, r5, r6⟩ := hR
  obtain ⟨o0, o0x, o1, o2, o2x, o3, o4, o4x, o5, o5x, o6, o7, o8, o9, oS, oD, oG, oH⟩ := hO
  have hd : ∀ d, d < F 0 7 → ρ (12 + d) < 64 := fun d h => isS_lt (hρ.2.1 d h)
  have z0 : (0 : Int32) = nI 0 := rfl
  rw [z0]
  have st : ∀ i, i < F 0 7 → Am lx 109 3 [some (.ref (z + w)), some (.ref (z + p)), some (.int (nI c)), some (.int (nI i))] [] (0, 0) (St z E n K N R I J) = if apt c (ρ (12 + i)) ≤ F 0 0 then some (some (.int (nI 1)), (St z E n K N R I J)) else Am lx 109 3 [some (.ref (z + w)), some (.ref (z + p)), some (.int (nI c)), some (.int (nI (i + 1)))] [] (0, 0) (St z E n K N R I J) := by
    intro i hi
    rw [e_109_3]
    have ha := apt_le hc (hd i hi)
    have s4 := s_4 (lx := lx) hc (hd i hi)
    by_cases h : apt c (ρ (12 + i)) ≤ F 0 0
    · simp (disch := first | assumption | omega) [k_St, n_St, i_St, j_St, r_St, wI_St, wJ_St, k_S0, n_S0, i_S0, j_S0, r_S0, wI_S0, wJ_S0, cI_s, cJ_s, cV_s, nR_s, nQ_s, nQ_n, lt_s_, gd_T, gd_t, Option.map_some, lits, neg_mI, nI_add, pk_mul, nI_clamp, nI_eq, nI_leI, nI_ltI, nm_eq, mn_eq, nm_lt, mn_lt, nm_le, mn_le, m_eq, bI_0, bI_1, if_neg, if_pos, kp, q, q0, w0, wr3, wk3, wn3, r3 i hi, s4, h]
    · simp (disch := first | assumption | omega) [k_St, n_St, i_St, j_St, r_St, wI_St, wJ_St, k_S0, n_S0, i_S0, j_S0, r_S0, wI_S0, wJ_S0, cI_s, cJ_s, cV_s, nR_s, nQ_s, nQ_n, lt_s_, gd_T, gd_t, Option.map_some, lits, neg_mI, nI_add, pk_mul, nI_clamp, nI_eq, nI_leI, nI_ltI, nm_eq, mn_eq, nm_lt, mn_lt, nm_le, mn_le, m_eq, bI_0, bI_1, if_neg, if_pos, kp, q, q0, w0, wr3, wk3, wn3, r3 i hi, s4, h]
  rcases first_ (fun d => decide (apt c (ρ (12 + d)) ≤ F 0 0)) (F 0 7) with h | ⟨m, hm, h1, h2⟩
  · have L := loopN (X := fun i => Am lx 109 3 [some (.ref (z + w)), some (.ref (z + p)), some (.int (nI c)), some (.int (nI i))] [] (0, 0) (St z E n K N R I J)) (n := F 0 7) (by
      intro i hi
      try simp only
      rw [st i hi, if_neg (by simpa using h i hi)])
    try simp only at L
    rw [L, e_109_3, anyB_f.mpr h]
    simp (disch := first | assumption | omega) [k_St, n_St, i_St, j_St, r_St, wI_St, wJ_St, k_S0, n_S0, i_S0, j_S0, r_S0, wI_S0, wJ_S0, cI_s, cJ_s, cV_s, nR_s, nQ_s, nQ_n, lt_s_, gd_T, gd_t, Option.map_some, lits, neg_mI, nI_add, pk_mul, nI_clamp, nI_eq, nI_leI, nI_ltI, nm_eq, mn_eq, nm_lt, mn_lt, nm_le, mn_le, m_eq, bI_0, bI_1, kp, q]; rfl
  · have L := loopN (X := fun i => Am lx 109 3 [some (.ref (z + w)), some (.ref (z + p)), some (.int (nI c)), some (.int (nI i))] [] (0, 0) (St z E n K N R I J)) (n := m) (by
      intro i hi
      try simp only
      rw [st i (by omega), if_neg (by simpa using h2 i hi)])
    try simp only at L
    rw [L, st m hm, if_pos (by simpa using h1), anyB_m hm h1]; rfl
end WRK
