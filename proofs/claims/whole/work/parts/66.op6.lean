/-! miners and garrison; draws -/
def gn (q : Nat) (a b : Bool) : Int32 := if a then (if b then mI q else nI 3) else (if b then mI 1 else nI 1)
def rst (q : Nat) (a b : Bool) : Bool := !decide (gn q a b < gn q (!a) b) && !decide (gn q b a < gn q (!b) a)
def ds (s : Nat) : Nat := (75 * s + 74) % 65537
def dk (s : Nat) : Nat → Nat
  | 0 => s
  | i + 1 => ds (dk s i)
def fl (F : Nat → Nat → Nat) (s : Nat) (i : Nat) : Bool := anyB (fun j => decide (dk s (j + 1) % 100 < F 0 3)) i
def dS (F : Nat → Nat → Nat) (ρ : Nat → Nat) (s : Nat) : Nat → Nat
  | 0 => s
  | g + 1 => dk (dS F ρ s g) (ρ g + 1)
theorem dk_lt {s : Nat} (h : s < 65537) : ∀ i, dk s i < 65537
  | 0 => h
  | i + 1 => by rw [dk]; unfold ds; omega
theorem dS_lt {F : Nat → Nat → Nat} {ρ : Nat → Nat} {s : Nat} (h : s < 65537) : ∀ g, dS F ρ s g < 65537
  | 0 => h
  | g + 1 => by rw [dS]; exact dk_lt (dS_lt h g) _
section OP6
variable {z : Nat} {E : aEt} {n : Nat} {K N : Nat → Nat} {R : Nat → Nat → Option Nat} {I : Nat → Nat → Int32} {J : Nat → Nat → Int64} {lx : List Value → aH → aO} {p s f w : Nat} {F : Nat → Nat → Nat} {ρ : Nat → Nat}
theorem s_172 (q : Nat) (a b : Bool) (S : aH) : Ca lx 172 [.int (nI q), .int (bI a), .int (bI b)] S = some (some (.int (gn q a b)), S) := by
  rw [f_172]
  cases a <;> cases b <;> simp [lits, bI_0, gn, neg_mI]
theorem s_293 (q : Nat) (a b : Bool) (S : aH) : Ca lx 293 [.int (nI q), .int (bI a), .int (bI b)] S = some (some (.int (gn q a b)), S) := by
  rw [f_293]
  cases a <;> cases b <;> simp [lits, bI_0, gn, neg_mI]
theorem bf_ : bI false = nI 0 := rfl
theorem bt__ : bI true = nI 1 := rfl
theorem g2_00 (q : Nat) (S : aH) : Ca lx 172 [.int (nI q), .int (nI 0), .int (nI 0)] S = some (some (.int (nI 1)), S) := s_172 q false false S
theorem g2_01 (q : Nat) (S : aH) : Ca lx 172 [.int (nI q), .int (nI 0), .int (nI 1)] S = some (some (.int (mI 1)), S) := s_172 q false true S
theorem g2_10 (q : Nat) (S : aH) : Ca lx 172 [.int (nI q), .int (nI 1), .int (nI 0)] S = some (some (.int (nI 3)), S) := s_172 q true false S
theorem g2_11 (q : Nat) (S : aH) : Ca lx 172 [.int (nI q), .int (nI 1), .int (nI 1)] S = some (some (.int (mI q)), S) := s_172 q true true S
theorem g3_00 (q : Nat) (S : aH) : Ca lx 293 [.int (nI q), .int (nI 0), .int (nI 0)] S = some (some (.int (nI 1)), S) := s_293 q false false S
theorem g3_01 (q : Nat) (S : aH) : Ca lx 293 [.int (nI q), .int (nI 0), .int (nI 1)] S = some (some (.int (mI 1)), S) := s_293 q false true S
theorem g3_10 (q : Nat) (S : aH) : Ca lx 293 [.int (nI q), .int (nI 1), .int (nI 0)] S = some (some (.int (nI 3)), S) := s_293 q true false S
theorem g3_11 (q : Nat) (S : aH) : Ca lx 293 [.int (nI q), .int (nI 1), .int (nI 1)] S = some (some (.int (mI q)), S) := s_293 q true true S
theorem s_173 (q : Nat) (a b : Bool) (S : aH) : Ca lx 173 [.int (nI q), .int (bI a), .int (bI b)] S = some (some (.int (bI (rst q a b))), S) := by
  rw [f_173]
  have n10 : ¬ nI 1 = nI 0 := by decide
  unfold rst
  by_cases c1 : gn q a b < gn q (!a) b
  · rw [decide_eq_true c1]
    cases a <;> cases b <;> simp only [gn, Bool.not_true, Bool.not_false, if_true, if_false, Bool.false_eq_true] at c1 <;> simp [bf_, bt__, g2_00, g2_01, g2_10, g2_11, e_173_11, e_173_25, lits, c1, n10, gd_T, cI_s]
  · rw [decide_eq_false c1]
    by_cases c2 : gn q b a < gn q (!b) a
    · rw [decide_eq_true c2]
      cases a <;> cases b <;> simp only [gn, Bool.not_true, Bool.not_false, if_true, if_false, Bool.false_eq_true] at c1 c2 <;> simp [bf_, bt__, g2_00, g2_01, g2_10, g2_11, e_173_11, e_173_25, lits, c1, c2, n10, gd_T, cI_s] <;> exact absurd c2 c1
    · rw [decide_eq_false c2]
      cases a <;> cases b <;> simp only [gn, Bool.not_true, Bool.not_false, if_true, if_false, Bool.false_eq_true] at c1 c2 <;> simp [bf_, bt__, g2_00, g2_01, g2_10, g2_11, e_173_11, e_173_25, lits, c1, c2, n10, gd_T, cI_s]
theorem s_296 (q : Nat) {k : Nat} (hk : k < 4) (S : aH) : Ca lx 296 [.int (nI q), .int (nI k)] S = some (some (.int (bI (rst q (decide (2 ≤ k)) (decide (k % 2 = 1))))), S) := by
  rw [f_296]
  have n10 : ¬ nI 1 = nI 0 := by decide
  have A : ∀ a b : Bool, Am lx 296 17 [some (.int (nI q)), none, some (.int (bI a)), none] [.int (bI b)] (0, 0) S = some (some (.int (bI (rst q a b))), S) := by
    intro a b
    rw [e_296_17]
    unfold rst
    by_cases c1 : gn q a b < gn q (!a) b
    · rw [decide_eq_true c1]
      cases a <;> cases b <;> simp only [gn, Bool.not_true, Bool.not_false, if_true, if_false, Bool.false_eq_true] at c1 <;> simp [bf_, bt__, g3_00, g3_01, g3_10, g3_11, e_296_25, e_296_39, lits, c1, n10, gd_T, cI_s]
    · rw [decide_eq_false c1]
      by_cases c2 : gn q b a < gn q (!b) a
      · rw [decide_eq_true c2]
        cases a <;> cases b <;> simp only [gn, Bool.not_true, Bool.not_false, if_true, if_false, Bool.false_eq_true] at c1 c2 <;> simp [bf_, bt__, g3_00, g3_01, g3_10, g3_11, e_296_25, e_296_39, lits, c1, c2, n10, gd_T, cI_s] <;> exact absurd c2 c1
      · rw [decide_eq_false c2]
        cases a <;> cases b <;> simp only [gn, Bool.not_true, Bool.not_false, if_true, if_false, Bool.false_eq_true] at c1 c2 <;> simp [bf_, bt__, g3_00, g3_01, g3_10, g3_11, e_296_25, e_296_39, lits, c1, c2, n10, gd_T, cI_s]
  have l1 : nI k ≤ nI 1 ↔ k ≤ 1 := nI_leI (by omega) (by omega)
  have l2 : nI k - nI k / nI 2 * nI 2 = nI (k % 2) := pk_rem (by omega) (by omega) (by omega)
  have m2 : k % 2 = 0 ∨ k % 2 = 1 := by omega
  have n01 : ¬ nI 0 = nI 1 := by decide
  by_cases c1 : k ≤ 1
  · have d1 : decide (2 ≤ k) = false := by simp; omega
    rw [d1]
    rcases m2 with c2 | c2
    · have := A false false
      simp only [bf_] at this
      simp [lits, l1, c1, e_296_7, l2, gd_T, c2, n01, this]
    · have := A false true
      simp only [bf_, bt__] at this
      simp [lits, l1, c1, e_296_7, l2, gd_T, c2, this]
  · have d1 : decide (2 ≤ k) = true := by simp; omega
    rw [d1]
    rcases m2 with c2 | c2
    · have := A true false
      simp only [bf_, bt__] at this
      simp [lits, l1, c1, e_296_7, l2, gd_T, c2, n01, this]
    · have := A true true
      simp only [bt__] at this
      simp [lits, l1, c1, e_296_7, l2, gd_T, c2, this]
theorem d_294 (h : MD K N R I f F) (x : Int32) : Ca lx 294 [.ref (z + 132), .int x] (St z E n K N R I J) = some (some (.int (nI (if rg x 10 then 0 else 2))), (St z E n K N R I J)) := by
  rw [f_294]
  have e := d_187 (lx := lx) x (m := 9) (by omega) (St z E n K N R I J)
  have km := h.1.1
  have rf := h.2.2.1
  simp only [k_St, km, gd_t, r_St, rf, Option.map_some, nQ_s, lits, e, cI_s, bI_0]
  cases rg x 10 <;> simp
theorem bI_x (x : Int32) : (if x = 0 then (0 : Int32) else 1) = bI (decide (x ≠ 0)) := by
  by_cases h : x = 0
  · simp [h]; rfl
  · simp [h]; rfl
theorem o_145 (h : CW K N R I J p s F ρ) (x : Int32) (a b c : Bool) : OQ lx z E n K N R I J f F ρ 145 295 [.int x, .int (bI a), .int (bI b), .int (bI c)] := by
  have e68 := c_168 (lx := lx) x
  obtain ⟨hL, _, h10, hF, hO, hR, hρ, _, h16⟩ := h
  have k0 := hL.1
  have t1 : nI 1 = bI true := rfl
  rcases rg_i x (n := 10) (by omega) with e | ⟨q, hq, eq⟩
  · rw [e] at e68
    have c161 := c_161 (lx := lx) (z := z) (E := E) (n := n) (N := N) (R := R) (I := I) (J := J) k0 true false
    rw [← t1] at c161
    refine ⟨2, mI 100, by decide, by decide, ⟨_, _, ?_, CQ_u⟩, fun I2 J2 hM => ⟨_, ?_, MQ_1⟩⟩
    · rw [f_145]
      simp [k_St, n_St, i_St, j_St, r_St, wI_St, wJ_St, k_S0, n_S0, i_S0, j_S0, r_S0, wI_S0, wJ_S0, cI_s, cJ_s, cV_s, nR_s, nQ_s, nQ_n, lt_s_, gd_T, gd_t, Option.map_some, lits, neg_mI, nI_add, pk_mul, nI_clamp, nI_eq, nI_leI, nI_ltI, nm_eq, mn_eq, nm_lt, mn_lt, nm_le, mn_le, m_eq, bI_0, bI_1, k0, h10, e68, c161]
    · rw [f_295]
      have e2 := d_294 (lx := lx) (z := z) (E := E) (n := n) (J := J2) (MV_0 hM).1 x
      rw [e] at e2
      have km := hM.1.1.1
      simp (disch := first | assumption | omega) [k_St, n_St, i_St, j_St, r_St, wI_St, wJ_St, k_S0, n_S0, i_S0, j_S0, r_S0, wI_S0, wJ_S0, cI_s, cJ_s, cV_s, nR_s, nQ_s, nQ_n, lt_s_, gd_T, gd_t, Option.map_some, lits, neg_mI, nI_add, pk_mul, nI_clamp, nI_eq, nI_leI, nI_ltI, nm_eq, mn_eq, nm_lt, mn_lt, nm_le, mn_le, m_eq, bI_0, bI_1, if_neg, km, e2, f_183, d_182]
  · subst eq
    rw [rg_t hq (by omega)] at e68
    have c161 := c_161 (lx := lx) (z := z) (E := E) (n := n) (N := N) (R := R) (I := I) (J := J) k0 true true
    rw [← t1] at c161
    rw [← t1] at e68
    refine ⟨0, if c then gn q b a else gn q a b, by decide, by decide, ⟨_, _, ?_, CQ_u⟩, fun I2 J2 hM => ⟨_, ?_, MQ_1⟩⟩
    · rw [f_145]
      cases c <;> simp [k_St, n_St, i_St, j_St, r_St, wI_St, wJ_St, k_S0, n_S0, i_S0, j_S0, r_S0, wI_S0, wJ_S0, cI_s, cJ_s, cV_s, nR_s, nQ_s, nQ_n, lt_s_, gd_T, gd_t, Option.map_some, lits, neg_mI, nI_add, pk_mul, nI_clamp, nI_eq, nI_leI, nI_ltI, nm_eq, mn_eq, nm_lt, mn_lt, nm_le, mn_le, m_eq, bI_0, bI_1, k0, h10, e68, c161, s_172]
    · rw [f_295]
      have e2 := d_294 (lx := lx) (z := z) (E := E) (n := n) (J := J2) (MV_0 hM).1 (nI q)
      rw [rg_t hq (by omega)] at e2
      have km := hM.1.1.1
      cases c <;> simp (disch := first | assumption | omega) [k_St, n_St, i_St, j_St, r_St, wI_St, wJ_St, k_S0, n_S0, i_S0, j_S0, r_S0, wI_S0, wJ_S0, cI_s, cJ_s, cV_s, nR_s, nQ_s, nQ_n, lt_s_, gd_T, gd_t, Option.map_some, lits, neg_mI, nI_add, pk_mul, nI_clamp, nI_eq, nI_leI, nI_ltI, nm_eq, mn_eq, nm_lt, mn_lt, nm_le, mn_le, m_eq, bI_0, bI_1, if_pos, km, e2, s_293, e_295_26, s_185]
def rsN (q : Nat) (i : Nat) : Nat := (if i > 0 ∧ rst q false false then 1 else 0) + (if i > 1 ∧ rst q false true then 1 else 0) + (if i > 2 ∧ rst q true false then 1 else 0) + (if i > 3 ∧ rst q true true then 1 else 0)
def rsQ (q k : Nat) : Bool := rst q (decide (2 ≤ k)) (decide (k % 2 = 1))
theorem c_147k (q : Nat) {k : Nat} (hk : k < 4) (S : aH) : Am lx 147 12 [none, some (.int (nI q)), some (.int (nI k))] [] (0, 0) S = if rsQ q k then some (some (.int (nI (k / 2 * 10 + k % 2))), S) else Am lx 147 12 [none, some (.int (nI q)), some (.int (nI (k + 1)))] [] (0, 0) S := by
  rw [e_147_12]
  have t1 : nI 1 = bI true := rfl
  have t0 : nI 0 = bI false := rfl
  have l2 : nI k - nI k / nI 2 * nI 2 = nI (k % 2) := pk_rem (by omega) (by omega) (by omega)
  have l3 : nI k / nI 2 = nI (k / 2) := pk_div (by omega) (by omega) (by omega)
  rw [l3, pk_mul] at l2
  have m2 : k % 2 = 0 ∨ k % 2 = 1 := by omega
  unfold rsQ
  by_cases c1 : k < 2
  · have d1 : decide (2 ≤ k) = false := by simp; omega
    rcases m2 with c2 | c2
    · have s := s_173 (lx := lx) q false false S
      rw [← t0] at s
      simp (disch := first | assumption | omega) [k_St, n_St, i_St, j_St, r_St, wI_St, wJ_St, k_S0, n_S0, i_S0, j_S0, r_S0, wI_S0, wJ_S0, cI_s, cJ_s, cV_s, nR_s, nQ_s, nQ_n, lt_s_, gd_T, gd_t, Option.map_some, lits, neg_mI, nI_add, pk_mul, nI_clamp, nI_eq, nI_leI, nI_ltI, nm_eq, mn_eq, nm_lt, mn_lt, nm_le, mn_le, m_eq, bI_0, bI_1, if_neg, if_pos, e_147_23, l2, l3, c2, e_147_32, d1, s]
      cases rst q false false <;> simp
    · have s := s_173 (lx := lx) q false true S
      rw [← t0, ← t1] at s
      simp (disch := first | assumption | omega) [k_St, n_St, i_St, j_St, r_St, wI_St, wJ_St, k_S0, n_S0, i_S0, j_S0, r_S0, wI_S0, wJ_S0, cI_s, cJ_s, cV_s, nR_s, nQ_s, nQ_n, lt_s_, gd_T, gd_t, Option.map_some, lits, neg_mI, nI_add, pk_mul, nI_clamp, nI_eq, nI_leI, nI_ltI, nm_eq, mn_eq, nm_lt, mn_lt, nm_le, mn_le, m_eq, bI_0, bI_1, if_neg, if_pos, e_147_23, l2, l3, c2, e_147_32, d1, s]
      cases rst q false true <;> simp
  · have d1 : decide (2 ≤ k) = true := by simp; omega
    rcases m2 with c2 | c2
    · have s := s_173 (lx := lx) q true false S
      rw [← t0, ← t1] at s
      simp (disch := first | assumption | omega) [k_St, n_St, i_St, j_St, r_St, wI_St, wJ_St, k_S0, n_S0, i_S0, j_S0, r_S0, wI_S0, wJ_S0, cI_s, cJ_s, cV_s, nR_s, nQ_s, nQ_n, lt_s_, gd_T, gd_t, Option.map_some, lits, neg_mI, nI_add, pk_mul, nI_clamp, nI_eq, nI_leI, nI_ltI, nm_eq, mn_eq, nm_lt, mn_lt, nm_le, mn_le, m_eq, bI_0, bI_1, if_neg, if_pos, e_147_23, l2, l3, c2, e_147_32, d1, s]
      cases rst q true false <;> simp
    · have s := s_173 (lx := lx) q true true S
      rw [← t1] at s
      simp (disch := first | assumption | omega) [k_St, n_St, i_St, j_St, r_St, wI_St, wJ_St, k_S0, n_S0, i_S0, j_S0, r_S0, wI_S0, wJ_S0, cI_s, cJ_s, cV_s, nR_s, nQ_s, nQ_n, lt_s_, gd_T, gd_t, Option.map_some, lits, neg_mI, nI_add, pk_mul, nI_clamp, nI_eq, nI_leI, nI_ltI, nm_eq, mn_eq, nm_lt, mn_lt, nm_le, mn_le, m_eq, bI_0, bI_1, if_neg, if_pos, e_147_23, l2, l3, c2, e_147_32, d1, s]
      cases rst q true true <;> simp
theorem c_146k (q m : Nat) {k : Nat} (hk : k < 4) (S : aH) : Am lx 146 14 [none, some (.int (nI q)), some (.int (nI m)), some (.int (nI k))] [] (0, 0) S = Am lx 146 14 [none, some (.int (nI q)), some (.int (nI (m + (rsQ q k).toNat))), some (.int (nI (k + 1)))] [] (0, 0) S := by
  rw [e_146_14]
  have t1 : nI 1 = bI true := rfl
  have t0 : nI 0 = bI false := rfl
  have l2 : nI k - nI k / nI 2 * nI 2 = nI (k % 2) := pk_rem (by omega) (by omega) (by omega)
  have m2 : k % 2 = 0 ∨ k % 2 = 1 := by omega
  have fin : ∀ t : Bool, rsQ q k = t → (if bI t = nI 0 then Am lx 146 14 [none, some (.int (nI q)), some (.int (nI m)), some (.int (nI (k + 1)))] [] (0, 0) S else Am lx 146 14 [none, some (.int (nI q)), some (.int (nI (m + 1))), some (.int (nI (k + 1)))] [] (0, 0) S) = Am lx 146 14 [none, some (.int (nI q)), some (.int (nI (m + (rsQ q k).toNat))), some (.int (nI (k + 1)))] [] (0, 0) S := by
    intro t ht
    rw [ht]
    cases t
    · simp [bI_0]
    · simp [bI_0]
  by_cases c1 : k < 2
  · have d1 : decide (2 ≤ k) = false := by simp; omega
    rcases m2 with c2 | c2
    · have s := s_173 (lx := lx) q false false S
      rw [← t0] at s
      rw [← fin (rst q false false) (by unfold rsQ; rw [d1]; simp [c2])]
      simp (disch := first | assumption | omega) [k_St, n_St, i_St, j_St, r_St, wI_St, wJ_St, k_S0, n_S0, i_S0, j_S0, r_S0, wI_S0, wJ_S0, cI_s, cJ_s, cV_s, nR_s, nQ_s, nQ_n, lt_s_, gd_T, gd_t, Option.map_some, lits, neg_mI, nI_add, pk_mul, nI_clamp, nI_eq, nI_leI, nI_ltI, nm_eq, mn_eq, nm_lt, mn_lt, nm_le, mn_le, m_eq, bI_0, bI_1, if_neg, if_pos, e_146_25, l2, c2, e_146_34, s]
    · have s := s_173 (lx := lx) q false true S
      rw [← t0, ← t1] at s
      rw [← fin (rst q false true) (by unfold rsQ; rw [d1]; simp [c2])]
      simp (disch := first | assumption | omega) [k_St, n_St, i_St, j_St, r_St, wI_St, wJ_St, k_S0, n_S0, i_S0, j_S0, r_S0, wI_S0, wJ_S0, cI_s, cJ_s, cV_s, nR_s, nQ_s, nQ_n, lt_s_, gd_T, gd_t, Option.map_some, lits, neg_mI, nI_add, pk_mul, nI_clamp, nI_eq, nI_leI, nI_ltI, nm_eq, mn_eq, nm_lt, mn_lt, nm_le, mn_le, m_eq, bI_0, bI_1, if_neg, if_pos, e_146_25, l2, c2, e_146_34, s]
  · have d1 : decide (2 ≤ k) = true := by simp; omega
    rcases m2 with c2 | c2
    · have s := s_173 (lx := lx) q true false S
      rw [← t0, ← t1] at s
      rw [← fin (rst q true false) (by unfold rsQ; rw [d1]; simp [c2])]
      simp (disch := first | assumption | omega) [k_St, n_St, i_St, j_St, r_St, wI_St, wJ_St, k_S0, n_S0, i_S0, j_S0, r_S0, wI_S0, wJ_S0, cI_s, cJ_s, cV_s, nR_s, nQ_s, nQ_n, lt_s_, gd_T, gd_t, Option.map_some, lits, neg_mI, nI_add, pk_mul, nI_clamp, nI_eq, nI_leI, nI_ltI, nm_eq, mn_eq, nm_lt, mn_lt, nm_le, mn_le, m_eq, bI_0, bI_1, if_neg, if_pos, e_146_25, l2, c2, e_146_34, s]
    · have s := s_173 (lx := lx) q true true S
      rw [← t1] at s
      rw [← fin (rst q true true) (by unfold rsQ; rw [d1]; simp [c2])]
      simp (disch := first | assumption | omega) [k_St, n_St, i_St, j_St, r_St, wI_St, wJ_St, k_S0, n_S0, i_S0, j_S0, r_S0, wI_S0, wJ_S0, cI_s, cJ_s, cV_s, nR_s, nQ_s, nQ_n, lt_s_, gd_T, gd_t, Option.map_some, lits, neg_mI, nI_add, pk_mul, nI_clamp, nI_eq, nI_leI, nI_ltI, nm_eq, mn_eq, nm_lt, mn_lt, nm_le, mn_le, m_eq, bI_0, bI_1, if_neg, if_pos, e_146_25, l2, c2, e_146_34, s]
def rsC (q : Nat) : Nat → Nat
  | 0 => 0
  | k + 1 => rsC q k + (rsQ q k).toNat
theorem o_146 (h : CW K N R I J p s F ρ) (x : Int32) : OQ lx z E n K N R I J f F ρ 146 297 [.int x] := by
  have e68 := c_168 (lx := lx) x
  obtain ⟨hL, _, h10, hF, hO, hR, hρ, _, h16⟩ := h
  have k0 := hL.1
  have t1 : nI 1 = bI true := rfl
  rcases rg_i x (n := 10) (by omega) with e | ⟨q, hq, eq⟩
  · rw [e] at e68
    have c161 := c_161 (lx := lx) (z := z) (E := E) (n := n) (N := N) (R := R) (I := I) (J := J) k0 true false
    rw [← t1] at c161
    refine ⟨2, mI 1, by decide, by decide, ⟨_, _, ?_, CQ_u⟩, fun I2 J2 hM => ⟨_, ?_, MQ_1⟩⟩
    · rw [f_146]
      simp [k_St, n_St, i_St, j_St, r_St, wI_St, wJ_St, k_S0, n_S0, i_S0, j_S0, r_S0, wI_S0, wJ_S0, cI_s, cJ_s, cV_s, nR_s, nQ_s, nQ_n, lt_s_, gd_T, gd_t, Option.map_some, lits, neg_mI, nI_add, pk_mul, nI_clamp, nI_eq, nI_leI, nI_ltI, nm_eq, mn_eq, nm_lt, mn_lt, nm_le, mn_le, m_eq, bI_0, bI_1, k0, h10, e68, c161]
    · rw [f_297]
      have e2 := d_294 (lx := lx) (z := z) (E := E) (n := n) (J := J2) (MV_0 hM).1 x
      rw [e] at e2
      have km := hM.1.1.1
      simp (disch := first | assumption | omega) [k_St, n_St, i_St, j_St, r_St, wI_St, wJ_St, k_S0, n_S0, i_S0, j_S0, r_S0, wI_S0, wJ_S0, cI_s, cJ_s, cV_s, nR_s, nQ_s, nQ_n, lt_s_, gd_T, gd_t, Option.map_some, lits, neg_mI, nI_add, pk_mul, nI_clamp, nI_eq, nI_leI, nI_ltI, nm_eq, mn_eq, nm_lt, mn_lt, nm_le, mn_le, m_eq, bI_0, bI_1, if_neg, km, e2, d_182]
  · subst eq
    rw [rg_t hq (by omega)] at e68
    have c161 := c_161 (lx := lx) (z := z) (E := E) (n := n) (N := N) (R := R) (I := I) (J := J) k0 true true
    rw [← t1] at c161
    rw [← t1] at e68
    refine ⟨0, nI (rsC q 4), by decide, by decide, ⟨_, _, ?_, CQ_u⟩, fun I2 J2 hM => ⟨_, ?_, MQ_1⟩⟩
    · rw [f_146]
      have L := loopN (X := fun i => Am lx 146 14 [none, some (.int (nI q)), some (.int (nI (rsC q i))), some (.int (nI i))] [] (0, 0) (St z E n K N R (u2 I 0 11 (nI 0)) J)) (n := 4) (fun i hi => c_146k q _ hi _)
      try simp only at L
      have r0 : rsC q 0 = 0 := rfl
      rw [r0] at L
      simp [k_St, n_St, i_St, j_St, r_St, wI_St, wJ_St, k_S0, n_S0, i_S0, j_S0, r_S0, wI_S0, wJ_S0, cI_s, cJ_s, cV_s, nR_s, nQ_s, nQ_n, lt_s_, gd_T, gd_t, Option.map_some, lits, neg_mI, nI_add, pk_mul, nI_clamp, nI_eq, nI_leI, nI_ltI, nm_eq, mn_eq, nm_lt, mn_lt, nm_le, mn_le, m_eq, bI_0, bI_1, k0, h10, e68, c161, L]
      rw [e_146_14]
      simp (disch := first | assumption | omega) [k_St, n_St, i_St, j_St, r_St, wI_St, wJ_St, k_S0, n_S0, i_S0, j_S0, r_S0, wI_S0, wJ_S0, cI_s, cJ_s, cV_s, nR_s, nQ_s, nQ_n, lt_s_, gd_T, gd_t, Option.map_some, lits, neg_mI, nI_add, pk_mul, nI_clamp, nI_eq, nI_leI, nI_ltI, nm_eq, mn_eq, nm_lt, mn_lt, nm_le, mn_le, m_eq, bI_0, bI_1, if_pos]
    · rw [f_297]
      have e2 := d_294 (lx := lx) (z := z) (E := E) (n := n) (J := J2) (MV_0 hM).1 (nI q)
      rw [rg_t hq (by omega)] at e2
      have km := hM.1.1.1
      have L := loopN (X := fun i => Am lx 297 18 [some (.ref (z + 132)), some (.int (nI q)), none, some (.int (nI (rsC q i))), some (.int (nI i))] [] (0, 0) (St z E n K N R (u2 I2 132 0 (nI 0)) J2)) (n := 4) (by
        intro i hi
        try simp only
        rw [e_297_18]
        have s := s_296 (lx := lx) q hi (St z E n K N R (u2 I2 132 0 (nI 0)) J2)
        have sq : rst q (decide (2 ≤ i)) (decide (i % 2 = 1)) = rsQ q i := rfl
        rw [sq] at s
        rw [rsC]
        cases hr : rsQ q i
        · rw [hr] at s
          simp (disch := first | assumption | omega) [k_St, n_St, i_St, j_St, r_St, wI_St, wJ_St, k_S0, n_S0, i_S0, j_S0, r_S0, wI_S0, wJ_S0, cI_s, cJ_s, cV_s, nR_s, nQ_s, nQ_n, lt_s_, gd_T, gd_t, Option.map_some, lits, neg_mI, nI_add, pk_mul, nI_clamp, nI_eq, nI_leI, nI_ltI, nm_eq, mn_eq, nm_lt, mn_lt, nm_le, mn_le, m_eq, bI_0, bI_1, if_neg, s, e_297_30]
        · rw [hr] at s
          simp (disch := first | assumption | omega) [k_St, n_St, i_St, j_St, r_St, wI_St, wJ_St, k_S0, n_S0, i_S0, j_S0, r_S0, wI_S0, wJ_S0, cI_s, cJ_s, cV_s, nR_s, nQ_s, nQ_n, lt_s_, gd_T, gd_t, Option.map_some, lits, neg_mI, nI_add, pk_mul, nI_clamp, nI_eq, nI_leI, nI_ltI, nm_eq, mn_eq, nm_lt, mn_lt, nm_le, mn_le, m_eq, bI_0, bI_1, if_neg, s, e_297_30])
      try simp only at L
      have r0 : rsC q 0 = 0 := rfl
      rw [r0] at L
      simp (disch := first | assumption | omega) [k_St, n_St, i_St, j_St, r_St, wI_St, wJ_St, k_S0, n_S0, i_S0, j_S0, r_S0, wI_S0, wJ_S0, cI_s, cJ_s, cV_s, nR_s, nQ_s, nQ_n, lt_s_, gd_T, gd_t, Option.map_some, lits, neg_mI, nI_add, pk_mul, nI_clamp, nI_eq, nI_leI, nI_ltI, nm_eq, mn_eq, nm_lt, mn_lt, nm_le, mn_le, m_eq, bI_0, bI_1, if_pos, km, e2, L]
      rw [e_297_18]
      simp (disch := first | assumption | omega) [k_St, n_St, i_St, j_St, r_St, wI_St, wJ_St, k_S0, n_S0, i_S0, j_S0, r_S0, wI_S0, wJ_S0, cI_s, cJ_s, cV_s, nR_s, nQ_s, nQ_n, lt_s_, gd_T, gd_t, Option.map_some, lits, neg_mI, nI_add, pk_mul, nI_clamp, nI_eq, nI_leI, nI_ltI, nm_eq, mn_eq, nm_lt, mn_lt, nm_le, mn_le, m_eq, bI_0, bI_1, if_pos, km, s_185]
theorem o_147 (h : CW K N R I J p s F ρ) (x : Int32) : OQ lx z E n K N R I J f F ρ 147 298 [.int x] := by
  have e68 := c_168 (lx := lx) x
  obtain ⟨hL, _, h10, hF, hO, hR, hρ, _, h16⟩ := h
  have k0 := hL.1
  have t1 : nI 1 = bI true := rfl
  rcases rg_i x (n := 10) (by omega) with e | ⟨q, hq, eq⟩
  · rw [e] at e68
    have c161 := c_161 (lx := lx) (z := z) (E := E) (n := n) (N := N) (R := R) (I := I) (J := J) k0 true false
    rw [← t1] at c161
    refine ⟨2, mI 1, by decide, by decide, ⟨_, _, ?_, CQ_u⟩, fun I2 J2 hM => ⟨_, ?_, MQ_1⟩⟩
    · rw [f_147]
      simp [k_St, n_St, i_St, j_St, r_St, wI_St, wJ_St, k_S0, n_S0, i_S0, j_S0, r_S0, wI_S0, wJ_S0, cI_s, cJ_s, cV_s, nR_s, nQ_s, nQ_n, lt_s_, gd_T, gd_t, Option.map_some, lits, neg_mI, nI_add, pk_mul, nI_clamp, nI_eq, nI_leI, nI_ltI, nm_eq, mn_eq, nm_lt, mn_lt, nm_le, mn_le, m_eq, bI_0, bI_1, k0, h10, e68, c161]
    · rw [f_298]
      have e2 := d_294 (lx := lx) (z := z) (E := E) (n := n) (J := J2) (MV_0 hM).1 x
      rw [e] at e2
      have km := hM.1.1.1
      simp (disch := first | assumption | omega) [k_St, n_St, i_St, j_St, r_St, wI_St, wJ_St, k_S0, n_S0, i_S0, j_S0, r_S0, wI_S0, wJ_S0, cI_s, cJ_s, cV_s, nR_s, nQ_s, nQ_n, lt_s_, gd_T, gd_t, Option.map_some, lits, neg_mI, nI_add, pk_mul, nI_clamp, nI_eq, nI_leI, nI_ltI, nm_eq, mn_eq, nm_lt, mn_lt, nm_le, mn_le, m_eq, bI_0, bI_1, if_neg, km, e2, d_182]
  · subst eq
    rw [rg_t hq (by omega)] at e68
    have c161 := c_161 (lx := lx) (z := z) (E := E) (n := n) (N := N) (R := R) (I := I) (J := J) k0 true true
    rw [← t1] at c161
    rw [← t1] at e68
    have mk : ∀ (I2 : Nat → Nat → Int32) (J2 : Nat → Nat → Int64) (km : K 132 = 11) (k : Nat), k < 4 → Am lx 298 16 [some (.ref (z + 132)), some (.int (nI q)), none, some (.int (nI k))] [] (0, 0) (St z E n K N R I2 J2) = if rsQ q k then some (some (.int (nI (k / 2 * 10 + k % 2))), St z E n K N R (u2 (u2 I2 132 1 (nI 0)) 132 2 (mI 1)) J2) else Am lx 298 16 [some (.ref (z + 132)), some (.int (nI q)), none, some (.int (nI (k + 1)))] [] (0, 0) (St z E n K N R I2 J2) := by
      intro I2 J2 km k hk
      rw [e_298_16]
      have s := s_296 (lx := lx) q hk (St z E n K N R I2 J2)
      have sq : rst q (decide (2 ≤ k)) (decide (k % 2 = 1)) = rsQ q k := rfl
      rw [sq] at s
      have l2 : nI k - nI k / nI 2 * nI 2 = nI (k % 2) := pk_rem (by omega) (by omega) (by omega)
      have l3 : nI k / nI 2 = nI (k / 2) := pk_div (by omega) (by omega) (by omega)
      rw [l3, pk_mul] at l2
      have l4 : 10 * (k / 2) + k % 2 = k / 2 * 10 + k % 2 := by omega
      cases hr : rsQ q k
      · rw [hr] at s
        simp (disch := first | assumption | omega) [k_St, n_St, i_St, j_St, r_St, wI_St, wJ_St, k_S0, n_S0, i_S0, j_S0, r_S0, wI_S0, wJ_S0, cI_s, cJ_s, cV_s, nR_s, nQ_s, nQ_n, lt_s_, gd_T, gd_t, Option.map_some, lits, neg_mI, nI_add, pk_mul, nI_clamp, nI_eq, nI_leI, nI_ltI, nm_eq, mn_eq, nm_lt, mn_lt, nm_le, mn_le, m_eq, bI_0, bI_1, if_neg, s]
      · rw [hr] at s
        simp (disch := first | assumption | omega) [k_St, n_St, i_St, j_St, r_St, wI_St, wJ_St, k_S0, n_S0, i_S0, j_S0, r_S0, wI_S0, wJ_S0, cI_s, cJ_s, cV_s, nR_s, nQ_s, nQ_n, lt_s_, gd_T, gd_t, Option.map_some, lits, neg_mI, nI_add, pk_mul, nI_clamp, nI_eq, nI_leI, nI_ltI, nm_eq, mn_eq, nm_lt, mn_lt, nm_le, mn_le, m_eq, bI_0, bI_1, if_neg, s, km, l3, l2, l4, s_185]
    rcases first_ (rsQ q) 4 with hf | ⟨m, hm, h1, h2⟩
    · refine ⟨0, mI 2, by decide, by decide, ⟨_, _, ?_, CQ_u⟩, fun I2 J2 hM => ⟨_, ?_, MQ_1⟩⟩
      · rw [f_147]
        have L := loopN (X := fun i => Am lx 147 12 [none, some (.int (nI q)), some (.int (nI i))] [] (0, 0) (St z E n K N R (u2 I 0 11 (nI 0)) J)) (n := 4) (by
          intro i hi
          try simp only
          rw [c_147k q hi, hf i hi]; simp)
        try simp only at L
        simp [k_St, n_St, i_St, j_St, r_St, wI_St, wJ_St, k_S0, n_S0, i_S0, j_S0, r_S0, wI_S0, wJ_S0, cI_s, cJ_s, cV_s, nR_s, nQ_s, nQ_n, lt_s_, gd_T, gd_t, Option.map_some, lits, neg_mI, nI_add, pk_mul, nI_clamp, nI_eq, nI_leI, nI_ltI, nm_eq, mn_eq, nm_lt, mn_lt, nm_le, mn_le, m_eq, bI_0, bI_1, k0, h10, e68, c161, L]
        rw [e_147_12]
        simp (disch := first | assumption | omega) [k_St, n_St, i_St, j_St, r_St, wI_St, wJ_St, k_S0, n_S0, i_S0, j_S0, r_S0, wI_S0, wJ_S0, cI_s, cJ_s, cV_s, nR_s, nQ_s, nQ_n, lt_s_, gd_T, gd_t, Option.map_some, lits, neg_mI, nI_add, pk_mul, nI_clamp, nI_eq, nI_leI, nI_ltI, nm_eq, mn_eq, nm_lt, mn_lt, nm_le, mn_le, m_eq, bI_0, bI_1, if_pos]
      · rw [f_298]
        have e2 := d_294 (lx := lx) (z := z) (E := E) (n := n) (J := J2) (MV_0 hM).1 (nI q)
        rw [rg_t hq (by omega)] at e2
        have km := hM.1.1.1
        have L := loopN (X := fun i => Am lx 298 16 [some (.ref (z + 132)), some (.int (nI q)), none, some (.int (nI i))] [] (0, 0) (St z E n K N R (u2 I2 132 0 (nI 0)) J2)) (n := 4) (by
          intro i hi
          try simp only
          rw [mk _ _ km i hi, hf i hi]; simp)
        try simp only at L
        simp (disch := first | assumption | omega) [k_St, n_St, i_St, j_St, r_St, wI_St, wJ_St, k_S0, n_S0, i_S0, j_S0, r_S0, wI_S0, wJ_S0, cI_s, cJ_s, cV_s, nR_s, nQ_s, nQ_n, lt_s_, gd_T, gd_t, Option.map_some, lits, neg_mI, nI_add, pk_mul, nI_clamp, nI_eq, nI_leI, nI_ltI, nm_eq, mn_eq, nm_lt, mn_lt, nm_le, mn_le, m_eq, bI_0, bI_1, if_pos, km, e2, L]
        rw [e_298_16]
        simp (disch := first | assumption | omega) [k_St, n_St, i_St, j_St, r_St, wI_St, wJ_St, k_S0, n_S0, i_S0, j_S0, r_S0, wI_S0, wJ_S0, cI_s, cJ_s, cV_s, nR_s, nQ_s, nQ_n, lt_s_, gd_T, gd_t, Option.map_some, lits, neg_mI, nI_add, pk_mul, nI_clamp, nI_eq, nI_leI, nI_ltI, nm_eq, mn_eq, nm_lt, mn_lt, nm_le, mn_le, m_eq, bI_0, bI_1, if_pos, km, s_185]
    · refine ⟨0, nI (m / 2 * 10 + m % 2), by decide, by decide, ⟨_, _, ?_, CQ_u⟩, fun I2 J2 hM => ⟨_, ?_, MQ_1⟩⟩
      · rw [f_147]
        have L := loopN (X := fun i => Am lx 147 12 [none, some (.int (nI q)), some (.int (nI i))] [] (0, 0) (St z E n K N R (u2 I 0 11 (nI 0)) J)) (n := m) (by
          intro i hi
          try simp only
          rw [c_147k q (by omega), h2 i hi]; simp)
        try simp only at L
        simp [k_St, n_St, i_St, j_St, r_St, wI_St, wJ_St, k_S0, n_S0, i_S0, j_S0, r_S0, wI_S0, wJ_S0, cI_s, cJ_s, cV_s, nR_s, nQ_s, nQ_n, lt_s_, gd_T, gd_t, Option.map_some, lits, neg_mI, nI_add, pk_mul, nI_clamp, nI_eq, nI_leI, nI_ltI, nm_eq, mn_eq, nm_lt, mn_lt, nm_le, mn_le, m_eq, bI_0, bI_1, k0, h10, e68, c161, L]
        rw [c_147k q hm, h1]; simp
      · rw [f_298]
        have e2 := d_294 (lx := lx) (z := z) (E := E) (n := n) (J := J2) (MV_0 hM).1 (nI q)
        rw [rg_t hq (by omega)] at e2
        have km := hM.1.1.1
        have L := loopN (X := fun i => Am lx 298 16 [some (.ref (z + 132)), some (.int (nI q)), none, some (.int (nI i))] [] (0, 0) (St z E n K N R (u2 I2 132 0 (nI 0)) J2)) (n := m) (by
          intro i hi
          try simp only
          rw [mk _ _ km i (by omega), h2 i hi]; simp)
        try simp only at L
        simp (disch := first | assumption | omega) [k_St, n_St, i_St, j_St, r_St, wI_St, wJ_St, k_S0, n_S0, i_S0, j_S0, r_S0, wI_S0, wJ_S0, cI_s, cJ_s, cV_s, nR_s, nQ_s, nQ_n, lt_s_, gd_T, gd_t, Option.map_some, lits, neg_mI, nI_add, pk_mul, nI_clamp, nI_eq, nI_leI, nI_ltI, nm_eq, mn_eq, nm_lt, mn_lt, nm_le, mn_le, m_eq, bI_0, bI_1, if_pos, km, e2, L]
        rw [mk _ _ km m hm, h1]; simp
end OP6
