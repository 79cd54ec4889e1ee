/-! shares in lowest terms -/
section OP7
variable {z : Nat} {E : aEt} {n : Nat} {K N : Nat → Nat} {R : Nat → Nat → Option Nat} {I : Nat → Nat → Int32} {J : Nat → Nat → Int64} {lx : List Value → aH → aO} {p s f w : Nat} {F : Nat → Nat → Nat} {ρ : Nat → Nat}
theorem l_0 : (0 : Int64) = lN 0 := rfl
theorem l_1 : (1 : Int64) = lN 1 := rfl
theorem l_100 : (100 : Int64) = lN 100 := rfl
theorem euc (lx : List Value → aH → aO) (S : aH) : ∀ t a b i, b < 2 ^ t → i + 2 * t + 1 ≤ 200 → a < 2 ^ 63 → b < 2 ^ 63 → Am lx 75 7 [none, none, none, none, some (.long (lN a)), none, some (.long (lN b)), none, some (.int (nI i)), none, none] [] (0, 0) S = some (some (.long (lN (Nat.gcd a b))), S) := by
  have stop : ∀ a i, i < 200 → Am lx 75 7 [none, none, none, none, some (.long (lN a)), none, some (.long (lN 0)), none, some (.int (nI i)), none, none] [] (0, 0) S = some (some (.long (lN (Nat.gcd a 0))), S) := by
    intro a i hi
    rw [e_75_7, Nat.gcd_zero_right]
    have c1 : ¬ (200 : Int32) ≤ nI i := by
      have : (200 : Int32) = nI 200 := rfl
      rw [this]; exact nI_ge (by omega) (by omega)
    rw [if_neg c1, if_pos (by rw [lg_cmp_eq]; rfl)]
  have step : ∀ a b i, i < 200 → a < 2 ^ 63 → b < 2 ^ 63 → 0 < b → Am lx 75 7 [none, none, none, none, some (.long (lN a)), none, some (.long (lN b)), none, some (.int (nI i)), none, none] [] (0, 0) S = Am lx 75 7 [none, none, none, none, some (.long (lN b)), none, some (.long (lN (a % b))), none, some (.int (nI (i + 1))), none, none] [] (0, 0) S := by
    intro a b i hi ha hb h0
    rw [e_75_7]
    have c1 : ¬ (200 : Int32) ≤ nI i := by
      have : (200 : Int32) = nI 200 := rfl
      rw [this]; exact nI_ge (by omega) (by omega)
    have c2 : ¬ lN b = 0 := by
      rw [l_0, pk_lEQ hb (by omega)]; omega
    rw [if_neg c1, if_neg (by rw [lg_cmp_eq]; exact c2), gd_t c2, pk_lRem ha h0 hb, nI_1]
  intro t
  induction t with
  | zero =>
    intro a b i hb hi _ _
    have : b = 0 := by simpa using hb
    subst this
    exact stop a i (by omega)
  | succ t ih =>
    intro a b i hb hi h1 h2
    by_cases b0 : b = 0
    · subst b0; exact stop a i (by omega)
    · rw [step a b i (by omega) h1 h2 (by omega)]
      have r1 : a % b < b := Nat.mod_lt _ (by omega)
      have g1 : Nat.gcd a b = Nat.gcd b (a % b) := by rw [Nat.gcd_comm a b, Nat.gcd_rec b a, Nat.gcd_comm]
      rw [g1]
      by_cases r0 : a % b = 0
      · rw [r0]; exact stop b (i + 1) (by omega)
      · rw [step b (a % b) (i + 1) (by omega) h2 (by omega) (by omega)]
        have r2 : b % (a % b) < a % b := Nat.mod_lt _ (by omega)
        have r3 : b % (a % b) + (a % b) ≤ b := by
          have d := Nat.div_add_mod b (a % b)
          have q : 1 ≤ b / (a % b) := (Nat.one_le_div_iff (by omega)).mpr (by omega)
          have : (a % b) * 1 ≤ (a % b) * (b / (a % b)) := Nat.mul_le_mul_left _ q
          omega
        have g2 : Nat.gcd b (a % b) = Nat.gcd (a % b) (b % (a % b)) := by rw [Nat.gcd_comm b, Nat.gcd_rec (a % b) b, Nat.gcd_comm]
        rw [g2]
        have e2 : 2 ^ (t + 1) = 2 ^ t * 2 := Nat.pow_succ 2 t
        exact ih (a % b) (b % (a % b)) (i + 1 + 1) (by omega) (by omega) (by omega) (by omega)
theorem s_75 {a b : Nat} (ha : a < 2 ^ 63) (hb : b < 2 ^ 63) (S : aH) : Ca lx 75 [.long (lN a), .long (lN b)] S = some (some (.long (lN (Nat.gcd a b))), S) := by
  rw [f_75]
  exact euc lx S 63 a b 0 hb (by omega) ha hb
theorem euc2 (lx : List Value → aH → aO) (S : aH) : ∀ b a, a < 2 ^ 63 → b < 2 ^ 63 → Am lx 189 5 [none, none, none, none, some (.long (lN a)), none, some (.long (lN b)), none, none, none] [] (0, 0) S = some (some (.long (lN (Nat.gcd a b))), S) := by
  intro b
  induction b using Nat.strongRecOn with
  | _ b ih =>
    intro a ha hb
    rw [e_189_5]
    by_cases b0 : b = 0
    · subst b0
      rw [if_pos (by rw [lg_cmp_eq]; rfl), Nat.gcd_zero_right]
    · have c2 : ¬ lN b = 0 := by
        rw [l_0, pk_lEQ hb (by omega)]; omega
      rw [if_neg (by rw [lg_cmp_eq]; exact c2), gd_t c2, pk_lRem ha (by omega) hb]
      have r1 : a % b < b := Nat.mod_lt _ (by omega)
      have g1 : Nat.gcd a b = Nat.gcd b (a % b) := by rw [Nat.gcd_comm a b, Nat.gcd_rec b a, Nat.gcd_comm]
      rw [g1]
      exact ih (a % b) r1 b hb (by omega)
theorem s_189 {a b : Nat} (ha : a < 2 ^ 63) (hb : b < 2 ^ 63) (S : aH) : Ca lx 189 [.long (lN a), .long (lN b)] S = some (some (.long (lN (Nat.gcd a b))), S) := by
  rw [f_189]; exact euc2 lx S b a ha hb
theorem s_74 (a : Nat) {k : Nat} (hk : k < 100) (S : aH) : Ca lx 74 [.long (lN a), .int (nI k)] S = some (some (.long (lN (a ^ k))), S) := by
  rw [f_74]
  have L := loopN (X := fun i => Am lx 74 5 [some (.long (lN a)), none, some (.int (nI k)), some (.long (lN (a ^ i))), none, some (.int (nI i))] [] (0, 0) S) (n := k) (by
    intro i hi
    try simp only
    rw [e_74_5, if_neg (nI_ge hi (by omega)), lN_mul, nI_1, Nat.pow_succ])
  try simp only at L
  have e0 : (1 : Int64) = lN (a ^ 0) := rfl
  have z0 : (0 : Int32) = nI 0 := rfl
  rw [e0, z0, L, e_74_5, if_pos (nI_le (Nat.le_refl _) (by omega))]
theorem s_299 (a : Nat) {k : Nat} (hk : k < 100) (S : aH) : Ca lx 299 [.long (lN a), .int (nI k)] S = some (some (.long (lN (a ^ k))), S) := by
  rw [f_299]
  have L := loopN (X := fun i => Am lx 299 5 [some (.long (lN a)), none, some (.int (nI k)), some (.long (lN (a ^ i))), none, some (.int (nI i))] [] (0, 0) S) (n := k) (by
    intro i hi
    try simp only
    rw [e_299_5, if_neg (nI_ge hi (by omega)), lN_mul, nI_1, Nat.pow_succ])
  try simp only at L
  have e0 : (1 : Int64) = lN (a ^ 0) := rfl
  have z0 : (0 : Int32) = nI 0 := rfl
  rw [e0, z0, L, e_299_5, if_pos (nI_le (Nat.le_refl _) (by omega))]
theorem s_73 (k5 : K 113 = 5) {o u : Nat} (ho : o < 2 ^ 63) (hu : u < 2 ^ 63) (h0 : 0 < u) : Ca lx 73 [.ref (z + 113), .long (lN o), .long (lN u)] (St z E n K N R I J) = some (none, St z E n K N R I (u2 (u2 J 113 0 (lN (o / Nat.gcd o u))) 113 1 (lN (u / Nat.gcd o u)))) := by
  rw [f_73, s_75 ho hu]
  have g0 : 0 < Nat.gcd o u := Nat.gcd_pos_of_pos_right o h0
  have g1 : Nat.gcd o u ≤ u := Nat.gcd_le_right o h0
  have c1 : ¬ lg_cmp (lN (Nat.gcd o u)) 0 ≤ 0 := by
    rw [lg_cmp_le, l_0, pk_lLE (by omega) (by omega)]; omega
  have c2 : ¬ lN (Nat.gcd o u) = 0 := by
    rw [l_0, pk_lEQ (by omega) (by omega)]; omega
  rw [cJ_s, if_neg c1, gd_t c2, pk_lDiv ho g0 (by omega), e_73_15]
  simp only [k_St, k5, gd_t, wJ_St, lt_s_]
  rw [if_neg c1, gd_t c2, pk_lDiv hu g0 (by omega), e_73_27]
  simp only [k_St, k5, gd_t, wJ_St, lt_s_]
/-- the lowest terms of what stands -/
def uA (F : Nat → Nat → Nat) : Nat := (100 - F 0 3) / Nat.gcd (100 - F 0 3) 100
def lA (F : Nat → Nat → Nat) : Nat := 100 / Nat.gcd (100 - F 0 3) 100
def gA0 (F : Nat → Nat → Nat) : Nat := Nat.gcd (100 - F 0 3) 100
theorem gA0_p : 0 < gA0 F := Nat.gcd_pos_of_pos_right _ (by omega)
theorem gu : 100 - F 0 3 = gA0 F * uA F := (Nat.mul_div_cancel' (Nat.gcd_dvd_left _ _)).symm
theorem gl : 100 = gA0 F * lA F := (Nat.mul_div_cancel' (Nat.gcd_dvd_right (100 - F 0 3) 100)).symm
theorem ul_co : Nat.gcd (uA F) (lA F) = 1 := Nat.gcd_div_gcd_div_gcd_of_pos_right (by omega)
theorem lA_p : 0 < lA F := by
  have := gl (F := F)
  rcases Nat.eq_zero_or_pos (lA F) with h | h
  · rw [h] at this; omega
  · exact h
theorem uA_le : uA F ≤ 100 := Nat.le_trans (Nat.div_le_self _ _) (Nat.sub_le _ _)
theorem lA_le : lA F ≤ 100 := Nat.div_le_self _ _
theorem pw_le {a k : Nat} (ha : a ≤ 100) (hk : k ≤ 9) : a ^ k ≤ 1000000000000000000 := by
  have h1 : a ^ k ≤ 100 ^ k := Nat.pow_le_pow_left ha k
  have h2 : 100 ^ k ≤ 100 ^ 9 := Nat.pow_le_pow_right (by omega) hk
  have h3 : 100 ^ 9 = 1000000000000000000 := by decide
  omega
theorem od_gcd (k : Nat) : Nat.gcd ((100 - F 0 3) ^ k) (100 ^ k) = gA0 F ^ k := by
  have e : Nat.gcd ((100 - F 0 3) ^ k) (100 ^ k) = Nat.gcd ((gA0 F * uA F) ^ k) ((gA0 F * lA F) ^ k) := by rw [← gu, ← gl]
  rw [e, Nat.mul_pow, Nat.mul_pow, Nat.gcd_mul_left]
  have : Nat.gcd (uA F ^ k) (lA F ^ k) = 1 := Nat.Coprime.pow k k (ul_co (F := F))
  rw [this, Nat.mul_one]
theorem od_u (k : Nat) : (100 - F 0 3) ^ k / Nat.gcd ((100 - F 0 3) ^ k) (100 ^ k) = uA F ^ k := by
  rw [od_gcd]
  have e : (100 - F 0 3) ^ k = gA0 F ^ k * uA F ^ k := by rw [← Nat.mul_pow, ← gu]
  rw [e, Nat.mul_div_cancel_left _ (Nat.pow_pos gA0_p)]
theorem od_l (k : Nat) : 100 ^ k / Nat.gcd ((100 - F 0 3) ^ k) (100 ^ k) = lA F ^ k := by
  rw [od_gcd]
  have e : 100 ^ k = gA0 F ^ k * lA F ^ k := by rw [← Nat.mul_pow, ← gl]
  rw [e, Nat.mul_div_cancel_left _ (Nat.pow_pos gA0_p)]
theorem s_71 (k5 : K 113 = 5) (hO : FOk F) {k : Nat} (hk : k ≤ 9) : Ca lx 71 [.ref (z + 113), .int (nI (F 0 3)), .int (nI k)] (St z E n K N R I J) = some (none, St z E n K N R I (u2 (u2 (u2 (u2 J 113 0 (lN (uA F))) 113 1 (lN (lA F))) 113 0 (lN (uA F ^ k))) 113 1 (lN (lA F ^ k)))) := by
  rw [f_71]
  have o3 : F 0 3 ≤ 100 := hO.2.2.2.2.2.1
  have e1 : ((100 : Int32) - nI (F 0 3)).toInt64 = lN (100 - F 0 3) := by
    have : (100 : Int32) = nI 100 := rfl
    rw [this, pk_sub o3, nI_l (by omega)]
  have e2 := s_73 (lx := lx) (z := z) (E := E) (n := n) (N := N) (R := R) (I := I) (J := J) k5 (o := 100 - F 0 3) (u := 100) (by omega) (by omega) (by omega)
  rw [e1, l_100, e2]
  have x1 : u2 (u2 J 113 0 (lN (uA F))) 113 1 (lN (lA F)) 113 0 = lN (uA F) := by rw [u2_k _ _ _ _ _ (by decide), u2_s]
  have x2 : u2 (u2 (u2 J 113 0 (lN (uA F))) 113 1 (lN (lA F))) 113 0 (lN (uA F ^ k)) 113 1 = lN (lA F) := by rw [u2_k _ _ _ _ _ (by decide), u2_s]
  have f1 : (100 - F 0 3) / Nat.gcd (100 - F 0 3) 100 = uA F := rfl
  have f2 : 100 / Nat.gcd (100 - F 0 3) 100 = lA F := rfl
  rw [f1, f2]
  simp only [k_St, k5, gd_t, cV_s, j_St, x1, s_74 _ (show k < 100 by omega), cJ_s, wJ_St, lt_s_, x2]
theorem d_190 (km : K 132 = 11) {o u : Nat} (ho : o < 2 ^ 63) (hu : u < 2 ^ 63) (h0 : 0 < u) (b : Bool) : Ca lx 190 [.ref (z + 132), .long (lN o), .long (lN u), .int (bI b)] (St z E n K N R I J) = some (some (.long (lN ((if b then u else o) / Nat.gcd o u))), St z E n K N R (u2 (u2 I 132 1 (nI 0)) 132 2 (mI 1)) J) := by
  rw [f_190]
  have g0 : 0 < Nat.gcd o u := Nat.gcd_pos_of_pos_right o h0
  have g1 : Nat.gcd o u ≤ u := Nat.gcd_le_right o h0
  have c2 : ¬ lN (Nat.gcd o u) = 0 := by
    rw [l_0, pk_lEQ (by omega) (by omega)]; omega
  cases b
  · simp only [k_St, km, gd_t, lits, s_185, cI_s, bI_0, if_true, e_190_10, s_189 ho hu, cJ_s]
    rw [gd_t c2, pk_lDiv ho g0 (by omega)]
    rfl
  · simp only [k_St, km, gd_t, lits, s_185, cI_s, bI_0, Bool.true_eq_false, if_false, e_190_10, s_189 ho hu, cJ_s]
    rw [gd_t c2, pk_lDiv hu g0 (by omega)]
    rfl
def OJ (lx : List Value → aH → aO) (z : Nat) (E : aEt) (n : Nat) (K N : Nat → Nat) (R : Nat → Nat → Option Nat) (I : Nat → Nat → Int32) (J : Nat → Nat → Int64) (f : Nat) (F : Nat → Nat → Nat) (ρ : Nat → Nat) (u w : Nat) (as : List Value) : Prop := ∃ t r, t ≠ 4 ∧ t < 7 ∧ CA lx z E n K N R I J u as t (.long r) ∧ ∀ I2 J2, MV K N R I2 f F ρ → MA lx z E n K N R I2 J2 w as t (.long r)
theorem CQ_s {t : Nat} {J' : Nat → Nat → Int64} (h : ∀ a, a ≠ 113 → J' a = J a) : CQ t I (u2 I 0 11 (nI t)) J J' :=
  CQ_w (fun a ha => ⟨rfl, h a (fun e => ha (by unfold scC; omega))⟩)
theorem o_148 (h : CW K N R I J p s F ρ) (x : Int32) (b : Bool) : OJ lx z E n K N R I J f F ρ 148 300 [.int x, .int (bI b)] := by
  have hU : ∀ v, CW K N R (u2 I 0 11 v) J p s F ρ := fun v => CW_u h
  have e62 := c_162 (lx := lx) (z := z) (E := E) (n := n) h x
  obtain ⟨hL, ⟨hW15, hW19, hP, hPs, hps, _⟩, _, hF, hO, hR, hρ, _, h16⟩ := h
  have hL2 := hL
  obtain ⟨k0, _, r1, r2, _, _, _, _, r7, rp, _⟩ := hL
  have k5 : K 113 = 5 := hL2.2.2.2.2.2.2.2.2.2.2.2.2.2.2.2.2.2.2.2.2.2.2.2.2.2.2.2.2.2.2.2.2.2.2.2.2.2.2.2.2.2.2.2.2.2.2.2.2.2.2.2.2.2.2.2.2.2
  have o8 : F 0 8 ≤ 4 := hO.2.2.2.2.2.2.2.2.2.2.2.2.1
  have o3 : F 0 3 ≤ 100 := hO.2.2.2.2.2.1
  have kp := hP.1
  have k15 := hW15.1
  obtain ⟨_, wr1, wr2, wr3, wk1, wk2, wk3, wn1, wn2, wn3⟩ := hW15
  rcases rg_i x (n := F 0 8) (by omega) with c | ⟨g, hg, eg⟩
  · rw [c] at e62
    refine ⟨1, -1, by decide, by decide, ⟨_, _, ?_, CQ_u⟩, fun I2 J2 hM => ⟨_, ?_, MQ_1⟩⟩
    · rw [f_148]
      simp [k_St, n_St, i_St, j_St, r_St, wI_St, wJ_St, k_S0, n_S0, i_S0, j_S0, r_S0, wI_S0, wJ_S0, cI_s, cJ_s, cV_s, nR_s, nQ_s, nQ_n, lt_s_, gd_T, gd_t, Option.map_some, lits, neg_mI, nI_add, pk_mul, nI_clamp, nI_eq, nI_leI, nI_ltI, nm_eq, mn_eq, nm_lt, mn_lt, nm_le, mn_le, m_eq, bI_0, bI_1, k0, e62, c_160]
    · rw [f_300]
      have e := d_227 (lx := lx) (z := z) (E := E) (n := n) (J := J2) (MV_0 hM).1 x
      rw [c] at e
      have km := hM.1.1.1
      have m1 : (mI 1).toInt64 = -1 := by decide
      simp [k_St, n_St, i_St, j_St, r_St, wI_St, wJ_St, k_S0, n_S0, i_S0, j_S0, r_S0, wI_S0, wJ_S0, cI_s, cJ_s, cV_s, nR_s, nQ_s, nQ_n, lt_s_, gd_T, gd_t, Option.map_some, lits, neg_mI, nI_add, pk_mul, nI_clamp, nI_eq, nI_leI, nI_ltI, nm_eq, mn_eq, nm_lt, mn_lt, nm_le, mn_le, m_eq, bI_0, bI_1, km, e, d_182, m1]
  · subst eg
    rw [rg_t hg (by omega)] at e62
    have hU0 := hU (nI 0)
    obtain ⟨_, _, _, hF0, _, hR0, _⟩ := hU0
    have v1 := hρ.1 g hg
    have oG := (hO.2.2.2.2.2.2.2.2.2.2.2.2.2.2.2.2.1 g hg).2.2.1
    have w1 := hR0.1 g hg
    have q3 := hF0.1 3 (by decide)
    have e71 := s_71 (lx := lx) (z := z) (E := E) (n := n) (N := N) (R := R) (I := u2 I 0 11 (nI 0)) (J := J) k5 hO (k := ρ g + 1) (by omega)
    have pu : (100 - F 0 3) ^ (ρ g + 1) ≤ 1000000000000000000 := pw_le (by omega) (by omega)
    have pl : 100 ^ (ρ g + 1) ≤ 1000000000000000000 := pw_le (by omega) (by omega)
    have pl0 : 0 < 100 ^ (ρ g + 1) := Nat.pow_pos (by omega)
    refine ⟨0, lN (if b then lA F ^ (ρ g + 1) else uA F ^ (ρ g + 1)), by decide, by decide, ⟨_, u2 (u2 (u2 (u2 J 113 0 (lN (uA F))) 113 1 (lN (lA F))) 113 0 (lN (uA F ^ (ρ g + 1)))) 113 1 (lN (lA F ^ (ρ g + 1))), ?_, CQ_s (fun a ha => by rw [u2_a _ _ _ _ _ ha, u2_a _ _ _ _ _ ha, u2_a _ _ _ _ _ ha, u2_a _ _ _ _ _ ha])⟩, fun I2 J2 hM => ⟨_, ?_, MQ_1⟩⟩
    · rw [f_148]
      have x0 : u2 (u2 (u2 (u2 J 113 0 (lN (uA F))) 113 1 (lN (lA F))) 113 0 (lN (uA F ^ (ρ g + 1)))) 113 1 (lN (lA F ^ (ρ g + 1))) 113 0 = lN (uA F ^ (ρ g + 1)) := by rw [u2_k _ _ _ _ _ (by decide), u2_s]
      have x1 : u2 (u2 (u2 (u2 J 113 0 (lN (uA F))) 113 1 (lN (lA F))) 113 0 (lN (uA F ^ (ρ g + 1)))) 113 1 (lN (lA F ^ (ρ g + 1))) 113 1 = lN (lA F ^ (ρ g + 1)) := by rw [u2_s]
      cases b
      · simp (disch := first | assumption | omega) [k_St, n_St, i_St, j_St, r_St, wI_St, wJ_St, k_S0, n_S0, i_S0, j_S0, r_S0, wI_S0, wJ_S0, cI_s, cJ_s, cV_s, nR_s, nQ_s, nQ_n, lt_s_, gd_T, gd_t, Option.map_some, lits, neg_mI, nI_add, pk_mul, nI_clamp, nI_eq, nI_leI, nI_ltI, nm_eq, mn_eq, nm_lt, mn_lt, nm_le, mn_le, m_eq, bI_0, bI_1, k0, e62, c_160, r7, rp, kp, r1, k15, wr1, wk1, wn1, w1, k5, q3, e71, x0]
      · simp (disch := first | assumption | omega) [k_St, n_St, i_St, j_St, r_St, wI_St, wJ_St, k_S0, n_S0, i_S0, j_S0, r_S0, wI_S0, wJ_S0, cI_s, cJ_s, cV_s, nR_s, nQ_s, nQ_n, lt_s_, gd_T, gd_t, Option.map_some, lits, neg_mI, nI_add, pk_mul, nI_clamp, nI_eq, nI_leI, nI_ltI, nm_eq, mn_eq, nm_lt, mn_lt, nm_le, mn_le, m_eq, bI_0, bI_1, k0, e62, c_160, r7, rp, kp, r1, k15, wr1, wk1, wn1, w1, k5, q3, e71, x1]
    · rw [f_300]
      have hM0 := MV_0 hM
      have e := d_227 (lx := lx) (z := z) (E := E) (n := n) (J := J2) hM0.1 (nI g)
      rw [rg_t hg (by omega)] at e
      have vg := hM0.2.1 g (by omega)
      have q3' := hM0.1.2.2.2.1.1 3 (by decide)
      obtain ⟨⟨km, _, r16, r17, _, _, _, _, _, _, _, _, _, _, _, k134, k135, _, _, _, _, _, _, _, _, _, _, _, n134, n135, _⟩, ⟨f0, kf, _⟩, rf, _, _⟩ := hM.1
      have e1 : (nI (100 - F 0 3)).toInt64 = lN (100 - F 0 3) := nI_l (by omega)
      have e9 := d_190 (lx := lx) (z := z) (E := E) (n := n) (N := N) (R := R) (I := u2 I2 132 0 (nI 0)) (J := J2) km (o := (100 - F 0 3) ^ (ρ g + 1)) (u := 100 ^ (ρ g + 1)) (by omega) (by omega) pl0 b
      have e99 : ∀ a : Nat, ∀ S : aH, Ca lx 299 [.long (lN a), .int (nI (ρ g + 1))] S = some (some (.long (lN (a ^ (ρ g + 1)))), S) := fun a S => s_299 a (by omega) S
      have fin : (if b then 100 ^ (ρ g + 1) else (100 - F 0 3) ^ (ρ g + 1)) / Nat.gcd ((100 - F 0 3) ^ (ρ g + 1)) (100 ^ (ρ g + 1)) = (if b then lA F ^ (ρ g + 1) else uA F ^ (ρ g + 1)) := by
        cases b
        · exact od_u _
        · exact od_l _
      rw [fin] at e9
      simp (disch := first | assumption | omega) [k_St, n_St, i_St, j_St, r_St, wI_St, wJ_St, k_S0, n_S0, i_S0, j_S0, r_S0, wI_S0, wJ_S0, cI_s, cJ_s, cV_s, nR_s, nQ_s, nQ_n, lt_s_, gd_T, gd_t, Option.map_some, lits, neg_mI, nI_add, pk_mul, nI_clamp, nI_eq, nI_leI, nI_ltI, nm_eq, mn_eq, nm_lt, mn_lt, nm_le, mn_le, m_eq, bI_0, bI_1, km, e, rf, kf, q3', r16, k134, n134, vg, pk_sub, e1, e99, l_100, e9]
end OP7
