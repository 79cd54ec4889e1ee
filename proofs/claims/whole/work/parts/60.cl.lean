/-! the class's own object, and what its calls share -/
def CL (K N : Nat → Nat) (R : Nat → Nat → Option Nat) (p s : Nat) : Prop := K 0 = 9 ∧ R 0 0 = some 1 ∧ R 0 1 = some 15 ∧ R 0 2 = some 19 ∧ R 0 3 = some 23 ∧ R 0 4 = some 102 ∧ R 0 5 = some 104 ∧ R 0 6 = some 108 ∧ R 0 7 = some 113 ∧ R 0 8 = some p ∧ R 0 9 = some s ∧ K 1 = 3 ∧ R 1 0 = some 2 ∧ R 1 7 = some 13 ∧ R 1 8 = some 14 ∧ K 13 = 14 ∧ N 13 = 4 ∧ K 14 = 14 ∧ N 14 = 4 ∧ K 2 = 6 ∧ R 2 0 = some 3 ∧ K 3 = 13 ∧ N 3 = 700 ∧ K 23 = 1 ∧ R 23 0 = some 24 ∧ R 23 1 = some 25 ∧ K 24 = 16 ∧ N 24 = 16 ∧ K 25 = 16 ∧ N 25 = 3 ∧ K 102 = 7 ∧ R 102 0 = some 103 ∧ K 103 = 13 ∧ N 103 = 64 ∧ K 104 = 0 ∧ R 104 0 = some 105 ∧ R 104 1 = some 106 ∧ R 104 3 = some 107 ∧ K 105 = 13 ∧ N 105 = 128 ∧ K 106 = 13 ∧ N 106 = 128 ∧ K 107 = 14 ∧ N 107 = 5 ∧ K 108 = 4 ∧ R 108 0 = some 109 ∧ R 108 1 = some 110 ∧ R 108 3 = some 111 ∧ R 108 4 = some 112 ∧ K 109 = 13 ∧ N 109 = 320 ∧ K 110 = 13 ∧ N 110 = 320 ∧ K 111 = 13 ∧ N 111 = 64 ∧ K 112 = 13 ∧ N 112 = 15 ∧ K 113 = 5
def CLw (K N : Nat → Nat) (R : Nat → Nat → Option Nat) (p s : Nat) : Prop := Wk K N R 15 ∧ Wk K N R 19 ∧ Pl K N R p ∧ Pl K N R s ∧ (p = 114 ∧ s = 123 ∨ p = 123 ∧ s = 114) ∧ (∀ i, i < 16 → R 24 i = some (26 + 4 * i) ∧ Wk K N R (26 + 4 * i)) ∧ (∀ i, i < 3 → R 25 i = some (90 + 4 * i) ∧ Wk K N R (90 + 4 * i))
def CW (K N : Nat → Nat) (R : Nat → Nat → Option Nat) (I : Nat → Nat → Int32) (J : Nat → Nat → Int64) (p s : Nat) (F : Nat → Nat → Nat) (ρ : Nat → Nat) : Prop := CL K N R p s ∧ CLw K N R p s ∧ I 0 10 = nI 1 ∧ PI I J p F ∧ FOk F ∧ WR I J 15 F ρ ∧ ROk F ρ ∧ I 15 2 = nI (ρ 16) ∧ ρ 16 ≤ 999
def scC (a : Nat) : Prop := (19 ≤ a ∧ a ≤ 22) ∨ (102 ≤ a ∧ a ≤ 107) ∨ (111 ≤ a ∧ a ≤ 113)
def CQ (t : Nat) (I I' : Nat → Nat → Int32) (J J' : Nat → Nat → Int64) : Prop := (∀ a, 1 ≤ a → ¬ scC a → I' a = I a ∧ J' a = J a) ∧ (∀ k, k ≠ 11 → I' 0 k = I 0 k) ∧ I' 0 11 = nI t ∧ J' 0 = J 0
def CA (lx : List Value → aH → aO) (z : Nat) (E : aEt) (n : Nat) (K N : Nat → Nat) (R : Nat → Nat → Option Nat) (I : Nat → Nat → Int32) (J : Nat → Nat → Int64) (u : Nat) (as : List Value) (t : Nat) (r : Value) : Prop := ∃ I' J', Ca lx u (.ref z :: as) (St z E n K N R I J) = some (some r, St z E n K N R I' J') ∧ CQ t I I' J J'
def scM (a : Nat) : Prop := a = 135 ∨ (138 ≤ a ∧ a ≤ 145)
def MQr (t : Nat) (I I' : Nat → Nat → Int32) : Prop := (∀ a, a ≠ 132 → ¬ scM a → I' a = I a) ∧ (∀ k, k ≠ 0 → k ≠ 1 → k ≠ 2 → k ≠ 27 → k ≠ 31 → k ≠ 32 → I' 132 k = I 132 k) ∧ I' 132 0 = nI 0 ∧ I' 132 1 = nI t ∧ I' 132 2 = mI 1
def MA (lx : List Value → aH → aO) (z : Nat) (E : aEt) (n : Nat) (K N : Nat → Nat) (R : Nat → Nat → Option Nat) (I : Nat → Nat → Int32) (J : Nat → Nat → Int64) (u : Nat) (as : List Value) (t : Nat) (r : Value) : Prop := ∃ I', Ca lx u (.ref (z + 132) :: as) (St z E n K N R I J) = some (some r, St z E n K N R I' J) ∧ MQr t I I'
/-! numbers in a range -/
def rg (x : Int32) (n : Nat) : Bool := decide (0 ≤ x ∧ x < nI n)
theorem rg_t {n j : Nat} (h : j < n) (hn : n < 2 ^ 31) : rg (nI j) n = true := by
  have a : (0 : Int32) ≤ nI j := nI_pos' (by omega)
  have b : nI j < nI n := nI_lt h hn
  simp [rg, a, b]
theorem rg_i (x : Int32) {n : Nat} (hn : n < 2 ^ 31) : rg x n = false ∨ ∃ j, j < n ∧ x = nI j := by
  rcases pk_ix x hn with h | h | h
  · left; have : ¬ 0 ≤ x := Int32.not_le.mpr h
    simp [rg, this]
  · left; have : ¬ x < nI n := Int32.not_lt.mpr h
    simp [rg, this]
  · exact Or.inr h
def hl (F : Nat → Nat → Nat) (x y : Int32) : Bool := rg x (F 0 4) && rg y (F 0 5)
theorem hl_i {F : Nat → Nat → Nat} (hO : FOk F) (x y : Int32) : hl F x y = false ∨ ∃ a b, a < F 0 4 ∧ b < F 0 5 ∧ x = nI a ∧ y = nI b ∧ 8 * b + a < 64 ∧ inF F (8 * b + a) = true ∧ hl F x y = true := by
  obtain ⟨o0, o0x, o1, o2, o2x, o3, o4, o4x, o5, o5x, o6, o7, o8, o9, oS, oD, oG, oH⟩ := hO
  unfold hl
  rcases rg_i x (n := F 0 4) (by omega) with h | ⟨a, ha, ea⟩
  · left; rw [h]; rfl
  · rcases rg_i y (n := F 0 5) (by omega) with h2 | ⟨b, hb, eb⟩
    · left; rw [h2]; simp
    · right
      refine ⟨a, b, ha, hb, ea, eb, by omega, ?_, ?_⟩
      · have e1 : (8 * b + a) % 8 = a := by omega
        have e2 : (8 * b + a) / 8 = b := by omega
        simp [inF, e1, e2, ha, hb]
      · rw [ea, eb, rg_t ha (by omega), rg_t hb (by omega)]; rfl
section CLS
variable {z : Nat} {E : aEt} {n : Nat} {K N : Nat → Nat} {R : Nat → Nat → Option Nat} {I : Nat → Nat → Int32} {J : Nat → Nat → Int64} {lx : List Value → aH → aO} {p s f : Nat} {F : Nat → Nat → Nat} {ρ : Nat → Nat}
theorem CW_u {v : Int32} (h : CW K N R I J p s F ρ) : CW K N R (u2 I 0 11 v) J p s F ρ := by
  obtain ⟨h1, h2, h3, h4, h5, h6, h7, h8, h9⟩ := h
  have hp : 1 ≤ p := by have := h2.2.2.2.2.1; omega
  refine ⟨h1, h2, ?_, ?_, h5, ?_, h7, ?_, h9⟩
  · rw [u2_k _ _ _ _ _ (by decide)]; exact h3
  · exact PI_c h4 (fun a h _ => u2_a _ _ _ _ _ (by omega)) rfl
  · obtain ⟨r1, r2, r3, r4, r5, r6⟩ := h6
    unfold WR
    rw [u2_a I 0 11 (15 + 1) v (by decide), u2_a I 0 11 (15 + 2) v (by decide), u2_a I 0 11 (15 + 3) v (by decide), u2_a I 0 11 15 v (by decide)]
    exact ⟨r1, r2, r3, r4, r5, r6⟩
  · rw [u2_a I 0 11 15 v (by decide)]; exact h8
theorem CQ_u {t : Nat} : CQ t I (u2 I 0 11 (nI t)) J J := by
  refine ⟨fun a h _ => ⟨u2_a _ _ _ _ _ (by omega), rfl⟩, fun k hk => u2_k _ _ _ _ _ hk, u2_s _ _ _ _, rfl⟩
theorem CQ_w {t : Nat} {I' : Nat → Nat → Int32} {J' : Nat → Nat → Int64} (h : ∀ a, ¬ scC a → I' a = u2 I 0 11 (nI t) a ∧ J' a = J a) : CQ t I I' J J' := by
  have n0 : ¬ scC 0 := by unfold scC; omega
  refine ⟨fun a h1 h2 => ⟨(h a h2).1.trans (u2_a _ _ _ _ _ (by omega)), (h a h2).2⟩, fun k hk => ?_, ?_, (h 0 n0).2⟩
  · rw [(h 0 n0).1, u2_k _ _ _ _ _ hk]
  · rw [(h 0 n0).1, u2_s]
theorem CQ_f {t : Nat} {I' : Nat → Nat → Int32} {J' : Nat → Nat → Int64} (h : Fw 19 (u2 I 0 11 (nI t)) I' J J') : CQ t I I' J J' :=
  CQ_w (fun a ha => h a (by unfold scC at ha; omega))
theorem c_161 (k0 : K 0 = 9) (a b : Bool) : Ca lx 161 [.ref z, .int (bI a), .int (bI b)] (St z E n K N R I J) = some (some (.int (bI (a && b))), St z E n K N R (u2 I 0 11 (nI (if a then (if b then 0 else 2) else 1))) J) := by
  have e := s_161 (lx := lx) (z := z) (E := E) (n := n) (K := K) (N := N) (R := R) (I := I) (J := J) k0 (bI a) (bI b)
  rw [Nat.add_zero] at e
  rw [e]
  cases a <;> cases b <;> rfl
theorem c_160 (k0 : K 0 = 9) (a : Bool) : Ca lx 160 [.ref z, .int (bI a)] (St z E n K N R I J) = some (some (.int (bI a)), St z E n K N R (u2 I 0 11 (nI (if a then 0 else 1))) J) := by
  have e := s_160 (lx := lx) (z := z) (E := E) (n := n) (K := K) (N := N) (R := R) (I := I) (J := J) k0 (bI a)
  rw [Nat.add_zero] at e
  rw [e]
  cases a <;> rfl
theorem c_24 (h : CW K N R I J p s F ρ) (x y : Int32) : Ca lx 24 [.ref (z + p), .int x, .int y] (St z E n K N R I J) = some (some (.int (bI (hl F x y))), (St z E n K N R I J)) := by
  have e : decide (0 ≤ x ∧ x < nI (F 0 4) ∧ 0 ≤ y ∧ y < nI (F 0 5)) = hl F x y := by
    unfold hl rg
    rw [← Bool.decide_and]
    congr 1
    exact propext ⟨fun ⟨a, b, c, d⟩ => ⟨⟨a, b⟩, ⟨c, d⟩⟩, fun ⟨⟨a, b⟩, ⟨c, d⟩⟩ => ⟨a, b, c, d⟩⟩
  rw [s_24 h.2.1.2.2.1 h.2.2.2.1 h.2.2.2.2.1, e]
theorem c_162 (h : CW K N R I J p s F ρ) (x : Int32) : Ca lx 162 [.ref z, .int x] (St z E n K N R I J) = some (some (.int (bI (rg x (F 0 8)))), (St z E n K N R I J)) := by
  rw [f_162]
  obtain ⟨k0, _, _, _, _, _, _, _, _, rp, _⟩ := h.1
  have kp := h.2.1.2.2.1.1
  have q := h.2.2.2.1.1 8 (by decide)
  unfold rg
  by_cases c1 : x < 0
  · have : ¬ 0 ≤ x := Int32.not_le.mpr c1
    simp [c1, this, gd_T]; rfl
  · have c1' : 0 ≤ x := Int32.not_lt.mp c1
    by_cases c2 : nI (F 0 8) ≤ x
    · have c2' : ¬ x < nI (F 0 8) := Int32.not_lt.mpr c2
      simp only [k_S0, k0, gd_t, r_S0, rp, Option.map_some, nR_s, k_St, kp, i_St, q]
      simp [c1, c2, c2', gd_T]; rfl
    · have c2' : x < nI (F 0 8) := Int32.not_le.mp c2
      simp only [k_S0, k0, gd_t, r_S0, rp, Option.map_some, nR_s, k_St, kp, i_St, q]
      simp [c1, c1', c2, c2', gd_T]; rfl
theorem c_163 (h : CW K N R I J p s F ρ) (x : Int32) : Ca lx 163 [.ref z, .int x] (St z E n K N R I J) = some (some (.int (bI (rg x (F 0 7)))), (St z E n K N R I J)) := by
  rw [f_163]
  obtain ⟨k0, _, _, _, _, _, _, _, _, rp, _⟩ := h.1
  have kp := h.2.1.2.2.1.1
  have q := h.2.2.2.1.1 7 (by decide)
  unfold rg
  by_cases c1 : x < 0
  · have : ¬ 0 ≤ x := Int32.not_le.mpr c1
    simp [c1, this, gd_T]; rfl
  · have c1' : 0 ≤ x := Int32.not_lt.mp c1
    by_cases c2 : nI (F 0 7) ≤ x
    · have c2' : ¬ x < nI (F 0 7) := Int32.not_lt.mpr c2
      simp only [k_S0, k0, gd_t, r_S0, rp, Option.map_some, nR_s, k_St, kp, i_St, q]
      simp [c1, c2, c2', gd_T]; rfl
    · have c2' : x < nI (F 0 7) := Int32.not_le.mp c2
      simp only [k_S0, k0, gd_t, r_S0, rp, Option.map_some, nR_s, k_St, kp, i_St, q]
      simp [c1, c1', c2, c2', gd_T]; rfl
theorem rg_l (x : Int32) {m : Nat} (hm : m < 2 ^ 30) : (if x < 0 then (0 : Int32) else if nI m < x then 0 else 1) = bI (rg x (m + 1)) := by
  rcases rg_i x (n := m + 1) (by omega) with h | ⟨j, hj, e⟩
  · rw [h]
    by_cases c1 : x < 0
    · simp [c1]; rfl
    · have c1' : 0 ≤ x := Int32.not_lt.mp c1
      have c2 : ¬ x < nI (m + 1) := by
        intro c
        have : rg x (m + 1) = true := by simp [rg, c1', c]
        rw [h] at this; cases this
      have c3 : nI m < x := by
        rw [Int32.lt_iff_toInt_lt, nI_toInt (by omega)] at *
        omega
      simp [c1, c3]; rfl
  · subst e
    rw [rg_t hj (by omega)]
    simp (disch := first | assumption | omega) [k_St, n_St, i_St, j_St, r_St, wI_St, wJ_St, k_S0, n_S0, i_S0, j_S0, r_S0, wI_S0, wJ_S0, cI_s, cJ_s, cV_s, nR_s, nQ_s, nQ_n, lt_s_, gd_T, gd_t, Option.map_some, lits, neg_mI, nI_add, pk_mul, nI_clamp, nI_eq, nI_leI, nI_ltI, nm_eq, mn_eq, nm_lt, mn_lt, nm_le, mn_le, m_eq, bI_0, bI_1, if_neg]; rfl
theorem c_166 (x : Int32) (S : aH) : Ca lx 166 [.int x] S = some (some (.int (bI (rg x 61))), S) := by
  rw [s_166, ← rg_l x (m := 60) (by omega)]; rfl
theorem c_167 (x : Int32) (S : aH) : Ca lx 167 [.int x] S = some (some (.int (bI (rg x 3))), S) := by
  rw [s_167, ← rg_l x (m := 2) (by omega)]; rfl
theorem c_168 (x : Int32) (S : aH) : Ca lx 168 [.int x] S = some (some (.int (bI (rg x 10))), S) := by
  rw [s_168, ← rg_l x (m := 9) (by omega)]; rfl
/-- soil at x, y -/
def hs (F : Nat → Nat → Nat) (x y : Int32) : Bool := hl F x y && isS F (8 * y.toNatClampNeg + x.toNatClampNeg)
theorem hs_i (hO : FOk F) (x y : Int32) : hs F x y = false ∨ ∃ a b, a < F 0 4 ∧ b < F 0 5 ∧ x = nI a ∧ y = nI b ∧ 8 * b + a < 64 ∧ isS F (8 * b + a) = true ∧ hs F x y = true := by
  unfold hs
  rcases hl_i hO x y with h | ⟨a, b, ha, hb, ea, eb, l, hi, ht⟩
  · left; rw [h]; rfl
  · subst ea eb
    obtain ⟨o0, o0x, o1, o2, o2x, o3, o4, o4x, o5, o5x, o6, o7, o8, o9, oS, oD, oG, oH⟩ := hO
    rw [ht, nI_clamp (by omega), nI_clamp (by omega)]
    cases e : isS F (8 * b + a)
    · left; rfl
    · right; exact ⟨a, b, ha, hb, rfl, rfl, l, e, rfl⟩
theorem c_165 (h : CW K N R I J p s F ρ) (x y : Int32) : Ca lx 165 [.ref z, .int x, .int y] (St z E n K N R I J) = some (some (.int (bI (hs F x y))), (St z E n K N R I J)) := by
  rw [f_165]
  have hO := h.2.2.2.2.1
  have e24 := c_24 (lx := lx) (z := z) (E := E) (n := n) h x y
  have hP := h.2.1.2.2.1
  have hF := h.2.2.2.1
  have kp := hP.1
  obtain ⟨k0, _, _, _, _, _, _, _, _, rp, _⟩ := h.1
  unfold hs
  rcases hl_i hO x y with c | ⟨a, b, ha, hb, ea, eb, l, hi, ht⟩
  · rw [c] at e24 ⊢
    simp only [k_S0, k0, gd_t, r_S0, rp, Option.map_some, nR_s, k_St, kp, e24, cI_s]
    simp [lits, bI_0, gd_T]; rfl
  · subst ea eb
    rw [ht] at e24 ⊢
    obtain ⟨o0, o0x, o1, o2, o2x, o3, o4, o4x, o5, o5x, o6, o7, o8, o9, oS, oD, oG, oH⟩ := hO
    have e26 := s_26c (lx := lx) (z := z) (E := E) (n := n) hP hF l
    rw [nI_clamp (by omega), nI_clamp (by omega)]
    simp only [k_S0, k0, gd_t, r_S0, rp, Option.map_some, nR_s, k_St, kp, e24, cI_s, s_0, e26]
    cases isS F (8 * b + a) <;> simp [lits, bI_0, gd_T] <;> rfl
end CLS
section MLS
variable {z : Nat} {E : aEt} {n : Nat} {K N : Nat → Nat} {R : Nat → Nat → Option Nat} {I : Nat → Nat → Int32} {J : Nat → Nat → Int64} {lx : List Value → aH → aO} {f : Nat} {F : Nat → Nat → Nat} {ρ : Nat → Nat}
theorem d_182 (km : K 132 = 11) (x : Int32) : Ca lx 182 [.ref (z + 132), .int x] (St z E n K N R I J) = some (some (.int (mI 1)), St z E n K N R (u2 (u2 I 132 1 x) 132 2 (mI 1)) J) := by
  rw [f_182]; simp [k_St, n_St, i_St, j_St, r_St, wI_St, wJ_St, k_S0, n_S0, i_S0, j_S0, r_S0, wI_S0, wJ_S0, cI_s, cJ_s, cV_s, nR_s, nQ_s, nQ_n, lt_s_, gd_T, gd_t, Option.map_some, lits, neg_mI, nI_add, pk_mul, nI_clamp, nI_eq, nI_leI, nI_ltI, nm_eq, mn_eq, nm_lt, mn_lt, nm_le, mn_le, m_eq, bI_0, bI_1, km]
theorem d_226 (h : MD K N R I f F) (x y : Int32) : Ca lx 226 [.ref (z + 132), .int x, .int y] (St z E n K N R I J) = some (some (.int (bI (hl F x y))), (St z E n K N R I J)) := by
  rw [f_226]
  obtain ⟨⟨km, _⟩, ⟨f0, kf, _⟩, rf, ⟨q0, _⟩, _⟩ := h
  have q4 := q0 4 (by decide)
  have q5 := q0 5 (by decide)
  simp only [k_St, km, gd_t, r_St, rf, Option.map_some, nR_s, nQ_s, kf, i_St, q4, q5]
  unfold hl rg
  by_cases h : x < 0
  · have h' : ¬ 0 ≤ x := Int32.not_le.mpr h
    simp [h, h', gd_T]; rfl
  · have h' : 0 ≤ x := Int32.not_lt.mp h
    by_cases h2 : nI (F 0 4) ≤ x
    · have h2' : ¬ x < nI (F 0 4) := Int32.not_lt.mpr h2
      simp [h, h2, h2', gd_T]; rfl
    · have h2' : x < nI (F 0 4) := Int32.not_le.mp h2
      by_cases h3 : y < 0
      · have h3' : ¬ 0 ≤ y := Int32.not_le.mpr h3
        simp [h, h', h2, h2', h3, h3', gd_T]; rfl
      · have h3' : 0 ≤ y := Int32.not_lt.mp h3
        by_cases h4 : nI (F 0 5) ≤ y
        · have h4' : ¬ y < nI (F 0 5) := Int32.not_lt.mpr h4
          simp [h, h', h2, h2', h3, h3', h4, h4', gd_T]; rfl
        · have h4' : y < nI (F 0 5) := Int32.not_le.mp h4
          simp [h, h', h2, h2', h3, h3', h4, h4', gd_T]; rfl
theorem d_227 (h : MD K N R I f F) (x : Int32) : Ca lx 227 [.ref (z + 132), .int x] (St z E n K N R I J) = some (some (.int (bI (rg x (F 0 8)))), (St z E n K N R I J)) := by
  rw [f_227]
  obtain ⟨⟨km, _⟩, ⟨f0, kf, _⟩, rf, ⟨q0, _⟩, _⟩ := h
  have q := q0 8 (by decide)
  simp only [k_St, km, gd_t, r_St, rf, Option.map_some, nR_s, nQ_s, kf, i_St, q]
  unfold rg
  by_cases h : x < 0
  · have h' : ¬ 0 ≤ x := Int32.not_le.mpr h
    simp [h, h', gd_T]; rfl
  · have h' : 0 ≤ x := Int32.not_lt.mp h
    by_cases h2 : nI (F 0 8) ≤ x
    · have h2' : ¬ x < nI (F 0 8) := Int32.not_lt.mpr h2
      simp [h, h2, h2', gd_T]; rfl
    · have h2' : x < nI (F 0 8) := Int32.not_le.mp h2
      simp [h, h', h2, h2', gd_T]; rfl
theorem d_228 (h : MD K N R I f F) (x : Int32) : Ca lx 228 [.ref (z + 132), .int x] (St z E n K N R I J) = some (some (.int (bI (rg x (F 0 7)))), (St z E n K N R I J)) := by
  rw [f_228]
  obtain ⟨⟨km, _⟩, ⟨f0, kf, _⟩, rf, ⟨q0, _⟩, _⟩ := h
  have q := q0 7 (by decide)
  simp only [k_St, km, gd_t, r_St, rf, Option.map_some, nR_s, nQ_s, kf, i_St, q]
  unfold rg
  by_cases h : x < 0
  · have h' : ¬ 0 ≤ x := Int32.not_le.mpr h
    simp [h, h', gd_T]; rfl
  · have h' : 0 ≤ x := Int32.not_lt.mp h
    by_cases h2 : nI (F 0 7) ≤ x
    · have h2' : ¬ x < nI (F 0 7) := Int32.not_lt.mpr h2
      simp [h, h2, h2', gd_T]; rfl
    · have h2' : x < nI (F 0 7) := Int32.not_le.mp h2
      simp [h, h', h2, h2', gd_T]; rfl
theorem d_187 (x : Int32) {m : Nat} (hm : m < 2 ^ 30) (S : aH) : Ca lx 187 [.int x, .int (nI 0), .int (nI m)] S = some (some (.int (bI (rg x (m + 1)))), S) := by
  rw [s_187]
  have e : x ≤ nI m ↔ x < nI (m + 1) := by
    rw [Int32.le_iff_toInt_le, Int32.lt_iff_toInt_lt, nI_toInt (by omega), nI_toInt (by omega)]; omega
  have z0 : nI 0 = (0 : Int32) := rfl
  unfold rg
  simp only [e, z0]
theorem d_239 (a : Bool) (x : Int32) (l : Nat) (S : aH) : Ca lx 239 [.ref l, .int (bI a), .int x] S = some (some (.int (nI (if a then (if rg x 61 then 0 else 2) else 1))), S) := by
  rw [f_239]
  have e := d_187 (lx := lx) x (m := 60) (by omega) S
  simp only [lits, bI_0, e, cI_s]
  cases a <;> cases rg x 61 <;> simp
theorem d_276 (h : MD K N R I f F) (x y r : Int32) : Ca lx 276 [.ref (z + 132), .int x, .int y, .int r] (St z E n K N R I J) = some (some (.int (nI (if hs F x y then (if rg r 3 then 0 else 2) else 1))), (St z E n K N R I J)) := by
  rw [f_276]
  have hO := h.2.2.2.2
  have e26 := d_226 (lx := lx) (z := z) (E := E) (n := n) (J := J) h x y
  have e87 := d_187 (lx := lx) r (m := 2) (by omega) (St z E n K N R I J)
  have km := h.1.1
  have kf := h.2.1.2.1
  have rf := h.2.2.1
  unfold hs
  rcases hl_i hO x y with c | ⟨a, b, ha, hb, ea, eb, l, hi, ht⟩
  · rw [c] at e26 ⊢
    simp [k_St, n_St, i_St, j_St, r_St, wI_St, wJ_St, k_S0, n_S0, i_S0, j_S0, r_S0, wI_S0, wJ_S0, cI_s, cJ_s, cV_s, nR_s, nQ_s, nQ_n, lt_s_, gd_T, gd_t, Option.map_some, lits, neg_mI, nI_add, pk_mul, nI_clamp, nI_eq, nI_leI, nI_ltI, nm_eq, mn_eq, nm_lt, mn_lt, nm_le, mn_le, m_eq, bI_0, bI_1, km, e26]
  · subst ea eb
    rw [ht] at e26 ⊢
    have e178 := s_178 (lx := lx) (z := z) (E := E) (n := n) (J := J) h l
    obtain ⟨o0, o0x, o1, o2, o2x, o3, o4, o4x, o5, o5x, o6, o7, o8, o9, oS, oD, oG, oH⟩ := hO
    rw [nI_clamp (by omega), nI_clamp (by omega)]
    have hs' : isS F (8 * b + a) = !decide (F 1 (8 * b + a) = 3) := by simp [isS, l, hi]
    rw [hs']
    by_cases c : F 1 (8 * b + a) = 3
    · simp [k_St, n_St, i_St, j_St, r_St, wI_St, wJ_St, k_S0, n_S0, i_S0, j_S0, r_S0, wI_S0, wJ_S0, cI_s, cJ_s, cV_s, nR_s, nQ_s, nQ_n, lt_s_, gd_T, gd_t, Option.map_some, lits, neg_mI, nI_add, pk_mul, nI_clamp, nI_eq, nI_leI, nI_ltI, nm_eq, mn_eq, nm_lt, mn_lt, nm_le, mn_le, m_eq, bI_0, bI_1, km, e26, rf, kf, s_229, e178, c]
    · simp only [c, decide_false] at e178
      cases hr : rg r 3
      · rw [hr] at e87
        simp [k_St, n_St, i_St, j_St, r_St, wI_St, wJ_St, k_S0, n_S0, i_S0, j_S0, r_S0, wI_S0, wJ_S0, cI_s, cJ_s, cV_s, nR_s, nQ_s, nQ_n, lt_s_, gd_T, gd_t, Option.map_some, lits, neg_mI, nI_add, pk_mul, nI_clamp, nI_eq, nI_leI, nI_ltI, nm_eq, mn_eq, nm_lt, mn_lt, nm_le, mn_le, m_eq, bI_0, bI_1, km, e26, rf, kf, s_229, e178, c, e87]
      · rw [hr] at e87
        simp [k_St, n_St, i_St, j_St, r_St, wI_St, wJ_St, k_S0, n_S0, i_S0, j_S0, r_S0, wI_S0, wJ_S0, cI_s, cJ_s, cV_s, nR_s, nQ_s, nQ_n, lt_s_, gd_T, gd_t, Option.map_some, lits, neg_mI, nI_add, pk_mul, nI_clamp, nI_eq, nI_leI, nI_ltI, nm_eq, mn_eq, nm_lt, mn_lt, nm_le, mn_le, m_eq, bI_0, bI_1, km, e26, rf, kf, s_229, e178, c, e87]
theorem MQ_0 {t : Nat} {I' : Nat → Nat → Int32} (h : ∀ a, a ≠ 132 → ¬ scM a → I' a = I a) (h2 : ∀ k, k ≠ 27 → k ≠ 31 → k ≠ 32 → I' 132 k = u2 I 132 0 (nI 0) 132 k) : MQr t I (u2 (u2 I' 132 1 (nI t)) 132 2 (mI 1)) := by
  refine ⟨fun a h1 h3 => ?_, fun k k0 k1 k2 k3 k4 k5 => ?_, ?_, ?_, ?_⟩
  · rw [u2_a _ _ _ _ _ h1, u2_a _ _ _ _ _ h1]; exact h a h1 h3
  · rw [u2_k _ _ _ _ _ k2, u2_k _ _ _ _ _ k1, h2 k k3 k4 k5, u2_k _ _ _ _ _ k0]
  · rw [u2_k _ _ _ _ _ (by decide), u2_k _ _ _ _ _ (by decide), h2 0 (by decide) (by decide) (by decide), u2_s]
  · rw [u2_k _ _ _ _ _ (by decide), u2_s]
  · rw [u2_s]
theorem MQ_1 {t : Nat} : MQr t I (u2 (u2 (u2 I 132 0 (nI 0)) 132 1 (nI t)) 132 2 (mI 1)) :=
  MQ_0 (fun a h _ => u2_a _ _ _ _ _ h) (fun _ _ _ _ => rfl)
theorem MQ_p {t : Nat} : MQr t I (u2 (u2 (pr (u2 I 132 0 (nI 0)) 135 145 ρ) 132 1 (nI t)) 132 2 (mI 1)) :=
  MQ_0 (fun a h h2 => by rw [pr_n (fun e => h2 (Or.inl e)), u2_a _ _ _ _ _ h]) (fun k _ _ _ => by rw [pr_n (by decide)])
end MLS
