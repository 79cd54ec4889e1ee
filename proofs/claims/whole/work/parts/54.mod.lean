/-! the reference: its object at 132, its field at f -/
def Mo (K N : Nat → Nat) (R : Nat → Nat → Option Nat) : Prop := K 132 = 11 ∧ R 132 5 = some 133 ∧ R 132 16 = some 134 ∧ R 132 17 = some 135 ∧ R 132 18 = some 136 ∧ R 132 19 = some 137 ∧ R 132 22 = some 138 ∧ R 132 23 = some 139 ∧ R 132 24 = some 140 ∧ R 132 25 = some 141 ∧ R 132 26 = some 142 ∧ R 132 28 = some 143 ∧ R 132 29 = some 144 ∧ R 132 30 = some 145 ∧ K 133 = 12 ∧ K 134 = 13 ∧ K 135 = 13 ∧ K 136 = 13 ∧ K 137 = 13 ∧ K 138 = 13 ∧ K 139 = 15 ∧ K 140 = 15 ∧ K 141 = 13 ∧ K 142 = 13 ∧ K 143 = 13 ∧ K 144 = 13 ∧ K 145 = 13 ∧ N 133 = 700 ∧ N 134 = 145 ∧ N 135 = 145 ∧ N 136 = 2320 ∧ N 137 = 435 ∧ N 138 = 64 ∧ N 139 = 320 ∧ N 140 = 64 ∧ N 141 = 128 ∧ N 142 = 128 ∧ N 143 = 320 ∧ N 144 = 64 ∧ N 145 = 15
def Fl (K N : Nat → Nat) (R : Nat → Nat → Option Nat) (f : Nat) : Prop := 147 ≤ f ∧ K f = 10 ∧ R f 12 = some (f + 1) ∧ R f 13 = some (f + 2) ∧ R f 14 = some (f + 3) ∧ R f 15 = some (f + 4) ∧ R f 16 = some (f + 5) ∧ R f 17 = some (f + 6) ∧ R f 18 = some (f + 7) ∧ R f 19 = some (f + 8) ∧ R f 20 = some (f + 9) ∧ R f 21 = some (f + 10) ∧ R f 22 = some (f + 11) ∧ K (f + 1) = 13 ∧ K (f + 2) = 13 ∧ K (f + 3) = 13 ∧ K (f + 4) = 13 ∧ K (f + 5) = 13 ∧ K (f + 6) = 13 ∧ K (f + 7) = 13 ∧ K (f + 8) = 13 ∧ K (f + 9) = 14 ∧ K (f + 10) = 13 ∧ K (f + 11) = 13 ∧ N (f + 1) = 64 ∧ N (f + 2) = 4 ∧ N (f + 3) = 4 ∧ N (f + 4) = 4 ∧ N (f + 5) = 36 ∧ N (f + 6) = 6 ∧ N (f + 7) = 6 ∧ N (f + 8) = 6 ∧ N (f + 9) = 8 ∧ N (f + 10) = 8 ∧ N (f + 11) = 8
def FI (I : Nat → Nat → Int32) (f : Nat) (F : Nat → Nat → Nat) : Prop := (∀ j, j < 10 → I f j = nI (F 0 j)) ∧ (∀ c, c < 64 → I (f + 1) c = nI (F 1 c)) ∧ (∀ d, d < F 0 7 → I (f + 2) d = nI (F 2 d)) ∧ (∀ g, g < F 0 8 → I (f + 3) g = nI (F 3 g)) ∧ (∀ g, g < F 0 8 → I (f + 4) g = nI (F 4 g)) ∧ (∀ g k, g < F 0 8 → k ≤ F 4 g → I (f + 5) (9 * g + k) = nI (F 5 (g * 9 + k))) ∧ (∀ k, k < F 0 9 → I (f + 6) k = nI (F 6 k) ∧ I (f + 7) k = nI (F 7 k) ∧ I (f + 8) k = nI (F 8 k))
/-- all of it -/
def MD (K N : Nat → Nat) (R : Nat → Nat → Option Nat) (I : Nat → Nat → Int32) (f : Nat) (F : Nat → Nat → Nat) : Prop := Mo K N R ∧ Fl K N R f ∧ R 132 3 = some f ∧ FI I f F ∧ FOk F
section MODL
variable {z : Nat} {E : aEt} {n : Nat} {K N : Nat → Nat} {R : Nat → Nat → Option Nat} {I : Nat → Nat → Int32} {J : Nat → Nat → Int64} {lx : List Value → aH → aO} {f : Nat} {F : Nat → Nat → Nat} {ρ : Nat → Nat}
theorem FI_c {I' : Nat → Nat → Int32} (h : FI I f F) (e : ∀ a, f ≤ a → I' a = I a) : FI I' f F := by
  obtain ⟨h0, h1, h2, h3, h4, h5, h6⟩ := h
  refine ⟨?_, ?_, ?_, ?_, ?_, ?_, ?_⟩
  · rw [e f (by omega)]; exact h0
  · rw [e (f + 1) (by omega)]; exact h1
  · rw [e (f + 2) (by omega)]; exact h2
  · rw [e (f + 3) (by omega)]; exact h3
  · rw [e (f + 4) (by omega)]; exact h4
  · rw [e (f + 5) (by omega)]; exact h5
  · rw [e (f + 6) (by omega), e (f + 7) (by omega), e (f + 8) (by omega)]; exact h6
theorem MD_c {I' : Nat → Nat → Int32} (h : MD K N R I f F) (e : ∀ a, 147 ≤ a → I' a = I a) : MD K N R I' f F :=
  ⟨h.1, h.2.1, h.2.2.1, FI_c h.2.2.2.1 (fun a ha => e a (by have := h.2.1.1; omega)), h.2.2.2.2⟩
theorem MD_p {a m : Nat} (h : MD K N R I f F) (ha : a < 147) : MD K N R (pr I a m ρ) f F := MD_c h (fun b hb => pr_n (by omega))
theorem MD_u {a k : Nat} {v : Int32} (h : MD K N R I f F) (ha : a < 147) : MD K N R (u2 I a k v) f F := MD_c h (fun b hb => u2_a I a k b v (by omega))
theorem s_185 (km : K 132 = 11) (x : Int32) : Ca lx 185 [.ref (z + 132), .int x] (St z E n K N R I J) = some (some (.int x), St z E n K N R (u2 (u2 I 132 1 (nI 0)) 132 2 (mI 1)) J) := by
  rw [f_185]; simp [k_St, n_St, i_St, j_St, r_St, wI_St, wJ_St, k_S0, n_S0, i_S0, j_S0, r_S0, wI_S0, wJ_S0, cI_s, cJ_s, cV_s, nR_s, nQ_s, nQ_n, lt_s_, gd_T, gd_t, Option.map_some, lits, neg_mI, nI_add, pk_mul, nI_clamp, nI_eq, nI_leI, nI_ltI, nm_eq, mn_eq, nm_lt, mn_lt, nm_le, mn_le, m_eq, bI_0, bI_1, km]
theorem s_188 {m g : Nat} (hm : m < 16) (hg : g < 4) (S : aH) : Ca lx 188 [.int (nI m), .int (nI g)] S = some (some (.int (bI (m.testBit g))), S) := by
  rw [f_188]
  simp only [lits, bt_v hm hg, bI_1]
  cases m.testBit g <;> simp [gd_T, nI_eq] <;> rfl
theorem s_191 {c d : Nat} (hc : c < 64) (hd : d < 64) (S : aH) : Ca lx 191 [.int (nI c), .int (nI d)] S = some (some (.int (nI (apt c d))), S) := by
  rw [f_191]
  have e8 : (8 : Int32) = nI 8 := rfl
  have c1 : nI c - nI c / 8 * 8 = nI (c % 8) := by rw [e8]; exact pk_rem (by omega) (by omega) (by omega)
  have d1 : nI d - nI d / 8 * 8 = nI (d % 8) := by rw [e8]; exact pk_rem (by omega) (by omega) (by omega)
  have c2 : nI c / 8 = nI (c / 8) := by rw [e8]; exact pk_div (by omega) (by omega) (by omega)
  have d2 : nI d / 8 = nI (d / 8) := by rw [e8]; exact pk_div (by omega) (by omega) (by omega)
  rw [c1, d1, c2, d2]
  have h : ∀ a b : Fin 8, (if 0 ≤ nI a.val - nI b.val then nI a.val - nI b.val else -(nI a.val - nI b.val)) = nI ((a.val - b.val) + (b.val - a.val)) := by decide +kernel
  have h1 := h ⟨c % 8, by omega⟩ ⟨d % 8, by omega⟩
  have h2 := h ⟨c / 8, by omega⟩ ⟨d / 8, by omega⟩
  simp only at h1 h2
  have g8 : (¬ (8 : Int32) = 0) := by decide
  simp only [e_191_23, gd_t g8]
  unfold apt
  rw [← nI_add, ← h1, ← h2]
  (repeat' split) <;> rfl
theorem s_178 (h : MD K N R I f F) {c : Nat} (hc : c < 64) : Ca lx 178 [.ref (z + f), .int (nI c)] (St z E n K N R I J) = some (some (.int (bI (decide (F 1 c = 3)))), (St z E n K N R I J)) := by
  rw [f_178]
  obtain ⟨_, ⟨f0, kf, r12, _, _, _, _, _, _, _, _, _, _, k1, _, _, _, _, _, _, _, _, _, _, n1, _⟩, _, ⟨_, q1, _⟩, hO⟩ := h
  have b : F 1 c ≤ 3 := hO.2.2.2.2.2.2.2.2.2.2.2.2.2.2.1 c hc
  by_cases e : F 1 c = 3
  · simp (disch := first | assumption | omega) [k_St, n_St, i_St, j_St, r_St, wI_St, wJ_St, k_S0, n_S0, i_S0, j_S0, r_S0, wI_S0, wJ_S0, cI_s, cJ_s, cV_s, nR_s, nQ_s, nQ_n, lt_s_, gd_T, gd_t, Option.map_some, lits, neg_mI, nI_add, pk_mul, nI_clamp, nI_eq, nI_leI, nI_ltI, nm_eq, mn_eq, nm_lt, mn_lt, nm_le, mn_le, m_eq, bI_0, bI_1, kf, r12, k1, n1, q1 c hc, e]; rfl
  · simp (disch := first | assumption | omega) [k_St, n_St, i_St, j_St, r_St, wI_St, wJ_St, k_S0, n_S0, i_S0, j_S0, r_S0, wI_S0, wJ_S0, cI_s, cJ_s, cV_s, nR_s, nQ_s, nQ_n, lt_s_, gd_T, gd_t, Option.map_some, lits, neg_mI, nI_add, pk_mul, nI_clamp, nI_eq, nI_leI, nI_ltI, nm_eq, mn_eq, nm_lt, mn_lt, nm_le, mn_le, m_eq, bI_0, bI_1, kf, r12, k1, n1, q1 c hc, e]; rfl
theorem s_179 (h : MD K N R I f F) (x : Nat) : Ca lx 179 [.ref (z + f), .int (oI x)] (St z E n K N R I J) = some (some (.int (bI (decide (x < 64) && !decide (F 1 x = 3)))), (St z E n K N R I J)) := by
  rw [f_179]
  by_cases hx : x < 64
  · rw [oI_lt hx, s_178 h hx]
    have kf := h.2.1.2.1
    by_cases e : F 1 x = 3
    · simp (disch := first | assumption | omega) [k_St, n_St, i_St, j_St, r_St, wI_St, wJ_St, k_S0, n_S0, i_S0, j_S0, r_S0, wI_S0, wJ_S0, cI_s, cJ_s, cV_s, nR_s, nQ_s, nQ_n, lt_s_, gd_T, gd_t, Option.map_some, lits, neg_mI, nI_add, pk_mul, nI_clamp, nI_eq, nI_leI, nI_ltI, nm_eq, mn_eq, nm_lt, mn_lt, nm_le, mn_le, m_eq, bI_0, bI_1, kf, e]; rfl
    · simp (disch := first | assumption | omega) [k_St, n_St, i_St, j_St, r_St, wI_St, wJ_St, k_S0, n_S0, i_S0, j_S0, r_S0, wI_S0, wJ_S0, cI_s, cJ_s, cV_s, nR_s, nQ_s, nQ_n, lt_s_, gd_T, gd_t, Option.map_some, lits, neg_mI, nI_add, pk_mul, nI_clamp, nI_eq, nI_leI, nI_ltI, nm_eq, mn_eq, nm_lt, mn_lt, nm_le, mn_le, m_eq, bI_0, bI_1, kf, e, hx]; rfl
  · rw [oI_ge hx]
    simp (disch := first | assumption | omega) [k_St, n_St, i_St, j_St, r_St, wI_St, wJ_St, k_S0, n_S0, i_S0, j_S0, r_S0, wI_S0, wJ_S0, cI_s, cJ_s, cV_s, nR_s, nQ_s, nQ_n, lt_s_, gd_T, gd_t, Option.map_some, lits, neg_mI, nI_add, pk_mul, nI_clamp, nI_eq, nI_leI, nI_ltI, nm_eq, mn_eq, nm_lt, mn_lt, nm_le, mn_le, m_eq, bI_0, bI_1, hx]; rfl
/-- the next cell within the field -/
def nf (F : Nat → Nat → Nat) (c w : Nat) : Nat := if nxc c w < 64 ∧ inF F (nxc c w) = true then nxc c w else 64
theorem s_177 (h : MD K N R I f F) {c w : Nat} (hc : c < 64) (hi : inF F c = true) (hw : w < 5) (h0 : 1 ≤ w) : Ca lx 177 [.ref (z + f), .int (nI c), .int (nI w)] (St z E n K N R I J) = some (some (.int (oI (nf F c w))), (St z E n K N R I J)) := by
  rw [f_177]
  obtain ⟨_, ⟨f0, kf, _⟩, _, ⟨q0, _⟩, hO⟩ := h
  obtain ⟨o0, o0x, o1, o2, o2x, o3, o4, o4x, o5, o5x, o6, o7, o8, o9, oS, oD, oG, oH⟩ := hO
  have e4 := q0 4 (by decide)
  have e5 := q0 5 (by decide)
  have e8 : (8 : Int32) = nI 8 := rfl
  have c1 : nI c - nI c / 8 * 8 = nI (c % 8) := by rw [e8]; exact pk_rem (by omega) (by omega) (by omega)
  have c2 : nI c / 8 = nI (c / 8) := by rw [e8]; exact pk_div (by omega) (by omega) (by omega)
  have g8 : (¬ (8 : Int32) = 0) := by decide
  rw [c2] at c1
  simp only [c2, c1, gd_t g8, e_177_15, e_177_32, i_St, e4, e5, k_St, kf, gd_t]
  have key : ∀ a b : Fin 9, ∀ c : Fin 64, ∀ w : Fin 5, 1 ≤ w.val → c.val % 8 < a.val → c.val / 8 < b.val → (if nI (c.val % 8) + (if nI w.val = 2 then 1 else if nI w.val = 4 then -1 else 0) < 0 then (-1) else if nI a.val ≤ nI (c.val % 8) + (if nI w.val = 2 then 1 else if nI w.val = 4 then -1 else 0) then (-1) else if nI (c.val / 8) + (if nI w.val = 3 then 1 else if nI w.val = 1 then -1 else 0) < 0 then (-1) else if nI (c.val / 8) + (if nI w.val = 3 then 1 else if nI w.val = 1 then -1 else 0) < nI b.val then 8 * (nI (c.val / 8) + (if nI w.val = 3 then 1 else if nI w.val = 1 then -1 else 0)) + (nI (c.val % 8) + (if nI w.val = 2 then 1 else if nI w.val = 4 then -1 else 0)) else (-1)) = oI (if nxc c.val w.val < 64 ∧ (decide (nxc c.val w.val % 8 < a.val) && decide (nxc c.val w.val / 8 < b.val)) = true then nxc c.val w.val else 64) := by decide +kernel
  have hi2 : c % 8 < F 0 4 ∧ c / 8 < F 0 5 := by simpa [inF] using hi
  have := key ⟨F 0 4, by omega⟩ ⟨F 0 5, by omega⟩ ⟨c, hc⟩ ⟨w, hw⟩ h0 hi2.1 hi2.2
  simp only at this
  unfold nf inF
  rw [← this]
  clear this key
  have ws : w = 1 ∨ w = 2 ∨ w = 3 ∨ w = 4 := by omega
  have t12 : ¬ (nI 1 = (2 : Int32)) := by decide
  have t0 : ∀ S : aH, ∀ c : Prop, ∀ _ : Decidable c, ∀ a b : Int32, (some (some (Value.int (if c then a else b)), S) : aO) = if c then some (some (Value.int a), S) else some (some (Value.int b), S) := by
    intro S c _ a b; split <;> rfl
  rcases ws with e | e | e | e <;> subst e <;> simp (decide := true) only [if_true, if_false, t0, gd_T]
/-- the two ways of asking for soil beside are one -/
theorem nf_S (F : Nat → Nat → Nat) (c w : Nat) : (decide (nf F c w < 64) && !decide (F 1 (nf F c w) = 3)) = isS F (nxc c w) := by
  unfold nf isS
  by_cases h : nxc c w < 64 ∧ inF F (nxc c w) = true
  · simp [h]
  · rw [if_neg h]
    by_cases h1 : nxc c w < 64
    · have : inF F (nxc c w) = false := by
        cases e : inF F (nxc c w)
        · rfl
        · exact absurd ⟨h1, e⟩ h
      simp [this]
    · simp [h1]
theorem nf_e {F : Nat → Nat → Nat} {c w : Nat} (h : isS F (nxc c w) = true) : nf F c w = nxc c w := by
  unfold nf
  rw [if_pos ⟨isS_lt h, isS_in h⟩]
theorem s_231 (h : MD K N R I f F) (hv : ∀ k, k < 145 → I 134 k = nI (ρ k)) : Ca lx 231 [.ref (z + 132)] (St z E n K N R I J) = some (none, St z E n K N R (pr I 135 145 ρ) J) := by
  rw [f_231]
  obtain ⟨⟨km, _, r16, r17, _, _, _, _, _, _, _, _, _, _, _, k134, k135, _, _, _, _, _, _, _, _, _, _, _, n134, n135, _⟩, _⟩ := h
  have L := loopN (X := fun i => Am lx 231 3 [some (.ref (z + 132)), some (.int (nI i))] [] (0, 0) (St z E n K N R (fun b k => if b = 135 ∧ k < i then nI (ρ k) else I b k) J)) (n := 145) (by
    intro i hi
    try simp only
    rw [e_231_3]
    have e : u2 (fun b k => if b = 135 ∧ k < i then nI (ρ k) else I b k) 135 i (nI (ρ i)) = fun b k => if b = 135 ∧ k < i + 1 then nI (ρ k) else I b k := by
      funext b k
      unfold u2
      by_cases hb : b = 135
      · by_cases hk : k = i
        · simp [hb, hk]
        · have : k < i + 1 ↔ k < i := by omega
          simp [hb, hk, this]
      · simp [hb]
    simp (disch := first | assumption | omega) [k_St, n_St, i_St, j_St, r_St, wI_St, wJ_St, k_S0, n_S0, i_S0, j_S0, r_S0, wI_S0, wJ_S0, cI_s, cJ_s, cV_s, nR_s, nQ_s, nQ_n, lt_s_, gd_T, gd_t, Option.map_some, lits, neg_mI, nI_add, pk_mul, nI_clamp, nI_eq, nI_leI, nI_ltI, nm_eq, mn_eq, nm_lt, mn_lt, nm_le, mn_le, m_eq, bI_0, bI_1, if_neg, km, r16, r17, k134, k135, n134, n135, hv i hi, e])
  try simp only at L
  have e0 : (fun b k => if b = 135 ∧ k < 0 then nI (ρ k) else I b k) = I := by funext b k; simp
  rw [e0] at L
  have z0 : (0 : Int32) = nI 0 := rfl
  rw [z0, L, e_231_3]
  simp (disch := first | assumption | omega) [k_St, n_St, i_St, j_St, r_St, wI_St, wJ_St, k_S0, n_S0, i_S0, j_S0, r_S0, wI_S0, wJ_S0, cI_s, cJ_s, cV_s, nR_s, nQ_s, nQ_n, lt_s_, gd_T, gd_t, Option.map_some, lits, neg_mI, nI_add, pk_mul, nI_clamp, nI_eq, nI_leI, nI_ltI, nm_eq, mn_eq, nm_lt, mn_lt, nm_le, mn_le, m_eq, bI_0, bI_1]
  rfl
end MODL
