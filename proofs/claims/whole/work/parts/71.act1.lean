section ACT1
variable {z : Nat} {E : aEt} {n : Nat} {K N : Nat → Nat} {R : Nat → Nat → Option Nat} {I : Nat → Nat → Int32} {J : Nat → Nat → Int64} {lx : List Value → aH → aO} {f : Nat} {F : Nat → Nat → Nat} {ρ σ : Nat → Nat} {cnt img : Nat} {H M : Nat → Nat → Nat}
def cp2 (I : Nat → Nat → Int32) (a : Nat) (ρ : Nat → Nat) (i : Nat) : Nat → Nat → Int32 := fun b k => if b = 136 ∧ 145 * a ≤ k ∧ k < 145 * a + i then nI (ρ (k - 145 * a)) else I b k
theorem d_303b (h : Mo K N R) {a : Nat} (ha : a ≤ 15) (hc : I 132 20 = nI a) (hv : ∀ k, k < 145 → I 134 k = nI (ρ k)) : Am lx 303 31 [some (.ref (z + 132)), some (.int (nI 0))] [] (0, 0) (St z E n K N R I J) = some (none, St z E n K N R (u2 (cp2 I a ρ 145) 132 20 (nI (a + 1))) J) := by
  obtain ⟨km, _, r16, r17, r18, _, _, _, _, _, _, _, _, _, _, k134, k135, k136, _, _, _, _, _, _, _, _, _, _, n134, n135, n136, _⟩ := h
  have L := loopN (X := fun i => Am lx 303 31 [some (.ref (z + 132)), some (.int (nI i))] [] (0, 0) (St z E n K N R (cp2 I a ρ i) J)) (n := 145) (by
    intro i hi
    try simp only
    rw [e_303_31]
    have e1 : cp2 I a ρ i 132 20 = nI a := by simp [cp2, hc]
    have e2 : cp2 I a ρ i 134 i = nI (ρ i) := by simp [cp2, hv i hi]
    have e3 : u2 (cp2 I a ρ i) 136 (145 * a + i) (nI (ρ i)) = cp2 I a ρ (i + 1) := by
      funext b k
      unfold u2 cp2
      by_cases hb : b = 136
      · by_cases hk : k = 145 * a + i
        · subst hk
          have t1 : 145 * a + i - 145 * a = i := by omega
          have t2 : 145 * a ≤ 145 * a + i := by omega
          simp [hb, t1, t2]
        · have : (145 * a ≤ k ∧ k < 145 * a + (i + 1)) ↔ (145 * a ≤ k ∧ k < 145 * a + i) := by omega
          simp [hb, hk, this]
      · simp [hb]
    simp (disch := first | assumption | omega) [k_St, n_St, i_St, j_St, r_St, wI_St, wJ_St, k_S0, n_S0, i_S0, j_S0, r_S0, wI_S0, wJ_S0, cI_s, cJ_s, cV_s, nR_s, nQ_s, nQ_n, lt_s_, gd_T, gd_t, Option.map_some, lits, neg_mI, nI_add, pk_mul, nI_clamp, nI_eq, nI_leI, nI_ltI, nm_eq, mn_eq, nm_lt, mn_lt, nm_le, mn_le, m_eq, bI_0, bI_1, if_neg, km, r18, r16, k134, n134, k136, n136, e1, e2, e3])
  try simp only at L
  have e0 : cp2 I a ρ 0 = I := by
    funext b k
    unfold cp2
    have : ¬ (145 * a ≤ k ∧ k < 145 * a + 0) := by omega
    rw [if_neg (fun h => this h.2)]
  rw [e0] at L
  have e1 : cp2 I a ρ 145 132 20 = nI a := by simp [cp2, hc]
  rw [L, e_303_31]
  simp (disch := first | assumption | omega) [k_St, n_St, i_St, j_St, r_St, wI_St, wJ_St, k_S0, n_S0, i_S0, j_S0, r_S0, wI_S0, wJ_S0, cI_s, cJ_s, cV_s, nR_s, nQ_s, nQ_n, lt_s_, gd_T, gd_t, Option.map_some, lits, neg_mI, nI_add, pk_mul, nI_clamp, nI_eq, nI_leI, nI_ltI, nm_eq, mn_eq, nm_lt, mn_lt, nm_le, mn_le, m_eq, bI_0, bI_1, if_pos, km, e1]
/-- the newest act is kept, the oldest given up -/
def H1 (ρ : Nat → Nat) (H : Nat → Nat → Nat) : Nat → Nat → Nat := fun i => if i = 0 then ρ else H (i - 1)
theorem d_303 (h : Mo K N R) (hM : MH I cnt img H M) (hv : ∀ k, k < 145 → I 134 k = nI (ρ k)) : ∃ I', Ca lx 303 [.ref (z + 132)] (St z E n K N R I J) = some (none, St z E n K N R I' J) ∧ MH I' (if cnt < 16 then cnt + 1 else 16) img (H1 ρ H) M ∧ (∀ a, a ≠ 132 → a ≠ 136 → I' a = I a) ∧ ∀ k, k ≠ 20 → I' 132 k = I 132 k := by
  obtain ⟨g1, g2, g3, g4, g5, g6⟩ := hM
  have h' := h
  obtain ⟨km, _, r16, r17, r18, _, _, _, _, _, _, _, _, _, _, k134, k135, k136, _, _, _, _, _, _, _, _, _, _, n134, n135, n136, _⟩ := h'
  rw [f_303]
  by_cases c : cnt < 16
  · have e := d_303b (lx := lx) (z := z) (E := E) (n := n) (J := J) h (a := cnt) (by omega) g1 hv
    refine ⟨u2 (cp2 I cnt ρ 145) 132 20 (nI (cnt + 1)), ?_, ⟨?_, ?_, ?_, g4, ?_, ?_⟩, ?_, ?_⟩
    · simp (disch := first | assumption | omega) [k_St, n_St, i_St, j_St, r_St, wI_St, wJ_St, k_S0, n_S0, i_S0, j_S0, r_S0, wI_S0, wJ_S0, cI_s, cJ_s, cV_s, nR_s, nQ_s, nQ_n, lt_s_, gd_T, gd_t, Option.map_some, lits, neg_mI, nI_add, pk_mul, nI_clamp, nI_eq, nI_leI, nI_ltI, nm_eq, mn_eq, nm_lt, mn_lt, nm_le, mn_le, m_eq, bI_0, bI_1, km, g1, e, if_neg]
    · rw [u2_s, if_pos c]
    · rw [if_pos c]; omega
    · rw [u2_k _ _ _ _ _ (by decide)]; simp [cp2, g3]
    · intro i hi k hk
      rw [if_pos c] at hi ⊢
      rw [u2_a _ _ _ _ _ (by decide)]
      by_cases e0 : i = 0
      · subst e0
        have t1 : cnt + 1 - 1 - 0 = cnt := by omega
        have t2 : 145 * cnt + k - 145 * cnt = k := by omega
        have t3 : 145 * cnt ≤ 145 * cnt + k ∧ 145 * cnt + k < 145 * cnt + 145 := by omega
        simp only [cp2, t1, t2, t3, H1, if_true, and_self]
      · have t1 : cnt + 1 - 1 - i = cnt - 1 - (i - 1) := by omega
        have t3 : ¬ (145 * cnt ≤ 145 * (cnt - 1 - (i - 1)) + k ∧ 145 * (cnt - 1 - (i - 1)) + k < 145 * cnt + 145) := by omega
        have := g5 (i - 1) (by omega) k hk
        simp only [cp2, t1, t3, H1, e0, if_false, and_false]
        exact this
    · intro i hi k hk
      rw [u2_a _ _ _ _ _ (by decide)]
      simp only [cp2, show ¬ (137 = 136) by decide, false_and, if_false]
      exact g6 i hi k hk
    · intro a h1 h2
      rw [u2_a _ _ _ _ _ h1]
      funext k
      simp [cp2, h2]
    · intro k hk
      rw [u2_k _ _ _ _ _ hk]
      simp [cp2]
  · have c16 : cnt = 16 := by omega
    subst c16
    have L := loopN (X := fun i => Am lx 303 7 [some (.ref (z + 132)), some (.int (nI i))] [] (0, 0) (St z E n K N R (fun b k => if b = 136 ∧ k < i then I 136 (k + 145) else I b k) J)) (n := 2175) (by
      intro i hi
      try simp only
      rw [e_303_7]
      have e3 : u2 (fun b k => if b = 136 ∧ k < i then I 136 (k + 145) else I b k) 136 i (I 136 (i + 145)) = fun b k => if b = 136 ∧ k < i + 1 then I 136 (k + 145) else I b k := by
        funext b k
        unfold u2
        by_cases hb : b = 136
        · by_cases hk : k = i
          · simp [hb, hk]
          · have : k < i + 1 ↔ k < i := by omega
            simp [hb, hk, this]
        · simp [hb]
      have nl : ¬ i + 145 < i := by omega
      simp (disch := first | assumption | omega) [k_St, n_St, i_St, j_St, r_St, wI_St, wJ_St, k_S0, n_S0, i_S0, j_S0, r_S0, wI_S0, wJ_S0, cI_s, cJ_s, cV_s, nR_s, nQ_s, nQ_n, lt_s_, gd_T, gd_t, Option.map_some, lits, neg_mI, nI_add, pk_mul, nI_clamp, nI_eq, nI_leI, nI_ltI, nm_eq, mn_eq, nm_lt, mn_lt, nm_le, mn_le, m_eq, bI_0, bI_1, if_neg, km, r18, k136, n136, e3])
    try simp only at L
    have e0 : (fun b k => if b = 136 ∧ k < 0 then I 136 (k + 145) else I b k) = I := by
      funext b k; simp
    rw [e0] at L
    have s1 : (nI 16 - nI 1 : Int32) = nI 15 := by decide
    have e := d_303b (lx := lx) (z := z) (E := E) (n := n) (J := J) (I := u2 (fun b k => if b = 136 ∧ k < 2175 then I 136 (k + 145) else I b k) 132 20 (nI 15)) (ρ := ρ) h (a := 15) (by omega) (by rw [u2_s]) (by
      intro k hk
      rw [u2_a _ _ _ _ _ (by decide)]
      simp [hv k hk])
    refine ⟨u2 (cp2 (u2 (fun b k => if b = 136 ∧ k < 2175 then I 136 (k + 145) else I b k) 132 20 (nI 15)) 15 ρ 145) 132 20 (nI (15 + 1)), ?_, ⟨?_, ?_, ?_, g4, ?_, ?_⟩, ?_, ?_⟩
    · simp (disch := first | assumption | omega) [k_St, n_St, i_St, j_St, r_St, wI_St, wJ_St, k_S0, n_S0, i_S0, j_S0, r_S0, wI_S0, wJ_S0, cI_s, cJ_s, cV_s, nR_s, nQ_s, nQ_n, lt_s_, gd_T, gd_t, Option.map_some, lits, neg_mI, nI_add, pk_mul, nI_clamp, nI_eq, nI_leI, nI_ltI, nm_eq, mn_eq, nm_lt, mn_lt, nm_le, mn_le, m_eq, bI_0, bI_1, km, g1, L]
      rw [e_303_7]
      simp (disch := first | assumption | omega) [k_St, n_St, i_St, j_St, r_St, wI_St, wJ_St, k_S0, n_S0, i_S0, j_S0, r_S0, wI_S0, wJ_S0, cI_s, cJ_s, cV_s, nR_s, nQ_s, nQ_n, lt_s_, gd_T, gd_t, Option.map_some, lits, neg_mI, nI_add, pk_mul, nI_clamp, nI_eq, nI_leI, nI_ltI, nm_eq, mn_eq, nm_lt, mn_lt, nm_le, mn_le, m_eq, bI_0, bI_1, if_pos, km, g1, s1, e]
    · rw [u2_s]; rfl
    · simp
    · rw [u2_k _ _ _ _ _ (by decide)]; simp [cp2, u2, g3]
    · intro i hi k hk
      rw [if_neg c] at hi ⊢
      rw [u2_a _ _ _ _ _ (by decide)]
      by_cases e0 : i = 0
      · subst e0
        have t1 : 16 - 1 - 0 = 15 := by omega
        have t2 : 145 * 15 + k - 145 * 15 = k := by omega
        have t3 : 145 * 15 ≤ 145 * 15 + k ∧ 145 * 15 + k < 145 * 15 + 145 := by omega
        simp only [cp2, t1, t2, t3, H1, if_true, and_self]
      · have t3 : ¬ (145 * 15 ≤ 145 * (16 - 1 - i) + k ∧ 145 * (16 - 1 - i) + k < 145 * 15 + 145) := by omega
        have t4 : 145 * (16 - 1 - i) + k < 2175 := by omega
        have t5 : 145 * (16 - 1 - i) + k + 145 = 145 * (16 - 1 - (i - 1)) + k := by omega
        have := g5 (i - 1) (by omega) k hk
        simp only [cp2, t3, H1, e0, if_false, and_false]
        rw [u2_a _ _ _ _ _ (by decide)]
        simp only [t4, and_self, if_true, t5]
        exact this
    · intro i hi k hk
      rw [u2_a _ _ _ _ _ (by decide)]
      simp only [cp2, show ¬ (137 = 136) by decide, false_and, if_false]
      rw [u2_a _ _ _ _ _ (by decide)]
      simp only [show ¬ (137 = 136) by decide, false_and, if_false]
      exact g6 i hi k hk
    · intro a h1 h2
      rw [u2_a _ _ _ _ _ h1]
      funext k
      simp [cp2, h2, u2, h1]
    · intro k hk
      rw [u2_k _ _ _ _ _ hk]
      simp [cp2, u2, hk]
theorem d_304 (h : Mo K N R) (hσ : ∀ k, k < 145 → I 135 k = nI (σ k)) : Ca lx 304 [.ref (z + 132)] (St z E n K N R I J) = some (none, St z E n K N R (pr I 134 145 σ) J) := by
  obtain ⟨km, _, r16, r17, r18, _, _, _, _, _, _, _, _, _, _, k134, k135, k136, _, _, _, _, _, _, _, _, _, _, n134, n135, n136, _⟩ := h
  rw [f_304]
  have L := loopN (X := fun i => Am lx 304 3 [some (.ref (z + 132)), some (.int (nI i))] [] (0, 0) (St z E n K N R (fun b k => if b = 134 ∧ k < i then nI (σ k) else I b k) J)) (n := 145) (by
    intro i hi
    try simp only
    rw [e_304_3]
    have e : u2 (fun b k => if b = 134 ∧ k < i then nI (σ k) else I b k) 134 i (nI (σ i)) = fun b k => if b = 134 ∧ k < i + 1 then nI (σ k) else I b k := by
      funext b k
      unfold u2
      by_cases hb : b = 134
      · by_cases hk : k = i
        · simp [hb, hk]
        · have : k < i + 1 ↔ k < i := by omega
          simp [hb, hk, this]
      · simp [hb]
    simp (disch := first | assumption | omega) [k_St, n_St, i_St, j_St, r_St, wI_St, wJ_St, k_S0, n_S0, i_S0, j_S0, r_S0, wI_S0, wJ_S0, cI_s, cJ_s, cV_s, nR_s, nQ_s, nQ_n, lt_s_, gd_T, gd_t, Option.map_some, lits, neg_mI, nI_add, pk_mul, nI_clamp, nI_eq, nI_leI, nI_ltI, nm_eq, mn_eq, nm_lt, mn_lt, nm_le, mn_le, m_eq, bI_0, bI_1, if_neg, km, r16, r17, k134, k135, n134, n135, hσ i hi, e])
  try simp only at L
  have e0 : (fun b k => if b = 134 ∧ k < 0 then nI (σ k) else I b k) = I := by funext b k; simp
  rw [e0] at L
  have z0 : (0 : Int32) = nI 0 := rfl
  rw [z0, L, e_304_3]
  simp (disch := first | assumption | omega) [k_St, n_St, i_St, j_St, r_St, wI_St, wJ_St, k_S0, n_S0, i_S0, j_S0, r_S0, wI_S0, wJ_S0, cI_s, cJ_s, cV_s, nR_s, nQ_s, nQ_n, lt_s_, gd_T, gd_t, Option.map_some, lits, neg_mI, nI_add, pk_mul, nI_clamp, nI_eq, nI_leI, nI_ltI, nm_eq, mn_eq, nm_lt, mn_lt, nm_le, mn_le, m_eq, bI_0, bI_1]
  rfl
/-- the v row comes out of another array -/
theorem MT_v {ρ' : Nat → Nat} {I' : Nat → Nat → Int32} (h : MT K N R I f F ρ cnt img H M) (hk : RK F ρ') (e : ∀ k, k < 145 → I' 134 k = nI (ρ' k)) (e2 : ∀ a, 147 ≤ a → I' a = I a) {cnt' img' : Nat} {H' M' : Nat → Nat → Nat} (hM : MH I' cnt' img' H' M') : MT K N R I' f F ρ' cnt' img' H' M' :=
  ⟨⟨MD_c h.1.1 e2, e, hk.1, hk.2⟩, hM⟩
end ACT1
