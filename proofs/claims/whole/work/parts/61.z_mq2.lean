section MQ2
variable {z : Nat} {E : aEt} {n : Nat} {K N : Nat → Nat} {R : Nat → Nat → Option Nat} {I : Nat → Nat → Int32} {J : Nat → Nat → Int64} {lx : List Value → aH → aO} {f : Nat} {F : Nat → Nat → Nat} {ρ : Nat → Nat}
theorem apt_0 {c d : Nat} (hc : c < 64) (hd : d < 64) : apt c d ≤ 0 ↔ c = d := by
  unfold apt
  constructor
  · intro h; omega
  · intro h; subst h; omega
theorem s_240 (h : MD K N R I f F) (hρ : ROa F ρ) {c : Nat} (hc : c < 64) : Ca lx 240 [.ref (z + 132), .int (nI c)] (St z E n K N R (pr I 135 145 ρ) J) = some (some (.int (nI (msk (nrP F ρ c 0) (F 0 8)))), St z E n K N R (pr I 135 145 ρ) J) := by
  rw [f_240]
  have hO := h.2.2.2.2
  have o8 : F 0 8 ≤ 4 := hO.2.2.2.2.2.2.2.2.2.2.2.2.1
  have h2 := h
  obtain ⟨⟨km, _⟩, ⟨f0, kf, _⟩, rf, ⟨q0, _⟩, _⟩ := h2
  have q8 : pr I 135 145 ρ f 8 = nI (F 0 8) := by rw [pr_n (by omega)]; exact q0 8 (by decide)
  have L := loopN (X := fun i => Am lx 240 5 [some (.ref (z + 132)), some (.int (nI c)), some (.int (nI (msk (nrP F ρ c 0) i))), some (.int (nI i))] [] (0, 0) (St z E n K N R (pr I 135 145 ρ) J)) (n := F 0 8) (by
    intro i hi
    try simp only
    rw [e_240_5]
    have e1 := s_233 (lx := lx) (z := z) (E := E) (n := n) (J := J) h hρ hi
    have l1 := plc_l hO hρ hi
    have hm := msk_lt (nrP F ρ c 0) i
    have i4 : i < 4 := by omega
    have o0 : ∀ m : Nat, m < 16 → nI m ||| nI 0 = nI m := by
      intro m hm
      have : ∀ m : Fin 16, nI m.val ||| nI 0 = nI m.val := by decide +kernel
      exact this ⟨m, hm⟩
    have oo := o0 _ (msk_16 (nrP F ρ c 0) (show i ≤ 4 by omega))
    rw [msk]
    have en : nrP F ρ c 0 i = decide (plc F ρ i = c) := by
      unfold nrP
      congr 1
      exact propext (apt_0 l1 hc)
    rw [en]
    by_cases c1 : plc F ρ i = c
    · rw [c1] at e1
      simp (disch := first | assumption | omega) [k_St, n_St, i_St, j_St, r_St, wI_St, wJ_St, k_S0, n_S0, i_S0, j_S0, r_S0, wI_S0, wJ_S0, cI_s, cJ_s, cV_s, nR_s, nQ_s, nQ_n, lt_s_, gd_T, gd_t, Option.map_some, lits, neg_mI, nI_add, pk_mul, nI_clamp, nI_eq, nI_leI, nI_ltI, nm_eq, mn_eq, nm_lt, mn_lt, nm_le, mn_le, m_eq, bI_0, bI_1, if_neg, if_pos, km, rf, kf, q8, e1, c1, e_240_22, bt_o i4 hm]
    · simp (disch := first | assumption | omega) [k_St, n_St, i_St, j_St, r_St, wI_St, wJ_St, k_S0, n_S0, i_S0, j_S0, r_S0, wI_S0, wJ_S0, cI_s, cJ_s, cV_s, nR_s, nQ_s, nQ_n, lt_s_, gd_T, gd_t, Option.map_some, lits, neg_mI, nI_add, pk_mul, nI_clamp, nI_eq, nI_leI, nI_ltI, nm_eq, mn_eq, nm_lt, mn_lt, nm_le, mn_le, m_eq, bI_0, bI_1, if_neg, if_pos, km, rf, kf, q8, e1, c1, e_240_22, oo])
  try simp only at L
  have i0 : msk (nrP F ρ c 0) 0 = 0 := rfl
  rw [i0] at L
  have z0 : (0 : Int32) = nI 0 := rfl
  rw [z0, L, e_240_5]
  simp (disch := first | assumption | omega) [k_St, n_St, i_St, j_St, r_St, wI_St, wJ_St, k_S0, n_S0, i_S0, j_S0, r_S0, wI_S0, wJ_S0, cI_s, cJ_s, cV_s, nR_s, nQ_s, nQ_n, lt_s_, gd_T, gd_t, Option.map_some, lits, neg_mI, nI_add, pk_mul, nI_clamp, nI_eq, nI_leI, nI_ltI, nm_eq, mn_eq, nm_lt, mn_lt, nm_le, mn_le, m_eq, bI_0, bI_1, if_pos, km, rf, kf, q8]
end MQ2
