section ROW2
variable {F : Nat → Nat → Nat} {ρ : Nat → Nat}
theorem rA_p {σ : Nat → Nat} {g i : Nat} (hg : g < 4) (hi : g < i) (h4 : i ≤ 4) : rA F σ i g = rA F σ (g + 1) g ∧ rA F σ i (4 + g) = rA F σ (g + 1) (4 + g) := by
  refine ⟨?_, ?_⟩
  · have L := loopF (X := fun i => rA F σ i g) (m := g + 1) (n := i) (by omega) (fun q h1 h2 => by
      try simp only
      rw [rA, gA_o (by omega) (by omega) (by omega)])
    exact L.symm
  · have L := loopF (X := fun i => rA F σ i (4 + g)) (m := g + 1) (n := i) (by omega) (fun q h1 h2 => by
      try simp only
      rw [rA, gA_o (by omega) (by omega) (by omega)])
    exact L.symm
theorem ngt_d (hO : FOk F) (h : ROk F ρ) {g : Nat} (hg : g < F 0 8) (hd : dgg F ρ g = true) : (ρ (4 + g) = 1 → ngt F ρ g = ρ g + 1) ∧ (ρ (4 + g) ≠ 1 → ngt F ρ g = ρ g ∧ ngt F ρ (4 + g) + 1 = ρ (4 + g)) := by
  have o8 : F 0 8 ≤ 4 := hO.2.2.2.2.2.2.2.2.2.2.2.2.1
  have l1 := h.2.2.2 g hg hd
  have e : ∀ j, j ≠ 16 → on1 ρ j = ρ j := fun j hj => by simp [on1, up, hj]
  have b0 : rA F (on1 ρ) g g = ρ g := by rw [rA_o (fun q hq => by omega) (by omega), e g (by omega)]
  have b4 : rA F (on1 ρ) g (4 + g) = ρ (4 + g) := by rw [rA_o (fun q hq => by omega) (by omega), e _ (by omega)]
  have b8 : rA F (on1 ρ) g (8 + g) = ρ (8 + g) := by rw [rA_o (fun q hq => by omega) (by omega), e _ (by omega)]
  have dq : dgg F (rA F (on1 ρ) g) g = true := by rw [dgg_c b0 b8]; exact hd
  obtain ⟨p1, p2⟩ := rA_p (F := F) (σ := on1 ρ) (g := g) (i := F 0 8) (by omega) hg o8
  have n1 : ngt F ρ g = rA F (on1 ρ) (g + 1) g := by
    unfold ngt
    rw [rB_o (fun q hq => by omega), p1]
  refine ⟨fun h1 => ?_, fun h1 => ?_⟩
  · rw [n1, rA]
    unfold gA
    rw [dq, b4, h1, b0]
    simp only [if_true, Nat.sub_self]
    rw [up_n (by omega), up_s]
  · refine ⟨?_, ?_⟩
    · rw [n1, rA]
      unfold gA
      have : ¬ ρ (4 + g) - 1 = 0 := by omega
      rw [dq, b4]
      simp only [if_true, this, if_false]
      rw [up_n (by omega), b0]
    · have cf : cam F ρ g = false := by
        unfold cam cmP cA
        have : ¬ ρ (4 + g) - 1 = 0 := by omega
        rw [dq, b4]; simp [this]
      have n4 : ngt F ρ (4 + g) = rA F (on1 ρ) (F 0 8) (4 + g) := by
        unfold ngt
        have L := loopF (X := fun i => rB F (rA F (on1 ρ) (F 0 8)) (cam F ρ) i (4 + g)) (m := 0) (n := F 0 8) (by omega) (fun q _ h2 => by
          try simp only
          rw [rB]
          by_cases e : q = g
          · subst e; rw [cf]; simp
          · split
            · rw [bgn_o (by omega)]
            · rfl)
        exact L.symm
      rw [n4, p2, rA]
      unfold gA
      have : ¬ ρ (4 + g) - 1 = 0 := by omega
      rw [dq, b4]
      simp only [if_true, this, if_false]
      rw [up_s]; omega
theorem ngs_s : ∀ m, ngs F (ngt F ρ) m = ngs F ρ (m + 1)
  | 0 => rfl
  | m + 1 => by rw [ngs, ngs_s m]; rfl
theorem ends_ (hO : FOk F) {g : Nat} (hg : g < F 0 8) : ∀ t (ρ : Nat → Nat), ROk F ρ → 5 * (F 4 g - ρ g) + ρ (4 + g) ≤ t → ∃ m, m ≤ t ∧ dgg F (ngs F ρ m) g = false := by
  intro t
  induction t with
  | zero =>
    intro ρ h hm
    refine ⟨0, Nat.le_refl _, ?_⟩
    cases hd : dgg F ρ g
    · exact hd
    · have := h.2.2.2 g hg hd; omega
  | succ t ih =>
    intro ρ h hm
    cases hd : dgg F ρ g
    · exact ⟨0, by omega, hd⟩
    · have hlt : ρ g < F 4 g := by simp [dgg] at hd; exact hd.2
      have hn := ngt_ok hO h
      have hl := (hn.1 g hg).2.1
      have l1 := h.2.2.2 g hg hd
      obtain ⟨a, b⟩ := ngt_d hO h hg hd
      have : 5 * (F 4 g - ngt F ρ g) + ngt F ρ (4 + g) ≤ t := by
        by_cases e : ρ (4 + g) = 1
        · have := a e; omega
        · have := b e; omega
      obtain ⟨m, h1, h2⟩ := ih (ngt F ρ) hn this
      exact ⟨m + 1, by omega, by rw [← ngs_s]; exact h2⟩
theorem ends_60 (hO : FOk F) (h : ROk F ρ) {g : Nat} (hg : g < F 0 8) : ∃ m, m < 61 ∧ dgg F (ngs F ρ m) g = false ∧ ∀ i, i < m → dgg F (ngs F ρ i) g = true := by
  have o8 := (hO.2.2.2.2.2.2.2.2.2.2.2.2.2.2.2.2.1 g hg).2.2.1
  have hl := (h.1 g hg).2.1
  obtain ⟨m, h1, h2⟩ := ends_ hO hg 44 ρ h (by omega)
  rcases first_ (fun i => !dgg F (ngs F ρ i) g) 61 with c | ⟨q, hq, c1, c2⟩
  · have := c m (by omega); simp [h2] at this
  · exact ⟨q, hq, by simpa using c1, fun i hi => by simpa using c2 i hi⟩
end ROW2
