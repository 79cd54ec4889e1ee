/-! rows of numbers laid into the heap -/
def up (ρ : Nat → Nat) (k v : Nat) : Nat → Nat := fun j => if j = k then v else ρ j
theorem up_s (ρ : Nat → Nat) (k v : Nat) : up ρ k v k = v := by simp [up]
theorem up_n {ρ : Nat → Nat} {k v j : Nat} (h : j ≠ k) : up ρ k v j = ρ j := by simp [up, h]
def pr (I : Nat → Nat → Int32) (a m : Nat) (ρ : Nat → Nat) : Nat → Nat → Int32 := fun b k => if b = a ∧ k < m then nI (ρ k) else I b k
theorem pr_n {I : Nat → Nat → Int32} {a m b : Nat} {ρ : Nat → Nat} (h : b ≠ a) : pr I a m ρ b = I b := by funext k; simp [pr, h]
theorem pr_s {I : Nat → Nat → Int32} {a m k : Nat} {ρ : Nat → Nat} (h : k < m) : pr I a m ρ a k = nI (ρ k) := by simp [pr, h]
theorem pr_u {I : Nat → Nat → Int32} {a m k v : Nat} {ρ : Nat → Nat} (h : k < m) : u2 (pr I a m ρ) a k (nI v) = pr I a m (up ρ k v) := by
  funext b j
  unfold u2 pr up
  by_cases hb : b = a
  · by_cases hj : j = k
    · simp [hb, hj, h]
    · simp [hb, hj]
  · simp [hb]
theorem pr_p {I : Nat → Nat → Int32} {a m : Nat} {ρ σ : Nat → Nat} : pr (pr I a m ρ) a m σ = pr I a m σ := by
  funext b j
  unfold pr
  by_cases hb : b = a ∧ j < m <;> simp [hb]
theorem pr_c {I : Nat → Nat → Int32} {a m : Nat} {ρ σ : Nat → Nat} (h : ∀ k, k < m → ρ k = σ k) : pr I a m ρ = pr I a m σ := by
  funext b j
  unfold pr
  by_cases hb : b = a ∧ j < m
  · simp [hb, h j hb.2]
  · simp [hb]
theorem pr_i {I : Nat → Nat → Int32} {a m : Nat} {ρ : Nat → Nat} (h : ∀ k, k < m → I a k = nI (ρ k)) : pr I a m ρ = I := by
  funext b j
  unfold pr
  by_cases hb : b = a ∧ j < m
  · simp [hb, h j hb.2]
  · simp [hb]
theorem pr_x {I : Nat → Nat → Int32} {a m b k : Nat} {v : Int32} {ρ : Nat → Nat} (h : b ≠ a) : u2 (pr I a m ρ) b k v = pr (u2 I b k v) a m ρ := by
  funext c j
  unfold u2 pr
  by_cases hc : c = a
  · have : ¬ c = b := fun e => h (by rw [← e, hc])
    simp [hc, Ne.symm h]
  · simp [hc]
/-! a night -/
def bgn (F : Nat → Nat → Nat) (ρ : Nat → Nat) (g : Nat) : Nat → Nat := up ρ (4 + g) (if dgg F ρ g then (if tks F ρ (F 5 (g * 9 + (ρ g + 1))) = 0 then 1 else tks F ρ (F 5 (g * 9 + (ρ g + 1)))) else 0)
def cA (F : Nat → Nat → Nat) (ρ : Nat → Nat) (g : Nat) : Bool := dgg F ρ g && decide (ρ (4 + g) - 1 = 0)
def gA (F : Nat → Nat → Nat) (ρ : Nat → Nat) (g : Nat) : Nat → Nat := if dgg F ρ g then (if ρ (4 + g) - 1 = 0 then up (up (up ρ (4 + g) (ρ (4 + g) - 1)) g (ρ g + 1)) (17 + F 5 (g * 9 + (ρ g + 1))) 1 else up ρ (4 + g) (ρ (4 + g) - 1)) else ρ
def rA (F : Nat → Nat → Nat) (ρ : Nat → Nat) : Nat → (Nat → Nat)
  | 0 => ρ
  | i + 1 => gA F (rA F ρ i) i
def cmP (F : Nat → Nat → Nat) (ρ : Nat → Nat) (g : Nat) : Bool := cA F (rA F ρ g) g
def rB (F : Nat → Nat → Nat) (ρ : Nat → Nat) (m : Nat → Bool) : Nat → (Nat → Nat)
  | 0 => ρ
  | i + 1 => if m i then bgn F (rB F ρ m i) i else rB F ρ m i
def on1 (ρ : Nat → Nat) : Nat → Nat := up ρ 16 (ρ 16 + 1)
def cam (F : Nat → Nat → Nat) (ρ : Nat → Nat) : Nat → Bool := cmP F (on1 ρ)
def ngt (F : Nat → Nat → Nat) (ρ : Nat → Nat) : Nat → Nat := rB F (rA F (on1 ρ) (F 0 8)) (cam F ρ) (F 0 8)
theorem tks_le {F : Nat → Nat → Nat} {ρ : Nat → Nat} (hO : FOk F) (h : ROa F ρ) {c : Nat} (hs : isS F c = true) : tks F ρ c ≤ 4 := by
  have hc := isS_lt hs
  have h1 : F 1 c ≤ 3 := hO.2.2.2.2.2.2.2.2.2.2.2.2.2.2.1 c hc
  have h2 : F 1 c ≠ 3 := by simp [isS] at hs; exact hs.2
  have h3 := (h.2.2 c hc).2
  unfold tks; split <;> omega
section ROW
variable {F : Nat → Nat → Nat} {ρ : Nat → Nat}
theorem dgg_c {σ : Nat → Nat} {g : Nat} (h1 : σ g = ρ g) (h2 : σ (8 + g) = ρ (8 + g)) : dgg F σ g = dgg F ρ g := by unfold dgg; rw [h1, h2]
/-- what gA leaves -/
theorem gA_o {g j : Nat} (h1 : j ≠ g) (h2 : j ≠ 4 + g) (h3 : j < 17) : gA F ρ g j = ρ j := by
  unfold gA; split
  · split
    · have : j ≠ 17 + F 5 (g * 9 + (ρ g + 1)) := by omega
      simp [up, h1, h2, this]
    · simp [up, h2]
  · rfl
theorem gA_b {g c : Nat} (hg : g < 4) (h : c < 64) : gA F ρ g (81 + c) = ρ (81 + c) ∨ True := Or.inr trivial
theorem rA_o {i j : Nat} : (∀ g, g < i → j ≠ g ∧ j ≠ 4 + g) → j < 17 → rA F ρ i j = ρ j := by
  induction i with
  | zero => intro _ _; rfl
  | succ i ih =>
    intro h hj
    rw [rA, gA_o (h i (by omega)).1 (h i (by omega)).2 hj]
    exact ih (fun g hg => h g (by omega)) hj
theorem gA_ok (hO : FOk F) {g : Nat} (hg : g < F 0 8) (h : ROa F ρ) : ROa F (gA F ρ g) := by
  have o8 : F 0 8 ≤ 4 := hO.2.2.2.2.2.2.2.2.2.2.2.2.1
  have o7 : F 0 7 ≤ 4 := hO.2.2.2.2.2.2.2.2.2.2.2.1
  unfold gA
  cases hd : dgg F ρ g
  · simpa using h
  · have hlt : ρ g < F 4 g := by simp [dgg] at hd; exact hd.2
    have hS := (hO.2.2.2.2.2.2.2.2.2.2.2.2.2.2.2.2.1 g hg).2.2.2 (ρ g + 1) (by omega)
    have hc := isS_lt hS
    obtain ⟨a1, a2, a3⟩ := h
    by_cases h0 : ρ (4 + g) - 1 = 0
    · simp only [if_true, h0]
      refine ⟨?_, ?_, ?_⟩
      · intro i hi
        have e := a1 i hi
        have e' := a1 g hg
        unfold up
        refine ⟨?_, ?_, ?_⟩
        · have n1 : i ≠ 17 + F 5 (g * 9 + (ρ g + 1)) := by omega
          have n2 : i ≠ 4 + g ∨ i = 4 + g := by omega
          by_cases h1 : i = g
          · subst h1; simp [n1]; omega
          · have n3 : i ≠ 4 + g := by omega
            simp [n1, h1, n3, e.1]
        · have n1 : 4 + i ≠ 17 + F 5 (g * 9 + (ρ g + 1)) := by omega
          have n2 : 4 + i ≠ g := by omega
          by_cases h1 : i = g
          · subst h1; simp [n1, n2]
          · have n3 : 4 + i ≠ 4 + g := by omega
            simp [n1, n2, h1, e.2.1]
        · have n1 : 8 + i ≠ 17 + F 5 (g * 9 + (ρ g + 1)) := by omega
          have n2 : 8 + i ≠ g := by omega
          have n3 : 8 + i ≠ 4 + g := by omega
          simp [n1, n2, n3, e.2.2]
      · intro d hd
        have n1 : 12 + d ≠ 17 + F 5 (g * 9 + (ρ g + 1)) := by omega
        have n2 : 12 + d ≠ g := by omega
        have n3 : 12 + d ≠ 4 + g := by omega
        simp [up, n1, n2, n3, a2 d hd]
      · intro c hc2
        have e := a3 c hc2
        have n2 : 17 + c ≠ g := by omega
        have n3 : 17 + c ≠ 4 + g := by omega
        have m1 : 81 + c ≠ 17 + F 5 (g * 9 + (ρ g + 1)) := by omega
        have m2 : 81 + c ≠ g := by omega
        have m3 : 81 + c ≠ 4 + g := by omega
        refine ⟨?_, ?_⟩
        · by_cases h1 : 17 + c = 17 + F 5 (g * 9 + (ρ g + 1))
          · simp [up, h1]
          · rw [up_n h1, up_n n2, up_n n3]; exact e.1
        · simp [up, m1, m2, m3, e.2]
    · simp only [if_true, h0, if_false]
      refine ⟨?_, ?_, ?_⟩
      · intro i hi
        have e := a1 i hi
        have n2 : i ≠ 4 + g := by omega
        have n3 : 8 + i ≠ 4 + g := by omega
        refine ⟨by simp [up, n2, e.1], ?_, by simp [up, n3, e.2.2]⟩
        by_cases h1 : i = g
        · subst h1; simp [up]; omega
        · have : 4 + i ≠ 4 + g := by omega
          simp [up, h1, e.2.1]
      · intro d hd
        have n3 : 12 + d ≠ 4 + g := by omega
        simp [up, n3, a2 d hd]
      · intro c hc2
        have e := a3 c hc2
        have n3 : 17 + c ≠ 4 + g := by omega
        have m3 : 81 + c ≠ 4 + g := by omega
        simp [up, n3, m3, e.1, e.2]
theorem rA_ok (hO : FOk F) (h : ROa F ρ) : ∀ {i : Nat}, i ≤ F 0 8 → ROa F (rA F ρ i)
  | 0, _ => h
  | i + 1, hi => gA_ok hO (by omega) (rA_ok hO h (by omega))
theorem bgn_o {g j : Nat} (h : j ≠ 4 + g) : bgn F ρ g j = ρ j := by simp [bgn, up, h]
theorem bgn_ok (hO : FOk F) {g : Nat} (hg : g < F 0 8) (h : ROa F ρ) : ROa F (bgn F ρ g) := by
  have o8 : F 0 8 ≤ 4 := hO.2.2.2.2.2.2.2.2.2.2.2.2.1
  have o7 : F 0 7 ≤ 4 := hO.2.2.2.2.2.2.2.2.2.2.2.1
  have hh := h
  obtain ⟨a1, a2, a3⟩ := h
  refine ⟨?_, ?_, ?_⟩
  · intro i hi
    rw [bgn_o (by omega), bgn_o (j := 8 + i) (by omega)]
    refine ⟨(a1 i hi).1, ?_, (a1 i hi).2.2⟩
    by_cases h1 : i = g
    · subst h1
      unfold bgn
      rw [up_s]
      cases hd : dgg F ρ i
      · simp
      · have hlt : ρ i < F 4 i := by simp [dgg] at hd; exact hd.2
        have hS := (hO.2.2.2.2.2.2.2.2.2.2.2.2.2.2.2.2.1 i hg).2.2.2 (ρ i + 1) (by omega)
        have := tks_le hO hh hS
        simp only [if_true]
        split <;> omega
    · rw [bgn_o (by omega)]; exact (a1 i hi).2.1
  · intro d hd
    rw [bgn_o (by omega)]; exact a2 d hd
  · intro c hc
    rw [bgn_o (by omega), bgn_o (by omega)]; exact a3 c hc
theorem rB_o {m : Nat → Bool} {j : Nat} : ∀ {i : Nat}, (∀ g, g < i → j ≠ 4 + g) → rB F ρ m i j = ρ j
  | 0, _ => rfl
  | i + 1, h => by
    rw [rB]
    split
    · rw [bgn_o (h i (by omega)), rB_o (fun g hg => h g (by omega))]
    · exact rB_o (fun g hg => h g (by omega))
theorem rB_ok (hO : FOk F) (h : ROa F ρ) {m : Nat → Bool} : ∀ {i : Nat}, i ≤ F 0 8 → ROa F (rB F ρ m i)
  | 0, _ => h
  | i + 1, hi => by
    rw [rB]
    split
    · exact bgn_ok hO (by omega) (rB_ok hO h (by omega))
    · exact rB_ok hO h (by omega)
theorem on1_ok (hO : FOk F) (h : ROk F ρ) : ROk F (on1 ρ) := by
  have o8 : F 0 8 ≤ 4 := hO.2.2.2.2.2.2.2.2.2.2.2.2.1
  have o7 : F 0 7 ≤ 4 := hO.2.2.2.2.2.2.2.2.2.2.2.1
  obtain ⟨a1, a2, a3, a4⟩ := h
  have e : ∀ j, j ≠ 16 → on1 ρ j = ρ j := fun j hj => by simp [on1, up, hj]
  refine ⟨?_, ?_, ?_, ?_⟩
  · intro g hg
    rw [e g (by omega), e (4 + g) (by omega), e (8 + g) (by omega)]; exact a1 g hg
  · intro d hd
    rw [e _ (by omega)]; exact a2 d hd
  · intro c hc
    rw [e _ (by omega), e _ (by omega)]; exact a3 c hc
  · intro g hg
    rw [dgg_c (e g (by omega)) (e _ (by omega)), e (4 + g) (by omega)]; exact a4 g hg
theorem ngt_ok (hO : FOk F) (h : ROk F ρ) : ROk F (ngt F ρ) := by
  have o8 : F 0 8 ≤ 4 := hO.2.2.2.2.2.2.2.2.2.2.2.2.1
  have h1 := on1_ok hO h
  have hA := rA_ok hO (ROk_a h1) (Nat.le_refl _)
  have hB := rB_ok hO hA (m := cam F ρ) (Nat.le_refl _)
  refine ⟨hB.1, hB.2.1, hB.2.2, ?_⟩
  intro g hg hd
  have key : ∀ i, i ≤ F 0 8 → g < i → dgg F (rA F (on1 ρ) (F 0 8)) g = true → 1 ≤ rB F (rA F (on1 ρ) (F 0 8)) (cam F ρ) i (4 + g) ∨ (cam F ρ g = false ∧ rB F (rA F (on1 ρ) (F 0 8)) (cam F ρ) i (4 + g) = rA F (on1 ρ) (F 0 8) (4 + g)) := by
    intro i
    induction i with
    | zero => intro _ h; omega
    | succ i ih =>
      intro hi hgi hd
      rw [rB]
      by_cases e : g = i
      · subst e
        cases hm : cam F ρ g
        · right
          refine ⟨rfl, ?_⟩
          simp only [Bool.false_eq_true, if_false]
          exact rB_o (fun q hq => by omega)
        · left
          simp only [if_true]
          unfold bgn
          rw [up_s]
          have : dgg F (rB F (rA F (on1 ρ) (F 0 8)) (cam F ρ) g) g = true := by
            rw [dgg_c (rB_o (fun q hq => by omega)) (rB_o (fun q hq => by omega))]; exact hd
          rw [this]
          simp only [if_true]
          split <;> omega
      · have := ih (by omega) (by omega) hd
        by_cases hm : cam F ρ i = true
        · rw [if_pos hm, bgn_o (by omega)]; exact this
        · rw [if_neg hm]; exact this
  have hd' : dgg F (rA F (on1 ρ) (F 0 8)) g = true := by
    rw [← hd]
    exact (dgg_c (rB_o (fun q hq => by omega)) (rB_o (fun q hq => by omega))).symm
  rcases key (F 0 8) (Nat.le_refl _) hg hd' with h | ⟨hm, h⟩
  · exact h
  · unfold ngt
    rw [h]
    -- it did not come: what is left is at least one
    have after : ∀ i, g < i → i ≤ F 0 8 → rA F (on1 ρ) i (4 + g) = rA F (on1 ρ) (g + 1) (4 + g) ∧ rA F (on1 ρ) i g = rA F (on1 ρ) (g + 1) g ∧ rA F (on1 ρ) i (8 + g) = on1 ρ (8 + g) := by
      intro i hgi hi
      have e8 := rA_o (F := F) (ρ := on1 ρ) (i := i) (j := 8 + g) (fun q hq => by omega) (by omega)
      refine ⟨?_, ?_, e8⟩
      · have L := loopF (X := fun i => rA F (on1 ρ) i (4 + g)) (m := g + 1) (n := i) (by omega) (fun q h1 h2 => by
          try simp only
          rw [rA, gA_o (by omega) (by omega) (by omega)])
        exact L.symm
      · have L := loopF (X := fun i => rA F (on1 ρ) i g) (m := g + 1) (n := i) (by omega) (fun q h1 h2 => by
          try simp only
          rw [rA, gA_o (by omega) (by omega) (by omega)])
        exact L.symm
    obtain ⟨f1, f2, f3⟩ := after (F 0 8) hg (Nat.le_refl _)
    rw [f1]
    have b0 := rA_o (F := F) (ρ := on1 ρ) (i := g) (j := g) (fun q hq => by omega) (by omega)
    have b4 := rA_o (F := F) (ρ := on1 ρ) (i := g) (j := 4 + g) (fun q hq => by omega) (by omega)
    have b8 := rA_o (F := F) (ρ := on1 ρ) (i := g) (j := 8 + g) (fun q hq => by omega) (by omega)
    have dg := dgg_c (F := F) b0 b8
    unfold cam cmP cA at hm
    rw [rA]
    unfold gA
    cases hq : dgg F (rA F (on1 ρ) g) g
    · -- not digging: but then it does not dig behind either
      exfalso
      have e1 : rA F (on1 ρ) (g + 1) g = rA F (on1 ρ) g g := by rw [rA]; unfold gA; rw [hq]; simp
      have : dgg F (rA F (on1 ρ) (F 0 8)) g = dgg F (rA F (on1 ρ) g) g := dgg_c (by rw [f2, e1]) (by rw [f3, b8])
      rw [this, hq] at hd'
      cases hd'
    · rw [hq] at hm
      simp only [Bool.true_and, decide_eq_false_iff_not] at hm
      simp only [if_true, hm, if_false, up_s]
      omega
theorem ngt_16 (hO : FOk F) : ngt F ρ 16 = ρ 16 + 1 := by
  have o8 : F 0 8 ≤ 4 := hO.2.2.2.2.2.2.2.2.2.2.2.2.1
  unfold ngt
  rw [rB_o (fun q hq => by omega), rA_o (fun q hq => by omega) (by omega)]
  simp [on1, up]
end ROW
