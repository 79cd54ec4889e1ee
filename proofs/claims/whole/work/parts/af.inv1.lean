/-! what of the heap's kinds, lengths and links the two lean on -/
def kC (K : Nat → Nat) : Nat → Nat := fun a => if a < 147 then K a else 0
def rC (R : Nat → Nat → Option Nat) : Nat → Nat → Option Nat := fun a k => if a = 1 ∧ k = 3 then none else if a = 132 ∧ (k = 3 ∨ k = 4) then none else if a < 147 then R a k else none
/-- two heaps agree below n, but for the reader's plan and the reference's fields -/
def KR (n : Nat) (K K' N N' : Nat → Nat) (R R' : Nat → Nat → Option Nat) : Prop := (∀ a, a < n → K' a = K a ∧ N' a = N a) ∧ (∀ a, a < n → a ≠ 1 → a ≠ 132 → R' a = R a) ∧ (∀ k, k ≠ 3 → R' 1 k = R 1 k) ∧ (∀ k, k ≠ 3 → k ≠ 4 → R' 132 k = R 132 k)
section INV1
variable {z : Nat} {E : aEt} {n : Nat} {K N : Nat → Nat} {R : Nat → Nat → Option Nat} {I : Nat → Nat → Int32} {J : Nat → Nat → Int64} {lx : List Value → aH → aO} {p s f t hd nn : Nat} {T : Nat → Nat} {F : Nat → Nat → Nat} {ρ : Nat → Nat} {cnt img : Nat} {H M : Nat → Nat → Nat} {K' N' : Nat → Nat} {R' : Nat → Nat → Option Nat} {I' : Nat → Nat → Int32} {J' : Nat → Nat → Int64}
theorem kC_e (h : KR nn K K' N N' R R') (hn : 147 ≤ nn) : kC K' = kC K ∧ kC N' = kC N ∧ rC R' = rC R := by
  refine ⟨?_, ?_, ?_⟩
  · funext a; unfold kC; by_cases c : a < 147
    · rw [if_pos c, if_pos c]; exact (h.1 a (by omega)).1
    · rw [if_neg c, if_neg c]
  · funext a; unfold kC; by_cases c : a < 147
    · rw [if_pos c, if_pos c]; exact (h.1 a (by omega)).2
    · rw [if_neg c, if_neg c]
  · funext a k; unfold rC
    by_cases c1 : a = 1 ∧ k = 3
    · rw [if_pos c1, if_pos c1]
    · rw [if_neg c1, if_neg c1]
      by_cases c2 : a = 132 ∧ (k = 3 ∨ k = 4)
      · rw [if_pos c2, if_pos c2]
      · rw [if_neg c2, if_neg c2]
        by_cases c : a < 147
        · rw [if_pos c, if_pos c]
          by_cases a1 : a = 1
          · rw [a1]; exact h.2.2.1 k (by omega)
          · by_cases a2 : a = 132
            · rw [a2]; exact h.2.2.2 k (by omega) (by omega)
            · rw [h.2.1 a (by omega) a1 a2]
        · rw [if_neg c, if_neg c]
theorem CL_k (h : KR nn K K' N N' R R') (hn : 147 ≤ nn) (hL : CL K N R p s) : CL K' N' R' p s := by
  obtain ⟨e1, e2, e3⟩ := kC_e h hn
  have a : CL (kC K) (kC N) (rC R) p s := hL
  rw [← e1, ← e2, ← e3] at a
  exact a
theorem Mo_k (h : KR nn K K' N N' R R') (hn : 147 ≤ nn) (hL : Mo K N R) : Mo K' N' R' := by
  obtain ⟨e1, e2, e3⟩ := kC_e h hn
  have a : Mo (kC K) (kC N) (rC R) := hL
  rw [← e1, ← e2, ← e3] at a
  exact a
theorem Wk_k {w : Nat} (h : KR nn K K' N N' R R') (hw : w + 3 < nn) (h2 : 2 ≤ w) (h3 : w < 129) (hW : Wk K N R w) : Wk K' N' R' w := by
  unfold Wk
  rw [(h.1 w (by omega)).1, (h.1 (w + 1) (by omega)).1, (h.1 (w + 2) (by omega)).1, (h.1 (w + 3) (by omega)).1, (h.1 (w + 1) (by omega)).2, (h.1 (w + 2) (by omega)).2, (h.1 (w + 3) (by omega)).2, h.2.1 w (by omega) (by omega) (by omega)]
  exact hW
theorem Pl_k {w : Nat} (h : KR nn K K' N N' R R') (hw : w + 8 < nn) (h2 : 2 ≤ w) (h3 : w ≠ 132) (hW : Pl K N R w) : Pl K' N' R' w := by
  unfold Pl
  rw [(h.1 w (by omega)).1, (h.1 (w + 1) (by omega)).1, (h.1 (w + 2) (by omega)).1, (h.1 (w + 3) (by omega)).1, (h.1 (w + 4) (by omega)).1, (h.1 (w + 5) (by omega)).1, (h.1 (w + 6) (by omega)).1, (h.1 (w + 7) (by omega)).1, (h.1 (w + 8) (by omega)).1, (h.1 (w + 1) (by omega)).2, (h.1 (w + 2) (by omega)).2, (h.1 (w + 3) (by omega)).2, (h.1 (w + 4) (by omega)).2, (h.1 (w + 5) (by omega)).2, (h.1 (w + 6) (by omega)).2, (h.1 (w + 7) (by omega)).2, (h.1 (w + 8) (by omega)).2, h.2.1 w (by omega) (by omega) h3]
  exact hW
theorem CLw_k (h : KR nn K K' N N' R R') (hn : 147 ≤ nn) (hL : CLw K N R p s) : CLw K' N' R' p s := by
  obtain ⟨h1, h2, h3, h4, h5, h6, h7⟩ := hL
  refine ⟨Wk_k h (by omega) (by omega) (by omega) h1, Wk_k h (by omega) (by omega) (by omega) h2, Pl_k h (by omega) (by omega) (by omega) h3, Pl_k h (by omega) (by omega) (by omega) h4, h5, fun i hi => ⟨?_, Wk_k h (by omega) (by omega) (by omega) (h6 i hi).2⟩, fun i hi => ⟨?_, Wk_k h (by omega) (by omega) (by omega) (h7 i hi).2⟩⟩
  · rw [h.2.1 24 (by omega) (by decide) (by decide)]; exact (h6 i hi).1
  · rw [h.2.1 25 (by omega) (by decide) (by decide)]; exact (h7 i hi).1
theorem Fl_k (h : KR nn K K' N N' R R') (hf : f + 12 ≤ nn) (hF : Fl K N R f) : Fl K' N' R' f := by
  obtain ⟨f0, f1⟩ := hF
  refine ⟨f0, ?_⟩
  rw [(h.1 f (by omega)).1, (h.1 (f + 1) (by omega)).1, (h.1 (f + 2) (by omega)).1, (h.1 (f + 3) (by omega)).1, (h.1 (f + 4) (by omega)).1, (h.1 (f + 5) (by omega)).1, (h.1 (f + 6) (by omega)).1, (h.1 (f + 7) (by omega)).1, (h.1 (f + 8) (by omega)).1, (h.1 (f + 9) (by omega)).1, (h.1 (f + 10) (by omega)).1, (h.1 (f + 11) (by omega)).1, (h.1 (f + 1) (by omega)).2, (h.1 (f + 2) (by omega)).2, (h.1 (f + 3) (by omega)).2, (h.1 (f + 4) (by omega)).2, (h.1 (f + 5) (by omega)).2, (h.1 (f + 6) (by omega)).2, (h.1 (f + 7) (by omega)).2, (h.1 (f + 8) (by omega)).2, (h.1 (f + 9) (by omega)).2, (h.1 (f + 10) (by omega)).2, (h.1 (f + 11) (by omega)).2, h.2.1 f (by omega) (by omega) (by omega)]
  exact f1
theorem WR_e {w : Nat} (h : WR I J w F ρ) (e : ∀ a, w ≤ a → a ≤ w + 3 → I' a = I a ∧ J' a = J a) : WR I' J' w F ρ := by
  unfold WR
  rw [(e w (by omega) (by omega)).1, (e w (by omega) (by omega)).2, (e (w + 1) (by omega) (by omega)).1, (e (w + 2) (by omega) (by omega)).1, (e (w + 3) (by omega) (by omega)).1]
  exact h
theorem WN_e {w : Nat} (h : WN I J w F ρ) (e : ∀ a, w ≤ a → a ≤ w + 3 → I' a = I a ∧ J' a = J a) : WN I' J' w F ρ :=
  ⟨WR_e h.1 e, by rw [(e w (by omega) (by omega)).1]; exact h.2⟩
theorem CT_e (h : CT K N R I J p s F ρ cnt img H M) (hL : CL K' N' R' p s) (hW : CLw K' N' R' p s) (e0 : I' 0 10 = I 0 10) (e : ∀ a, 15 ≤ a → a ≤ 101 → I' a = I a ∧ J' a = J a) (ep : ∀ a, p ≤ a → a ≤ p + 8 → I' a = I a) (ej : J' p = J p) : CT K' N' R' I' J' p s F ρ cnt img H M := by
  obtain ⟨⟨_, _, c3, c4, c5, c6, c7, c8, c9⟩, nxt, g1, g2, g3, g4, g5, g6, g7, g8⟩ := h
  refine ⟨⟨hL, hW, by rw [e0]; exact c3, PI_c c4 ep ej, c5, WR_e c6 (fun a a1 a2 => e a (by omega) (by omega)), c7, by rw [(e 15 (by omega) (by omega)).1]; exact c8, c9⟩, nxt, by rw [(e 23 (by omega) (by omega)).1]; exact g1, g2, by rw [(e 23 (by omega) (by omega)).1]; exact g3, g4, by rw [(e 23 (by omega) (by omega)).1]; exact g5, g6, fun i hi => ⟨WN_e (g7 i hi).1 (fun a a1 a2 => e a (by omega) (by omega)), (g7 i hi).2⟩, fun i hi => ⟨WN_e (g8 i hi).1 (fun a a1 a2 => e a (by omega) (by omega)), (g8 i hi).2⟩⟩
theorem CSc_e (h : CSc I F) (e : ∀ a, 108 ≤ a → a ≤ 110 → I' a = I a) : CSc I' F := by
  unfold CSc
  rw [e 108 (by omega) (by omega), e 109 (by omega) (by omega), e 110 (by omega) (by omega)]; exact h
theorem FI_e (h : FI I f F) (e : ∀ a, f ≤ a → a ≤ f + 8 → I' a = I a) : FI I' f F := by
  unfold FI
  rw [e f (by omega) (by omega), e (f + 1) (by omega) (by omega), e (f + 2) (by omega) (by omega), e (f + 3) (by omega) (by omega), e (f + 4) (by omega) (by omega), e (f + 5) (by omega) (by omega), e (f + 6) (by omega) (by omega), e (f + 7) (by omega) (by omega), e (f + 8) (by omega) (by omega)]
  exact h
theorem MT_e (h : MT K N R I f F ρ cnt img H M) (hM : Mo K' N' R') (hl : Fl K' N' R' f) (r3 : R' 132 3 = some f) (e : ∀ a, 134 ≤ a → a ≠ 135 → a < f + 12 → I' a = I a) (e1 : I' 132 20 = I 132 20) (e2 : I' 132 21 = I 132 21) : MT K' N' R' I' f F ρ cnt img H M := by
  obtain ⟨⟨⟨_, _, _, m4, m5⟩, v1, v2, v3⟩, g1, g2, g3, g4, g5, g6⟩ := h
  have hf := hl.1
  refine ⟨⟨⟨hM, hl, r3, FI_e m4 (fun a a1 a2 => e a (by omega) (by omega) (by omega)), m5⟩, by rw [e 134 (by omega) (by omega) (by omega)]; exact v1, v2, v3⟩, by rw [e1]; exact g1, g2, by rw [e2]; exact g3, g4, by rw [e 136 (by omega) (by omega) (by omega)]; exact g5, by rw [e 137 (by omega) (by omega) (by omega)]; exact g6⟩
end INV1
