section RD5
variable {z : Nat} {E : aEt} {n : Nat} {K N : Nat → Nat} {R : Nat → Nat → Option Nat} {I : Nat → Nat → Int32} {J : Nat → Nat → Int64} {lx : List Value → aH → aO} {p s q m e : Nat} {T : Nat → Nat} {F G : Nat → Nat → Nat} {w r : Bool} {x : Exc Nat}
def NW (T : Nat → Nat) (m : Nat) (F G : Nat → Nat → Nat) : Prop := (∀ d, d < F 0 7 → tK T m (G 0 d) = 1) ∧ (∀ g, g < F 0 8 → tK T m (G 1 g) = 1)
theorem b_50 (hR : Rd K N R p) (hB : CB I T m) (h : CBd I p T m e q) : Ca lx 50 [.ref (z + 1)] (St z E n K N R I J) = some (some (.int (nI 0)), (St z E n K N R I J)) := by
  have e0 := b_49 (lx := lx) (z := z) (E := E) (n := n) (J := J) hR hB h
  have e1 := b_59 (lx := lx) (z := z) (E := E) (n := n) (J := J) hR h
  obtain ⟨d0, d1, d2, d3, d4, d5, d6, d7, d8, d9, d10, d11, d12, hP, hp⟩ := hR
  have e2 := b_26 (lx := lx) (z := z) (E := E) (n := n) (I := I) (J := J) hP
  have kp := hP.1
  rw [f_50]
  simp only [k_St, i_St, r_St, d0, d1, d8, d12, kp, gd_t, Option.map_some, nR_s, e0, cI_s]
  rw [s_0]
  simp only [cI_s, k_St, d0, gd_t, r_St, d12, Option.map_some, nR_s, kp, Nat.mul_zero, Nat.add_zero, e2, e1, cV_s, ite_self]
theorem eb_m {α β γ : Type} (y : Exc α) (f : α → Exc β) (g : β → Exc γ) : (y.bind f).bind g = y.bind (fun a => (f a).bind g) := by cases y <;> rfl
theorem c_50 (hR : Rd K N R p) (hB : CB I T m) (hn : FCn F) (h : CS I J p T m F w r G x) (hF : ∀ s, x = .ok s → 2 ≤ F 0 4 ∧ 2 ≤ F 0 5) : ∃ v I', Ca lx 50 [.ref (z + 1)] (St z E n K N R I J) = some (some (.int v), St z E n K N R I' J) ∧ CS I' J p T m F w r G ((x.bind (pCl T m F)).map Prod.snd) ∧ FRs I I' ∧ (∀ a, x.bind (pCl T m F) = .ok a → v = nI a.1) := by
  have hR' := hR
  obtain ⟨d0, d1, d2, d3, d4, d5, d6, d7, d8, d9, d10, d11, d12, hP, hp⟩ := hR
  have kp := hP.1
  cases x with
  | error v => exact ⟨nI 0, I, b_50 hR' hB h, h, FRs_r, fun a e => absurd e (by rw [eb_e]; simp)⟩
  | ok s =>
    obtain ⟨f4, f5⟩ := hF s rfl
    obtain ⟨n4, n5, _⟩ := hn
    have h' : COk I J p T m F w r G s := h
    have q0 := h'.2.2.2.2.2.2.1.1
    have q4 := q0 4 (by decide)
    have l4 : nI (F 0 4) - nI 1 = nI (F 0 4 - 1) := pk_sub (by omega)
    have l5 : nI (F 0 5) - nI 1 = nI (F 0 5 - 1) := pk_sub (by omega)
    obtain ⟨v1, I1, e1, e2, e3, e4, e5⟩ := c_49 (lx := lx) (z := z) (E := E) (n := n) (L := nI (F 0 4 - 1 - (F 0 4 - 1))) (H := nI (F 0 4) - nI 1) (lo := 0) (hi := F 0 4 - 1) hR' hB ⟨n4, n5, ‹_›⟩ h (fun _ _ => ⟨by rw [Nat.sub_self], l4⟩) (by decide) (by omega)
    rw [Nat.sub_self] at e1
    have hB1 := CB_f hB e3
    have i5 : I1 p 5 = nI (F 0 5) := by rw [e3 p (by omega) (by omega)]; exact q0 5 (by decide)
    rw [eb_o] at e2 e4 e5 ⊢
    unfold pCl
    cases hx : pWh T m 0 (F 0 4 - 1) s with
    | error u =>
      rw [hx] at e2 e5
      have g0 := e5 u rfl
      subst g0
      have e6 := b_49 (lx := lx) (z := z) (E := E) (n := n) (J := J) hR' hB1 e2
      have e7 := b_26 (lx := lx) (z := z) (E := E) (n := n) (I := I1) (J := J) hP
      have e8 := b_59 (lx := lx) (z := z) (E := E) (n := n) (J := J) hR' e2
      refine ⟨nI 0, I1, ?_, e2, e3, fun a e => absurd e (by rw [eb_e]; simp)⟩
      rw [f_50]
      simp only [k_St, i_St, r_St, d0, d1, d8, d12, kp, gd_t, Option.map_some, nR_s, cI_s, q4]
      rw [show (0 : Int32) = nI 0 from rfl, show (1 : Int32) = nI 1 from rfl, e1]
      simp only [k_St, i_St, r_St, d0, d1, d8, d12, kp, gd_t, Option.map_some, nR_s, cI_s, e6]
      rw [s_0]
      simp only [cI_s, k_St, d0, gd_t, r_St, d12, Option.map_some, nR_s, kp, Nat.mul_zero, Nat.add_zero, e7, e8, cV_s, ite_self]
    | ok a =>
      obtain ⟨a, s1⟩ := a
      rw [hx] at e2 e4
      have g0 := e4 _ rfl
      simp only at g0
      subst g0
      have e2' : COk I1 J p T m F w r G s1 := e2
      have t3 : I1 2 3 = nI s1 := e2'.2.2.2.2.2.1.2.1
      obtain ⟨v2, I2, g1, g2, g3, g4, g5⟩ := c_49 (lx := lx) (z := z) (E := E) (n := n) (x := .ok s1) (L := nI 0) (H := nI (F 0 5) - nI 1) (lo := 0) (hi := F 0 5 - 1) hR' hB1 ⟨n4, n5, ‹_›⟩ e2 (fun _ _ => ⟨rfl, l5⟩) (by decide) (by omega)
      have hB2 := CB_f hB1 g3
      rw [eb_o] at g2 g4 g5 ⊢
      simp only
      have ax : a ≤ F 0 4 - 1 := by
        unfold pWh at hx
        split at hx
        · split at hx
          · injection hx with hx; injection hx with hx1 hx2; omega
          · exact absurd hx (by simp)
        · exact absurd hx (by simp)
      cases hy : pWh T m 0 (F 0 5 - 1) s1 with
      | error u =>
        rw [hy] at g2 g5
        have g0 := g5 u rfl
        subst g0
        have g2' : CBd I2 p T m u.1 u.2 := g2
        have e8 := b_59 (lx := lx) (z := z) (E := E) (n := n) (J := J) hR' g2'
        have a64 : a < 64 := by omega
        have e7 : ∃ b, Ca lx 26 [.ref (z + p), .int (nI a)] (St z E n K N R I2 J) = some (some (.int (bI b)), St z E n K N R I2 J) := by
          refine ⟨hb (J p 10) a, ?_⟩
          have p0 := hP.1
          rw [f_26]
          simp only [s_6 a64, cI_s, j_St, s_5 _ a64, k_St, p0]
          cases hb (J p 10) a <;> simp [lits, bI_0, bI_1, gd_T] <;> rfl
        obtain ⟨b, e7⟩ := e7
        refine ⟨nI a, I2, ?_, g2, FRs_t e3 g3, fun a e => absurd e (by rw [eb_e]; simp)⟩
        rw [f_50]
        simp only [k_St, i_St, r_St, d0, d1, d8, d12, kp, gd_t, Option.map_some, nR_s, cI_s, q4]
        rw [show (0 : Int32) = nI 0 from rfl, show (1 : Int32) = nI 1 from rfl, e1]
        simp only [k_St, i_St, r_St, d0, d1, d8, d12, kp, gd_t, Option.map_some, nR_s, cI_s, i5, g1]
        rw [s_0]
        simp only [cI_s, k_St, d0, gd_t, r_St, d12, Option.map_some, nR_s, kp, Nat.mul_zero, Nat.zero_add, e7, e8, cV_s, ite_self]
      | ok b =>
        obtain ⟨b, s2⟩ := b
        rw [hy] at g2 g4
        have g0 := g4 _ rfl
        simp only at g0
        subst g0
        have bx : b ≤ F 0 5 - 1 := by
          unfold pWh at hy
          split at hy
          · split at hy
            · injection hy with hy; injection hy with hy1 hy2; omega
            · exact absurd hy (by simp)
          · exact absurd hy (by simp)
        have g2' : COk I2 J p T m F w r G s2 := g2
        have e7 := s_26c (lx := lx) (z := z) (E := E) (n := n) hP g2'.2.2.2.2.2.2.1 (show 8 * b + a < 64 by omega)
        rw [eb_o]
        simp only
        by_cases c : isS F (8 * b + a) = true
        · rw [if_pos c]
          rw [c] at e7
          refine ⟨nI (8 * b + a), I2, ?_, g2, FRs_t e3 g3, fun a e => by injection e with e; rw [← e]⟩
          rw [f_50]
          simp only [k_St, i_St, r_St, d0, d1, d8, d12, kp, gd_t, Option.map_some, nR_s, cI_s, q4]
          rw [show (0 : Int32) = nI 0 from rfl, show (1 : Int32) = nI 1 from rfl, e1]
          simp only [k_St, i_St, r_St, d0, d1, d8, d12, kp, gd_t, Option.map_some, nR_s, cI_s, i5, g1]
          rw [s_0]
          simp only [cI_s, k_St, d0, gd_t, r_St, d12, Option.map_some, nR_s, kp, e7, bI_0]
          rw [if_neg (by decide)]
        · rw [if_neg c]
          have c' : isS F (8 * b + a) = false := by simpa using c
          rw [c'] at e7
          obtain ⟨I3, k1, k2, k3⟩ := kk_59 (lx := lx) (z := z) (E := E) (n := n) (e := 7) hR' g2' ⟨n4, n5, ‹_›⟩ (by decide) (by decide) s1
          refine ⟨nI (8 * b + a), I3, ?_, k2, FRs_t (FRs_t e3 g3) k3, fun a e => by simp at e⟩
          rw [f_50]
          simp only [k_St, i_St, r_St, d0, d1, d8, d12, kp, gd_t, Option.map_some, nR_s, cI_s, q4]
          rw [show (0 : Int32) = nI 0 from rfl, show (1 : Int32) = nI 1 from rfl, e1]
          simp only [k_St, i_St, r_St, d0, d1, d8, d12, kp, gd_t, Option.map_some, nR_s, cI_s, i5, g1, t3]
          rw [s_0]
          simp only [cI_s, k_St, d0, gd_t, r_St, d12, Option.map_some, nR_s, kp, e7, bI_0]
          rw [if_pos trivial, show (7 : Int32) = nI 7 from rfl, k1]
          rfl
end RD5
