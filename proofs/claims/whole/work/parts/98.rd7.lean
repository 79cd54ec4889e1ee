section RD7
variable {z : Nat} {E : aEt} {n : Nat} {K N : Nat → Nat} {R : Nat → Nat → Option Nat} {I : Nat → Nat → Int32} {J : Nat → Nat → Int64} {lx : List Value → aH → aO} {p s q m e : Nat} {T : Nat → Nat} {F G : Nat → Nat → Nat} {w r : Bool} {x : Exc Nat}
theorem b_53a (hR : Rd K N R p) (hB : CB I T m) (h : CBd I p T m e q) : ∃ v, Am lx 53 7 [some (.ref (z + 1)), none] [] (0, 0) (St z E n K N R I J) = some (some (.int v), (St z E n K N R I J)) := by
  obtain ⟨s, hT⟩ := h.2.2.2.2.2.1
  have e1 := b_58 (lx := lx) (z := z) (E := E) (n := n) (J := J) hR h
  have e2 := c_84 (lx := lx) (z := z) (E := E) (n := n) (J := J) hR hB hT
  obtain ⟨d0, d1, d2, d3, d4, d5, d6, d7, d8, d9, d10, d11, d12, hP, hp⟩ := hR
  have kp := hP.1
  obtain ⟨h1, h2, h3, _, _, _, a4, a5, a7, a8, a9, n4, n5, n7, n8, n9, m4, m5, m7, m8, m9⟩ := h
  have fin : ∀ v, Am lx 53 24 [some (.ref (z + 1)), some (.int v)] [] (0, 0) (St z E n K N R I J) = some (some (.int v), (St z E n K N R I J)) := by
    intro v
    rw [e_53_24]
    simp (disch := first | assumption | omega) [k_St, n_St, i_St, j_St, r_St, wI_St, wJ_St, k_S0, n_S0, i_S0, j_S0, r_S0, wI_S0, wJ_S0, cI_s, cJ_s, cV_s, nR_s, nQ_s, nQ_n, lt_s_, gd_T, gd_t, Option.map_some, lits, neg_mI, nI_add, pk_mul, nI_clamp, nI_eq, nI_leI, nI_ltI, nm_eq, mn_eq, nm_lt, mn_lt, nm_le, mn_le, m_eq, bI_0, bI_1, d0, h3, if_neg]
  have q1 := fun y => c_55 (lx := lx) (z := z) (E := E) (n := n) (R := R) (I := I) (J := J) (y := y) d4 d5 n7
  refine ⟨oX (fdi (fun i => decide (J 13 i = vJ T s (min (tLn T m s) 8))) a7) a7, ?_⟩
  rw [e_53_7]
  simp only [k_St, i_St, r_St, d0, d1, d8, d2, d3, d12, kp, gd_t, Option.map_some, nR_s, cI_s, cJ_s, cV_s, e2, e1, m7, m8, q1, fin, ite_self]
theorem b_53 (hR : Rd K N R p) (hB : CB I T m) (hE : EOk E) (h : CBd I p T m e q) : ∃ v, Ca lx 53 [.ref (z + 1)] (St z E n K N R I J) = some (some (.int v), (St z E n K N R I J)) := by
  obtain ⟨s, hT⟩ := h.2.2.2.2.2.1
  have e1 := b_58 (lx := lx) (z := z) (E := E) (n := n) (J := J) hR h
  have e2 := c_54 (lx := lx) (z := z) (E := E) (n := n) (J := J) hR hB hE hT
  obtain ⟨v, e3⟩ := b_53a (lx := lx) (z := z) (E := E) (n := n) (J := J) hR hB h
  obtain ⟨d0, d1, d2, d3, d4, d5, d6, d7, d8, d9, d10, d11, d12, hP, hp⟩ := hR
  refine ⟨v, ?_⟩
  rw [f_53]
  simp only [k_St, d0, gd_t, e2, cI_s, e1, cV_s, e3, ite_self]
theorem c_53 (hR : Rd K N R p) (hB : CB I T m) (hE : EOk E) (hn : FCn F) (hN : NW T m F G) (h : CS I J p T m F w r G x) : ∃ v I', Ca lx 53 [.ref (z + 1)] (St z E n K N R I J) = some (some (.int v), St z E n K N R I' J) ∧ CS I' J p T m F w r G ((x.bind (pDn T m F G)).map Prod.snd) ∧ FRs I I' ∧ (∀ a, x.bind (pDn T m F G) = .ok a → v = nI a.1) := by
  have hR' := hR
  obtain ⟨d0, d1, d2, d3, d4, d5, d6, d7, d8, d9, d10, d11, d12, hP, hp⟩ := hR
  have kp := hP.1
  obtain ⟨n4, n5, n7, n8, n9⟩ := id hn
  cases x with
  | error v =>
    obtain ⟨v, e0⟩ := b_53 (lx := lx) (z := z) (E := E) (n := n) (J := J) hR' hB hE h
    exact ⟨v, I, e0, h, FRs_r, fun a e => absurd e (by rw [eb_e]; simp)⟩
  | ok s =>
    have h' : COk I J p T m F w r G s := h
    have hT := h'.2.2.2.2.2.1
    have h1 := h'.1
    have q0 := h'.2.2.2.2.2.2.1.1
    have m7 := q0 7 (by decide)
    have j1 := h'.2.2.2.2.2.2.2.1
    have e2 := c_54 (lx := lx) (z := z) (E := E) (n := n) (J := J) hR' hB hE hT
    rw [eb_o]
    unfold pDn
    by_cases c : isN T m s = true
    · rw [if_pos c]
      rw [c] at e2
      have ks := isN_k c
      have e84 := name8 (lx := lx) (z := z) (E := E) (n := n) (J := J) hR' hB hT ks
      have q1 := c_55 (lx := lx) (z := z) (E := E) (n := n) (R := R) (I := I) (J := J) (y := lN (w8 T m s)) d4 d5 n7
      rw [fdJ j1 hN.1 ks] at q1
      have fe : fdi (fun d => decide (w8 T m (G 0 d) = w8 T m s)) (F 0 7) = fdd T m F G s := rfl
      rw [fe] at q1
      unfold oX at q1
      by_cases ck : fdd T m F G s < F 0 7
      · rw [if_pos ck]
        rw [if_pos ck] at q1
        obtain ⟨I1, e4, e5, e6⟩ := kk_80 (lx := lx) (z := z) (E := E) (n := n) hR' hB h
        refine ⟨nI (fdd T m F G s), I1, ?_, e5, e6, fun a e => by injection e with e; rw [← e]⟩
        have nn : ¬ nI (fdd T m F G s) = (-1 : Int32) := by
          rw [show (-1 : Int32) = mI 1 from rfl, nm_eq (by omega) (by decide) (by decide)]; exact id
        rw [f_53]
        simp only [k_St, d0, gd_t, e2, cI_s]
        rw [if_neg (by decide), e_53_7]
        simp only [k_St, i_St, r_St, d0, d1, d8, d2, d3, d12, kp, gd_t, Option.map_some, nR_s, cI_s, cJ_s, e84, m7, q1]
        rw [if_neg nn, e_53_24]
        simp (disch := first | assumption | omega) [k_St, n_St, i_St, j_St, r_St, wI_St, wJ_St, k_S0, n_S0, i_S0, j_S0, r_S0, wI_S0, wJ_S0, cI_s, cJ_s, cV_s, nR_s, nQ_s, nQ_n, lt_s_, gd_T, gd_t, Option.map_some, lits, neg_mI, nI_add, pk_mul, nI_clamp, nI_eq, nI_leI, nI_ltI, nm_eq, mn_eq, nm_lt, mn_lt, nm_le, mn_le, m_eq, bI_0, bI_1, d0, d1, d8, h1, e4]
      · rw [if_neg ck]
        rw [if_neg ck] at q1
        obtain ⟨I2, k1, k2, k3⟩ := kk_58 (lx := lx) (z := z) (E := E) (n := n) (e := 2) hR' h hn (by decide) (by decide)
        have g3 := k2.2.2.1
        refine ⟨mI 1, I2, ?_, k2, k3, fun a e => by simp at e⟩
        rw [f_53]
        simp only [k_St, d0, gd_t, e2, cI_s]
        rw [if_neg (by decide), e_53_7]
        simp only [k_St, i_St, r_St, d0, d1, d8, d2, d3, d12, kp, gd_t, Option.map_some, nR_s, cI_s, cJ_s, e84, m7, q1]
        rw [if_pos (by decide), show (2 : Int32) = nI 2 from rfl, k1, cV_s, e_53_24]
        simp (disch := first | assumption | omega) [k_St, n_St, i_St, j_St, r_St, wI_St, wJ_St, k_S0, n_S0, i_S0, j_S0, r_S0, wI_S0, wJ_S0, cI_s, cJ_s, cV_s, nR_s, nQ_s, nQ_n, lt_s_, gd_T, gd_t, Option.map_some, lits, neg_mI, nI_add, pk_mul, nI_clamp, nI_eq, nI_leI, nI_ltI, nm_eq, mn_eq, nm_lt, mn_lt, nm_le, mn_le, m_eq, bI_0, bI_1, d0, g3]
    · rw [if_neg c]
      have c' : isN T m s = false := by simpa using c
      rw [c'] at e2
      obtain ⟨I2, k1, k2, k3⟩ := kk_58 (lx := lx) (z := z) (E := E) (n := n) (e := 1) hR' h hn (by decide) (by decide)
      obtain ⟨v, e3⟩ := b_53a (lx := lx) (z := z) (E := E) (n := n) (J := J) hR' (CB_f hB k3) k2
      refine ⟨v, I2, ?_, k2, k3, fun a e => by simp at e⟩
      rw [f_53]
      simp only [k_St, d0, gd_t, e2, cI_s]
      rw [if_pos (by decide), show (1 : Int32) = nI 1 from rfl, k1, cV_s, e3]
/-! lines -/
def FRc (p : Nat) (I I' : Nat → Nat → Int32) : Prop := ∀ a, a ≠ 1 → a ≠ 2 → ¬ (p ≤ a ∧ a ≤ p + 8) → I' a = I a
def FJ (p : Nat) (J J' : Nat → Nat → Int64) : Prop := ∀ a, a ≠ 13 → a ≠ 14 → a ≠ p → J' a = J a
theorem FRs_c {I' : Nat → Nat → Int32} (h : FRs I I') : FRc p I I' := fun a a1 a2 _ => h a a1 a2
theorem FRc_t {I1 I2 : Nat → Nat → Int32} (h : FRc p I I1) (h2 : FRc p I1 I2) : FRc p I I2 := fun a a1 a2 a3 => (h2 a a1 a2 a3).trans (h a a1 a2 a3)
theorem CB_g {I1 : Nat → Nat → Int32} (h : CB I T m) (h2 : FRc p I I1) (hp : 114 ≤ p) : CB I1 T m := ⟨h.1, fun k hk => by rw [h2 3 (by decide) (by decide) (by omega)]; exact h.2 k hk⟩
theorem FJ_r : FJ p J J := fun _ _ _ _ => rfl
theorem CBd_4 (h : CBd I p T m e q) (hp : 114 ≤ p) {j : Nat} (hj : j < 4 ∨ j = 6) (v : Int32) : CBd (u2 I p j v) p T m e q := by
  obtain ⟨h1, h2, h3, h4, h5, ⟨s, t2, t3, t4, t5, ts⟩, a4, a5, a7, a8, a9, n4, n5, n7, n8, n9, m4, m5, m7, m8, m9⟩ := h
  refine ⟨h1, h2, ?_, ?_, ?_, ⟨s, ?_, ?_, ?_, ?_, ts⟩, a4, a5, a7, a8, a9, n4, n5, n7, n8, n9, ?_, ?_, ?_, ?_, ?_⟩ <;> simp (disch := first | assumption | omega) [u2_s, u2_a, u2_k] <;> assumption
theorem CBd_5 (h : CBd I p T m e q) (hp : 114 ≤ p) {j : Nat} (hj : 3 ≤ j) (v : Int32) : CBd (u2 I 1 j v) p T m e q := by
  obtain ⟨h1, h2, h3, h4, h5, ⟨s, t2, t3, t4, t5, ts⟩, a4, a5, a7, a8, a9, n4, n5, n7, n8, n9, m4, m5, m7, m8, m9⟩ := h
  refine ⟨h1, h2, ?_, ?_, ?_, ⟨s, ?_, ?_, ?_, ?_, ts⟩, a4, a5, a7, a8, a9, n4, n5, n7, n8, n9, ?_, ?_, ?_, ?_, ?_⟩ <;> simp (disch := first | assumption | omega) [u2_s, u2_a, u2_k] <;> assumption
/-- a scalar of the plan is written -/
theorem PI_u {j v : Nat} (h : PI I J p F) (hj : j < 4 ∨ j = 6) : PI (u2 I p j (nI v)) J p (u2 F 0 j v) := by
  obtain ⟨q0, q1, q2, q3, q4, q5, q6, q7⟩ := h
  have f4 : u2 F 0 j v 0 4 = F 0 4 := u2_k _ _ _ _ _ (by omega)
  have f5 : u2 F 0 j v 0 5 = F 0 5 := u2_k _ _ _ _ _ (by omega)
  have f7 : u2 F 0 j v 0 7 = F 0 7 := u2_k _ _ _ _ _ (by omega)
  have f8 : u2 F 0 j v 0 8 = F 0 8 := u2_k _ _ _ _ _ (by omega)
  have f9 : u2 F 0 j v 0 9 = F 0 9 := u2_k _ _ _ _ _ (by omega)
  have fi : ∀ c, inF (u2 F 0 j v) c = inF F c := fun c => by unfold inF; rw [f4, f5]
  have fr : ∀ b, b ≠ 0 → u2 F 0 j v b = F b := fun b hb => u2_a _ _ _ _ _ hb
  have fs : ∀ c, isS (u2 F 0 j v) c = isS F c := fun c => by unfold isS; rw [fi, fr 1 (by decide)]
  have ir : ∀ b, b ≠ p → u2 I p j (nI v) b = I b := fun b hb => u2_a _ _ _ _ _ hb
  refine ⟨?_, ?_, ?_, ?_, ?_, ?_, ?_, ?_⟩
  · intro k hk
    by_cases c : k = j
    · rw [c, u2_s, u2_s]
    · rw [u2_k _ _ _ _ _ c, u2_k _ _ _ _ _ c]; exact q0 k hk
  · intro c hc; rw [ir _ (by omega), fi, fr 1 (by decide)]; exact q1 c hc
  · rw [ir _ (by omega), f7, fr 2 (by decide)]; exact q2
  · rw [ir _ (by omega), f8, fr 3 (by decide)]; exact q3
  · rw [ir _ (by omega), f8, fr 4 (by decide)]; exact q4
  · rw [ir _ (by omega), f8, fr 4 (by decide), fr 5 (by decide)]; exact q5
  · rw [ir (p + 6) (by omega), ir (p + 7) (by omega), ir (p + 8) (by omega), f9, fr 6 (by decide), fr 7 (by decide), fr 8 (by decide)]; exact q6
  · intro c hc; rw [fs]; exact q7 c hc
end RD7
