theorem ap_1F : ∀ a : Fin 64, ∀ w : Fin 5, 1 ≤ w.val → nxc a.val w.val < 64 → apt a.val (nxc a.val w.val) = 1 := by decide +kernel
theorem ap_0F : ∀ a : Fin 64, apt a.val a.val = 0 := by decide +kernel
theorem ap_n {a b : Nat} (ha : a < 64) (hb : b < 64) (h : 2 ≤ apt a b) : a ≠ b ∧ ∀ w, 1 ≤ w → w ≤ 4 → nxc a w ≠ b := by
  refine ⟨fun e => ?_, fun w w1 w2 e => ?_⟩
  · have := ap_0F ⟨a, ha⟩
    simp only at this
    rw [← e, this] at h; omega
  · have := ap_1F ⟨a, ha⟩ ⟨w, by omega⟩ w1 (by simp only; rw [e]; exact hb)
    simp only at this
    rw [e] at this; omega
section CU6
variable {z : Nat} {E : aEt} {n : Nat} {K N : Nat → Nat} {R : Nat → Nat → Option Nat} {I : Nat → Nat → Int32} {J : Nat → Nat → Int64} {lx : List Value → aH → aO} {p : Nat} {g g' : Nat → Nat → Bool} {us us' : Nat → Bool} {F : Nat → Nat → Nat} {a b k x c d w i cnt : Nat} {Q : Nat → Nat}
theorem Bal_0 : Bal (fun _ _ => false) (fun _ => false) a b 0 (2 * b) := by
  have ic0 : ∀ c, ic (fun _ _ => false) c = 0 := fun c => by
    unfold ic it; simp
  have ou0 : ∀ c, ou (fun _ _ => false) c = 0 := fun c => by unfold ou; simp
  refine ⟨rfl, rfl, fun c c1 c2 c3 => ?_, fun c c1 c2 c3 => ?_, ic0 a, ou0 b, ?_⟩
  · rw [ic0, if_neg (by omega)]; rfl
  · rw [ou0, if_neg (by omega)]; rfl
  · rw [ou0, if_neg (by omega)]
theorem FV_0 : FV F (fun _ _ => false) := fun c w h => by simp at h
theorem c_9i (hU : CU K N R) (va vb : Int32) (bb : aB) : ∀ (n' i : Nat) (J : Nat → Nat → Int64), i + n' = 5 → (∀ w, w < i → J 107 w = 0) → ∃ J', Am lx 9 13 [some (.ref (z + 104)), some (.ref (z + p)), some (.int va), some (.int vb), some (.int (nI i)), none] [] bb (St z E n K N R I J) = Am lx 9 30 [some (.ref (z + 104)), some (.ref (z + p)), some (.int va), some (.int vb), some (.int (nI 0)), some (.int (nI 0))] [] bb (St z E n K N R I J') ∧ (∀ w, w < 5 → J' 107 w = 0) ∧ (∀ a, a ≠ 107 → J' a = J a) := by
  intro n'
  obtain ⟨u0, u1, u2', u3, u4, u5, u6, u7, u8, u9⟩ := id hU
  have n5 : Int32.ofNat 5 = nI 5 := rfl
  induction n' with
  | zero =>
    intro i J hi hd
    have e : i = 5 := by omega
    subst e
    refine ⟨J, ?_, hd, fun _ _ => rfl⟩
    rw [e_9_13]
    simp (disch := first | assumption | omega) [k_St, n_St, i_St, j_St, r_St, wI_St, wJ_St, k_S0, n_S0, i_S0, j_S0, r_S0, wI_S0, wJ_S0, cI_s, cJ_s, cV_s, nR_s, nQ_s, nQ_n, lt_s_, gd_T, gd_t, Option.map_some, lits, neg_mI, nI_add, pk_mul, nI_clamp, nI_eq, nI_leI, nI_ltI, nm_eq, mn_eq, nm_lt, mn_lt, nm_le, mn_le, m_eq, bI_0, bI_1, u0, u3, u8, u9, n5]
  | succ n' ih =>
    intro i J hi hd
    obtain ⟨J', g1, g2, g3⟩ := ih (i + 1) (u2 J 107 i 0) (by omega) (fun x hx => by
      by_cases e : x = i
      · rw [e, u2_s]
      · rw [u2_k _ _ _ _ _ e]; exact hd x (by omega))
    refine ⟨J', ?_, g2, fun a ha => by rw [g3 a ha, u2_a _ _ _ _ _ ha]⟩
    have l1 : ¬ 5 ≤ i := by omega
    rw [← g1, e_9_13]
    simp (disch := first | assumption | omega) [k_St, n_St, i_St, j_St, r_St, wI_St, wJ_St, k_S0, n_S0, i_S0, j_S0, r_S0, wI_S0, wJ_S0, cI_s, cJ_s, cV_s, nR_s, nQ_s, nQ_n, lt_s_, gd_T, gd_t, Option.map_some, lits, neg_mI, nI_add, pk_mul, nI_clamp, nI_eq, nI_leI, nI_ltI, nm_eq, mn_eq, nm_lt, mn_lt, nm_le, mn_le, m_eq, bI_0, bI_1, u0, u3, u8, u9, n5, l1]
theorem c_9l (hU : CU K N R) (hP : Pl K N R p) (hp : 114 ≤ p) (ha : a < 64) (hb' : b < 64) (hs : isS F a = true) (hab : a ≠ b) (hn : ∀ w, 1 ≤ w → w ≤ 4 → nxc a w ≠ b) (bb : aB) : ∀ (n' k : Nat) (I : Nat → Nat → Int32) (J : Nat → Nat → Int64) (g : Nat → Nat → Bool) (us : Nat → Bool), k + n' = 5 → Bal g us a b k (2 * b) → FV F g → CFl J g us → (∀ c, c < 64 → hb (J p 10) c = isS F c) → ∃ (k' : Nat) (g' : Nat → Nat → Bool) (us' V : Nat → Bool) (I' : Nat → Nat → Int32) (J' : Nat → Nat → Int64), Am lx 9 30 [some (.ref (z + 104)), some (.ref (z + p)), some (.int (nI a)), some (.int (nI b)), some (.int (nI k)), some (.int (nI k))] [] bb (St z E n K N R I J) = some (some (.int (nI k')), St z E n K N R I' J') ∧ Bal g' us' a b k' (2 * b) ∧ FV F g' ∧ Cl F g' us' a V ∧ V (2 * a + 1) = true ∧ V (2 * b) = false ∧ Fcu I I' ∧ Fj J J' := by
  intro n'
  have u0 := hU.1
  induction n' with
  | zero =>
    intro k I J g us hk hB hf hJ q7
    have := ou_4 (g := g) (c := a)
    have := hB.2.2.2.2.2.2
    omega
  | succ n' ih =>
    intro k I J g us hk hB hf hJ q7
    obtain ⟨o, I1, c1, Q1, g1, g2, g3, g4, g5⟩ := c_10 (lx := lx) (z := z) (E := E) (n := n) (I := I) hU hP hJ q7 ha hb' hs
    have l1 : ¬ 64 ≤ k := by omega
    cases o with
    | false =>
      obtain ⟨x1, x2⟩ := g5 rfl
      have hV : ∀ x, anyB (fun j => decide (Q1 j = x)) c1 = true ↔ Vs Q1 c1 x := fun x => by
        rw [anyB_t]; simp only [decide_eq_true_eq]; rfl
      refine ⟨k, g, us, fun x => anyB (fun j => decide (Q1 j = x)) c1, I1, J, ?_, hB, hf, Cl_e x2 _ hV, (hV _).mpr ⟨0, g2.1, g2.2.2.2.2.1⟩, ?_, g3, fun _ _ _ => rfl⟩
      · rw [e_9_30]
        simp (disch := first | assumption | omega) [k_St, n_St, i_St, j_St, r_St, wI_St, wJ_St, k_S0, n_S0, i_S0, j_S0, r_S0, wI_S0, wJ_S0, cI_s, cJ_s, cV_s, nR_s, nQ_s, nQ_n, lt_s_, gd_T, gd_t, Option.map_some, lits, neg_mI, nI_add, pk_mul, nI_clamp, nI_eq, nI_leI, nI_ltI, nm_eq, mn_eq, nm_lt, mn_lt, nm_le, mn_le, m_eq, bI_0, bI_1, l1, u0, g1]
      · cases e : anyB (fun j => decide (Q1 j = 2 * b)) c1 with
        | false => exact e
        | true => exact absurd ((hV _).mp e) x1
    | true =>
      obtain ⟨l, ch, w1, w2, w3⟩ := Bf_wy g2 (g4 rfl)
      obtain ⟨J2, g', us', y1, y2, y3, y4, y5⟩ := c_12 (lx := lx) (z := z) (E := E) (n := n) hU ha hb' hab w1 hB hf hn w2 w3 hJ
      obtain ⟨k', g'', us'', V, I3, J3, z1, z2, z3, z4, z5, z6, z7, z8⟩ := ih (k + 1) I1 J2 g' us' (by omega) y3 y4 y2 (fun c hc => by rw [y5 p (by omega) (by omega)]; exact q7 c hc)
      refine ⟨k', g'', us'', V, I3, J3, ?_, z2, z3, z4, z5, z6, Fcu_t g3 z7, Fj_t y5 z8⟩
      rw [← z1, e_9_30]
      simp (disch := first | assumption | omega) [k_St, n_St, i_St, j_St, r_St, wI_St, wJ_St, k_S0, n_S0, i_S0, j_S0, r_S0, wI_S0, wJ_S0, cI_s, cJ_s, cV_s, nR_s, nQ_s, nQ_n, lt_s_, gd_T, gd_t, Option.map_some, lits, neg_mI, nI_add, pk_mul, nI_clamp, nI_eq, nI_leI, nI_ltI, nm_eq, mn_eq, nm_lt, mn_lt, nm_le, mn_le, m_eq, bI_0, bI_1, l1, u0, g1, y1]
theorem c_9 (hU : CU K N R) (hP : Pl K N R p) (hp : 114 ≤ p) (q7 : ∀ c, c < 64 → hb (J p 10) c = isS F c) (ha : a < 64) (hb' : b < 64) (hs : isS F a = true) (h2 : 2 ≤ apt a b) : ∃ (k : Nat) (g : Nat → Nat → Bool) (us V : Nat → Bool) (I' : Nat → Nat → Int32) (J' : Nat → Nat → Int64), Ca lx 9 [.ref (z + 104), .ref (z + p), .int (nI a), .int (nI b)] (St z E n K N R I J) = some (some (.int (nI k)), St z E n K N R I' J') ∧ Bal g us a b k (2 * b) ∧ FV F g ∧ Cl F g us a V ∧ V (2 * a + 1) = true ∧ V (2 * b) = false ∧ Fcu I I' ∧ Fj J J' := by
  have u0 := hU.1
  obtain ⟨hab, hn⟩ := ap_n ha hb' h2
  have e4 := s_4 (lx := lx) ha hb' (St z E n K N R I J)
  have al : apt a b ≤ 14 := by unfold apt; omega
  obtain ⟨J1, g1, g2, g3⟩ := c_9i (lx := lx) (z := z) (E := E) (n := n) (I := I) (p := p) hU (nI a) (nI b) (0, 0) 5 0 (u2 J 104 4 0) (by omega) (fun w hw => by omega)
  have hJ : CFl J1 (fun _ _ => false) (fun _ => false) := ⟨fun w w1 w2 c hc => by rw [g2 w (by omega), hb_0], fun c hc => by rw [g3 104 (by decide), u2_s, hb_0]⟩
  obtain ⟨k, g, us, V, I2, J2, x1, x2, x3, x4, x5, x6, x7, x8⟩ := c_9l (lx := lx) (z := z) (E := E) (n := n) hU hP hp ha hb' hs hab hn (0, 0) 5 0 I J1 _ _ (by omega) (Bal_0 (a := a) (b := b)) (FV_0 (F := F)) hJ (fun c hc => by rw [g3 p (by omega), u2_a _ _ _ _ _ (by omega)]; exact q7 c hc)
  refine ⟨k, g, us, V, I2, J2, ?_, x2, x3, x4, x5, x6, x7, fun x y1 y2 => by rw [x8 x y1 y2, g3 x y2, u2_a _ _ _ _ _ y1]⟩
  have l1 : 1 < apt a b := by omega
  rw [← x1, ← g1, f_9]
  simp (disch := first | assumption | omega) [k_St, n_St, i_St, j_St, r_St, wI_St, wJ_St, k_S0, n_S0, i_S0, j_S0, r_S0, wI_S0, wJ_S0, cI_s, cJ_s, cV_s, nR_s, nQ_s, nQ_n, lt_s_, gd_T, gd_t, Option.map_some, lits, neg_mI, nI_add, pk_mul, nI_clamp, nI_eq, nI_leI, nI_ltI, nm_eq, mn_eq, nm_lt, mn_lt, nm_le, mn_le, m_eq, bI_0, bI_1, e4, l1, u0]
end CU6
