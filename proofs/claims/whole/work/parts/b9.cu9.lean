section CU9
variable {z : Nat} {E : aEt} {n : Nat} {K N : Nat → Nat} {R : Nat → Nat → Option Nat} {I : Nat → Nat → Int32} {J : Nat → Nat → Int64} {lx : List Value → aH → aO} {p s f : Nat} {ρ : Nat → Nat} {g g' : Nat → Nat → Bool} {us us' : Nat → Bool} {F : Nat → Nat → Nat} {a b k x c d w i cnt : Nat} {Q : Nat → Nat}
def Fmw (I I' : Nat → Nat → Int32) : Prop := (∀ a, a ≠ 132 → a ≠ 139 → a ≠ 140 → a ≠ 141 → a ≠ 142 → I' a = I a) ∧ ∀ k, k ≠ 27 → I' 132 k = I 132 k
theorem Fmw_t {I1 I2 : Nat → Nat → Int32} (h : Fmw I I1) (h2 : Fmw I1 I2) : Fmw I I2 := ⟨fun a x1 x2 x3 x4 x5 => (h2.1 a x1 x2 x3 x4 x5).trans (h.1 a x1 x2 x3 x4 x5), fun k hk => (h2.2 k hk).trans (h.2 k hk)⟩
theorem d_270t {l : Nat} {ch : Nat → Nat} (hU : MU K N R) (hD : MD K N R I f F) (ha : a < 64) (hb' : b < 64) (hab : a ≠ b) (hw : Wy F g us a b l ch) (hB : Bal g us a b k (2 * b)) (hf : FV F g) (hn : ∀ w, 1 ≤ w → w ≤ 4 → nxc a w ≠ b) (hc : ∀ i, i ≤ l → ch i < 128 ∧ (i < l → I 142 (ch i) = nI (ch (i + 1)))) (hJ : MFl I g us) (bb : aB) : ∃ I' g' us', Am lx 270 174 [some (.ref (z + 132)), some (.int (nI a)), none, some (.int (nI (2 * b))), none, none, none, none] [] bb (St z E n K N R I J) = some (some (.int (nI 1)), St z E n K N R I' J) ∧ MFl I' g' us' ∧ Bal g' us' a b (k + 1) (2 * b) ∧ FV F g' ∧ Fml I I' := by
  obtain ⟨m0, m1, m2, m3, m4, k1, k2, k3, k4, n1, n2, n3, n4⟩ := id hU
  have n2a := fun i hi => wy_2a hw hB hab (i := i) hi
  have n2b := fun i hi => wy_2b hw hB hab (i := i) hi
  have la := La_0 hw hB hf ha hb' hab hn
  obtain ⟨c0, cl, cd, cr⟩ := hw
  have key : ∀ (n' i : Nat) (I1 : Nat → Nat → Int32) (g : Nat → Nat → Bool) (us : Nat → Bool), i + n' = l → MFl I1 g us → Fml I I1 → La F g us a b k l ch i → ∃ I' g' us', Am lx 270 174 [some (.ref (z + 132)), some (.int (nI a)), none, some (.int (nI (ch i))), none, none, none, none] [] bb (St z E n K N R I1 J) = some (some (.int (nI 1)), St z E n K N R I' J) ∧ MFl I' g' us' ∧ La F g' us' a b k l ch l ∧ Fml I I' := by
    intro n'
    induction n' with
    | zero =>
      intro i I1 g us hi hJ hF h
      have e : i = l := by omega
      subst e
      refine ⟨I1, g, us, ?_, hJ, h, hF⟩
      rw [e_270_174, cl]
      simp (disch := first | assumption | omega) [k_St, n_St, i_St, j_St, r_St, wI_St, wJ_St, k_S0, n_S0, i_S0, j_S0, r_S0, wI_S0, wJ_S0, cI_s, cJ_s, cV_s, nR_s, nQ_s, nQ_n, lt_s_, gd_T, gd_t, Option.map_some, lits, neg_mI, nI_add, pk_mul, nI_clamp, nI_eq, nI_leI, nI_ltI, nm_eq, mn_eq, nm_lt, mn_lt, nm_le, mn_le, m_eq, bI_0, bI_1]
    | succ n' ih =>
      intro i I1 g us hi hJ hF h
      have il : i < l := by omega
      obtain ⟨x1, x2⟩ := hc i (by omega)
      have x2' : I1 142 (ch i) = nI (ch (i + 1)) := by rw [hF 142 (by decide) (by decide)]; exact x2 il
      obtain ⟨y1, _⟩ := hc (i + 1) (by omega)
      obtain ⟨I2, g1, us1, e1, e2, e3, e4⟩ := d_273 (lx := lx) (z := z) (E := E) (n := n) (J := J) hU (MD_f hD (fun a ha => hF a (by omega) (by omega))) hJ (h.2.2 i (Nat.le_refl _) il) h.2.1 y1 x1
      have hF2 : Fml I I2 := fun a a1 a2 => (e4 a a1 a2).trans (hF a a1 a2)
      obtain ⟨I3, g2, us2, k1', k2', k3', k4'⟩ := ih (i + 1) I2 g1 us1 (by omega) e2 hF2 (La_s cd c0 cl n2a n2b ha hb' hab h il e3)
      refine ⟨I3, g2, us2, ?_, k2', k3', k4'⟩
      have l2 : ¬ ch i = 2 * a + 1 := fun e => cd i l il (Nat.le_refl _) (by rw [e, cl])
      have x3 : I2 142 (ch i) = nI (ch (i + 1)) := by rw [e4 142 (by decide) (by decide)]; exact x2'
      rw [← k1', e_270_174]
      simp (disch := first | assumption | omega) [k_St, n_St, i_St, j_St, r_St, wI_St, wJ_St, k_S0, n_S0, i_S0, j_S0, r_S0, wI_S0, wJ_S0, cI_s, cJ_s, cV_s, nR_s, nQ_s, nQ_n, lt_s_, gd_T, gd_t, Option.map_some, lits, neg_mI, nI_add, pk_mul, nI_clamp, nI_eq, nI_leI, nI_ltI, nm_eq, mn_eq, nm_lt, mn_lt, nm_le, mn_le, m_eq, bI_0, bI_1, l2, m0, m4, k4, n4, x2', e1, x3]
  obtain ⟨I', g', us', e1, e2, e3, e4⟩ := key l 0 I g us (by omega) hJ (fun _ _ _ => rfl) la
  have hB' := e3.1
  rw [cl] at hB'
  rw [c0] at e1
  exact ⟨I', g', us', e1, e2, Bal_n hB' hab, e3.2.1, e4⟩
theorem d_270 (hU : MU K N R) (hD : MD K N R I f F) (ha : a < 64) (hb' : b < 64) (hs : isS F a = true) (hab : a ≠ b) (hn : ∀ w, 1 ≤ w → w ≤ 4 → nxc a w ≠ b) (hB : Bal g us a b k (2 * b)) (hf : FV F g) (hJ : MFl I g us) : ∃ (o : Bool) (I' : Nat → Nat → Int32), Ca lx 270 [.ref (z + 132), .int (nI a), .int (nI b)] (St z E n K N R I J) = some (some (.int (bI o)), St z E n K N R I' J) ∧ Fmw I I' ∧ (o = true → ∃ g' us', MFl I' g' us' ∧ Bal g' us' a b (k + 1) (2 * b) ∧ FV F g') ∧ (o = false → ∃ V : Nat → Bool, Cl F g us a V ∧ V (2 * a + 1) = true ∧ V (2 * b) = false) := by
  obtain ⟨m0, m1, m2, m3, m4, k1, k2, k3, k4, n1, n2, n3, n4⟩ := id hU
  obtain ⟨I1, g1, g2, g3⟩ := d_270i (lx := lx) (z := z) (E := E) (n := n) (J := J) hU (0, 0) (nI a) (nI b) 128 0 I (by omega) (fun x hx => by omega)
  have e2 := g2 (2 * a + 1) (by omega)
  generalize hI2 : u2 (u2 (u2 (u2 I1 132 27 (nI 0)) 142 (2 * a + 1) (nI (2 * a + 1))) 141 0 (nI (2 * a + 1))) 132 27 (nI 1) = I2
  have f2 : Fmu I I2 := by
    refine ⟨fun x x1 x2 x3 => ?_, fun k hk => ?_⟩
    · rw [← hI2, u2_a _ _ _ _ _ x1, u2_a _ _ _ _ _ x2, u2_a _ _ _ _ _ x3, u2_a _ _ _ _ _ x1, g3 x x3]
    · rw [← hI2, u2_k _ _ _ _ _ hk, u2_a _ _ _ _ _ (by decide), u2_a _ _ _ _ _ (by decide), u2_k _ _ _ _ _ hk, g3 132 (by decide)]
  have H : Bf 142 141 132 27 F g us a I2 1 (fun _ => 2 * a + 1) := by
    refine ⟨Nat.le_refl _, by rw [← hI2, u2_s], fun j hj => ?_, fun i j hi hj => by omega, rfl, ⟨2 * a + 1, by omega, ?_⟩, fun j j1 j2 => by omega, fun x hx => ?_⟩
    · have : j = 0 := by omega
      subst this
      exact ⟨show 2 * a + 1 < 128 by omega, by rw [← hI2]; simp (disch := first | assumption | omega) [u2_s, u2_a, u2_k], by rw [show (2 * a + 1) / 2 = a by omega]; exact hs⟩
    · rw [← hI2]; simp (disch := first | assumption | omega) [u2_s, u2_a, u2_k]
    · by_cases e : x = 2 * a + 1
      · right; exact ⟨0, by omega, e.symm⟩
      · left
        have := g2 x hx
        rw [← hI2]
        simp (disch := first | assumption | omega) [u2_s, u2_a, u2_k]
        exact this
  obtain ⟨I3, c3, Q3, x1, x2, x3, x4⟩ := d_270l (lx := lx) (z := z) (E := E) (n := n) (J := J) hU ha hb' (0, 0) 129 0 I2 1 _ (by omega) (MD_m hD f2) (MFl_f hJ f2) H (by omega) (fun j hj => by omega)
  have f3 := Fmu_t f2 x3
  have r0 : Ca lx 270 [.ref (z + 132), .int (nI a), .int (nI b)] (St z E n K N R I J) = Am lx 270 159 [some (.ref (z + 132)), some (.int (nI a)), some (.int (nI b)), none, none, none, none, none] [] (0, 0) (St z E n K N R I3 J) := by
    rw [← x1, f_270]
    rw [show (0 : Int32) = nI 0 from rfl, g1, e_270_3]
    simp (disch := first | assumption | omega) [k_St, n_St, i_St, j_St, r_St, wI_St, wJ_St, k_S0, n_S0, i_S0, j_S0, r_S0, wI_S0, wJ_S0, cI_s, cJ_s, cV_s, nR_s, nQ_s, nQ_n, lt_s_, gd_T, gd_t, Option.map_some, lits, neg_mI, nI_add, pk_mul, nI_clamp, nI_eq, nI_leI, nI_ltI, nm_eq, mn_eq, nm_lt, mn_lt, nm_le, mn_le, m_eq, bI_0, bI_1, m0]
    rw [f_269]
    simp (disch := first | assumption | omega) [k_St, n_St, i_St, j_St, r_St, wI_St, wJ_St, k_S0, n_S0, i_S0, j_S0, r_S0, wI_S0, wJ_S0, cI_s, cJ_s, cV_s, nR_s, nQ_s, nQ_n, lt_s_, gd_T, gd_t, Option.map_some, lits, neg_mI, nI_add, pk_mul, nI_clamp, nI_eq, nI_leI, nI_ltI, nm_eq, mn_eq, nm_lt, mn_lt, nm_le, mn_le, m_eq, bI_0, bI_1, m0, m3, m4, k3, k4, n3, n4, e2, u2_s, u2_a, u2_k]
    rw [hI2]
  by_cases ev : I3 142 (2 * b) = mI 1
  · have nv : ¬ Vs Q3 c3 (2 * b) := fun h => (Bf_v x2 (by omega)).mp h ev
    have hV : ∀ x, anyB (fun j => decide (Q3 j = x)) c3 = true ↔ Vs Q3 c3 x := fun x => by
      rw [anyB_t]; simp only [decide_eq_true_eq]; rfl
    refine ⟨false, I3, ?_, ⟨fun x y1 y2 y3 y4 y5 => f3.1 x y1 y4 y5, f3.2⟩, fun h => absurd h (by decide), fun _ => ⟨fun x => anyB (fun j => decide (Q3 j = x)) c3, Cl_e (x4 nv) _ hV, (hV _).mpr ⟨0, x2.1, x2.2.2.2.2.1⟩, ?_⟩⟩
    · rw [r0, e_270_159]
      simp (disch := first | assumption | omega) [k_St, n_St, i_St, j_St, r_St, wI_St, wJ_St, k_S0, n_S0, i_S0, j_S0, r_S0, wI_S0, wJ_S0, cI_s, cJ_s, cV_s, nR_s, nQ_s, nQ_n, lt_s_, gd_T, gd_t, Option.map_some, lits, neg_mI, nI_add, pk_mul, nI_clamp, nI_eq, nI_leI, nI_ltI, nm_eq, mn_eq, nm_lt, mn_lt, nm_le, mn_le, m_eq, bI_0, bI_1, m0, m4, k4, n4, ev] <;> rfl
    · cases e : anyB (fun j => decide (Q3 j = 2 * b)) c3 with
      | false => exact e
      | true => exact absurd ((hV _).mp e) nv
  · obtain ⟨l, ch, w1, w2, w3⟩ := Bf_wy x2 ((Bf_v x2 (by omega)).mpr ev)
    obtain ⟨I4, g', us', y1, y2, y3, y4, y5⟩ := d_270t (lx := lx) (z := z) (E := E) (n := n) (J := J) hU (MD_m hD f3) ha hb' hab w1 hB hf hn w3 (MFl_f hJ f3) (0, 0)
    refine ⟨true, I4, ?_, ⟨fun x q1 q2 q3 q4 q5 => by rw [y5 x q2 q3]; exact f3.1 x q1 q4 q5, fun k hk => by rw [y5 132 (by decide) (by decide)]; exact f3.2 k hk⟩, fun _ => ⟨g', us', y2, y3, y4⟩, fun h => absurd h (by decide)⟩
    rw [r0, e_270_159]
    simp (disch := first | assumption | omega) [k_St, n_St, i_St, j_St, r_St, wI_St, wJ_St, k_S0, n_S0, i_S0, j_S0, r_S0, wI_S0, wJ_S0, cI_s, cJ_s, cV_s, nR_s, nQ_s, nQ_n, lt_s_, gd_T, gd_t, Option.map_some, lits, neg_mI, nI_add, pk_mul, nI_clamp, nI_eq, nI_leI, nI_ltI, nm_eq, mn_eq, nm_lt, mn_lt, nm_le, mn_le, m_eq, bI_0, bI_1, m0, m4, k4, n4, ev]
    rw [y1]; rfl
theorem d_274l (hU : MU K N R) (ha : a < 64) (hb' : b < 64) (hs : isS F a = true) (hab : a ≠ b) (hn : ∀ w, 1 ≤ w → w ≤ 4 → nxc a w ≠ b) (eb : F 0 6 = b) (bb : aB) : ∀ (n' k : Nat) (I : Nat → Nat → Int32) (g : Nat → Nat → Bool) (us : Nat → Bool), k + n' = 5 → MD K N R I f F → MFl I g us → Bal g us a b k (2 * b) → FV F g → ∃ (k' : Nat) (g' : Nat → Nat → Bool) (us' V : Nat → Bool) (I' : Nat → Nat → Int32), Am lx 274 57 [some (.ref (z + 132)), none, some (.int (nI a)), some (.int (nI k))] [] bb (St z E n K N R I J) = some (some (.int (nI k')), St z E n K N R (u2 (u2 I' 132 1 (nI 0)) 132 2 (mI 1)) J) ∧ Bal g' us' a b k' (2 * b) ∧ FV F g' ∧ Cl F g' us' a V ∧ V (2 * a + 1) = true ∧ V (2 * b) = false ∧ Fmw I I' := by
  intro n'
  have m0 := hU.1
  induction n' with
  | zero =>
    intro k I g us hk hD hJ hB hf
    have := ou_4 (g := g) (c := a)
    have := hB.2.2.2.2.2.2
    omega
  | succ n' ih =>
    intro k I g us hk hD hJ hB hf
    have fk := hD.2.1.2.1
    have r3 := hD.2.2.1
    have q6 := hD.2.2.2.1.1 6 (by decide)
    rw [eb] at q6
    obtain ⟨o, I1, e1, e2, e3, e4⟩ := d_270 (lx := lx) (z := z) (E := E) (n := n) (J := J) hU hD ha hb' hs hab hn hB hf hJ
    cases o with
    | false =>
      obtain ⟨V, v1, v2, v3⟩ := e4 rfl
      refine ⟨k, g, us, V, I1, ?_, hB, hf, v1, v2, v3, e2⟩
      have e85 : Ca lx 185 [.ref (z + 132), .int (nI k)] (St z E n K N R I1 J) = some (some (.int (nI k)), St z E n K N R (u2 (u2 I1 132 1 (nI 0)) 132 2 (mI 1)) J) := by
        rw [f_185]
        simp (disch := first | assumption | omega) [k_St, n_St, i_St, j_St, r_St, wI_St, wJ_St, k_S0, n_S0, i_S0, j_S0, r_S0, wI_S0, wJ_S0, cI_s, cJ_s, cV_s, nR_s, nQ_s, nQ_n, lt_s_, gd_T, gd_t, Option.map_some, lits, neg_mI, nI_add, pk_mul, nI_clamp, nI_eq, nI_leI, nI_ltI, nm_eq, mn_eq, nm_lt, mn_lt, nm_le, mn_le, m_eq, bI_0, bI_1, m0]
      rw [e_274_57]
      simp (disch := first | assumption | omega) [k_St, n_St, i_St, j_St, r_St, wI_St, wJ_St, k_S0, n_S0, i_S0, j_S0, r_S0, wI_S0, wJ_S0, cI_s, cJ_s, cV_s, nR_s, nQ_s, nQ_n, lt_s_, gd_T, gd_t, Option.map_some, lits, neg_mI, nI_add, pk_mul, nI_clamp, nI_eq, nI_leI, nI_ltI, nm_eq, mn_eq, nm_lt, mn_lt, nm_le, mn_le, m_eq, bI_0, bI_1, m0, r3, fk, q6, e1, e85]
    | true =>
      obtain ⟨g', us', x1, x2, x3⟩ := e3 rfl
      obtain ⟨k', g'', us'', V, I2, y1, y2, y3, y4, y5, y6, y7⟩ := ih (k + 1) I1 g' us' (by omega) (MD_f hD (fun a ha => e2.1 a (by omega) (by omega) (by omega) (by omega) (by omega))) x1 x2 x3
      refine ⟨k', g'', us'', V, I2, ?_, y2, y3, y4, y5, y6, Fmw_t e2 y7⟩
      rw [← y1, e_274_57]
      simp (disch := first | assumption | omega) [k_St, n_St, i_St, j_St, r_St, wI_St, wJ_St, k_S0, n_S0, i_S0, j_S0, r_S0, wI_S0, wJ_S0, cI_s, cJ_s, cV_s, nR_s, nQ_s, nQ_n, lt_s_, gd_T, gd_t, Option.map_some, lits, neg_mI, nI_add, pk_mul, nI_clamp, nI_eq, nI_leI, nI_ltI, nm_eq, mn_eq, nm_lt, mn_lt, nm_le, mn_le, m_eq, bI_0, bI_1, m0, r3, fk, q6, e1]
theorem d_274i (hU : MU K N R) (bb : aB) (va : Int32) : ∀ (n' i : Nat) (I : Nat → Nat → Int32), i + n' = 320 → (∀ x, x < i → I 139 x = nI 0) → ∃ I', Am lx 274 31 [some (.ref (z + 132)), none, some (.int va), some (.int (nI i))] [] bb (St z E n K N R I J) = Am lx 274 44 [some (.ref (z + 132)), none, some (.int va), some (.int (nI 0))] [] bb (St z E n K N R I' J) ∧ (∀ x, x < 320 → I' 139 x = nI 0) ∧ (∀ a, a ≠ 139 → I' a = I a) := by
  intro n'
  obtain ⟨m0, m1, m2, m3, m4, k1, k2, k3, k4, n1, n2, n3, n4⟩ := id hU
  induction n' with
  | zero =>
    intro i I hi hd
    have e : i = 320 := by omega
    subst e
    refine ⟨I, ?_, hd, fun _ _ => rfl⟩
    rw [e_274_31]
    simp (disch := first | assumption | omega) [k_St, n_St, i_St, j_St, r_St, wI_St, wJ_St, k_S0, n_S0, i_S0, j_S0, r_S0, wI_S0, wJ_S0, cI_s, cJ_s, cV_s, nR_s, nQ_s, nQ_n, lt_s_, gd_T, gd_t, Option.map_some, lits, neg_mI, nI_add, pk_mul, nI_clamp, nI_eq, nI_leI, nI_ltI, nm_eq, mn_eq, nm_lt, mn_lt, nm_le, mn_le, m_eq, bI_0, bI_1]
  | succ n' ih =>
    intro i I hi hd
    obtain ⟨I', g1, g2, g3⟩ := ih (i + 1) (u2 I 139 i (nI 0)) (by omega) (fun x hx => by
      by_cases e : x = i
      · rw [e, u2_s]
      · rw [u2_k _ _ _ _ _ e]; exact hd x (by omega))
    refine ⟨I', ?_, g2, fun a ha => by rw [g3 a ha, u2_a _ _ _ _ _ ha]⟩
    have l1 : ¬ 320 ≤ i := by omega
    rw [← g1, e_274_31]
    simp (disch := first | assumption | omega) [k_St, n_St, i_St, j_St, r_St, wI_St, wJ_St, k_S0, n_S0, i_S0, j_S0, r_S0, wI_S0, wJ_S0, cI_s, cJ_s, cV_s, nR_s, nQ_s, nQ_n, lt_s_, gd_T, gd_t, Option.map_some, lits, neg_mI, nI_add, pk_mul, nI_clamp, nI_eq, nI_leI, nI_ltI, nm_eq, mn_eq, nm_lt, mn_lt, nm_le, mn_le, m_eq, bI_0, bI_1, m0, m1, k1, n1, l1]
theorem d_274j (hU : MU K N R) (bb : aB) (va : Int32) : ∀ (n' i : Nat) (I : Nat → Nat → Int32), i + n' = 64 → (∀ x, x < i → I 140 x = nI 0) → ∃ I', Am lx 274 44 [some (.ref (z + 132)), none, some (.int va), some (.int (nI i))] [] bb (St z E n K N R I J) = Am lx 274 57 [some (.ref (z + 132)), none, some (.int va), some (.int (nI 0))] [] bb (St z E n K N R I' J) ∧ (∀ x, x < 64 → I' 140 x = nI 0) ∧ (∀ a, a ≠ 140 → I' a = I a) := by
  intro n'
  obtain ⟨m0, m1, m2, m3, m4, k1, k2, k3, k4, n1, n2, n3, n4⟩ := id hU
  induction n' with
  | zero =>
    intro i I hi hd
    have e : i = 64 := by omega
    subst e
    refine ⟨I, ?_, hd, fun _ _ => rfl⟩
    rw [e_274_44]
    simp (disch := first | assumption | omega) [k_St, n_St, i_St, j_St, r_St, wI_St, wJ_St, k_S0, n_S0, i_S0, j_S0, r_S0, wI_S0, wJ_S0, cI_s, cJ_s, cV_s, nR_s, nQ_s, nQ_n, lt_s_, gd_T, gd_t, Option.map_some, lits, neg_mI, nI_add, pk_mul, nI_clamp, nI_eq, nI_leI, nI_ltI, nm_eq, mn_eq, nm_lt, mn_lt, nm_le, mn_le, m_eq, bI_0, bI_1]
  | succ n' ih =>
    intro i I hi hd
    obtain ⟨I', g1, g2, g3⟩ := ih (i + 1) (u2 I 140 i (nI 0)) (by omega) (fun x hx => by
      by_cases e : x = i
      · rw [e, u2_s]
      · rw [u2_k _ _ _ _ _ e]; exact hd x (by omega))
    refine ⟨I', ?_, g2, fun a ha => by rw [g3 a ha, u2_a _ _ _ _ _ ha]⟩
    have l1 : ¬ 64 ≤ i := by omega
    rw [← g1, e_274_44]
    simp (disch := first | assumption | omega) [k_St, n_St, i_St, j_St, r_St, wI_St, wJ_St, k_S0, n_S0, i_S0, j_S0, r_S0, wI_S0, wJ_S0, cI_s, cJ_s, cV_s, nR_s, nQ_s, nQ_n, lt_s_, gd_T, gd_t, Option.map_some, lits, neg_mI, nI_add, pk_mul, nI_clamp, nI_eq, nI_leI, nI_ltI, nm_eq, mn_eq, nm_lt, mn_lt, nm_le, mn_le, m_eq, bI_0, bI_1, m0, m2, k2, n2, l1]
theorem o_134 (h : CW K N R I J p s F ρ) (x : Int32) : OQ lx z E n K N R I J f F ρ 134 274 [.int x] := by
  have h0 : CW K N R (u2 I 0 11 (nI 0)) J p s F ρ := CW_u h
  have e62 := c_162 (lx := lx) (z := z) (E := E) (n := n) h x
  obtain ⟨hL, ⟨hW15, hW19, hP, hPs, hps, _⟩, _, hF, hO, hR, hρ, _⟩ := h
  have hU : CU K N R := by
    obtain ⟨c0, c1, c2, c3, c4, c5, c6, c7, c8, c9, c10, c11, c12, c13, c14, c15, c16, c17, c18, c19, c20, c21, c22, c23, c24, c25, c26, c27, c28, c29, c30, c31, c32, c33, c34, c35, c36, c37, c38, c39, c40, c41, c42, c43, _⟩ := hL
    exact ⟨c34, c35, c36, c37, c38, c39, c40, c41, c42, c43⟩
  obtain ⟨k0, _, r1, r2, _, r4, r5, _, _, rp, _⟩ := hL
  have k104 := hU.1
  have kp := hP.1
  have k15 := hW15.1
  have hp : 114 ≤ p := by omega
  have o8 : F 0 8 ≤ 4 := hO.2.2.2.2.2.2.2.2.2.2.2.2.1
  have hwS := hO.2.2.2.2.2.2.2.2.2.2.1
  have hwl := isS_lt hwS
  rcases rg_i x (n := F 0 8) (by omega) with c | ⟨g, hg, eg⟩
  · rw [c] at e62
    refine ⟨1, mI 1, by decide, by decide, ⟨_, _, ?_, CQ_u⟩, fun I2 J2 hM => ⟨_, ?_, MQ_1⟩⟩
    · rw [f_134]
      simp [k_St, n_St, i_St, j_St, r_St, wI_St, wJ_St, k_S0, n_S0, i_S0, j_S0, r_S0, wI_S0, wJ_S0, cI_s, cJ_s, cV_s, nR_s, nQ_s, nQ_n, lt_s_, gd_T, gd_t, Option.map_some, lits, neg_mI, nI_add, pk_mul, nI_clamp, nI_eq, nI_leI, nI_ltI, nm_eq, mn_eq, nm_lt, mn_lt, nm_le, mn_le, m_eq, bI_0, bI_1, k0, e62, c_160]
    · rw [f_274]
      have e := d_227 (lx := lx) (z := z) (E := E) (n := n) (J := J2) (MV_0 hM).1 x
      rw [c] at e
      have km := hM.1.1.1
      simp [k_St, n_St, i_St, j_St, r_St, wI_St, wJ_St, k_S0, n_S0, i_S0, j_S0, r_S0, wI_S0, wJ_S0, cI_s, cJ_s, cV_s, nR_s, nQ_s, nQ_n, lt_s_, gd_T, gd_t, Option.map_some, lits, neg_mI, nI_add, pk_mul, nI_clamp, nI_eq, nI_leI, nI_ltI, nm_eq, mn_eq, nm_lt, mn_lt, nm_le, mn_le, m_eq, bI_0, bI_1, km, e, d_182]
  · subst eg
    rw [rg_t hg (by omega)] at e62
    have e100 := s_100 (lx := lx) (z := z) (E := E) (n := n) hP h0.2.2.2.1 hW15 h0.2.2.2.2.2.1 hO (ROk_a hρ) hg
    have pS := plc_S hO (ROk_a hρ) hg
    have l := isS_lt pS
    have q6 : u2 I 0 11 (nI 0) p 6 = nI (F 0 6) := h0.2.2.2.1.1 6 (by decide)
    have al : apt (plc F ρ g) (F 0 6) ≤ 14 := by unfold apt; omega
    have r100 : ∀ (v : Int32) (I' : Nat → Nat → Int32) (J' : Nat → Nat → Int64), Ca lx 9 [.ref (z + 104), .ref (z + p), .int (nI (plc F ρ g)), .int (nI (F 0 6))] (St z E n K N R (u2 I 0 11 (nI 0)) J) = some (some (.int v), St z E n K N R I' J') → Ca lx 134 [.ref z, .int (nI g)] (St z E n K N R I J) = some (some (.int v), St z E n K N R I' J') := fun v I' J' e9 => by
      rw [f_134]
      simp (disch := first | assumption | omega) [k_St, n_St, i_St, j_St, r_St, wI_St, wJ_St, k_S0, n_S0, i_S0, j_S0, r_S0, wI_S0, wJ_S0, cI_s, cJ_s, cV_s, nR_s, nQ_s, nQ_n, lt_s_, gd_T, gd_t, Option.map_some, lits, neg_mI, nI_add, pk_mul, nI_clamp, nI_eq, nI_leI, nI_ltI, nm_eq, mn_eq, nm_lt, mn_lt, nm_le, mn_le, m_eq, bI_0, bI_1, k0, e62, c_160, rp, kp, r5, r1, k15, e100, k104, q6, e9]
    have rM : ∀ (I2 : Nat → Nat → Int32) (J2 : Nat → Nat → Int64), MV K N R I2 f F ρ → ∀ (v : Int32) (I' : Nat → Nat → Int32), (if (2 : Int32) ≤ nI (apt (plc F ρ g) (F 0 6)) then Am lx 274 31 [some (.ref (z + 132)), none, some (.int (nI (plc F ρ g))), some (.int (nI 0))] [] (0, 0) (St z E n K N R (pr (u2 I2 132 0 (nI 0)) 135 145 ρ) J2) else some (some (.int (mI 2)), St z E n K N R (u2 (u2 (pr (u2 I2 132 0 (nI 0)) 135 145 ρ) 132 1 (nI 0)) 132 2 (mI 1)) J2)) = some (some (.int v), St z E n K N R I' J2) → Ca lx 274 [.ref (z + 132), .int (nI g)] (St z E n K N R I2 J2) = some (some (.int v), St z E n K N R I' J2) := fun I2 J2 hM v I' hr => by
      have hM0 := MV_0 hM
      have e := d_227 (lx := lx) (z := z) (E := E) (n := n) (J := J2) hM0.1 (nI g)
      rw [rg_t hg (by omega)] at e
      have e231 := s_231 (lx := lx) (z := z) (E := E) (n := n) (J := J2) hM0.1 hM0.2.1
      have e233 := s_233 (lx := lx) (z := z) (E := E) (n := n) (J := J2) hM0.1 (ROk_a hρ) hg
      have e191 := s_191 (lx := lx) l hwl (St z E n K N R (pr (u2 I2 132 0 (nI 0)) 135 145 ρ) J2)
      obtain ⟨⟨km, _⟩, ⟨f0, kf, _⟩, rf, ⟨q0, _⟩, _⟩ := hM0.1
      have q6' : pr (u2 I2 132 0 (nI 0)) 135 145 ρ f 6 = nI (F 0 6) := by rw [pr_n (by omega)]; exact q0 6 (by decide)
      have e85 : Ca lx 185 [.ref (z + 132), .int (mI 2)] (St z E n K N R (pr (u2 I2 132 0 (nI 0)) 135 145 ρ) J2) = some (some (.int (mI 2)), St z E n K N R (u2 (u2 (pr (u2 I2 132 0 (nI 0)) 135 145 ρ) 132 1 (nI 0)) 132 2 (mI 1)) J2) := by
        rw [f_185]
        simp (disch := first | assumption | omega) [k_St, n_St, i_St, j_St, r_St, wI_St, wJ_St, k_S0, n_S0, i_S0, j_S0, r_S0, wI_S0, wJ_S0, cI_s, cJ_s, cV_s, nR_s, nQ_s, nQ_n, lt_s_, gd_T, gd_t, Option.map_some, lits, neg_mI, nI_add, pk_mul, nI_clamp, nI_eq, nI_leI, nI_ltI, nm_eq, mn_eq, nm_lt, mn_lt, nm_le, mn_le, m_eq, bI_0, bI_1, km]
      rw [f_274]
      simp (disch := first | assumption | omega) [k_St, n_St, i_St, j_St, r_St, wI_St, wJ_St, k_S0, n_S0, i_S0, j_S0, r_S0, wI_S0, wJ_S0, cI_s, cJ_s, cV_s, nR_s, nQ_s, nQ_n, lt_s_, gd_T, gd_t, Option.map_some, lits, neg_mI, nI_add, pk_mul, nI_clamp, nI_eq, nI_leI, nI_ltI, nm_eq, mn_eq, nm_lt, mn_lt, nm_le, mn_le, m_eq, bI_0, bI_1, km, e, e231, e233, rf, kf, q6', e191, e85]
      rw [← hr]
      by_cases c2 : 2 ≤ apt (plc F ρ g) (F 0 6)
      · rw [if_pos c2, if_pos (by rw [show (2 : Int32) = nI 2 from rfl, nI_leI (by decide) (by omega)]; exact c2)]
      · rw [if_neg c2, if_neg (by rw [show (2 : Int32) = nI 2 from rfl, nI_leI (by decide) (by omega)]; exact c2)]
    by_cases c2 : 2 ≤ apt (plc F ρ g) (F 0 6)
    · obtain ⟨k, gg, us, V, I', J', e1, e2, e3, e4, e5, e6, e7, e8⟩ := c_9 (lx := lx) (z := z) (E := E) (n := n) (I := u2 I 0 11 (nI 0)) hU hP hp hF.2.2.2.2.2.2.2 l hwl pS c2
      obtain ⟨hab, hnn⟩ := ap_n l hwl c2
      refine ⟨0, nI k, by decide, by decide, ⟨I', J', r100 _ _ _ e1, ⟨fun a a1 a2 => ⟨?_, ?_⟩, fun q hq => ?_, ?_, e8 0 (by decide) (by decide)⟩⟩, fun I2 J2 hM => ?_⟩
      · unfold scC at a2
        rw [e7.1 a (by omega) (by omega) (by omega), u2_a _ _ _ _ _ (by omega)]
      · unfold scC at a2
        exact e8 a (by omega) (by omega)
      · rw [e7.1 0 (by decide) (by decide) (by decide), u2_k _ _ _ _ _ hq]
      · rw [e7.1 0 (by decide) (by decide) (by decide), u2_s]
      · have hM0 := MV_0 hM
        have hUm := MU_o hM0.1.1
        have hD1 : MD K N R (pr (u2 I2 132 0 (nI 0)) 135 145 ρ) f F := MD_f hM0.1 (fun a ha => pr_n (by omega))
        obtain ⟨I3, x1, x2, x3⟩ := d_274i (lx := lx) (z := z) (E := E) (n := n) (J := J2) hUm (0, 0) (nI (plc F ρ g)) 320 0 (pr (u2 I2 132 0 (nI 0)) 135 145 ρ) (by omega) (fun x hx => by omega)
        obtain ⟨I4, y1, y2, y3⟩ := d_274j (lx := lx) (z := z) (E := E) (n := n) (J := J2) hUm (0, 0) (nI (plc F ρ g)) 64 0 I3 (by omega) (fun x hx => by omega)
        have hJ0 : MFl I4 (fun _ _ => false) (fun _ => false) := ⟨fun w w1 w2 c hc => by rw [y3 139 (by decide), x2 _ (by omega)]; rfl, fun c hc => by rw [y2 c hc]; rfl⟩
        have hD4 : MD K N R I4 f F := MD_f hD1 (fun a ha => by rw [y3 a (by omega), x3 a (by omega)])
        obtain ⟨k', g', us', V', I5, z1, z2, z3, z4, z5, z6, z7⟩ := d_274l (lx := lx) (z := z) (E := E) (n := n) (J := J2) hUm l hwl pS hab hnn rfl (0, 0) 5 0 I4 _ _ (by omega) hD4 hJ0 (Bal_0 (a := plc F ρ g) (b := F 0 6)) (FV_0 (F := F))
        have ek : k' = k := by
          have d1 := dual e2 e3 z2 z3 l hab e5 e6 e4
          have d2 := dual z2 z3 e2 e3 l hab z5 z6 z4
          omega
        subst ek
        refine ⟨u2 (u2 I5 132 1 (nI 0)) 132 2 (mI 1), rM I2 J2 hM _ _ ?_, ⟨fun a a1 a2 => ?_, fun q q0 q1 q2 q3 q4 q5 => ?_, ?_, ?_, ?_⟩⟩
        · rw [if_pos (by rw [show (2 : Int32) = nI 2 from rfl, nI_leI (by decide) (by omega)]; exact c2), x1, y1, z1]
        · unfold scM at a2
          rw [u2_a _ _ _ _ _ a1, u2_a _ _ _ _ _ a1, z7.1 a a1 (by omega) (by omega) (by omega) (by omega), y3 a (by omega), x3 a (by omega), pr_n (by omega), u2_a _ _ _ _ _ a1]
        · rw [u2_k _ _ _ _ _ q2, u2_k _ _ _ _ _ q1, z7.2 q q3, y3 132 (by decide), x3 132 (by decide), pr_n (by decide), u2_k _ _ _ _ _ q0]
        · rw [u2_k _ _ _ _ _ (by decide), u2_k _ _ _ _ _ (by decide), z7.2 0 (by decide), y3 132 (by decide), x3 132 (by decide), pr_n (by decide), u2_s]
        · rw [u2_k _ _ _ _ _ (by decide), u2_s]
        · rw [u2_s]
    · have e4 := s_4 (lx := lx) l hwl (St z E n K N R (u2 I 0 11 (nI 0)) J)
      refine ⟨0, mI 2, by decide, by decide, ⟨_, _, r100 (mI 2) (u2 I 0 11 (nI 0)) J ?_, CQ_u⟩, fun I2 J2 hM => ⟨_, rM I2 J2 hM _ _ ?_, MQ_p (ρ := ρ)⟩⟩
      · have l1 : ¬ 1 < apt (plc F ρ g) (F 0 6) := by omega
        rw [f_9]
        simp (disch := first | assumption | omega) [k_St, n_St, i_St, j_St, r_St, wI_St, wJ_St, k_S0, n_S0, i_S0, j_S0, r_S0, wI_S0, wJ_S0, cI_s, cJ_s, cV_s, nR_s, nQ_s, nQ_n, lt_s_, gd_T, gd_t, Option.map_some, lits, neg_mI, nI_add, pk_mul, nI_clamp, nI_eq, nI_leI, nI_ltI, nm_eq, mn_eq, nm_lt, mn_lt, nm_le, mn_le, m_eq, bI_0, bI_1, e4, l1]
      · rw [if_neg (by rw [show (2 : Int32) = nI 2 from rfl, nI_leI (by decide) (by omega)]; exact c2)]
end CU9
theorem law_ok : LawOk := law_of (fun z E n K N R I J p s f F ρ h x => o_134 h x)
