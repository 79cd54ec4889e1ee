section CU8
variable {z : Nat} {E : aEt} {n : Nat} {K N : Nat → Nat} {R : Nat → Nat → Option Nat} {I : Nat → Nat → Int32} {J : Nat → Nat → Int64} {lx : List Value → aH → aO} {f : Nat} {g g' : Nat → Nat → Bool} {us us' : Nat → Bool} {F : Nat → Nat → Nat} {a b k x c d w i cnt : Nat} {Q : Nat → Nat}
theorem d_270n {u : Nat} {o : Bool} (hU : MU K N R) (hD : MD K N R I f F) (hJ : MFl I g us) (ha : a < 64) (H : Bf 142 141 132 27 F g us a I cnt Q) (hi : i < cnt) (hq : Q i = u) (hu : u = 2 * c + o.toNat) (hc : c < 64) (hsc : isS F c = true) (vb : Int32) (bb : aB) : ∃ I' cnt' Q', Am lx 270 62 [some (.ref (z + 132)), some (.int (nI a)), some (.int vb), some (.int (nI i)), some (.int (nI c)), none, none, none] [.int (bI o)] bb (St z E n K N R I J) = Am lx 270 31 [some (.ref (z + 132)), some (.int (nI a)), some (.int vb), some (.int (nI (i + 1))), none, none, none, none] [] bb (St z E n K N R I' J) ∧ Bf 142 141 132 27 F g us a I' cnt' Q' ∧ Mo2 cnt Q cnt' Q' ∧ Fmu I I' ∧ Ce F g us a u (Vs Q' cnt') := by
  obtain ⟨m0, m1, m2, m3, m4, k1, k2, k3, k4, n1, n2, n3, n4⟩ := id hU
  have hn := Bf_n H
  have on : o.toNat ≤ 1 := by cases o <;> decide
  have ul : u < 128 := by omega
  have eus := hJ.2 c hc
  have lq := (H.2.2.1 i hi).2.1
  rw [hq] at lq
  have b0 : bI false = nI 0 := rfl
  have b1 : ¬ bI true = nI 0 := by decide
  obtain ⟨I1, c1, Q1, g1, g2, g3, g4, g5⟩ : ∃ I1 c1 Q1, Am lx 270 62 [some (.ref (z + 132)), some (.int (nI a)), some (.int vb), some (.int (nI i)), some (.int (nI c)), none, none, none] [.int (bI o)] bb (St z E n K N R I J) = Am lx 270 101 [some (.ref (z + 132)), some (.int (nI a)), some (.int vb), some (.int (nI i)), some (.int (nI c)), some (.int (bI o)), some (.int (nI 1)), none] [] bb (St z E n K N R I1 J) ∧ Bf 142 141 132 27 F g us a I1 c1 Q1 ∧ Mo2 cnt Q c1 Q1 ∧ Fmu I I1 ∧ (o = us c → Vs Q1 c1 (if o then 2 * c else 2 * c + 1)) := by
    cases o with
    | true =>
      have hu' : u = 2 * c + 1 := hu
      cases hus : us c with
      | true =>
        rw [hus] at eus
        obtain ⟨I1, c1, Q1, x1, x2, x3, x4, x5⟩ := d_269 (lx := lx) (z := z) (E := E) (n := n) (J := J) (v := 2 * c) hU H hi (by omega) (by rw [hq]; exact Or.inr (Or.inl ⟨c, hc, hu', rfl, hus⟩)) (by rw [show 2 * c / 2 = c by omega]; exact hsc)
        rw [hq] at x1
        refine ⟨I1, c1, Q1, ?_, x2, x3, x5, fun _ => x4⟩
        rw [e_270_62]
        simp (disch := first | assumption | omega) [k_St, n_St, i_St, j_St, r_St, wI_St, wJ_St, k_S0, n_S0, i_S0, j_S0, r_S0, wI_S0, wJ_S0, cI_s, cJ_s, cV_s, nR_s, nQ_s, nQ_n, lt_s_, gd_T, gd_t, Option.map_some, lits, neg_mI, nI_add, pk_mul, nI_clamp, nI_eq, nI_leI, nI_ltI, nm_eq, mn_eq, nm_lt, mn_lt, nm_le, mn_le, m_eq, bI_0, bI_1, b1, m0, m2, k2, n2, eus, m3, k3, n3, lq, x1]
        rw [e_270_80]
        simp (disch := first | assumption | omega) [k_St, n_St, i_St, j_St, r_St, wI_St, wJ_St, k_S0, n_S0, i_S0, j_S0, r_S0, wI_S0, wJ_S0, cI_s, cJ_s, cV_s, nR_s, nQ_s, nQ_n, lt_s_, gd_T, gd_t, Option.map_some, lits, neg_mI, nI_add, pk_mul, nI_clamp, nI_eq, nI_leI, nI_ltI, nm_eq, mn_eq, nm_lt, mn_lt, nm_le, mn_le, m_eq, bI_0, bI_1, b1]
      | false =>
        rw [hus] at eus
        refine ⟨I, cnt, Q, ?_, H, Mo2_r, Fmu_r, fun h => absurd h (by decide)⟩
        rw [e_270_62]
        simp (disch := first | assumption | omega) [k_St, n_St, i_St, j_St, r_St, wI_St, wJ_St, k_S0, n_S0, i_S0, j_S0, r_S0, wI_S0, wJ_S0, cI_s, cJ_s, cV_s, nR_s, nQ_s, nQ_n, lt_s_, gd_T, gd_t, Option.map_some, lits, neg_mI, nI_add, pk_mul, nI_clamp, nI_eq, nI_leI, nI_ltI, nm_eq, mn_eq, nm_lt, mn_lt, nm_le, mn_le, m_eq, bI_0, bI_1, b1, m0, m2, k2, n2, eus, b0]
        rw [e_270_80]
        simp (disch := first | assumption | omega) [k_St, n_St, i_St, j_St, r_St, wI_St, wJ_St, k_S0, n_S0, i_S0, j_S0, r_S0, wI_S0, wJ_S0, cI_s, cJ_s, cV_s, nR_s, nQ_s, nQ_n, lt_s_, gd_T, gd_t, Option.map_some, lits, neg_mI, nI_add, pk_mul, nI_clamp, nI_eq, nI_leI, nI_ltI, nm_eq, mn_eq, nm_lt, mn_lt, nm_le, mn_le, m_eq, bI_0, bI_1, b1]
    | false =>
      have hu' : u = 2 * c := hu
      cases hus : us c with
      | false =>
        rw [hus] at eus
        obtain ⟨I1, c1, Q1, x1, x2, x3, x4, x5⟩ := d_269 (lx := lx) (z := z) (E := E) (n := n) (J := J) (v := 2 * c + 1) hU H hi (by omega) (by rw [hq]; exact Or.inl ⟨c, hc, hu', rfl, hus⟩) (by rw [show (2 * c + 1) / 2 = c by omega]; exact hsc)
        rw [hq] at x1
        refine ⟨I1, c1, Q1, ?_, x2, x3, x5, fun _ => x4⟩
        rw [e_270_62]
        simp (disch := first | assumption | omega) [k_St, n_St, i_St, j_St, r_St, wI_St, wJ_St, k_S0, n_S0, i_S0, j_S0, r_S0, wI_S0, wJ_S0, cI_s, cJ_s, cV_s, nR_s, nQ_s, nQ_n, lt_s_, gd_T, gd_t, Option.map_some, lits, neg_mI, nI_add, pk_mul, nI_clamp, nI_eq, nI_leI, nI_ltI, nm_eq, mn_eq, nm_lt, mn_lt, nm_le, mn_le, m_eq, bI_0, bI_1, b0]
        rw [e_270_80]
        simp (disch := first | assumption | omega) [k_St, n_St, i_St, j_St, r_St, wI_St, wJ_St, k_S0, n_S0, i_S0, j_S0, r_S0, wI_S0, wJ_S0, cI_s, cJ_s, cV_s, nR_s, nQ_s, nQ_n, lt_s_, gd_T, gd_t, Option.map_some, lits, neg_mI, nI_add, pk_mul, nI_clamp, nI_eq, nI_leI, nI_ltI, nm_eq, mn_eq, nm_lt, mn_lt, nm_le, mn_le, m_eq, bI_0, bI_1, m0, m2, k2, n2, eus, b0, m3, k3, n3, lq, x1]
      | true =>
        rw [hus] at eus
        refine ⟨I, cnt, Q, ?_, H, Mo2_r, Fmu_r, fun h => absurd h (by decide)⟩
        rw [e_270_62]
        simp (disch := first | assumption | omega) [k_St, n_St, i_St, j_St, r_St, wI_St, wJ_St, k_S0, n_S0, i_S0, j_S0, r_S0, wI_S0, wJ_S0, cI_s, cJ_s, cV_s, nR_s, nQ_s, nQ_n, lt_s_, gd_T, gd_t, Option.map_some, lits, neg_mI, nI_add, pk_mul, nI_clamp, nI_eq, nI_leI, nI_ltI, nm_eq, mn_eq, nm_lt, mn_lt, nm_le, mn_le, m_eq, bI_0, bI_1, b0]
        rw [e_270_80]
        simp (disch := first | assumption | omega) [k_St, n_St, i_St, j_St, r_St, wI_St, wJ_St, k_S0, n_S0, i_S0, j_S0, r_S0, wI_S0, wJ_S0, cI_s, cJ_s, cV_s, nR_s, nQ_s, nQ_n, lt_s_, gd_T, gd_t, Option.map_some, lits, neg_mI, nI_add, pk_mul, nI_clamp, nI_eq, nI_leI, nI_ltI, nm_eq, mn_eq, nm_lt, mn_lt, nm_le, mn_le, m_eq, bI_0, bI_1, m0, m2, k2, n2, eus, b1]
  obtain ⟨I2, c2, Q2, y1, y2, y3, y4, y5⟩ := d_270w (lx := lx) (z := z) (E := E) (n := n) (i := i) (J := J) hU hu hc hsc ha vb bb 4 1 I1 c1 Q1 (by omega) (by omega) (MD_m hD g4) (MFl_f hJ g4) g2 (by have := g3.1; omega) (by rw [g3.2 i hi]; exact hq) (fun v v1 v2 => by omega)
  refine ⟨I2, c2, Q2, g1.trans y1, y2, Mo2_t g3 y3, Fmu_t g4 y4, fun c' x1 x2 x3 x4 => ?_, fun c' x1 x2 x3 x4 => ?_, fun c' w x1 x2 x3 x4 x5 x6 x7 => ?_, fun c' w x1 x2 x3 x4 x5 x6 => ?_⟩
  · cases o with
    | true => simp at hu; omega
    | false =>
      simp at hu
      have e : c' = c := by omega
      rw [e] at x4 ⊢
      exact Vs_m y3 (g5 x4.symm)
  · cases o with
    | false => simp at hu; omega
    | true =>
      simp at hu
      have e : c' = c := by omega
      rw [e] at x4 ⊢
      exact Vs_m y3 (g5 x4.symm)
  · cases o with
    | false => simp at hu; omega
    | true =>
      simp at hu
      have e : c' = c := by omega
      rw [e] at x5 x7 ⊢
      exact (y5 w x2 x3).1 rfl x5 x7
  · cases o with
    | true => simp at hu; omega
    | false =>
      simp at hu
      have e : c' = c := by omega
      rw [e] at x5 x6 ⊢
      exact (y5 w x2 x3).2 rfl x5 x6
theorem d_270l (hU : MU K N R) (ha : a < 64) (hb' : b < 64) (bb : aB) : ∀ (n' i : Nat) (I : Nat → Nat → Int32) (cnt : Nat) (Q : Nat → Nat), i + n' = 129 → MD K N R I f F → MFl I g us → Bf 142 141 132 27 F g us a I cnt Q → i ≤ cnt → (∀ j, j < i → Ce F g us a (Q j) (Vs Q cnt)) → ∃ (I' : Nat → Nat → Int32) (cnt' : Nat) (Q' : Nat → Nat), Am lx 270 31 [some (.ref (z + 132)), some (.int (nI a)), some (.int (nI b)), some (.int (nI i)), none, none, none, none] [] bb (St z E n K N R I J) = Am lx 270 159 [some (.ref (z + 132)), some (.int (nI a)), some (.int (nI b)), none, none, none, none, none] [] bb (St z E n K N R I' J) ∧ Bf 142 141 132 27 F g us a I' cnt' Q' ∧ Fmu I I' ∧ (¬ Vs Q' cnt' (2 * b) → ∀ j, j < cnt' → Ce F g us a (Q' j) (Vs Q' cnt')) := by
  intro n'
  obtain ⟨m0, m1, m2, m3, m4, k1, k2, k3, k4, n1, n2, n3, n4⟩ := id hU
  induction n' with
  | zero =>
    intro i I cnt Q hi hD hJ H hc hd
    have hn := Bf_n H
    omega
  | succ n' ih =>
    intro i I cnt Q hi hD hJ H hc hd
    have hn := Bf_n H
    have i2 := H.2.1
    by_cases e : i = cnt
    · refine ⟨I, cnt, Q, ?_, H, Fmu_r, fun _ j hj => hd j (by omega)⟩
      have l2 : cnt ≤ i := by omega
      rw [e_270_31]
      simp (disch := first | assumption | omega) [k_St, n_St, i_St, j_St, r_St, wI_St, wJ_St, k_S0, n_S0, i_S0, j_S0, r_S0, wI_S0, wJ_S0, cI_s, cJ_s, cV_s, nR_s, nQ_s, nQ_n, lt_s_, gd_T, gd_t, Option.map_some, lits, neg_mI, nI_add, pk_mul, nI_clamp, nI_eq, nI_leI, nI_ltI, nm_eq, mn_eq, nm_lt, mn_lt, nm_le, mn_le, m_eq, bI_0, bI_1, m0, i2, l2]
    · have il : i < cnt := by omega
      have l2 : ¬ cnt ≤ i := by omega
      by_cases ev : I 142 (2 * b) = mI 1
      · obtain ⟨q1, q2, q3⟩ := H.2.2.1 i il
        obtain ⟨d1, d2⟩ := dv2 (Q i) q1
        have r62 : Am lx 270 31 [some (.ref (z + 132)), some (.int (nI a)), some (.int (nI b)), some (.int (nI i)), none, none, none, none] [] bb (St z E n K N R I J) = Am lx 270 62 [some (.ref (z + 132)), some (.int (nI a)), some (.int (nI b)), some (.int (nI i)), some (.int (nI (Q i / 2))), none, none, none] [.int (bI (decide (Q i % 2 = 1)))] bb (St z E n K N R I J) := by
          rw [d1, pk_mul] at d2
          rw [e_270_31]
          simp (disch := first | assumption | omega) [k_St, n_St, i_St, j_St, r_St, wI_St, wJ_St, k_S0, n_S0, i_S0, j_S0, r_S0, wI_S0, wJ_S0, cI_s, cJ_s, cV_s, nR_s, nQ_s, nQ_n, lt_s_, gd_T, gd_t, Option.map_some, lits, neg_mI, nI_add, pk_mul, nI_clamp, nI_eq, nI_leI, nI_ltI, nm_eq, mn_eq, nm_lt, mn_lt, nm_le, mn_le, m_eq, bI_0, bI_1, m0, i2, l2, m4, k4, n4, ev, m3, k3, n3, q2, d1, d2]
          by_cases o : Q i % 2 = 1
          · rw [if_pos o, decide_eq_true o]; rfl
          · rw [if_neg o, decide_eq_false o]; rfl
        have hu : Q i = 2 * (Q i / 2) + (decide (Q i % 2 = 1)).toNat := by
          by_cases o : Q i % 2 = 1
          · rw [decide_eq_true o]; simp; omega
          · rw [decide_eq_false o]; simp; omega
        obtain ⟨I1, c1, Q1, g1, g2, g3, g4, g5⟩ := d_270n (lx := lx) (z := z) (E := E) (n := n) (J := J) hU hD hJ ha H il rfl hu (by omega) q3 (nI b) bb
        obtain ⟨I2, c2, Q2, x1, x2, x3, x4⟩ := ih (i + 1) I1 c1 Q1 (by omega) (MD_m hD g4) (MFl_f hJ g4) g2 (by have := g3.1; omega) (fun j hj => by
          by_cases ej : j = i
          · rw [ej, g3.2 i il]; exact g5
          · have := hd j (by omega)
            rw [g3.2 j (by omega)]
            exact Ce_m this (fun x hx => Vs_m g3 hx))
        exact ⟨I2, c2, Q2, r62.trans (g1.trans x1), x2, Fmu_t g4 x3, x4⟩
      · refine ⟨I, cnt, Q, ?_, H, Fmu_r, fun h => absurd ((Bf_v H (by omega)).mpr ev) h⟩
        rw [e_270_31]
        simp (disch := first | assumption | omega) [k_St, n_St, i_St, j_St, r_St, wI_St, wJ_St, k_S0, n_S0, i_S0, j_S0, r_S0, wI_S0, wJ_S0, cI_s, cJ_s, cV_s, nR_s, nQ_s, nQ_n, lt_s_, gd_T, gd_t, Option.map_some, lits, neg_mI, nI_add, pk_mul, nI_clamp, nI_eq, nI_leI, nI_ltI, nm_eq, mn_eq, nm_lt, mn_lt, nm_le, mn_le, m_eq, bI_0, bI_1, m0, i2, l2, m4, k4, n4, ev]
theorem d_270i (hU : MU K N R) (bb : aB) (va vb : Int32) : ∀ (n' i : Nat) (I : Nat → Nat → Int32), i + n' = 128 → (∀ x, x < i → I 142 x = mI 1) → ∃ I', Am lx 270 3 [some (.ref (z + 132)), some (.int va), some (.int vb), some (.int (nI i)), none, none, none, none] [] bb (St z E n K N R I J) = Am lx 270 3 [some (.ref (z + 132)), some (.int va), some (.int vb), some (.int (nI 128)), none, none, none, none] [] bb (St z E n K N R I' J) ∧ (∀ x, x < 128 → I' 142 x = mI 1) ∧ (∀ a, a ≠ 142 → I' a = I a) := by
  intro n'
  obtain ⟨m0, m1, m2, m3, m4, k1, k2, k3, k4, n1, n2, n3, n4⟩ := id hU
  induction n' with
  | zero =>
    intro i I hi hd
    have e : i = 128 := by omega
    subst e
    exact ⟨I, rfl, hd, fun _ _ => rfl⟩
  | succ n' ih =>
    intro i I hi hd
    obtain ⟨I', g1, g2, g3⟩ := ih (i + 1) (u2 I 142 i (mI 1)) (by omega) (fun x hx => by
      by_cases e : x = i
      · rw [e, u2_s]
      · rw [u2_k _ _ _ _ _ e]; exact hd x (by omega))
    refine ⟨I', ?_, g2, fun a ha => by rw [g3 a ha, u2_a _ _ _ _ _ ha]⟩
    have l1 : ¬ 128 ≤ i := by omega
    rw [← g1, e_270_3]
    simp (disch := first | assumption | omega) [k_St, n_St, i_St, j_St, r_St, wI_St, wJ_St, k_S0, n_S0, i_S0, j_S0, r_S0, wI_S0, wJ_S0, cI_s, cJ_s, cV_s, nR_s, nQ_s, nQ_n, lt_s_, gd_T, gd_t, Option.map_some, lits, neg_mI, nI_add, pk_mul, nI_clamp, nI_eq, nI_leI, nI_ltI, nm_eq, mn_eq, nm_lt, mn_lt, nm_le, mn_le, m_eq, bI_0, bI_1, m0, m4, k4, n4, l1]
/-! a way is laid -/
theorem d_272 (hD : MD K N R I f F) (m0 : K 132 = 11) (hc : c < 64) (hs : isS F c = true) (hd : isS F d = true) (hw : 1 ≤ w) (hw2 : w ≤ 4) (e : nxc c w = d) : Ca lx 272 [.ref (z + 132), .int (nI c), .int (nI d)] (St z E n K N R I J) = some (some (.int (nI w)), (St z E n K N R I J)) := by
  have fk := hD.2.1.2.1
  have r3 := hD.2.2.1
  have hdl := isS_lt hd
  have key : ∀ n' v, v + n' = w → 1 ≤ v → Am lx 272 3 [some (.ref (z + 132)), some (.int (nI c)), some (.int (nI d)), some (.int (nI v))] [] (0, 0) (St z E n K N R I J) = some (some (.int (nI w)), (St z E n K N R I J)) := by
    intro n'
    induction n' with
    | zero =>
      intro v hv v1
      have ev : v = w := by omega
      subst ev
      have e7 := s_177 (lx := lx) (z := z) (E := E) (n := n) (J := J) hD hc (isS_in hs) (show v < 5 by omega) hw
      rw [nf_e (by rw [e]; exact hd), e, oI_lt hdl] at e7
      rw [e_272_3]
      simp (disch := first | assumption | omega) [k_St, n_St, i_St, j_St, r_St, wI_St, wJ_St, k_S0, n_S0, i_S0, j_S0, r_S0, wI_S0, wJ_S0, cI_s, cJ_s, cV_s, nR_s, nQ_s, nQ_n, lt_s_, gd_T, gd_t, Option.map_some, lits, neg_mI, nI_add, pk_mul, nI_clamp, nI_eq, nI_leI, nI_ltI, nm_eq, mn_eq, nm_lt, mn_lt, nm_le, mn_le, m_eq, bI_0, bI_1, m0, r3, fk, e7]
    | succ n' ih =>
      intro v hv v1
      have e7 := s_177 (lx := lx) (z := z) (E := E) (n := n) (J := J) hD hc (isS_in hs) (show v < 5 by omega) v1
      have nl := nx_0 c hc v (by omega)
      have en : ¬ oI (nf F c v) = nI d := by
        unfold nf
        by_cases q : nxc c v < 64 ∧ inF F (nxc c v) = true
        · rw [if_pos q, oI_lt q.1, nI_eq (by omega) (by omega)]
          intro h
          have := nx_w c hc v (by omega) w (by omega) v1 hw q.1 (by rw [h, e])
          omega
        · rw [if_neg q, oI_ge (by decide)]
          intro h
          exact (mn_eq (by omega) (by omega) (by omega)).mp h
      rw [e_272_3]
      simp (disch := first | assumption | omega) [k_St, n_St, i_St, j_St, r_St, wI_St, wJ_St, k_S0, n_S0, i_S0, j_S0, r_S0, wI_S0, wJ_S0, cI_s, cJ_s, cV_s, nR_s, nQ_s, nQ_n, lt_s_, gd_T, gd_t, Option.map_some, lits, neg_mI, nI_add, pk_mul, nI_clamp, nI_eq, nI_leI, nI_ltI, nm_eq, mn_eq, nm_lt, mn_lt, nm_le, mn_le, m_eq, bI_0, bI_1, m0, r3, fk, e7, en]
      exact ih (v + 1) (by omega) (by omega)
  rw [f_272]
  exact key (w - 1) 1 (by omega) (by omega)
def Fml (I I' : Nat → Nat → Int32) : Prop := ∀ a, a ≠ 139 → a ≠ 140 → I' a = I a
theorem d_273 {u v : Nat} (hU : MU K N R) (hD : MD K N R I f F) (hJ : MFl I g us) (hV : Vd F g us u v) (hf : FV F g) (hu : u < 128) (hv : v < 128) : ∃ I' g' us', Ca lx 273 [.ref (z + 132), .int (nI u), .int (nI v)] (St z E n K N R I J) = some (none, St z E n K N R I' J) ∧ MFl I' g' us' ∧ Tn g us u v g' us' ∧ Fml I I' := by
  obtain ⟨m0, m1, m2, m3, m4, k1, k2, k3, k4, n1, n2, n3, n4⟩ := id hU
  obtain ⟨s1, s2⟩ := dv2 u hu
  obtain ⟨s3, s4⟩ := dv2 v hv
  rw [s1, pk_mul] at s2
  rw [s3, pk_mul] at s4
  by_cases e : u / 2 = v / 2
  · refine ⟨u2 I 140 (u / 2) (bI (decide (v % 2 = 1))), g, upB us (u / 2) (decide (v % 2 = 1)), ?_, ⟨fun w w1 w2 c hc => ?_, fun c hc => ?_⟩, Or.inl ⟨e, rfl, rfl⟩, fun x x1 x2 => u2_a _ _ _ _ _ x2⟩
    · rw [f_273]
      have vl : v / 2 < 64 := by omega
      by_cases o : v % 2 = 1
      · rw [decide_eq_true o]
        simp (disch := first | assumption | omega) [k_St, n_St, i_St, j_St, r_St, wI_St, wJ_St, k_S0, n_S0, i_S0, j_S0, r_S0, wI_S0, wJ_S0, cI_s, cJ_s, cV_s, nR_s, nQ_s, nQ_n, lt_s_, gd_T, gd_t, Option.map_some, lits, neg_mI, nI_add, pk_mul, nI_clamp, nI_eq, nI_leI, nI_ltI, nm_eq, mn_eq, nm_lt, mn_lt, nm_le, mn_le, m_eq, bI_0, bI_1, s1, s2, s3, s4, e, m0, m2, k2, n2, o] <;> rfl
      · have o0 : v % 2 = 0 := by omega
        rw [decide_eq_false o]
        simp (disch := first | assumption | omega) [k_St, n_St, i_St, j_St, r_St, wI_St, wJ_St, k_S0, n_S0, i_S0, j_S0, r_S0, wI_S0, wJ_S0, cI_s, cJ_s, cV_s, nR_s, nQ_s, nQ_n, lt_s_, gd_T, gd_t, Option.map_some, lits, neg_mI, nI_add, pk_mul, nI_clamp, nI_eq, nI_leI, nI_ltI, nm_eq, mn_eq, nm_lt, mn_lt, nm_le, mn_le, m_eq, bI_0, bI_1, s1, s2, s3, s4, e, m0, m2, k2, n2, o0] <;> rfl
    · rw [u2_a _ _ _ _ _ (by decide)]; exact hJ.1 w w1 w2 c hc
    · unfold upB
      by_cases ec : c = u / 2
      · rw [ec, u2_s, if_pos rfl]
      · rw [u2_k _ _ _ _ _ ec, if_neg ec]; exact hJ.2 c hc
  · have fl : ∀ (c w : Nat) (t : Bool), c < 64 → 1 ≤ w → w ≤ 4 → MFl (u2 I 139 (5 * c + w) (bI t)) (u2 g c w t) us := fun c w t c1 w1 w2 => by
      refine ⟨fun j j1 j2 c' hc' => ?_, fun c' hc' => by rw [u2_a _ _ _ _ _ (by decide)]; exact hJ.2 c' hc'⟩
      by_cases q : c' = c ∧ j = w
      · rw [q.1, q.2, u2_s, u2_s]
      · rw [u2_k _ _ _ _ _ (by omega)]
        by_cases q1 : c' = c
        · rw [u2_w _ _ _ _ _ _ (fun q2 => q ⟨q1, q2⟩)]; exact hJ.1 j j1 j2 c' hc'
        · rw [u2_a _ _ _ _ _ q1]; exact hJ.1 j j1 j2 c' hc'
    rcases hV with ⟨c, c1, c2, c3, c4⟩ | ⟨c, c1, c2, c3, c4⟩ | ⟨c, w, c1, c2, c3, c4, c5, c6, c7, c8⟩ | ⟨c, w, c1, c2, c3, c4, c5, c6, c7⟩
    · omega
    · omega
    · have hn := isS_lt c7
      have eu : u / 2 = c := by omega
      have ev : v / 2 = nxc c w := by omega
      have uo : u % 2 = 1 := by omega
      have e72 := d_272 (lx := lx) (z := z) (E := E) (n := n) (J := J) hD m0 c1 c6 c7 c2 c3 rfl
      refine ⟨u2 I 139 (5 * c + w) (bI true), u2 g c w true, us, ?_, fl c w true c1 c2 c3, Or.inr ⟨e, rfl, Or.inl ⟨uo, w, c2, c3, by rw [eu, ev], by rw [eu]⟩⟩, fun x x1 x2 => u2_a _ _ _ _ _ x1⟩
      have ne : ¬ c = nxc c w := by omega
      rw [eu] at s1 s2
      rw [ev] at s3 s4
      rw [uo] at s2
      rw [f_273]
      simp (disch := first | assumption | omega) [k_St, n_St, i_St, j_St, r_St, wI_St, wJ_St, k_S0, n_S0, i_S0, j_S0, r_S0, wI_S0, wJ_S0, cI_s, cJ_s, cV_s, nR_s, nQ_s, nQ_n, lt_s_, gd_T, gd_t, Option.map_some, lits, neg_mI, nI_add, pk_mul, nI_clamp, nI_eq, nI_leI, nI_ltI, nm_eq, mn_eq, nm_lt, mn_lt, nm_le, mn_le, m_eq, bI_0, bI_1, s1, s2, s3, s4, ne, m0, m1, k1, n1, e72] <;> rfl
    · have eu : u / 2 = nxc c w := by omega
      have ev : v / 2 = c := by omega
      have uo : u % 2 = 0 := by omega
      obtain ⟨_, _, f3, f4⟩ := hf c w c7
      have e72 := d_272 (lx := lx) (z := z) (E := E) (n := n) (J := J) hD m0 c1 f3 f4 c2 c3 rfl
      refine ⟨u2 I 139 (5 * c + w) (bI false), u2 g c w false, us, ?_, fl c w false c1 c2 c3, Or.inr ⟨e, rfl, Or.inr ⟨uo, w, c2, c3, by rw [eu, ev], by rw [ev]⟩⟩, fun x x1 x2 => u2_a _ _ _ _ _ x1⟩
      have ne : ¬ nxc c w = c := by omega
      rw [eu] at s1 s2
      rw [ev] at s3 s4
      rw [uo] at s2
      rw [f_273]
      simp (disch := first | assumption | omega) [k_St, n_St, i_St, j_St, r_St, wI_St, wJ_St, k_S0, n_S0, i_S0, j_S0, r_S0, wI_S0, wJ_S0, cI_s, cJ_s, cV_s, nR_s, nQ_s, nQ_n, lt_s_, gd_T, gd_t, Option.map_some, lits, neg_mI, nI_add, pk_mul, nI_clamp, nI_eq, nI_leI, nI_ltI, nm_eq, mn_eq, nm_lt, mn_lt, nm_le, mn_le, m_eq, bI_0, bI_1, s1, s2, s3, s4, ne, m0, m1, k1, n1, e72] <;> rfl
end CU8
