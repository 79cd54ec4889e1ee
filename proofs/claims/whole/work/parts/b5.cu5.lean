section CU5
variable {z : Nat} {E : aEt} {n : Nat} {K N : Nat → Nat} {R : Nat → Nat → Option Nat} {I : Nat → Nat → Int32} {J : Nat → Nat → Int64} {lx : List Value → aH → aO} {p : Nat} {g g' : Nat → Nat → Bool} {us us' : Nat → Bool} {F : Nat → Nat → Nat} {a b k x c d w i cnt : Nat} {Q : Nat → Nat}
theorem pk_mul2 (b : Nat) : (2 : Int32) * nI b = nI (2 * b) := by
  rw [show (2 : Int32) = nI 2 from rfl, pk_mul]
theorem bI_i (x y : Bool) : bI x = bI y ↔ x = y := by revert x y; decide
theorem c_10n {u : Nat} {o : Bool} (hU : CU K N R) (hP : Pl K N R p) (hJ : CFl J g us) (q7 : ∀ c, c < 64 → hb (J p 10) c = isS F c) (ha : a < 64) (hb' : b < 64) (H : Bf 105 106 104 2 F g us a I cnt Q) (hi : i < cnt) (hq : Q i = u) (hu : u = 2 * c + o.toNat) (hc : c < 64) (hsc : isS F c = true) (nb : u ≠ 2 * b) (bb : aB) : ∃ I' cnt' Q', Am lx 10 55 [some (.ref (z + 104)), some (.ref (z + p)), some (.int (nI a)), some (.int (nI b)), some (.int (nI i)), some (.int (nI u)), some (.int (nI c)), none, none, none] [.int (bI o)] bb (St z E n K N R I J) = Am lx 10 31 [some (.ref (z + 104)), some (.ref (z + p)), some (.int (nI a)), some (.int (nI b)), some (.int (nI (i + 1))), none, none, none, none, none] [] bb (St z E n K N R I' J) ∧ Bf 105 106 104 2 F g us a I' cnt' Q' ∧ Mo2 cnt Q cnt' Q' ∧ Fcu I I' ∧ Ce F g us a u (Vs Q' cnt') := by
  have u0 := hU.1
  have on : o.toNat ≤ 1 := by cases o <;> decide
  have ul : u < 128 := by omega
  have e5 := s_5 (lx := lx) (J 104 4) hc (St z E n K N R I J)
  rw [hJ.2 c hc] at e5
  -- the other side of the cell
  obtain ⟨I1, c1, Q1, g1, g2, g3, g4, g5⟩ : ∃ I1 c1 Q1, Am lx 10 55 [some (.ref (z + 104)), some (.ref (z + p)), some (.int (nI a)), some (.int (nI b)), some (.int (nI i)), some (.int (nI u)), some (.int (nI c)), none, none, none] [.int (bI o)] bb (St z E n K N R I J) = Am lx 10 81 [some (.ref (z + 104)), some (.ref (z + p)), some (.int (nI a)), some (.int (nI b)), some (.int (nI i)), some (.int (nI u)), some (.int (nI c)), some (.int (bI o)), some (.int (nI 1)), none] [] bb (St z E n K N R I1 J) ∧ Bf 105 106 104 2 F g us a I1 c1 Q1 ∧ Mo2 cnt Q c1 Q1 ∧ Fcu I I1 ∧ (c ≠ a → o = us c → Vs Q1 c1 (if o then 2 * c else 2 * c + 1)) := by
    have nb' : ¬ u = 2 * b := nb
    by_cases eo : o = us c
    · by_cases ea : c = a
      · refine ⟨I, cnt, Q, ?_, H, Mo2_r, Fcu_r, fun h => absurd ea h⟩
        rw [e_10_55]
        simp only [k_St, j_St, u0, gd_t, e5, cI_s, show (1 : Int32) = nI 1 from rfl]
        rw [if_neg (by rw [pk_mul2, nI_eq (by omega) (by omega)]; exact nb), if_pos (by rw [eo]), if_pos (by rw [ea])]
      · have hr : Rs F g us (Q i) (if o then 2 * c else 2 * c + 1) := by
          rw [hq, hu]
          cases o with
          | true => exact Or.inr (Or.inl ⟨c, hc, rfl, rfl, eo.symm⟩)
          | false => exact Or.inl ⟨c, hc, rfl, rfl, eo.symm⟩
        have vl : (if o then 2 * c else 2 * c + 1) < 128 ∧ (if o then 2 * c else 2 * c + 1) / 2 = c := by cases o <;> simp <;> omega
        obtain ⟨I1, c1, Q1, x1, x2, x3, x4, x5⟩ := c_11 (lx := lx) (z := z) (E := E) (n := n) (J := J) hU H hi vl.1 hr (by rw [vl.2]; exact hsc)
        refine ⟨I1, c1, Q1, ?_, x2, x3, x5, fun _ _ => x4⟩
        have ex : nI u ^^^ nI 1 = nI (if o then 2 * c else 2 * c + 1) := by
          rw [xo1 u ul]
          cases o with
          | true => rw [hu, if_neg (show ¬ (2 * c + true.toNat) % 2 = 0 by simp)]; rfl
          | false => rw [hu, if_pos (show (2 * c + false.toNat) % 2 = 0 by simp)]; rfl
        have en : ¬ nI c = nI a := by rw [nI_eq (by omega) (by omega)]; exact ea
        rw [hq] at x1
        rw [e_10_55]
        simp only [k_St, j_St, u0, gd_t, e5, cI_s, show (1 : Int32) = nI 1 from rfl, ex, x1, cV_s]
        rw [if_neg (by rw [pk_mul2, nI_eq (by omega) (by omega)]; exact nb), if_pos (by rw [eo]), if_neg en]
    · refine ⟨I, cnt, Q, ?_, H, Mo2_r, Fcu_r, fun _ h => absurd h eo⟩
      have eb : ¬ bI o = bI (us c) := by rw [bI_i]; exact eo
      rw [e_10_55]
      simp only [k_St, j_St, u0, gd_t, e5, cI_s, show (1 : Int32) = nI 1 from rfl]
      rw [if_neg (by rw [pk_mul2, nI_eq (by omega) (by omega)]; exact nb), if_neg eb]
  obtain ⟨I2, c2, Q2, k1, k2, k3, k4, k5⟩ := c_10w (lx := lx) (z := z) (E := E) (n := n) (b := b) (i := i) hU hP hJ q7 hu hc hsc bb 4 1 I1 c1 Q1 (by omega) (by omega) g2 (by have := g3.1; omega) (by rw [g3.2 i hi]; exact hq) (fun v v1 v2 => by omega)
  refine ⟨I2, c2, Q2, g1.trans k1, k2, Mo2_t g3 k3, Fcu_t g4 k4, fun c' x1 x2 x3 x4 => ?_, fun c' x1 x2 x3 x4 => ?_, fun c' w x1 x2 x3 x4 x5 x6 x7 => ?_, fun c' w x1 x2 x3 x4 x5 x6 => ?_⟩
  · cases o with
    | true => simp at hu; omega
    | false =>
      simp at hu
      have e : c' = c := by omega
      rw [e] at x3 x4 ⊢
      exact Vs_m k3 (g5 x3 x4.symm)
  · cases o with
    | false => simp at hu; omega
    | true =>
      simp at hu
      have e : c' = c := by omega
      rw [e] at x3 x4 ⊢
      exact Vs_m k3 (g5 x3 x4.symm)
  · cases o with
    | false => simp at hu; omega
    | true =>
      simp at hu
      have e : c' = c := by omega
      rw [e] at x5 x6 ⊢
      exact (k5 w x2 x3).1 rfl x5 x6
  · cases o with
    | true => simp at hu; omega
    | false =>
      simp at hu
      have e : c' = c := by omega
      rw [e] at x5 x6 ⊢
      exact (k5 w x2 x3).2 rfl x5 x6
theorem c_10l (hU : CU K N R) (hP : Pl K N R p) (hJ : CFl J g us) (q7 : ∀ c, c < 64 → hb (J p 10) c = isS F c) (ha : a < 64) (hb' : b < 64) (bb : aB) : ∀ (n' i : Nat) (I : Nat → Nat → Int32) (cnt : Nat) (Q : Nat → Nat), i + n' = 128 → Bf 105 106 104 2 F g us a I cnt Q → i ≤ cnt → (∀ j, j < i → Ce F g us a (Q j) (Vs Q cnt) ∧ Q j ≠ 2 * b) → ∃ (o : Bool) (I' : Nat → Nat → Int32) (cnt' : Nat) (Q' : Nat → Nat), Am lx 10 31 [some (.ref (z + 104)), some (.ref (z + p)), some (.int (nI a)), some (.int (nI b)), some (.int (nI i)), none, none, none, none, none] [] bb (St z E n K N R I J) = some (some (.int (bI o)), St z E n K N R I' J) ∧ Bf 105 106 104 2 F g us a I' cnt' Q' ∧ Fcu I I' ∧ (o = true → Vs Q' cnt' (2 * b)) ∧ (o = false → ¬ Vs Q' cnt' (2 * b) ∧ ∀ j, j < cnt' → Ce F g us a (Q' j) (Vs Q' cnt')) := by
  intro n'
  obtain ⟨u0, u1, u2', u3, u4, u5, u6, u7, u8, u9⟩ := id hU
  induction n' with
  | zero =>
    intro i I cnt Q hi H hc hd
    have hn := Bf_n H
    have e : i = 128 := by omega
    have e2 : cnt = 128 := by omega
    subst e
    refine ⟨false, I, cnt, Q, ?_, H, Fcu_r, fun h => absurd h (by decide), fun _ => ⟨fun ⟨j, j1, j2⟩ => (hd j (by omega)).2 j2, fun j hj => (hd j (by omega)).1⟩⟩
    rw [e_10_31]
    simp (disch := first | assumption | omega) [k_St, n_St, i_St, j_St, r_St, wI_St, wJ_St, k_S0, n_S0, i_S0, j_S0, r_S0, wI_S0, wJ_S0, cI_s, cJ_s, cV_s, nR_s, nQ_s, nQ_n, lt_s_, gd_T, gd_t, Option.map_some, lits, neg_mI, nI_add, pk_mul, nI_clamp, nI_eq, nI_leI, nI_ltI, nm_eq, mn_eq, nm_lt, mn_lt, nm_le, mn_le, m_eq, bI_0, bI_1] <;> rfl
  | succ n' ih =>
    intro i I cnt Q hi H hc hd
    have hn := Bf_n H
    have i2 := H.2.1
    by_cases e : i = cnt
    · refine ⟨false, I, cnt, Q, ?_, H, Fcu_r, fun h => absurd h (by decide), fun _ => ⟨fun ⟨j, j1, j2⟩ => (hd j (by omega)).2 j2, fun j hj => (hd j (by omega)).1⟩⟩
      rw [e_10_31]
      have l1 : ¬ 128 ≤ i := by omega
      have l2 : cnt ≤ i := by omega
      simp (disch := first | assumption | omega) [k_St, n_St, i_St, j_St, r_St, wI_St, wJ_St, k_S0, n_S0, i_S0, j_S0, r_S0, wI_S0, wJ_S0, cI_s, cJ_s, cV_s, nR_s, nQ_s, nQ_n, lt_s_, gd_T, gd_t, Option.map_some, lits, neg_mI, nI_add, pk_mul, nI_clamp, nI_eq, nI_leI, nI_ltI, nm_eq, mn_eq, nm_lt, mn_lt, nm_le, mn_le, m_eq, bI_0, bI_1, u0, i2, l1, l2] <;> rfl
    · have il : i < cnt := by omega
      obtain ⟨q1, q2, q3⟩ := H.2.2.1 i il
      have l1 : ¬ 128 ≤ i := by omega
      have l2 : ¬ cnt ≤ i := by omega
      have r55 : Am lx 10 31 [some (.ref (z + 104)), some (.ref (z + p)), some (.int (nI a)), some (.int (nI b)), some (.int (nI i)), none, none, none, none, none] [] bb (St z E n K N R I J) = Am lx 10 55 [some (.ref (z + 104)), some (.ref (z + p)), some (.int (nI a)), some (.int (nI b)), some (.int (nI i)), some (.int (nI (Q i))), some (.int (nI (Q i / 2))), none, none, none] [.int (bI (decide (Q i % 2 = 1)))] bb (St z E n K N R I J) := by
        rw [e_10_31]
        have s1 := sh1 (Q i) q1
        have s2 := an1 (Q i) q1
        simp (disch := first | assumption | omega) [k_St, n_St, i_St, j_St, r_St, wI_St, wJ_St, k_S0, n_S0, i_S0, j_S0, r_S0, wI_S0, wJ_S0, cI_s, cJ_s, cV_s, nR_s, nQ_s, nQ_n, lt_s_, gd_T, gd_t, Option.map_some, lits, neg_mI, nI_add, pk_mul, nI_clamp, nI_eq, nI_leI, nI_ltI, nm_eq, mn_eq, nm_lt, mn_lt, nm_le, mn_le, m_eq, bI_0, bI_1, u0, u2', u6, u7, i2, l1, l2, q2, s1, s2]
        by_cases o : Q i % 2 = 0
        · rw [if_pos o, decide_eq_false (by omega)]; rfl
        · rw [if_neg o, decide_eq_true (by omega)]; rfl
      rw [r55]
      by_cases eb : Q i = 2 * b
      · refine ⟨true, I, cnt, Q, ?_, H, Fcu_r, fun _ => ⟨i, il, eb⟩, fun h => absurd h (by decide)⟩
        rw [e_10_55, eb]
        simp (disch := first | assumption | omega) [k_St, n_St, i_St, j_St, r_St, wI_St, wJ_St, k_S0, n_S0, i_S0, j_S0, r_S0, wI_S0, wJ_S0, cI_s, cJ_s, cV_s, nR_s, nQ_s, nQ_n, lt_s_, gd_T, gd_t, Option.map_some, lits, neg_mI, nI_add, pk_mul, nI_clamp, nI_eq, nI_leI, nI_ltI, nm_eq, mn_eq, nm_lt, mn_lt, nm_le, mn_le, m_eq, bI_0, bI_1] <;> rfl
      · have hu : Q i = 2 * (Q i / 2) + (decide (Q i % 2 = 1)).toNat := by
          by_cases o : Q i % 2 = 1
          · rw [decide_eq_true o]; simp; omega
          · rw [decide_eq_false o]; simp; omega
        obtain ⟨I1, c1, Q1, g1, g2, g3, g4, g5⟩ := c_10n (lx := lx) (z := z) (E := E) (n := n) hU hP hJ q7 ha hb' H il rfl hu (by omega) q3 eb bb
        obtain ⟨o, I2, c2, Q2, k1, k2, k3, k4, k5⟩ := ih (i + 1) I1 c1 Q1 (by omega) g2 (by have := g3.1; omega) (fun j hj => by
          by_cases ej : j = i
          · rw [ej, g3.2 i il]; exact ⟨g5, eb⟩
          · have := hd j (by omega)
            rw [g3.2 j (by omega)]
            exact ⟨Ce_m this.1 (fun x hx => Vs_m g3 hx), this.2⟩)
        exact ⟨o, I2, c2, Q2, g1.trans k1, k2, Fcu_t g4 k3, k4, k5⟩
theorem c_10i (hU : CU K N R) (bb : aB) (va vb : Int32) : ∀ (n' i : Nat) (I : Nat → Nat → Int32), i + n' = 128 → (∀ x, x < i → I 105 x = mI 1) → ∃ I', Am lx 10 3 [some (.ref (z + 104)), some (.ref (z + p)), some (.int va), some (.int vb), some (.int (nI i)), none, none, none, none, none] [] bb (St z E n K N R I J) = Am lx 10 3 [some (.ref (z + 104)), some (.ref (z + p)), some (.int va), some (.int vb), some (.int (nI 128)), none, none, none, none, none] [] bb (St z E n K N R I' J) ∧ (∀ x, x < 128 → I' 105 x = mI 1) ∧ (∀ a, a ≠ 105 → I' a = I a) := by
  intro n'
  obtain ⟨u0, u1, u2', u3, u4, u5, u6, u7, u8, u9⟩ := id hU
  induction n' with
  | zero =>
    intro i I hi hd
    have e : i = 128 := by omega
    subst e
    exact ⟨I, rfl, hd, fun _ _ => rfl⟩
  | succ n' ih =>
    intro i I hi hd
    obtain ⟨I', g1, g2, g3⟩ := ih (i + 1) (u2 I 105 i (mI 1)) (by omega) (fun x hx => by
      by_cases e : x = i
      · rw [e, u2_s]
      · rw [u2_k _ _ _ _ _ e]; exact hd x (by omega))
    refine ⟨I', ?_, g2, fun a ha => by rw [g3 a ha, u2_a _ _ _ _ _ ha]⟩
    have l1 : ¬ 128 ≤ i := by omega
    rw [← g1, e_10_3]
    simp (disch := first | assumption | omega) [k_St, n_St, i_St, j_St, r_St, wI_St, wJ_St, k_S0, n_S0, i_S0, j_S0, r_S0, wI_S0, wJ_S0, cI_s, cJ_s, cV_s, nR_s, nQ_s, nQ_n, lt_s_, gd_T, gd_t, Option.map_some, lits, neg_mI, nI_add, pk_mul, nI_clamp, nI_eq, nI_leI, nI_ltI, nm_eq, mn_eq, nm_lt, mn_lt, nm_le, mn_le, m_eq, bI_0, bI_1, u0, u1, u4, u5, l1]
theorem c_10 (hU : CU K N R) (hP : Pl K N R p) (hJ : CFl J g us) (q7 : ∀ c, c < 64 → hb (J p 10) c = isS F c) (ha : a < 64) (hb' : b < 64) (hs : isS F a = true) : ∃ (o : Bool) (I' : Nat → Nat → Int32) (cnt' : Nat) (Q' : Nat → Nat), Ca lx 10 [.ref (z + 104), .ref (z + p), .int (nI a), .int (nI b)] (St z E n K N R I J) = some (some (.int (bI o)), St z E n K N R I' J) ∧ Bf 105 106 104 2 F g us a I' cnt' Q' ∧ Fcu I I' ∧ (o = true → Vs Q' cnt' (2 * b)) ∧ (o = false → ¬ Vs Q' cnt' (2 * b) ∧ ∀ j, j < cnt' → Ce F g us a (Q' j) (Vs Q' cnt')) := by
  obtain ⟨u0, u1, u2', u3, u4, u5, u6, u7, u8, u9⟩ := id hU
  obtain ⟨I1, g1, g2, g3⟩ := c_10i (lx := lx) (z := z) (E := E) (n := n) (J := J) (p := p) hU (0, 0) (nI a) (nI b) 128 0 I (by omega) (fun x hx => by omega)
  have e2 := g2 (2 * a + 1) (by omega)
  have H : Bf 105 106 104 2 F g us a (u2 (u2 (u2 (u2 I1 104 2 (nI 0)) 105 (2 * a + 1) (nI (2 * a + 1))) 106 0 (nI (2 * a + 1))) 104 2 (nI 1)) 1 (fun _ => 2 * a + 1) := by
    refine ⟨Nat.le_refl _, u2_s _ _ _ _, fun j hj => ?_, fun i j hi hj => by omega, rfl, ⟨2 * a + 1, by omega, ?_⟩, fun j j1 j2 => by omega, fun x hx => ?_⟩
    · have : j = 0 := by omega
      subst this
      exact ⟨show 2 * a + 1 < 128 by omega, by simp (disch := first | assumption | omega) [u2_s, u2_a, u2_k], by rw [show (2 * a + 1) / 2 = a by omega]; exact hs⟩
    · simp (disch := first | assumption | omega) [u2_s, u2_a, u2_k]
    · by_cases e : x = 2 * a + 1
      · right; exact ⟨0, by omega, e.symm⟩
      · left
        have := g2 x hx
        simp (disch := first | assumption | omega) [u2_s, u2_a, u2_k]
        exact this
  obtain ⟨o, I2, c2, Q2, k1, k2, k3, k4, k5⟩ := c_10l (lx := lx) (z := z) (E := E) (n := n) hU hP hJ q7 ha hb' (0, 0) 128 0 _ 1 _ (by omega) H (by omega) (fun j hj => by omega)
  refine ⟨o, I2, c2, Q2, ?_, k2, ⟨fun x x1 x2 x3 => ?_, fun k hk => ?_⟩, k4, k5⟩
  · rw [← k1, f_10]
    rw [show (0 : Int32) = nI 0 from rfl, g1, e_10_3]
    simp (disch := first | assumption | omega) [k_St, n_St, i_St, j_St, r_St, wI_St, wJ_St, k_S0, n_S0, i_S0, j_S0, r_S0, wI_S0, wJ_S0, cI_s, cJ_s, cV_s, nR_s, nQ_s, nQ_n, lt_s_, gd_T, gd_t, Option.map_some, lits, neg_mI, nI_add, pk_mul, nI_clamp, nI_eq, nI_leI, nI_ltI, nm_eq, mn_eq, nm_lt, mn_lt, nm_le, mn_le, m_eq, bI_0, bI_1, u0]
    rw [f_11]
    have l1 : ¬ 128 ≤ 2 * a + 1 := by omega
    simp (disch := first | assumption | omega) [k_St, n_St, i_St, j_St, r_St, wI_St, wJ_St, k_S0, n_S0, i_S0, j_S0, r_S0, wI_S0, wJ_S0, cI_s, cJ_s, cV_s, nR_s, nQ_s, nQ_n, lt_s_, gd_T, gd_t, Option.map_some, lits, neg_mI, nI_add, pk_mul, nI_clamp, nI_eq, nI_leI, nI_ltI, nm_eq, mn_eq, nm_lt, mn_lt, nm_le, mn_le, m_eq, bI_0, bI_1, u0, u1, u2', u4, u5, u6, u7, e2, u2_s, u2_a, u2_k, l1]
  · rw [k3.1 x x1 x2 x3, u2_a _ _ _ _ _ x1, u2_a _ _ _ _ _ x3, u2_a _ _ _ _ _ x2, u2_a _ _ _ _ _ x1, g3 x x2]
  · rw [k3.2 k hk, u2_k _ _ _ _ _ hk, u2_a _ _ _ _ _ (by decide), u2_a _ _ _ _ _ (by decide), u2_k _ _ _ _ _ hk, g3 104 (by decide)]
/-! a way is laid -/
def Fj (J J' : Nat → Nat → Int64) : Prop := ∀ a, a ≠ 104 → a ≠ 107 → J' a = J a
theorem c_13s (hU : CU K N R) (hc : c < 64) (hd : d < 64) (t : Int32) (bb : aB) : ∀ (n' w : Nat), w + n' ≤ 5 → (∀ v, w ≤ v → v < w + n' → nxc c v ≠ d) → Am lx 13 31 [some (.ref (z + 104)), none, none, some (.int (nI c)), some (.int (nI d)), some (.int t), some (.int (nI w))] [] bb (St z E n K N R I J) = Am lx 13 31 [some (.ref (z + 104)), none, none, some (.int (nI c)), some (.int (nI d)), some (.int t), some (.int (nI (w + n')))] [] bb (St z E n K N R I J)
  | 0, w, _, _ => rfl
  | n' + 1, w, h1, h2 => by
    have ih := c_13s hU hc hd t bb n' (w + 1) (by omega) (fun v v1 v2 => h2 v (by omega) (by omega))
    have e7 := s_7 (lx := lx) (c := c) (w := w) hc (by omega) (St z E n K N R I J)
    have ne := h2 w (Nat.le_refl _) (by omega)
    have nl := nx_0 c hc w (by omega)
    have en : ¬ oI (nxc c w) = nI d := by
      by_cases l : nxc c w < 64
      · rw [oI_lt l, nI_eq (by omega) (by omega)]; exact ne
      · rw [oI_ge l]
        intro h
        exact (mn_eq (by omega) (by omega) (by omega)).mp h
    have w4 : ¬ 4 < w := by omega
    rw [show w + (n' + 1) = w + 1 + n' by omega, ← ih, e_13_31]
    simp (disch := first | assumption | omega) [k_St, n_St, i_St, j_St, r_St, wI_St, wJ_St, k_S0, n_S0, i_S0, j_S0, r_S0, wI_S0, wJ_S0, cI_s, cJ_s, cV_s, nR_s, nQ_s, nQ_n, lt_s_, gd_T, gd_t, Option.map_some, lits, neg_mI, nI_add, pk_mul, nI_clamp, nI_eq, nI_leI, nI_ltI, nm_eq, mn_eq, nm_lt, mn_lt, nm_le, mn_le, m_eq, bI_0, bI_1, w4, e7, en]
theorem c_13 {u v : Nat} (hU : CU K N R) (hJ : CFl J g us) (hV : Vd F g us u v) (hu : u < 128) (hv : v < 128) : ∃ J' g' us', Ca lx 13 [.ref (z + 104), .int (nI u), .int (nI v)] (St z E n K N R I J) = some (none, St z E n K N R I J') ∧ CFl J' g' us' ∧ Tn g us u v g' us' ∧ Fj J J' := by
  obtain ⟨u0, u1, u2', u3, u4, u5, u6, u7, u8, u9⟩ := id hU
  have s1 := sh1 u hu
  have s2 := sh1 v hv
  have s3 := an1 u hu
  by_cases e : u / 2 = v / 2
  · have eus : us (u / 2) = !(decide (v % 2 = 1)) := by
      rcases hV with ⟨c, c1, c2, c3, c4⟩ | ⟨c, c1, c2, c3, c4⟩ | ⟨c, w, c1, c2, c3, c4, c5, c6, c7, c8⟩ | ⟨c, w, c1, c2, c3, c4, c5, c6, c7⟩
      · rw [show u / 2 = c by omega, c4, decide_eq_true (by omega)]; rfl
      · rw [show u / 2 = c by omega, c4, decide_eq_false (by omega)]; rfl
      · have := nx_n c c1 w (by omega); omega
      · have := nx_n c c1 w (by omega); omega
    refine ⟨u2 J 104 4 (J 104 4 ^^^ ((1 : Int64) <<< ((nI (u / 2)).toInt64 &&& 63))), g, upB us (u / 2) (decide (v % 2 = 1)), ?_, ⟨fun w w1 w2 c hc => ?_, fun c hc => ?_⟩, Or.inl ⟨e, rfl, rfl⟩, fun x x1 x2 => u2_a _ _ _ _ _ x1⟩
    · rw [f_13]
      simp (disch := first | assumption | omega) [k_St, n_St, i_St, j_St, r_St, wI_St, wJ_St, k_S0, n_S0, i_S0, j_S0, r_S0, wI_S0, wJ_S0, cI_s, cJ_s, cV_s, nR_s, nQ_s, nQ_n, lt_s_, gd_T, gd_t, Option.map_some, lits, neg_mI, nI_add, pk_mul, nI_clamp, nI_eq, nI_leI, nI_ltI, nm_eq, mn_eq, nm_lt, mn_lt, nm_le, mn_le, m_eq, bI_0, bI_1, s1, s2, e, u0]
    · rw [u2_a _ _ _ _ _ (by decide)]; exact hJ.1 w w1 w2 c hc
    · rw [u2_s, hb_x _ (by omega), hJ.2 c hc]
      unfold upB
      by_cases ec : c = u / 2
      · rw [if_pos ec, decide_eq_true ec, ec, eus]; simp
      · rw [if_neg ec, decide_eq_false ec]; simp
  · rcases hV with ⟨c, c1, c2, c3, c4⟩ | ⟨c, c1, c2, c3, c4⟩ | ⟨c, w, c1, c2, c3, c4, c5, c6, c7, c8⟩ | ⟨c, w, c1, c2, c3, c4, c5, c6, c7⟩
    · omega
    · omega
    · have hn := isS_lt c7
      have eu : u / 2 = c := by omega
      have ev : v / 2 = nxc c w := by omega
      have uo : ¬ u % 2 = 0 := by omega
      have q1 := c_13s (lx := lx) (z := z) (E := E) (n := n) (I := I) (J := J) hU c1 hn (nI 1) (0, 0) (w - 1) 1 (by omega) (fun j j1 j2 h => by
        have := nx_w c c1 w (by omega) j (by omega) c2 j1 hn h.symm
        omega)
      have q2 := c_13s (lx := lx) (z := z) (E := E) (n := n) (I := I) (J := u2 J 107 w (J 107 w ||| ((1 : Int64) <<< ((nI c).toInt64 &&& 63)))) hU c1 hn (nI 1) (0, 0) (5 - (w + 1)) (w + 1) (by omega) (fun j j1 j2 h => by
        have := nx_w c c1 w (by omega) j (by omega) c2 (by omega) hn h.symm
        omega)
      rw [show 1 + (w - 1) = w by omega] at q1
      rw [show w + 1 + (5 - (w + 1)) = 5 by omega] at q2
      have e7 := s_7 (lx := lx) (c := c) (w := w) c1 (by omega) (St z E n K N R I J)
      rw [oI_lt hn] at e7
      have w4 : ¬ 4 < w := by omega
      refine ⟨u2 J 107 w (J 107 w ||| ((1 : Int64) <<< ((nI c).toInt64 &&& 63))), u2 g c w true, us, ?_, ⟨fun j j1 j2 c' hc' => ?_, fun c' hc' => ?_⟩, Or.inr ⟨e, rfl, Or.inl ⟨by omega, w, c2, c3, by rw [eu, ev], by rw [eu]⟩⟩, fun x x1 x2 => u2_a _ _ _ _ _ x2⟩
      · have ne : ¬ c = nxc c w := by omega
        rw [f_13]
        simp (disch := first | assumption | omega) [k_St, n_St, i_St, j_St, r_St, wI_St, wJ_St, k_S0, n_S0, i_S0, j_S0, r_S0, wI_S0, wJ_S0, cI_s, cJ_s, cV_s, nR_s, nQ_s, nQ_n, lt_s_, gd_T, gd_t, Option.map_some, lits, neg_mI, nI_add, pk_mul, nI_clamp, nI_eq, nI_leI, nI_ltI, nm_eq, mn_eq, nm_lt, mn_lt, nm_le, mn_le, m_eq, bI_0, bI_1, s1, s2, s3, eu, ev, ne, uo]
        rw [q1, e_13_31]
        simp (disch := first | assumption | omega) [k_St, n_St, i_St, j_St, r_St, wI_St, wJ_St, k_S0, n_S0, i_S0, j_S0, r_S0, wI_S0, wJ_S0, cI_s, cJ_s, cV_s, nR_s, nQ_s, nQ_n, lt_s_, gd_T, gd_t, Option.map_some, lits, neg_mI, nI_add, pk_mul, nI_clamp, nI_eq, nI_leI, nI_ltI, nm_eq, mn_eq, nm_lt, mn_lt, nm_le, mn_le, m_eq, bI_0, bI_1, w4, e7, u0, u3, u8, u9]
        rw [q2, e_13_31]
        simp (disch := first | assumption | omega) [k_St, n_St, i_St, j_St, r_St, wI_St, wJ_St, k_S0, n_S0, i_S0, j_S0, r_S0, wI_S0, wJ_S0, cI_s, cJ_s, cV_s, nR_s, nQ_s, nQ_n, lt_s_, gd_T, gd_t, Option.map_some, lits, neg_mI, nI_add, pk_mul, nI_clamp, nI_eq, nI_leI, nI_ltI, nm_eq, mn_eq, nm_lt, mn_lt, nm_le, mn_le, m_eq, bI_0, bI_1]
      · by_cases ej : j = w
        · rw [ej, u2_s, hb_o _ c1, hJ.1 w c2 c3 c' hc']
          by_cases ec : c' = c
          · rw [ec, u2_s, decide_eq_true rfl]; simp
          · rw [decide_eq_false ec, u2_a _ _ _ _ _ ec]; simp
        · rw [u2_k _ _ _ _ _ ej, u2_w _ _ _ _ _ _ ej]; exact hJ.1 j j1 j2 c' hc'
      · rw [u2_a _ _ _ _ _ (by decide)]; exact hJ.2 c' hc'
    · obtain ⟨m1, m2, m3, m4⟩ := nx_op c c1 w (by omega) c2 c6
      have eu : u / 2 = nxc c w := by omega
      have ev : v / 2 = c := by omega
      have uo : u % 2 = 0 := by omega
      have hcl : nxc (nxc c w) (op w) < 64 := by rw [m1]; exact c1
      have q1 := c_13s (lx := lx) (z := z) (E := E) (n := n) (I := I) (J := J) hU c6 c1 (nI 0) (0, 0) (op w - 1) 1 (by omega) (fun j j1 j2 h => by
        have := nx_w (nxc c w) c6 (op w) (by omega) j (by omega) m3 j1 hcl (by rw [m1, h])
        omega)
      have q2 := c_13s (lx := lx) (z := z) (E := E) (n := n) (I := I) (J := u2 J 107 w (J 107 w &&& (((1 : Int64) <<< ((nI c).toInt64 &&& 63)) ^^^ (-1)))) hU c6 c1 (nI 0) (0, 0) (5 - (op w + 1)) (op w + 1) (by omega) (fun j j1 j2 h => by
        have := nx_w (nxc c w) c6 (op w) (by omega) j (by omega) m3 (by omega) hcl (by rw [m1, h])
        omega)
      rw [show 1 + (op w - 1) = op w by omega] at q1
      rw [show op w + 1 + (5 - (op w + 1)) = 5 by omega] at q2
      have e7 := s_7 (lx := lx) (c := nxc c w) (w := op w) c6 (by omega) (St z E n K N R I J)
      rw [oI_lt hcl, m1] at e7
      have e15 := s_15o (lx := lx) (w := op w) m3 (by omega) (St z E n K N R I J)
      rw [m2] at e15
      have w4 : ¬ 4 < op w := by omega
      refine ⟨u2 J 107 w (J 107 w &&& (((1 : Int64) <<< ((nI c).toInt64 &&& 63)) ^^^ (-1))), u2 g c w false, us, ?_, ⟨fun j j1 j2 c' hc' => ?_, fun c' hc' => ?_⟩, Or.inr ⟨e, rfl, Or.inr ⟨uo, w, c2, c3, by rw [eu, ev], by rw [ev]⟩⟩, fun x x1 x2 => u2_a _ _ _ _ _ x2⟩
      · have ne : ¬ nxc c w = c := by omega
        rw [f_13]
        simp (disch := first | assumption | omega) [k_St, n_St, i_St, j_St, r_St, wI_St, wJ_St, k_S0, n_S0, i_S0, j_S0, r_S0, wI_S0, wJ_S0, cI_s, cJ_s, cV_s, nR_s, nQ_s, nQ_n, lt_s_, gd_T, gd_t, Option.map_some, lits, neg_mI, nI_add, pk_mul, nI_clamp, nI_eq, nI_leI, nI_ltI, nm_eq, mn_eq, nm_lt, mn_lt, nm_le, mn_le, m_eq, bI_0, bI_1, s1, s2, s3, eu, ev, ne, uo]
        rw [q1, e_13_31]
        simp (disch := first | assumption | omega) [k_St, n_St, i_St, j_St, r_St, wI_St, wJ_St, k_S0, n_S0, i_S0, j_S0, r_S0, wI_S0, wJ_S0, cI_s, cJ_s, cV_s, nR_s, nQ_s, nQ_n, lt_s_, gd_T, gd_t, Option.map_some, lits, neg_mI, nI_add, pk_mul, nI_clamp, nI_eq, nI_leI, nI_ltI, nm_eq, mn_eq, nm_lt, mn_lt, nm_le, mn_le, m_eq, bI_0, bI_1, w4, e7, u0, u3, u8, u9, e15]
        have ex : ((1 : Int64) <<< ((nI c).toInt64 &&& 63)) ^^^ (-1) = ~~~((1 : Int64) <<< ((nI c).toInt64 &&& 63)) := by simp
        rw [← ex, q2, e_13_31]
        simp (disch := first | assumption | omega) [k_St, n_St, i_St, j_St, r_St, wI_St, wJ_St, k_S0, n_S0, i_S0, j_S0, r_S0, wI_S0, wJ_S0, cI_s, cJ_s, cV_s, nR_s, nQ_s, nQ_n, lt_s_, gd_T, gd_t, Option.map_some, lits, neg_mI, nI_add, pk_mul, nI_clamp, nI_eq, nI_leI, nI_ltI, nm_eq, mn_eq, nm_lt, mn_lt, nm_le, mn_le, m_eq, bI_0, bI_1]
      · by_cases ej : j = w
        · rw [ej, u2_s, hb_a _ c1 hc', hJ.1 w c2 c3 c' hc']
          by_cases ec : c' = c
          · rw [ec, u2_s, decide_eq_true rfl]; simp
          · rw [decide_eq_false ec, u2_a _ _ _ _ _ ec]; simp
        · rw [u2_k _ _ _ _ _ ej, u2_w _ _ _ _ _ _ ej]; exact hJ.1 j j1 j2 c' hc'
      · rw [u2_a _ _ _ _ _ (by decide)]; exact hJ.2 c' hc'
theorem Fj_t {J1 J2 : Nat → Nat → Int64} (h : Fj J J1) (h2 : Fj J1 J2) : Fj J J2 := fun a x1 x2 => (h2 a x1 x2).trans (h a x1 x2)
theorem c_12 {l : Nat} {ch : Nat → Nat} (hU : CU K N R) (ha : a < 64) (hb' : b < 64) (hab : a ≠ b) (hw : Wy F g us a b l ch) (hB : Bal g us a b k (2 * b)) (hf : FV F g) (hn : ∀ w, 1 ≤ w → w ≤ 4 → nxc a w ≠ b) (hl : l < 128) (hc : ∀ i, i ≤ l → ch i < 128 ∧ (i < l → I 105 (ch i) = nI (ch (i + 1)))) (hJ : CFl J g us) : ∃ J' g' us', Ca lx 12 [.ref (z + 104), .int (nI a), .int (nI b)] (St z E n K N R I J) = some (none, St z E n K N R I J') ∧ CFl J' g' us' ∧ Bal g' us' a b (k + 1) (2 * b) ∧ FV F g' ∧ Fj J J' := by
  obtain ⟨u0, u1, u2', u3, u4, u5, u6, u7, u8, u9⟩ := id hU
  have n2a := fun i hi => wy_2a hw hB hab (i := i) hi
  have n2b := fun i hi => wy_2b hw hB hab (i := i) hi
  have la := La_0 hw hB hf ha hb' hab hn
  obtain ⟨c0, cl, cd, cr⟩ := hw
  have key : ∀ (n' i : Nat) (J : Nat → Nat → Int64) (g : Nat → Nat → Bool) (us : Nat → Bool), i + n' = l → CFl J g us → La F g us a b k l ch i → ∃ J' g' us', Am lx 12 7 [some (.ref (z + 104)), some (.int (nI a)), none, some (.int (nI (ch i))), some (.int (nI i)), none] [] (0, 0) (St z E n K N R I J) = some (none, St z E n K N R I J') ∧ CFl J' g' us' ∧ La F g' us' a b k l ch l ∧ Fj J J' := by
    intro n'
    induction n' with
    | zero =>
      intro i J g us hi hJ h
      have e : i = l := by omega
      subst e
      refine ⟨J, g, us, ?_, hJ, h, fun _ _ _ => rfl⟩
      have l1 : ¬ 128 ≤ i := by omega
      rw [e_12_7, cl]
      simp (disch := first | assumption | omega) [k_St, n_St, i_St, j_St, r_St, wI_St, wJ_St, k_S0, n_S0, i_S0, j_S0, r_S0, wI_S0, wJ_S0, cI_s, cJ_s, cV_s, nR_s, nQ_s, nQ_n, lt_s_, gd_T, gd_t, Option.map_some, lits, neg_mI, nI_add, pk_mul, nI_clamp, nI_eq, nI_leI, nI_ltI, nm_eq, mn_eq, nm_lt, mn_lt, nm_le, mn_le, m_eq, bI_0, bI_1, l1]
    | succ n' ih =>
      intro i J g us hi hJ h
      have il : i < l := by omega
      obtain ⟨x1, x2⟩ := hc i (by omega)
      have x2' := x2 il
      obtain ⟨y1, _⟩ := hc (i + 1) (by omega)
      obtain ⟨J1, g1, us1, e1, e2, e3, e4⟩ := c_13 (lx := lx) (z := z) (E := E) (n := n) (I := I) hU hJ (h.2.2 i (Nat.le_refl _) il) y1 x1
      obtain ⟨J2, g2, us2, k1, k2, k3, k4⟩ := ih (i + 1) J1 g1 us1 (by omega) e2 (La_s cd c0 cl n2a n2b ha hb' hab h il e3)
      refine ⟨J2, g2, us2, ?_, k2, k3, Fj_t e4 k4⟩
      have l1 : ¬ 128 ≤ i := by omega
      have l2 : ¬ ch i = 2 * a + 1 := fun e => cd i l il (Nat.le_refl _) (by rw [e, cl])
      have l3 : ¬ 128 ≤ ch i := by omega
      rw [← k1, e_12_7]
      simp (disch := first | assumption | omega) [k_St, n_St, i_St, j_St, r_St, wI_St, wJ_St, k_S0, n_S0, i_S0, j_S0, r_S0, wI_S0, wJ_S0, cI_s, cJ_s, cV_s, nR_s, nQ_s, nQ_n, lt_s_, gd_T, gd_t, Option.map_some, lits, neg_mI, nI_add, pk_mul, nI_clamp, nI_eq, nI_leI, nI_ltI, nm_eq, mn_eq, nm_lt, mn_lt, nm_le, mn_le, m_eq, bI_0, bI_1, l1, l2, l3, u0, u1, u4, u5, x2']
      rw [e_12_29]
      simp (disch := first | assumption | omega) [k_St, n_St, i_St, j_St, r_St, wI_St, wJ_St, k_S0, n_S0, i_S0, j_S0, r_S0, wI_S0, wJ_S0, cI_s, cJ_s, cV_s, nR_s, nQ_s, nQ_n, lt_s_, gd_T, gd_t, Option.map_some, lits, neg_mI, nI_add, pk_mul, nI_clamp, nI_eq, nI_leI, nI_ltI, nm_eq, mn_eq, nm_lt, mn_lt, nm_le, mn_le, m_eq, bI_0, bI_1, u0, e1]
  obtain ⟨J', g', us', e1, e2, e3, e4⟩ := key l 0 J g us (by omega) hJ la
  have hB' := e3.1
  rw [cl] at hB'
  refine ⟨J', g', us', ?_, e2, Bal_n hB' hab, e3.2.1, e4⟩
  rw [c0] at e1
  rw [f_12]
  simp (disch := first | assumption | omega) [k_St, n_St, i_St, j_St, r_St, wI_St, wJ_St, k_S0, n_S0, i_S0, j_S0, r_S0, wI_S0, wJ_S0, cI_s, cJ_s, cV_s, nR_s, nQ_s, nQ_n, lt_s_, gd_T, gd_t, Option.map_some, lits, neg_mI, nI_add, pk_mul, nI_clamp, nI_eq, nI_leI, nI_ltI, nm_eq, mn_eq, nm_lt, mn_lt, nm_le, mn_le, m_eq, bI_0, bI_1]
  exact e1
end CU5
