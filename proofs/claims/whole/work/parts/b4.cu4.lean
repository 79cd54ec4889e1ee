theorem sh1 : ∀ u, u < 128 → (nI u) >>> (nI 1 &&& nI 31) = nI (u / 2) := by decide +kernel
theorem an1 : ∀ u, u < 128 → (nI u) &&& nI 1 = nI (u % 2) := by decide +kernel
theorem xo1 : ∀ u, u < 128 → (nI u) ^^^ nI 1 = nI (if u % 2 = 0 then u + 1 else u - 1) := by decide +kernel
section CU4
variable {z : Nat} {E : aEt} {n : Nat} {K N : Nat → Nat} {R : Nat → Nat → Option Nat} {I : Nat → Nat → Int32} {J : Nat → Nat → Int64} {lx : List Value → aH → aO} {p : Nat} {g g' : Nat → Nat → Bool} {us us' : Nat → Bool} {F : Nat → Nat → Nat} {a b k x c d w i cnt : Nat} {Q : Nat → Nat}
def CU (K N : Nat → Nat) (R : Nat → Nat → Option Nat) : Prop := K 104 = 0 ∧ R 104 0 = some 105 ∧ R 104 1 = some 106 ∧ R 104 3 = some 107 ∧ K 105 = 13 ∧ N 105 = 128 ∧ K 106 = 13 ∧ N 106 = 128 ∧ K 107 = 14 ∧ N 107 = 5
def CFl (J : Nat → Nat → Int64) (g : Nat → Nat → Bool) (us : Nat → Bool) : Prop := (∀ w, 1 ≤ w → w ≤ 4 → ∀ c, c < 64 → hb (J 107 w) c = g c w) ∧ ∀ c, c < 64 → hb (J 104 4) c = us c
def Fcu (I I' : Nat → Nat → Int32) : Prop := (∀ a, a ≠ 104 → a ≠ 105 → a ≠ 106 → I' a = I a) ∧ ∀ k, k ≠ 2 → I' 104 k = I 104 k
theorem Fcu_r : Fcu I I := ⟨fun _ _ _ _ => rfl, fun _ _ => rfl⟩
theorem Fcu_t {I1 I2 : Nat → Nat → Int32} (h : Fcu I I1) (h2 : Fcu I1 I2) : Fcu I I2 := ⟨fun a x1 x2 x3 => (h2.1 a x1 x2 x3).trans (h.1 a x1 x2 x3), fun k hk => (h2.2 k hk).trans (h.2 k hk)⟩
theorem c_11 {v : Nat} (hU : CU K N R) (H : Bf 105 106 104 2 F g us a I cnt Q) (hi : i < cnt) (hv : v < 128) (hr : Rs F g us (Q i) v) (hs : isS F (v / 2) = true) : ∃ I' cnt' Q', Ca lx 11 [.ref (z + 104), .int (nI v), .int (nI (Q i))] (St z E n K N R I J) = some (none, St z E n K N R I' J) ∧ Bf 105 106 104 2 F g us a I' cnt' Q' ∧ Mo2 cnt Q cnt' Q' ∧ Vs Q' cnt' v ∧ Fcu I I' := by
  obtain ⟨u0, u1, u2', u3, u4, u5, u6, u7, u8, u9⟩ := hU
  have hc := H.2.1
  by_cases e : I 105 v = mI 1
  · have lt := Bf_l H hv e
    refine ⟨_, _, _, ?_, Bf_r H (by decide) (by decide) (by decide) hi hv hr hs e, ⟨Nat.le_succ _, fun j hj => by simp only; rw [if_neg (by omega)]⟩, ⟨cnt, Nat.lt_succ_self _, by simp⟩, ⟨fun x x1 x2 x3 => by rw [u2_a _ _ _ _ _ x1, u2_a _ _ _ _ _ x3, u2_a _ _ _ _ _ x2], fun k hk => by rw [u2_k _ _ _ _ _ hk, u2_a _ _ _ _ _ (by decide), u2_a _ _ _ _ _ (by decide)]⟩⟩
    rw [f_11]
    simp (disch := first | assumption | omega) [k_St, n_St, i_St, j_St, r_St, wI_St, wJ_St, k_S0, n_S0, i_S0, j_S0, r_S0, wI_S0, wJ_S0, cI_s, cJ_s, cV_s, nR_s, nQ_s, nQ_n, lt_s_, gd_T, gd_t, Option.map_some, lits, neg_mI, nI_add, pk_mul, nI_clamp, nI_eq, nI_leI, nI_ltI, nm_eq, mn_eq, nm_lt, mn_lt, nm_le, mn_le, m_eq, bI_0, bI_1, u0, u1, u2', u4, u5, u6, u7, e, hc, if_neg, u2_s, u2_a, u2_k]
  · refine ⟨I, cnt, Q, ?_, H, Mo2_r, (Bf_v H hv).mpr e, Fcu_r⟩
    rw [f_11]
    simp (disch := first | assumption | omega) [k_St, n_St, i_St, j_St, r_St, wI_St, wJ_St, k_S0, n_S0, i_S0, j_S0, r_S0, wI_S0, wJ_S0, cI_s, cJ_s, cV_s, nR_s, nQ_s, nQ_n, lt_s_, gd_T, gd_t, Option.map_some, lits, neg_mI, nI_add, pk_mul, nI_clamp, nI_eq, nI_leI, nI_ltI, nm_eq, mn_eq, nm_lt, mn_lt, nm_le, mn_le, m_eq, bI_0, bI_1, u0, u1, u4, u5, e, if_neg]
theorem c_14 (hU : CU K N R) (hJ : CFl J g us) (hc : c < 64) (hw : 1 ≤ w) (hw2 : w ≤ 4) : Ca lx 14 [.ref (z + 104), .int (nI c), .int (nI w)] (St z E n K N R I J) = some (some (.int (bI (g c w))), (St z E n K N R I J)) := by
  obtain ⟨u0, u1, u2', u3, u4, u5, u6, u7, u8, u9⟩ := hU
  have e := hJ.1 w hw hw2 c hc
  have n5 : Int32.ofNat 5 = nI 5 := rfl
  have s5 := s_5 (lx := lx) (J 107 w) hc (St z E n K N R I J)
  rw [e] at s5
  rw [f_14]
  simp (disch := first | assumption | omega) [k_St, n_St, i_St, j_St, r_St, wI_St, wJ_St, k_S0, n_S0, i_S0, j_S0, r_S0, wI_S0, wJ_S0, cI_s, cJ_s, cV_s, nR_s, nQ_s, nQ_n, lt_s_, gd_T, gd_t, Option.map_some, lits, neg_mI, nI_add, pk_mul, nI_clamp, nI_eq, nI_leI, nI_ltI, nm_eq, mn_eq, nm_lt, mn_lt, nm_le, mn_le, m_eq, bI_0, bI_1, u0, u3, u8, u9, n5, if_neg, s5]
  cases g c w <;> simp [lits, bI_0, bI_1, gd_T] <;> rfl
theorem s_15o (hw : 1 ≤ w) (hw2 : w ≤ 4) (S : aH) : Ca lx 15 [.int (nI w)] S = some (some (.int (nI (op w))), S) := by
  have : w = 1 ∨ w = 2 ∨ w = 3 ∨ w = 4 := by omega
  rw [f_15]
  rcases this with h | h | h | h <;> subst h <;> rfl
def Pw (F : Nat → Nat → Nat) (g : Nat → Nat → Bool) (c : Nat) (o : Bool) (v : Nat) (V : Nat → Prop) : Prop := (o = true → isS F (nxc c v) = true → g c v = false → V (2 * nxc c v)) ∧ (o = false → isS F (nxc c v) = true → g (nxc c v) (op v) = true → V (2 * nxc c v + 1))
theorem Pw_m {o : Bool} {v : Nat} {V V' : Nat → Prop} (h : Pw F g c o v V) (e : ∀ x, V x → V' x) : Pw F g c o v V' := ⟨fun x y q => e _ (h.1 x y q), fun x y q => e _ (h.2 x y q)⟩
theorem c_10w {u : Nat} {o : Bool} (hU : CU K N R) (hP : Pl K N R p) (hJ : CFl J g us) (q7 : ∀ c, c < 64 → hb (J p 10) c = isS F c) (hu : u = 2 * c + o.toNat) (hc : c < 64) (hsc : isS F c = true) (bb : aB) : ∀ (n' w : Nat) (I : Nat → Nat → Int32) (cnt : Nat) (Q : Nat → Nat), w + n' = 5 → 1 ≤ w → Bf 105 106 104 2 F g us a I cnt Q → i < cnt → Q i = u → (∀ v, 1 ≤ v → v < w → Pw F g c o v (Vs Q cnt)) → ∃ I' cnt' Q', Am lx 10 81 [some (.ref (z + 104)), some (.ref (z + p)), some (.int (nI a)), some (.int (nI b)), some (.int (nI i)), some (.int (nI u)), some (.int (nI c)), some (.int (bI o)), some (.int (nI w)), none] [] bb (St z E n K N R I J) = Am lx 10 31 [some (.ref (z + 104)), some (.ref (z + p)), some (.int (nI a)), some (.int (nI b)), some (.int (nI (i + 1))), none, none, none, none, none] [] bb (St z E n K N R I' J) ∧ Bf 105 106 104 2 F g us a I' cnt' Q' ∧ Mo2 cnt Q cnt' Q' ∧ Fcu I I' ∧ (∀ v, 1 ≤ v → v ≤ 4 → Pw F g c o v (Vs Q' cnt')) := by
  intro n'
  have u0 := hU.1
  have kp := hP.1
  induction n' with
  | zero =>
    intro w I cnt Q hw hw1 H hi hq hd
    have hn := Bf_n H
    have w5 : w = 5 := by omega
    subst w5
    refine ⟨I, cnt, Q, ?_, H, Mo2_r, Fcu_r, fun v v1 v2 => hd v v1 (by omega)⟩
    rw [e_10_81]
    simp (disch := first | assumption | omega) [k_St, n_St, i_St, j_St, r_St, wI_St, wJ_St, k_S0, n_S0, i_S0, j_S0, r_S0, wI_S0, wJ_S0, cI_s, cJ_s, cV_s, nR_s, nQ_s, nQ_n, lt_s_, gd_T, gd_t, Option.map_some, lits, neg_mI, nI_add, pk_mul, nI_clamp, nI_eq, nI_leI, nI_ltI, nm_eq, mn_eq, nm_lt, mn_lt, nm_le, mn_le, m_eq, bI_0, bI_1]
  | succ n' ih =>
    intro w I cnt Q hw hw1 H hi hq hd
    have hn := Bf_n H
    have e7 := s_7 (lx := lx) (c := c) (w := w) hc (by omega) (St z E n K N R I J)
    have e26 := s_26q (lx := lx) (z := z) (E := E) (n := n) (I := I) hP q7 (nxc c w)
    have nl := nx_0 c hc w (by omega)
    have w4 : ¬ 4 < w := by omega
    by_cases cs : isS F (nxc c w) = true
    · have hl := isS_lt cs
      rw [cs] at e26
      rw [oI_lt hl] at e7 e26
      have skip : (∀ V, Pw F g c o w V) → ∃ I' cnt' Q', Am lx 10 81 [some (.ref (z + 104)), some (.ref (z + p)), some (.int (nI a)), some (.int (nI b)), some (.int (nI i)), some (.int (nI u)), some (.int (nI c)), some (.int (bI o)), some (.int (nI (w + 1))), none] [] bb (St z E n K N R I J) = Am lx 10 31 [some (.ref (z + 104)), some (.ref (z + p)), some (.int (nI a)), some (.int (nI b)), some (.int (nI (i + 1))), none, none, none, none, none] [] bb (St z E n K N R I' J) ∧ Bf 105 106 104 2 F g us a I' cnt' Q' ∧ Mo2 cnt Q cnt' Q' ∧ Fcu I I' ∧ (∀ v, 1 ≤ v → v ≤ 4 → Pw F g c o v (Vs Q' cnt')) := fun hw' =>
        ih (w + 1) I cnt Q (by omega) (by omega) H hi hq (fun v v1 v2 => by
          by_cases e : v = w
          · rw [e]; exact hw' _
          · exact hd v v1 (by omega))
      have goes : ∀ v, v < 128 → Rs F g us u v → v / 2 = nxc c w → (∀ V : Nat → Prop, V v → Pw F g c o w V) → ∃ I1, Ca lx 11 [.ref (z + 104), .int (nI v), .int (nI u)] (St z E n K N R I J) = some (none, St z E n K N R I1 J) ∧ ∃ I' cnt' Q', Am lx 10 81 [some (.ref (z + 104)), some (.ref (z + p)), some (.int (nI a)), some (.int (nI b)), some (.int (nI i)), some (.int (nI u)), some (.int (nI c)), some (.int (bI o)), some (.int (nI (w + 1))), none] [] bb (St z E n K N R I1 J) = Am lx 10 31 [some (.ref (z + 104)), some (.ref (z + p)), some (.int (nI a)), some (.int (nI b)), some (.int (nI (i + 1))), none, none, none, none, none] [] bb (St z E n K N R I' J) ∧ Bf 105 106 104 2 F g us a I' cnt' Q' ∧ Mo2 cnt Q cnt' Q' ∧ Fcu I I' ∧ (∀ v, 1 ≤ v → v ≤ 4 → Pw F g c o v (Vs Q' cnt')) := fun v v1 v2 v3 v4 => by
        rw [← hq] at v2
        obtain ⟨I1, c1, Q1, g1, g2, g3, g4, g5⟩ := c_11 (lx := lx) (z := z) (E := E) (n := n) (J := J) hU H hi v1 v2 (by rw [v3]; exact cs)
        rw [hq] at g1
        obtain ⟨I2, c2, Q2, k1, k2, k3, k4, k5⟩ := ih (w + 1) I1 c1 Q1 (by omega) (by omega) g2 (by have := g3.1; omega) (by rw [g3.2 i hi]; exact hq) (fun v v1 v2 => by
          by_cases e : v = w
          · rw [e]; exact v4 _ g4
          · exact Pw_m (hd v v1 (by omega)) (fun x hx => Vs_m g3 hx))
        exact ⟨I1, g1, I2, c2, Q2, k1, k2, Mo2_t g3 k3, Fcu_t g5 k4, k5⟩
      cases o with
      | true =>
        have hu' : u = 2 * c + 1 := hu
        have e14 := c_14 (lx := lx) (z := z) (E := E) (n := n) (I := I) hU hJ hc hw1 (show w ≤ 4 by omega)
        cases hg : g c w with
        | true =>
          rw [hg] at e14
          obtain ⟨I', c', Q', x1, x2⟩ := skip (fun V => ⟨fun _ _ h => by rw [hg] at h; exact absurd h (by decide), fun h => absurd h (by decide)⟩)
          refine ⟨I', c', Q', ?_, x2⟩
          rw [← x1, e_10_81]
          simp (disch := first | assumption | omega) [k_St, n_St, i_St, j_St, r_St, wI_St, wJ_St, k_S0, n_S0, i_S0, j_S0, r_S0, wI_S0, wJ_S0, cI_s, cJ_s, cV_s, nR_s, nQ_s, nQ_n, lt_s_, gd_T, gd_t, Option.map_some, lits, neg_mI, nI_add, pk_mul, nI_clamp, nI_eq, nI_leI, nI_ltI, nm_eq, mn_eq, nm_lt, mn_lt, nm_le, mn_le, m_eq, bI_0, bI_1, w4, e7, kp, e26, u0, e14]
        | false =>
          rw [hg] at e14
          obtain ⟨I1, g1, I', c', Q', x1, x2⟩ := goes (2 * nxc c w) (by omega) (Or.inr (Or.inr (Or.inl ⟨c, w, hc, hw1, by omega, hu', rfl, hsc, cs⟩))) (by omega) (fun V hV => ⟨fun _ _ _ => hV, fun h => absurd h (by decide)⟩)
          refine ⟨I', c', Q', ?_, x2⟩
          rw [← x1, e_10_81]
          simp (disch := first | assumption | omega) [k_St, n_St, i_St, j_St, r_St, wI_St, wJ_St, k_S0, n_S0, i_S0, j_S0, r_S0, wI_S0, wJ_S0, cI_s, cJ_s, cV_s, nR_s, nQ_s, nQ_n, lt_s_, gd_T, gd_t, Option.map_some, lits, neg_mI, nI_add, pk_mul, nI_clamp, nI_eq, nI_leI, nI_ltI, nm_eq, mn_eq, nm_lt, mn_lt, nm_le, mn_le, m_eq, bI_0, bI_1, w4, e7, kp, e26, u0, e14]
          rw [e_10_107]
          simp (disch := first | assumption | omega) [k_St, n_St, i_St, j_St, r_St, wI_St, wJ_St, k_S0, n_S0, i_S0, j_S0, r_S0, wI_S0, wJ_S0, cI_s, cJ_s, cV_s, nR_s, nQ_s, nQ_n, lt_s_, gd_T, gd_t, Option.map_some, lits, neg_mI, nI_add, pk_mul, nI_clamp, nI_eq, nI_leI, nI_ltI, nm_eq, mn_eq, nm_lt, mn_lt, nm_le, mn_le, m_eq, bI_0, bI_1]
          rw [e_10_120]
          simp (disch := first | assumption | omega) [k_St, n_St, i_St, j_St, r_St, wI_St, wJ_St, k_S0, n_S0, i_S0, j_S0, r_S0, wI_S0, wJ_S0, cI_s, cJ_s, cV_s, nR_s, nQ_s, nQ_n, lt_s_, gd_T, gd_t, Option.map_some, lits, neg_mI, nI_add, pk_mul, nI_clamp, nI_eq, nI_leI, nI_ltI, nm_eq, mn_eq, nm_lt, mn_lt, nm_le, mn_le, m_eq, bI_0, bI_1, u0, g1]
      | false =>
        have hu' : u = 2 * c := hu
        obtain ⟨m1, m2, m3, m4⟩ := nx_op c hc w (by omega) hw1 hl
        have e15 := s_15o (lx := lx) (w := w) hw1 (by omega) (St z E n K N R I J)
        have e14 := c_14 (lx := lx) (z := z) (E := E) (n := n) (I := I) hU hJ hl m3 (show op w ≤ 4 by omega)
        cases hg : g (nxc c w) (op w) with
        | false =>
          rw [hg] at e14
          obtain ⟨I', c', Q', x1, x2⟩ := skip (fun V => ⟨fun h => absurd h (by decide), fun _ _ h => by rw [hg] at h; exact absurd h (by decide)⟩)
          refine ⟨I', c', Q', ?_, x2⟩
          rw [← x1, e_10_81]
          simp (disch := first | assumption | omega) [k_St, n_St, i_St, j_St, r_St, wI_St, wJ_St, k_S0, n_S0, i_S0, j_S0, r_S0, wI_S0, wJ_S0, cI_s, cJ_s, cV_s, nR_s, nQ_s, nQ_n, lt_s_, gd_T, gd_t, Option.map_some, lits, neg_mI, nI_add, pk_mul, nI_clamp, nI_eq, nI_leI, nI_ltI, nm_eq, mn_eq, nm_lt, mn_lt, nm_le, mn_le, m_eq, bI_0, bI_1, w4, e7, kp, e26, u0, e15, e14]
        | true =>
          rw [hg] at e14
          obtain ⟨I1, g1, I', c', Q', x1, x2⟩ := goes (2 * nxc c w + 1) (by omega) (Or.inr (Or.inr (Or.inr ⟨nxc c w, op w, hl, m3, by omega, by rw [m1]; exact hu', rfl, by rw [m1]; exact hc, hg⟩))) (by omega) (fun V hV => ⟨fun h => absurd h (by decide), fun _ _ _ => hV⟩)
          refine ⟨I', c', Q', ?_, x2⟩
          rw [← x1, e_10_81]
          simp (disch := first | assumption | omega) [k_St, n_St, i_St, j_St, r_St, wI_St, wJ_St, k_S0, n_S0, i_S0, j_S0, r_S0, wI_S0, wJ_S0, cI_s, cJ_s, cV_s, nR_s, nQ_s, nQ_n, lt_s_, gd_T, gd_t, Option.map_some, lits, neg_mI, nI_add, pk_mul, nI_clamp, nI_eq, nI_leI, nI_ltI, nm_eq, mn_eq, nm_lt, mn_lt, nm_le, mn_le, m_eq, bI_0, bI_1, w4, e7, kp, e26, u0, e15, e14]
          rw [e_10_107]
          simp (disch := first | assumption | omega) [k_St, n_St, i_St, j_St, r_St, wI_St, wJ_St, k_S0, n_S0, i_S0, j_S0, r_S0, wI_S0, wJ_S0, cI_s, cJ_s, cV_s, nR_s, nQ_s, nQ_n, lt_s_, gd_T, gd_t, Option.map_some, lits, neg_mI, nI_add, pk_mul, nI_clamp, nI_eq, nI_leI, nI_ltI, nm_eq, mn_eq, nm_lt, mn_lt, nm_le, mn_le, m_eq, bI_0, bI_1]
          rw [e_10_120]
          simp (disch := first | assumption | omega) [k_St, n_St, i_St, j_St, r_St, wI_St, wJ_St, k_S0, n_S0, i_S0, j_S0, r_S0, wI_S0, wJ_S0, cI_s, cJ_s, cV_s, nR_s, nQ_s, nQ_n, lt_s_, gd_T, gd_t, Option.map_some, lits, neg_mI, nI_add, pk_mul, nI_clamp, nI_eq, nI_leI, nI_ltI, nm_eq, mn_eq, nm_lt, mn_lt, nm_le, mn_le, m_eq, bI_0, bI_1, u0, g1]
    · have cs' : isS F (nxc c w) = false := by simpa using cs
      rw [cs'] at e26
      obtain ⟨I', c', Q', x1, x2⟩ := ih (w + 1) I cnt Q (by omega) (by omega) H hi hq (fun v v1 v2 => by
        by_cases e : v = w
        · rw [e]; exact ⟨fun _ h => absurd h cs, fun _ h => absurd h cs⟩
        · exact hd v v1 (by omega))
      refine ⟨I', c', Q', ?_, x2⟩
      rw [← x1, e_10_81]
      simp (disch := first | assumption | omega) [k_St, n_St, i_St, j_St, r_St, wI_St, wJ_St, k_S0, n_S0, i_S0, j_S0, r_S0, wI_S0, wJ_S0, cI_s, cJ_s, cV_s, nR_s, nQ_s, nQ_n, lt_s_, gd_T, gd_t, Option.map_some, lits, neg_mI, nI_add, pk_mul, nI_clamp, nI_eq, nI_leI, nI_ltI, nm_eq, mn_eq, nm_lt, mn_lt, nm_le, mn_le, m_eq, bI_0, bI_1, w4, e7, kp, e26]
end CU4
