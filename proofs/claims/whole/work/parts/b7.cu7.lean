theorem dv2 : ∀ u, u < 128 → (nI u) / nI 2 = nI (u / 2) ∧ nI u - nI u / nI 2 * nI 2 = nI (u % 2) := by decide +kernel
theorem tb4 : ∀ w, w < 5 → 1 ≤ w → ((nI w + nI 1) - (nI w + nI 1) / nI 4 * nI 4) + nI 1 = nI (op w) := by decide +kernel
section CU7
variable {z : Nat} {E : aEt} {n : Nat} {K N : Nat → Nat} {R : Nat → Nat → Option Nat} {I : Nat → Nat → Int32} {J : Nat → Nat → Int64} {lx : List Value → aH → aO} {f : Nat} {g g' : Nat → Nat → Bool} {us us' : Nat → Bool} {F : Nat → Nat → Nat} {a b k x c d w i cnt : Nat} {Q : Nat → Nat}
def MU (K N : Nat → Nat) (R : Nat → Nat → Option Nat) : Prop := K 132 = 11 ∧ R 132 23 = some 139 ∧ R 132 24 = some 140 ∧ R 132 25 = some 141 ∧ R 132 26 = some 142 ∧ K 139 = 15 ∧ K 140 = 15 ∧ K 141 = 13 ∧ K 142 = 13 ∧ N 139 = 320 ∧ N 140 = 64 ∧ N 141 = 128 ∧ N 142 = 128
theorem MU_o (h : Mo K N R) : MU K N R := by
  obtain ⟨h0, _, _, _, _, _, h7, h8, h9, h10, h11, _, _, _, _, _, _, _, _, _, h21, h22, h23, h24, _, _, _, _, _, _, _, _, _, h33, h34, h35, h36, _⟩ := h
  exact ⟨h0, h8, h9, h10, h11, h21, h22, h23, h24, h33, h34, h35, h36⟩
def MFl (I : Nat → Nat → Int32) (g : Nat → Nat → Bool) (us : Nat → Bool) : Prop := (∀ w, 1 ≤ w → w ≤ 4 → ∀ c, c < 64 → I 139 (5 * c + w) = bI (g c w)) ∧ ∀ c, c < 64 → I 140 c = bI (us c)
def Fmu (I I' : Nat → Nat → Int32) : Prop := (∀ a, a ≠ 132 → a ≠ 141 → a ≠ 142 → I' a = I a) ∧ ∀ k, k ≠ 27 → I' 132 k = I 132 k
theorem Fmu_r : Fmu I I := ⟨fun _ _ _ _ => rfl, fun _ _ => rfl⟩
theorem Fmu_t {I1 I2 : Nat → Nat → Int32} (h : Fmu I I1) (h2 : Fmu I1 I2) : Fmu I I2 := ⟨fun a x1 x2 x3 => (h2.1 a x1 x2 x3).trans (h.1 a x1 x2 x3), fun k hk => (h2.2 k hk).trans (h.2 k hk)⟩
theorem MFl_f {I1 : Nat → Nat → Int32} (h : MFl I g us) (e : Fmu I I1) : MFl I1 g us := by
  unfold MFl
  rw [e.1 139 (by decide) (by decide) (by decide), e.1 140 (by decide) (by decide) (by decide)]; exact h
theorem MD_f {I1 : Nat → Nat → Int32} (h : MD K N R I f F) (e : ∀ a, 147 ≤ a → I1 a = I a) : MD K N R I1 f F := by
  obtain ⟨h1, h2, h3, h4, h5⟩ := h
  exact ⟨h1, h2, h3, FI_e h4 (fun a x1 x2 => e a (by have := h2.1; omega)), h5⟩
theorem MD_m {I1 : Nat → Nat → Int32} (h : MD K N R I f F) (e : Fmu I I1) : MD K N R I1 f F := MD_f h (fun a ha => e.1 a (by omega) (by omega) (by omega))
theorem d_269 {v : Nat} (hU : MU K N R) (H : Bf 142 141 132 27 F g us a I cnt Q) (hi : i < cnt) (hv : v < 128) (hr : Rs F g us (Q i) v) (hs : isS F (v / 2) = true) : ∃ I' cnt' Q', Ca lx 269 [.ref (z + 132), .int (nI v), .int (nI (Q i))] (St z E n K N R I J) = some (none, St z E n K N R I' J) ∧ Bf 142 141 132 27 F g us a I' cnt' Q' ∧ Mo2 cnt Q cnt' Q' ∧ Vs Q' cnt' v ∧ Fmu I I' := by
  obtain ⟨m0, m1, m2, m3, m4, k1, k2, k3, k4, n1, n2, n3, n4⟩ := hU
  have hc := H.2.1
  by_cases e : I 142 v = mI 1
  · have lt := Bf_l H hv e
    refine ⟨_, _, _, ?_, Bf_r H (by decide) (by decide) (by decide) hi hv hr hs e, ⟨Nat.le_succ _, fun j hj => by simp only; rw [if_neg (by omega)]⟩, ⟨cnt, Nat.lt_succ_self _, by simp⟩, ⟨fun x x1 x2 x3 => by rw [u2_a _ _ _ _ _ x1, u2_a _ _ _ _ _ x2, u2_a _ _ _ _ _ x3], fun k hk => by rw [u2_k _ _ _ _ _ hk, u2_a _ _ _ _ _ (by decide), u2_a _ _ _ _ _ (by decide)]⟩⟩
    rw [f_269]
    simp (disch := first | assumption | omega) [k_St, n_St, i_St, j_St, r_St, wI_St, wJ_St, k_S0, n_S0, i_S0, j_S0, r_S0, wI_S0, wJ_S0, cI_s, cJ_s, cV_s, nR_s, nQ_s, nQ_n, lt_s_, gd_T, gd_t, Option.map_some, lits, neg_mI, nI_add, pk_mul, nI_clamp, nI_eq, nI_leI, nI_ltI, nm_eq, mn_eq, nm_lt, mn_lt, nm_le, mn_le, m_eq, bI_0, bI_1, m0, m3, m4, k3, k4, n3, n4, e, hc, u2_s, u2_a, u2_k]
  · refine ⟨I, cnt, Q, ?_, H, Mo2_r, (Bf_v H hv).mpr e, Fmu_r⟩
    rw [f_269]
    simp (disch := first | assumption | omega) [k_St, n_St, i_St, j_St, r_St, wI_St, wJ_St, k_S0, n_S0, i_S0, j_S0, r_S0, wI_S0, wJ_S0, cI_s, cJ_s, cV_s, nR_s, nQ_s, nQ_n, lt_s_, gd_T, gd_t, Option.map_some, lits, neg_mI, nI_add, pk_mul, nI_clamp, nI_eq, nI_leI, nI_ltI, nm_eq, mn_eq, nm_lt, mn_lt, nm_le, mn_le, m_eq, bI_0, bI_1, m0, m4, k4, n4, e]
def Pm (F : Nat → Nat → Nat) (g : Nat → Nat → Bool) (a c : Nat) (o : Bool) (v : Nat) (V : Nat → Prop) : Prop := (o = true → isS F (nxc c v) = true → nxc c v ≠ a → V (2 * nxc c v)) ∧ (o = false → isS F (nxc c v) = true → g (nxc c v) (op v) = true → V (2 * nxc c v + 1))
theorem Pm_m {o : Bool} {v : Nat} {V V' : Nat → Prop} (h : Pm F g a c o v V) (e : ∀ x, V x → V' x) : Pm F g a c o v V' := ⟨fun x y q => e _ (h.1 x y q), fun x y q => e _ (h.2 x y q)⟩
theorem s_271 (hw : 1 ≤ w) (hw2 : w ≤ 4) (S : aH) : Ca lx 271 [.int (nI w)] S = some (some (.int (nI (op w))), S) := by
  have := tb4 w (by omega) hw
  rw [f_271]
  rw [show (1 : Int32) = nI 1 from rfl, show (4 : Int32) = nI 4 from rfl, this, gd_t (by decide)]
theorem d_270w {u : Nat} {o : Bool} (hU : MU K N R) (hu : u = 2 * c + o.toNat) (hc : c < 64) (hsc : isS F c = true) (ha : a < 64) (vb : Int32) (bb : aB) : ∀ (n' w : Nat) (I : Nat → Nat → Int32) (cnt : Nat) (Q : Nat → Nat), w + n' = 5 → 1 ≤ w → MD K N R I f F → MFl I g us → Bf 142 141 132 27 F g us a I cnt Q → i < cnt → Q i = u → (∀ v, 1 ≤ v → v < w → Pm F g a c o v (Vs Q cnt)) → ∃ I' cnt' Q', Am lx 270 101 [some (.ref (z + 132)), some (.int (nI a)), some (.int vb), some (.int (nI i)), some (.int (nI c)), some (.int (bI o)), some (.int (nI w)), none] [] bb (St z E n K N R I J) = Am lx 270 31 [some (.ref (z + 132)), some (.int (nI a)), some (.int vb), some (.int (nI (i + 1))), none, none, none, none] [] bb (St z E n K N R I' J) ∧ Bf 142 141 132 27 F g us a I' cnt' Q' ∧ Mo2 cnt Q cnt' Q' ∧ Fmu I I' ∧ (∀ v, 1 ≤ v → v ≤ 4 → Pm F g a c o v (Vs Q' cnt')) := by
  intro n'
  obtain ⟨m0, m1, m2, m3, m4, k1, k2, k3, k4, n1, n2, n3, n4⟩ := id hU
  induction n' with
  | zero =>
    intro w I cnt Q hw hw1 hD hJ H hi hq hd
    have hn := Bf_n H
    have w5 : w = 5 := by omega
    subst w5
    refine ⟨I, cnt, Q, ?_, H, Mo2_r, Fmu_r, fun v v1 v2 => hd v v1 (by omega)⟩
    rw [e_270_101]
    simp (disch := first | assumption | omega) [k_St, n_St, i_St, j_St, r_St, wI_St, wJ_St, k_S0, n_S0, i_S0, j_S0, r_S0, wI_S0, wJ_S0, cI_s, cJ_s, cV_s, nR_s, nQ_s, nQ_n, lt_s_, gd_T, gd_t, Option.map_some, lits, neg_mI, nI_add, pk_mul, nI_clamp, nI_eq, nI_leI, nI_ltI, nm_eq, mn_eq, nm_lt, mn_lt, nm_le, mn_le, m_eq, bI_0, bI_1]
  | succ n' ih =>
    intro w I cnt Q hw hw1 hD hJ H hi hq hd
    have hn := Bf_n H
    have fk := hD.2.1.2.1
    have r3 := hD.2.2.1
    have w4 : ¬ 5 ≤ w := by omega
    have nl := nx_0 c hc w (by omega)
    have e7 := s_177 (lx := lx) (z := z) (E := E) (n := n) (J := J) hD hc (isS_in hsc) (show w < 5 by omega) hw1
    have e9 := s_179 (lx := lx) (z := z) (E := E) (n := n) (J := J) hD (nf F c w)
    rw [nf_S] at e9
    have lq := (H.2.2.1 i hi).2.1
    rw [hq] at lq
    by_cases cs : isS F (nxc c w) = true
    · have hl := isS_lt cs
      rw [cs] at e9
      rw [nf_e cs] at e7 e9
      rw [oI_lt hl] at e7 e9
      have skip : (∀ V, Pm F g a c o w V) → ∃ I' cnt' Q', Am lx 270 101 [some (.ref (z + 132)), some (.int (nI a)), some (.int vb), some (.int (nI i)), some (.int (nI c)), some (.int (bI o)), some (.int (nI (w + 1))), none] [] bb (St z E n K N R I J) = Am lx 270 31 [some (.ref (z + 132)), some (.int (nI a)), some (.int vb), some (.int (nI (i + 1))), none, none, none, none] [] bb (St z E n K N R I' J) ∧ Bf 142 141 132 27 F g us a I' cnt' Q' ∧ Mo2 cnt Q cnt' Q' ∧ Fmu I I' ∧ (∀ v, 1 ≤ v → v ≤ 4 → Pm F g a c o v (Vs Q' cnt')) := fun hw' =>
        ih (w + 1) I cnt Q (by omega) (by omega) hD hJ H hi hq (fun v v1 v2 => by
          by_cases e : v = w
          · rw [e]; exact hw' _
          · exact hd v v1 (by omega))
      have goes : ∀ v, v < 128 → Rs F g us u v → v / 2 = nxc c w → (∀ V : Nat → Prop, V v → Pm F g a c o w V) → ∃ I1, Ca lx 269 [.ref (z + 132), .int (nI v), .int (nI u)] (St z E n K N R I J) = some (none, St z E n K N R I1 J) ∧ Fmu I I1 ∧ ∃ I' cnt' Q', Am lx 270 101 [some (.ref (z + 132)), some (.int (nI a)), some (.int vb), some (.int (nI i)), some (.int (nI c)), some (.int (bI o)), some (.int (nI (w + 1))), none] [] bb (St z E n K N R I1 J) = Am lx 270 31 [some (.ref (z + 132)), some (.int (nI a)), some (.int vb), some (.int (nI (i + 1))), none, none, none, none] [] bb (St z E n K N R I' J) ∧ Bf 142 141 132 27 F g us a I' cnt' Q' ∧ Mo2 cnt Q cnt' Q' ∧ Fmu I I' ∧ (∀ v, 1 ≤ v → v ≤ 4 → Pm F g a c o v (Vs Q' cnt')) := fun v v1 v2 v3 v4 => by
        rw [← hq] at v2
        obtain ⟨I1, c1, Q1, g1, g2, g3, g4, g5⟩ := d_269 (lx := lx) (z := z) (E := E) (n := n) (J := J) hU H hi v1 v2 (by rw [v3]; exact cs)
        rw [hq] at g1
        obtain ⟨I2, c2, Q2, k1, k2, k3, k4, k5⟩ := ih (w + 1) I1 c1 Q1 (by omega) (by omega) (MD_m hD g5) (MFl_f hJ g5) g2 (by have := g3.1; omega) (by rw [g3.2 i hi]; exact hq) (fun v v1 v2 => by
          by_cases e : v = w
          · rw [e]; exact v4 _ g4
          · exact Pm_m (hd v v1 (by omega)) (fun x hx => Vs_m g3 hx))
        exact ⟨I1, g1, g5, I2, c2, Q2, k1, k2, Mo2_t g3 k3, Fmu_t g5 k4, k5⟩
      cases o with
      | true =>
        have hu' : u = 2 * c + 1 := hu
        have b1 : ¬ bI true = nI 0 := by decide
        by_cases ea : nxc c w = a
        · obtain ⟨I', c', Q', x1, x2⟩ := skip (fun V => ⟨fun _ _ h => absurd ea h, fun h => absurd h (by decide)⟩)
          refine ⟨I', c', Q', ?_, x2⟩
          rw [ea] at e7 e9
          rw [← x1, e_270_101]
          simp (disch := first | assumption | omega) [k_St, n_St, i_St, j_St, r_St, wI_St, wJ_St, k_S0, n_S0, i_S0, j_S0, r_S0, wI_S0, wJ_S0, cI_s, cJ_s, cV_s, nR_s, nQ_s, nQ_n, lt_s_, gd_T, gd_t, Option.map_some, lits, neg_mI, nI_add, pk_mul, nI_clamp, nI_eq, nI_leI, nI_ltI, nm_eq, mn_eq, nm_lt, mn_lt, nm_le, mn_le, m_eq, bI_0, bI_1, w4, m0, r3, fk, e7, e9, b1]
          rw [e_270_131]
          simp (disch := first | assumption | omega) [k_St, n_St, i_St, j_St, r_St, wI_St, wJ_St, k_S0, n_S0, i_S0, j_S0, r_S0, wI_S0, wJ_S0, cI_s, cJ_s, cV_s, nR_s, nQ_s, nQ_n, lt_s_, gd_T, gd_t, Option.map_some, lits, neg_mI, nI_add, pk_mul, nI_clamp, nI_eq, nI_leI, nI_ltI, nm_eq, mn_eq, nm_lt, mn_lt, nm_le, mn_le, m_eq, bI_0, bI_1, b1]
        · obtain ⟨I1, g1, _, I', c', Q', x1, x2⟩ := goes (2 * nxc c w) (by omega) (Or.inr (Or.inr (Or.inl ⟨c, w, hc, hw1, by omega, hu', rfl, hsc, cs⟩))) (by omega) (fun V hV => ⟨fun _ _ _ => hV, fun h => absurd h (by decide)⟩)
          refine ⟨I', c', Q', ?_, x2⟩
          rw [← x1, e_270_101]
          simp (disch := first | assumption | omega) [k_St, n_St, i_St, j_St, r_St, wI_St, wJ_St, k_S0, n_S0, i_S0, j_S0, r_S0, wI_S0, wJ_S0, cI_s, cJ_s, cV_s, nR_s, nQ_s, nQ_n, lt_s_, gd_T, gd_t, Option.map_some, lits, neg_mI, nI_add, pk_mul, nI_clamp, nI_eq, nI_leI, nI_ltI, nm_eq, mn_eq, nm_lt, mn_lt, nm_le, mn_le, m_eq, bI_0, bI_1, w4, m0, r3, fk, e7, e9, ea, b1, m3, k3, n3, lq, g1]
          rw [e_270_131]
          simp (disch := first | assumption | omega) [k_St, n_St, i_St, j_St, r_St, wI_St, wJ_St, k_S0, n_S0, i_S0, j_S0, r_S0, wI_S0, wJ_S0, cI_s, cJ_s, cV_s, nR_s, nQ_s, nQ_n, lt_s_, gd_T, gd_t, Option.map_some, lits, neg_mI, nI_add, pk_mul, nI_clamp, nI_eq, nI_leI, nI_ltI, nm_eq, mn_eq, nm_lt, mn_lt, nm_le, mn_le, m_eq, bI_0, bI_1, b1]
      | false =>
        have hu' : u = 2 * c := hu
        obtain ⟨q1, q2, q3, q4⟩ := nx_op c hc w (by omega) hw1 hl
        have e15 := s_271 (lx := lx) (w := w) hw1 (by omega) (St z E n K N R I J)
        have eg := hJ.1 (op w) q3 (by omega) (nxc c w) hl
        have b0 : bI false = nI 0 := rfl
        cases hg : g (nxc c w) (op w) with
        | false =>
          rw [hg] at eg
          obtain ⟨I', c', Q', x1, x2⟩ := skip (fun V => ⟨fun h => absurd h (by decide), fun _ _ h => by rw [hg] at h; exact absurd h (by decide)⟩)
          refine ⟨I', c', Q', ?_, x2⟩
          rw [← x1, e_270_101]
          simp (disch := first | assumption | omega) [k_St, n_St, i_St, j_St, r_St, wI_St, wJ_St, k_S0, n_S0, i_S0, j_S0, r_S0, wI_S0, wJ_S0, cI_s, cJ_s, cV_s, nR_s, nQ_s, nQ_n, lt_s_, gd_T, gd_t, Option.map_some, lits, neg_mI, nI_add, pk_mul, nI_clamp, nI_eq, nI_leI, nI_ltI, nm_eq, mn_eq, nm_lt, mn_lt, nm_le, mn_le, m_eq, bI_0, bI_1, w4, m0, r3, fk, e7, e9, b0]
          rw [e_270_131]
          simp (disch := first | assumption | omega) [k_St, n_St, i_St, j_St, r_St, wI_St, wJ_St, k_S0, n_S0, i_S0, j_S0, r_S0, wI_S0, wJ_S0, cI_s, cJ_s, cV_s, nR_s, nQ_s, nQ_n, lt_s_, gd_T, gd_t, Option.map_some, lits, neg_mI, nI_add, pk_mul, nI_clamp, nI_eq, nI_leI, nI_ltI, nm_eq, mn_eq, nm_lt, mn_lt, nm_le, mn_le, m_eq, bI_0, bI_1, m0, m1, e15, k1, n1, eg, b0]
        | true =>
          rw [hg] at eg
          have b1 : ¬ bI true = nI 0 := by decide
          obtain ⟨I1, g1, _, I', c', Q', x1, x2⟩ := goes (2 * nxc c w + 1) (by omega) (Or.inr (Or.inr (Or.inr ⟨nxc c w, op w, hl, q3, by omega, by rw [q1]; exact hu', rfl, by rw [q1]; exact hc, hg⟩))) (by omega) (fun V hV => ⟨fun h => absurd h (by decide), fun _ _ _ => hV⟩)
          refine ⟨I', c', Q', ?_, x2⟩
          rw [← x1, e_270_101]
          simp (disch := first | assumption | omega) [k_St, n_St, i_St, j_St, r_St, wI_St, wJ_St, k_S0, n_S0, i_S0, j_S0, r_S0, wI_S0, wJ_S0, cI_s, cJ_s, cV_s, nR_s, nQ_s, nQ_n, lt_s_, gd_T, gd_t, Option.map_some, lits, neg_mI, nI_add, pk_mul, nI_clamp, nI_eq, nI_leI, nI_ltI, nm_eq, mn_eq, nm_lt, mn_lt, nm_le, mn_le, m_eq, bI_0, bI_1, w4, m0, r3, fk, e7, e9, b0]
          rw [e_270_131]
          simp (disch := first | assumption | omega) [k_St, n_St, i_St, j_St, r_St, wI_St, wJ_St, k_S0, n_S0, i_S0, j_S0, r_S0, wI_S0, wJ_S0, cI_s, cJ_s, cV_s, nR_s, nQ_s, nQ_n, lt_s_, gd_T, gd_t, Option.map_some, lits, neg_mI, nI_add, pk_mul, nI_clamp, nI_eq, nI_leI, nI_ltI, nm_eq, mn_eq, nm_lt, mn_lt, nm_le, mn_le, m_eq, bI_0, bI_1, m0, m1, e15, k1, n1, eg, b0, b1, m3, k3, n3, lq, g1]
    · have cs' : isS F (nxc c w) = false := by simpa using cs
      rw [cs'] at e9
      obtain ⟨I', c', Q', x1, x2⟩ := ih (w + 1) I cnt Q (by omega) (by omega) hD hJ H hi hq (fun v v1 v2 => by
        by_cases e : v = w
        · rw [e]; exact ⟨fun _ h => absurd h cs, fun _ h => absurd h cs⟩
        · exact hd v v1 (by omega))
      refine ⟨I', c', Q', ?_, x2⟩
      rw [← x1, e_270_101]
      simp (disch := first | assumption | omega) [k_St, n_St, i_St, j_St, r_St, wI_St, wJ_St, k_S0, n_S0, i_S0, j_S0, r_S0, wI_S0, wJ_S0, cI_s, cJ_s, cV_s, nR_s, nQ_s, nQ_n, lt_s_, gd_T, gd_t, Option.map_some, lits, neg_mI, nI_add, pk_mul, nI_clamp, nI_eq, nI_leI, nI_ltI, nm_eq, mn_eq, nm_lt, mn_lt, nm_le, mn_le, m_eq, bI_0, bI_1, w4, m0, r3, fk, e7, e9]
end CU7
