section RMA
variable {z : Nat} {E : aEt} {n : Nat} {K N : Nat → Nat} {R : Nat → Nat → Option Nat} {I : Nat → Nat → Int32} {J : Nat → Nat → Int64} {lx : List Value → aH → aO} {f s q m e : Nat} {T : Nat → Nat} {F G : Nat → Nat → Nat} {w r : Bool} {x : Exc Nat}
theorem fd_d (hN : NM T m (F 0 7) (F 0 8) G) : (fdi (fun k => decide (w8 T m (G 2 k) = w8 T m s)) (F 0 7 + F 0 8) < F 0 7 + F 0 8 → G 3 (fdi (fun k => decide (w8 T m (G 2 k) = w8 T m s)) (F 0 7 + F 0 8)) = 0 → fdd T m F G s = G 4 (fdi (fun k => decide (w8 T m (G 2 k) = w8 T m s)) (F 0 7 + F 0 8)) ∧ fdd T m F G s < F 0 7) ∧ (fdi (fun k => decide (w8 T m (G 2 k) = w8 T m s)) (F 0 7 + F 0 8) < F 0 7 + F 0 8 → G 3 (fdi (fun k => decide (w8 T m (G 2 k) = w8 T m s)) (F 0 7 + F 0 8)) ≠ 0 → ¬ fdd T m F G s < F 0 7) ∧ (¬ fdi (fun k => decide (w8 T m (G 2 k) = w8 T m s)) (F 0 7 + F 0 8) < F 0 7 + F 0 8 → ¬ fdd T m F G s < F 0 7) := by
  obtain ⟨h1, h2, h3, h4⟩ := hN
  -- a drum of that name is the one of that place
  have key : fdd T m F G s < F 0 7 → ∃ j, j < F 0 7 + F 0 8 ∧ G 3 j = 0 ∧ G 4 j = fdd T m F G s ∧ w8 T m (G 2 j) = w8 T m s := fun hd => by
    have hw := fdi_p (P := fun d => decide (w8 T m (G 0 d) = w8 T m s)) hd
    obtain ⟨j, j1, j2, j3⟩ := h2 _ hd
    refine ⟨j, j1, j2, j3, ?_⟩
    obtain ⟨_, b⟩ := h1 j j1
    rcases b with ⟨_, _, b⟩ | ⟨b, _, _⟩
    · rw [b, j3]; exact of_decide_eq_true hw
    · omega
  refine ⟨fun hk h0 => ?_, fun hk h0 hd => ?_, fun hk hd => ?_⟩
  · have kw := of_decide_eq_true (fdi_p (P := fun k => decide (w8 T m (G 2 k) = w8 T m s)) hk)
    generalize fdi (fun k => decide (w8 T m (G 2 k) = w8 T m s)) (F 0 7 + F 0 8) = k at *
    obtain ⟨_, b⟩ := h1 k hk
    have hb : G 4 k < F 0 7 ∧ G 2 k = G 0 (G 4 k) := by
      rcases b with ⟨_, b1, b2⟩ | ⟨b, _, _⟩
      · exact ⟨b1, b2⟩
      · omega
    have lt : fdd T m F G s < F 0 7 := by
      unfold fdd
      rw [fdi_t, anyB_t]
      exact ⟨G 4 k, hb.1, by rw [← hb.2]; exact decide_eq_true kw⟩
    obtain ⟨j, j1, j2, j3, j4⟩ := key lt
    have : j = k := h4 j k j1 hk (by rw [j4, kw])
    rw [← this, j3]; exact ⟨rfl, lt⟩
  · have kw := of_decide_eq_true (fdi_p (P := fun k => decide (w8 T m (G 2 k) = w8 T m s)) hk)
    generalize fdi (fun k => decide (w8 T m (G 2 k) = w8 T m s)) (F 0 7 + F 0 8) = k at *
    obtain ⟨j, j1, j2, j3, j4⟩ := key hd
    have : j = k := h4 j k j1 hk (by rw [j4, kw])
    rw [this] at j2
    exact h0 j2
  · obtain ⟨j, j1, j2, j3, j4⟩ := key hd
    apply hk
    rw [fdi_t, anyB_t]
    exact ⟨j, j1, decide_eq_true j4⟩
theorem MOk_h {d v a : Nat} (h : MOk I J f T m F w r G s) (hf : 147 ≤ f) : MOk (u2 (u2 (u2 (u2 I (f + 6) (F 0 9) (nI d)) (f + 7) (F 0 9) (nI v)) (f + 8) (F 0 9) (nI a)) f 9 (nI (F 0 9 + 1))) J f T m (u2 (u2 (u2 (u2 F 6 (F 0 9) d) 7 (F 0 9) v) 8 (F 0 9) a) 0 9 (F 0 9 + 1)) w r G s := by
  obtain ⟨h1, hT, ⟨w0, w1, w2, w3, w4, w5, w6, w7⟩, h4, h5, h6⟩ := h
  have i1 : ∀ b, b ≠ f → b ≠ f + 6 → b ≠ f + 7 → b ≠ f + 8 → u2 (u2 (u2 (u2 I (f + 6) (F 0 9) (nI d)) (f + 7) (F 0 9) (nI v)) (f + 8) (F 0 9) (nI a)) f 9 (nI (F 0 9 + 1)) b = I b := fun b a1 a2 a3 a4 => by
    rw [u2_a _ _ _ _ _ a1, u2_a _ _ _ _ _ a4, u2_a _ _ _ _ _ a3, u2_a _ _ _ _ _ a2]
  have if0 : ∀ j, j ≠ 9 → u2 (u2 (u2 (u2 I (f + 6) (F 0 9) (nI d)) (f + 7) (F 0 9) (nI v)) (f + 8) (F 0 9) (nI a)) f 9 (nI (F 0 9 + 1)) f j = I f j := fun j j1 => by simp (disch := first | assumption | omega) [u2_s, u2_a, u2_k]
  have f0 : ∀ j, j ≠ 9 → u2 (u2 (u2 (u2 F 6 (F 0 9) d) 7 (F 0 9) v) 8 (F 0 9) a) 0 9 (F 0 9 + 1) 0 j = F 0 j := fun j j1 => by
    rw [u2_k _ _ _ _ _ j1, u2_a _ _ _ _ _ (by decide), u2_a _ _ _ _ _ (by decide), u2_a _ _ _ _ _ (by decide)]
  have f9 : u2 (u2 (u2 (u2 F 6 (F 0 9) d) 7 (F 0 9) v) 8 (F 0 9) a) 0 9 (F 0 9 + 1) 0 9 = F 0 9 + 1 := u2_s _ _ _ _
  have fb : ∀ b, b ≠ 0 → b ≠ 6 → b ≠ 7 → b ≠ 8 → u2 (u2 (u2 (u2 F 6 (F 0 9) d) 7 (F 0 9) v) 8 (F 0 9) a) 0 9 (F 0 9 + 1) b = F b := fun b b1 b2 b3 b4 => by
    rw [u2_a _ _ _ _ _ b1, u2_a _ _ _ _ _ b4, u2_a _ _ _ _ _ b3, u2_a _ _ _ _ _ b2]
  have a1 := i1 132 (by omega) (by omega) (by omega) (by omega)
  refine ⟨by rw [a1]; exact h1, MTk_c hT a1 rfl, ⟨?_, by rw [if0 6 (by decide), f0 6 (by decide)]; exact w1, ?_, ?_, ?_, ?_, ?_, ?_⟩, by rw [if0 11 (by decide)]; exact h4, ?_⟩
  · intro j j1 j2
    by_cases j9 : j = 9
    · rw [j9, u2_s, f9]
    · rw [if0 j j9, f0 j j9]; exact w0 j j1 j2
  · rw [i1 _ (by omega) (by omega) (by omega) (by omega), fb 1 (by decide) (by decide) (by decide) (by decide)]; exact w2
  · rw [f0 7 (by decide), fb 2 (by decide) (by decide) (by decide) (by decide), i1 _ (by omega) (by omega) (by omega) (by omega)]; exact w3
  · rw [f0 8 (by decide), fb 3 (by decide) (by decide) (by decide) (by decide), i1 _ (by omega) (by omega) (by omega) (by omega)]; exact w4
  · rw [f0 8 (by decide), fb 4 (by decide) (by decide) (by decide) (by decide), i1 _ (by omega) (by omega) (by omega) (by omega)]; exact w5
  · rw [f0 8 (by decide), fb 4 (by decide) (by decide) (by decide) (by decide), fb 5 (by decide) (by decide) (by decide) (by decide), i1 _ (by omega) (by omega) (by omega) (by omega)]; exact w6
  · intro k hk
    rw [f9] at hk
    by_cases e : k = F 0 9
    · rw [e]; refine ⟨?_, ?_, ?_⟩ <;> simp (disch := first | assumption | omega) [u2_s, u2_a, u2_k]
    · obtain ⟨k6, k7, k8⟩ := w7 k (by omega)
      refine ⟨?_, ?_, ?_⟩ <;> simp (disch := first | assumption | omega) [u2_s, u2_a, u2_k] <;> assumption
  · unfold MNm
    rw [if0 10 (by decide), f0 7 (by decide), f0 8 (by decide), i1 (f + 10) (by omega) (by omega) (by omega) (by omega), i1 (f + 11) (by omega) (by omega) (by omega) (by omega)]; exact ⟨h5, h6⟩
/-- a drum's name -/
theorem t_221 (hM : Rm K N R f) (hE : EOk E) (hn : FCn F) (hN : NM T m (F 0 7) (F 0 8) G) (h : MS I J f T m F w r G x) : (∃ u I', (gd (aK (St z E n K N R I J) (z + 132) = 11) (cI (Ca lx 205 [.ref (z + 132)] (St z E n K N R I J)) fun x4 S3 => (if x4 = 0 then gd (aK S3 (z + 132) = 11) (cV (Ca lx 197 [.ref (z + 132), .int 1] S3) fun S5 => Am lx 221 13 [some (.ref (z + 132)), none, none, none, none] [] (0, 0) S5) else Am lx 221 13 [some (.ref (z + 132)), none, none, none, none] [] (0, 0) S3))) = some (none, St z E n K N R I' J) ∧ x.bind (pDn T m F G) = .error u ∧ MBd I' f u.1 u.2 ∧ MF f I I' J J) ∨ (∃ s, x = .ok s ∧ fdd T m F G s < F 0 7 ∧ pDn T m F G s = .ok (fdd T m F G s, adv T m s) ∧ tK T m s = 1 ∧ (gd (aK (St z E n K N R I J) (z + 132) = 11) (cI (Ca lx 205 [.ref (z + 132)] (St z E n K N R I J)) fun x4 S3 => (if x4 = 0 then gd (aK S3 (z + 132) = 11) (cV (Ca lx 197 [.ref (z + 132), .int 1] S3) fun S5 => Am lx 221 13 [some (.ref (z + 132)), none, none, none, none] [] (0, 0) S5) else Am lx 221 13 [some (.ref (z + 132)), none, none, none, none] [] (0, 0) S3))) = Am lx 221 45 [some (.ref (z + 132)), none, none, none, none] [.int (nI (fdd T m F G s))] (0, 0) (St z E n K N R I J)) := by
  have hM' := hM
  obtain ⟨m0, m1, m2, m3, m4, hf, fk, fr12, fr13, fr14, fr15, fr16, fr17, fr18, fr19, fr20, fr21, fr22, fk1, fk2, fk3, fk4, fk5, fk6, fk7, fk8, fk9, fk10, fk11, fn1, fn2, fn3, fn4, fn5, fn6, fn7, fn8, fn9, fn10, fn11⟩ := hM
  cases x with
  | error u =>
    left
    have h' : MBd I f u.1 u.2 := h
    have e1 := b_205 (lx := lx) (z := z) (E := E) (n := n) (J := J) hM' h'
    have e2 := b_197 (lx := lx) (z := z) (E := E) (n := n) (J := J) hM' h' (nI 1)
    have e3 := b_221a (lx := lx) (z := z) (E := E) (n := n) (J := J) hM' h' (0, 0)
    refine ⟨u, I, ?_, rfl, h', MF_r⟩
    simp (disch := first | assumption | omega) [k_St, n_St, i_St, j_St, r_St, wI_St, wJ_St, k_S0, n_S0, i_S0, j_S0, r_S0, wI_S0, wJ_S0, cI_s, cJ_s, cV_s, nR_s, nQ_s, nQ_n, lt_s_, gd_T, gd_t, Option.map_some, lits, neg_mI, nI_add, pk_mul, nI_clamp, nI_eq, nI_leI, nI_ltI, nm_eq, mn_eq, nm_lt, mn_lt, nm_le, mn_le, m_eq, bI_0, bI_1, m0, e1, e2, e3]
  | ok s =>
    have h' : MOk I J f T m F w r G s := h
    have e1 := d_205 (lx := lx) (z := z) (E := E) (n := n) hM' hE h'.2.1
    by_cases c : isN T m s = true
    · rw [c] at e1
      have ks := isN_k c
      have hj := (h'.2.1.2.2.2.1 ks).2
      have mn := h'.2.2.2.2
      have h10 := mn.1
      have s9 : I 132 9 = nI 2 := by rw [h'.2.1.2.1, ks]; rfl
      obtain ⟨_, _, n7, n8, _⟩ := id hn
      have e8 := d_175 (lx := lx) (z := z) (E := E) (n := n) (J := J) (y := lN (w5 T m s)) hM' h10 (by omega)
      rw [fdN hN mn ks] at e8
      obtain ⟨d1, d2, d3⟩ := fd_d (s := s) hN
      have e33 : ∀ k, k < F 0 7 + F 0 8 → Am lx 221 33 [some (.ref (z + 132)), some (.int (nI k)), none, none, none] [] (0, 0) (St z E n K N R I J) = Am lx 221 45 [some (.ref (z + 132)), none, none, none, none] [.int (nI (G 4 k))] (0, 0) (St z E n K N R I J) := fun k hk => by
        have q := (mn.2 k hk).2.2
        rw [e_221_33]
        simp (disch := first | assumption | omega) [k_St, n_St, i_St, j_St, r_St, wI_St, wJ_St, k_S0, n_S0, i_S0, j_S0, r_S0, wI_S0, wJ_S0, cI_s, cJ_s, cV_s, nR_s, nQ_s, nQ_n, lt_s_, gd_T, gd_t, Option.map_some, lits, neg_mI, nI_add, pk_mul, nI_clamp, nI_eq, nI_leI, nI_ltI, nm_eq, mn_eq, nm_lt, mn_lt, nm_le, mn_le, m_eq, bI_0, bI_1, m0, m4, fk, s9, fr22, fk11, fn11, q, if_neg]
      have bad : ¬ fdd T m F G s < F 0 7 → ∀ k, ∃ u I', Am lx 221 29 [some (.ref (z + 132)), some (.int k), none, none, none] [] (0, 0) (St z E n K N R I J) = some (none, St z E n K N R I' J) ∧ pDn T m F G s = .error u ∧ MBd I' f u.1 u.2 ∧ MF f I I' J J := fun hd k => by
        obtain ⟨I1, g1, g2, g3⟩ := kk_197 (lx := lx) (z := z) (E := E) (n := n) (e := 2) hM' h' hn (by decide) (by decide)
        have b33 := b_221b (lx := lx) (z := z) (E := E) (n := n) (J := J) hM' g2 k (0, 0)
        refine ⟨(2, s), I1, ?_, by unfold pDn; rw [if_pos c, if_neg hd], g2, g3⟩
        rw [e_221_29]
        simp (disch := first | assumption | omega) [k_St, n_St, i_St, j_St, r_St, wI_St, wJ_St, k_S0, n_S0, i_S0, j_S0, r_S0, wI_S0, wJ_S0, cI_s, cJ_s, cV_s, nR_s, nQ_s, nQ_n, lt_s_, gd_T, gd_t, Option.map_some, lits, neg_mI, nI_add, pk_mul, nI_clamp, nI_eq, nI_leI, nI_ltI, nm_eq, mn_eq, nm_lt, mn_lt, nm_le, mn_le, m_eq, bI_0, bI_1, m0, g1, b33]
      have r13 : (gd (aK (St z E n K N R I J) (z + 132) = 11) (cI (Ca lx 205 [.ref (z + 132)] (St z E n K N R I J)) fun x4 S3 => (if x4 = 0 then gd (aK S3 (z + 132) = 11) (cV (Ca lx 197 [.ref (z + 132), .int 1] S3) fun S5 => Am lx 221 13 [some (.ref (z + 132)), none, none, none, none] [] (0, 0) S5) else Am lx 221 13 [some (.ref (z + 132)), none, none, none, none] [] (0, 0) S3))) = Am lx 221 13 [some (.ref (z + 132)), none, none, none, none] [] (0, 0) (St z E n K N R I J) := by
        simp (disch := first | assumption | omega) [k_St, n_St, i_St, j_St, r_St, wI_St, wJ_St, k_S0, n_S0, i_S0, j_S0, r_S0, wI_S0, wJ_S0, cI_s, cJ_s, cV_s, nR_s, nQ_s, nQ_n, lt_s_, gd_T, gd_t, Option.map_some, lits, neg_mI, nI_add, pk_mul, nI_clamp, nI_eq, nI_leI, nI_ltI, nm_eq, mn_eq, nm_lt, mn_lt, nm_le, mn_le, m_eq, bI_0, bI_1, m0, e1]
      rw [r13]
      unfold oX at e8
      by_cases lt : fdi (fun k => decide (w8 T m (G 2 k) = w8 T m s)) (F 0 7 + F 0 8) < F 0 7 + F 0 8
      · rw [if_pos lt] at e8
        have q := (mn.2 _ lt).2.1
        have gb : G 3 (fdi (fun k => decide (w8 T m (G 2 k) = w8 T m s)) (F 0 7 + F 0 8)) < 2 := by
          obtain ⟨_, b⟩ := hN.1 _ lt
          rcases b with ⟨b, _, _⟩ | ⟨b, _, _⟩ <;> omega
        by_cases g0 : G 3 (fdi (fun k => decide (w8 T m (G 2 k) = w8 T m s)) (F 0 7 + F 0 8)) = 0
        · right
          obtain ⟨x1, x2⟩ := d1 lt g0
          refine ⟨s, rfl, x2, by unfold pDn; rw [if_pos c, if_pos x2], ks, ?_⟩
          have e := e33 _ lt
          rw [← x1] at e
          rw [g0] at q
          rw [e_221_13, ← e]
          simp (disch := first | assumption | omega) [k_St, n_St, i_St, j_St, r_St, wI_St, wJ_St, k_S0, n_S0, i_S0, j_S0, r_S0, wI_S0, wJ_S0, cI_s, cJ_s, cV_s, nR_s, nQ_s, nQ_n, lt_s_, gd_T, gd_t, Option.map_some, lits, neg_mI, nI_add, pk_mul, nI_clamp, nI_eq, nI_leI, nI_ltI, nm_eq, mn_eq, nm_lt, mn_lt, nm_le, mn_le, m_eq, bI_0, bI_1, m0, m4, fk, hj, e8, fr21, fk10, fn10, q]
        · left
          obtain ⟨u, I1, y1, y2, y3, y4⟩ := bad (d2 lt g0) (nI (fdi (fun k => decide (w8 T m (G 2 k) = w8 T m s)) (F 0 7 + F 0 8)))
          refine ⟨u, I1, ?_, y2, y3, y4⟩
          rw [e_221_13, ← y1]
          simp (disch := first | assumption | omega) [k_St, n_St, i_St, j_St, r_St, wI_St, wJ_St, k_S0, n_S0, i_S0, j_S0, r_S0, wI_S0, wJ_S0, cI_s, cJ_s, cV_s, nR_s, nQ_s, nQ_n, lt_s_, gd_T, gd_t, Option.map_some, lits, neg_mI, nI_add, pk_mul, nI_clamp, nI_eq, nI_leI, nI_ltI, nm_eq, mn_eq, nm_lt, mn_lt, nm_le, mn_le, m_eq, bI_0, bI_1, m0, m4, fk, hj, e8, fr21, fk10, fn10, q, g0]
      · left
        rw [if_neg lt] at e8
        obtain ⟨u, I1, y1, y2, y3, y4⟩ := bad (d3 lt) (mI 1)
        refine ⟨u, I1, ?_, y2, y3, y4⟩
        rw [e_221_13, ← y1]
        simp (disch := first | assumption | omega) [k_St, n_St, i_St, j_St, r_St, wI_St, wJ_St, k_S0, n_S0, i_S0, j_S0, r_S0, wI_S0, wJ_S0, cI_s, cJ_s, cV_s, nR_s, nQ_s, nQ_n, lt_s_, gd_T, gd_t, Option.map_some, lits, neg_mI, nI_add, pk_mul, nI_clamp, nI_eq, nI_leI, nI_ltI, nm_eq, mn_eq, nm_lt, mn_lt, nm_le, mn_le, m_eq, bI_0, bI_1, m0, m4, fk, hj, e8]
    · left
      have c' : isN T m s = false := by simpa using c
      rw [c'] at e1
      obtain ⟨I1, g1, g2, g3⟩ := kk_197 (lx := lx) (z := z) (E := E) (n := n) (e := 1) hM' h' hn (by decide) (by decide)
      have e3 := b_221a (lx := lx) (z := z) (E := E) (n := n) (J := J) hM' g2 (0, 0)
      refine ⟨(1, s), I1, ?_, by rw [eb_o]; unfold pDn; rw [if_neg c], g2, g3⟩
      simp (disch := first | assumption | omega) [k_St, n_St, i_St, j_St, r_St, wI_St, wJ_St, k_S0, n_S0, i_S0, j_S0, r_S0, wI_S0, wJ_S0, cI_s, cJ_s, cV_s, nR_s, nQ_s, nQ_n, lt_s_, gd_T, gd_t, Option.map_some, lits, neg_mI, nI_add, pk_mul, nI_clamp, nI_eq, nI_leI, nI_ltI, nm_eq, mn_eq, nm_lt, mn_lt, nm_le, mn_le, m_eq, bI_0, bI_1, m0, e1, g1, e3]
theorem d_221 (hM : Rm K N R f) (hB : MB I T m) (hE : EOk E) (hn : FCn F) (hN : NM T m (F 0 7) (F 0 8) G) (hb : ∀ k, k < F 0 9 → F 6 k < 4 ∧ F 7 k ≤ 60) (ks : tK T m s = 1) (h : MOk I J f T m F w r G s) : ∃ I' J', Ca lx 221 [.ref (z + 132)] (St z E n K N R I J) = some (none, St z E n K N R I' J') ∧ MLn I' J' f T m ((pHd T m F G s).bind fun a => .ok (a.2, a.1, w, true, G)) ∧ MF f I I' J J' := by
  have hM' := hM
  obtain ⟨m0, m1, m2, m3, m4, hf, fk, fr12, fr13, fr14, fr15, fr16, fr17, fr18, fr19, fr20, fr21, fr22, fk1, fk2, fk3, fk4, fk5, fk6, fk7, fk8, fk9, fk10, fk11, fn1, fn2, fn3, fn4, fn5, fn6, fn7, fn8, fn9, fn10, fn11⟩ := hM
  have i9 := h.2.2.1.1 9 (by decide) (by decide)
  obtain ⟨n4, n5, n7, n8, n9⟩ := id hn
  obtain ⟨I1, J1, e1, e2, e3⟩ := d_206 (lx := lx) (z := z) (E := E) (n := n) (c := F 0 9) (C := 6) (A := nI (F 0 9)) (x := .ok s) hM' hB hn h (fun t ht => ⟨rfl, by injection ht with ht; rw [← ht]; exact ks⟩) n9 (by decide)
  rw [eb_o] at e2
  have ph : pHd T m F G s = ((pLc T m (F 0 9) 6 F s).bind (pDn T m F G)).bind fun d => (pWh T m 0 60 d.2).bind fun n => if rpt F d.1 n.1 then .error (3, d.2) else (pWh T m 0 14 n.2).bind fun f => .ok (u2 (u2 (u2 (u2 F 6 (F 0 9) d.1) 7 (F 0 9) n.1) 8 (F 0 9) f.1) 0 9 (F 0 9 + 1), f.2) := by
    unfold pHd pLc
    by_cases c : 6 ≤ F 0 9
    · rw [if_pos c, if_pos c]; rfl
    · rw [if_neg c, if_neg c, eb_m]
  have r0 : Ca lx 221 [.ref (z + 132)] (St z E n K N R I J) = (gd (aK (St z E n K N R I1 J1) (z + 132) = 11) (cI (Ca lx 205 [.ref (z + 132)] (St z E n K N R I1 J1)) fun x4 S3 => (if x4 = 0 then gd (aK S3 (z + 132) = 11) (cV (Ca lx 197 [.ref (z + 132), .int 1] S3) fun S5 => Am lx 221 13 [some (.ref (z + 132)), none, none, none, none] [] (0, 0) S5) else Am lx 221 13 [some (.ref (z + 132)), none, none, none, none] [] (0, 0) S3))) := by
    have n6 : (6 : Int32) = nI 6 := rfl
    rw [f_221]
    simp only [k_St, i_St, r_St, m0, m4, fk, gd_t, Option.map_some, nR_s, i9, n6, e1, cV_s]
  rw [r0, ph]
  rcases t_221 (lx := lx) (z := z) (n := n) hM' hE hn hN e2 with ⟨u, I2, y1, y2, y3, y4⟩ | ⟨s1, y0, y1, y2, y3, y4⟩
  · refine ⟨I2, J1, y1, by rw [y2]; exact y3, MF_t e3 y4⟩
  · rw [y4, y0, eb_o, y2, eb_o]
    rw [y0] at e2
    have h1 : MOk I1 J1 f T m F w true G s1 := e2
    obtain ⟨I2, J2, g1, g2, g3⟩ := kk_196 (lx := lx) (z := z) (E := E) (n := n) hM' (MB_f hB e3 hf) h1 (Or.inl y3)
    have f2 := MF_t e3 g3
    obtain ⟨v, I3, k1, k2, k3, k4, _⟩ := d_201 (lx := lx) (z := z) (E := E) (n := n) (x := .ok (adv T m s1)) (H := nI 60) (lo := 0) (hi := 60) hM' hn g2 (fun _ _ => rfl) (by decide) (by decide)
    have f3 := MF_t f2 k3
    rw [eb_o] at k2 k4
    simp only [pWh_a (lo := 0) (hi := 60)]
    cases c1 : pWa T m 0 60 (adv T m s1) with
    | error u =>
      rw [c1] at k2
      have k2' : MBd I3 f u.1 u.2 := k2
      have h9 := k2'.2.2.1
      have e67 := b_221d (lx := lx) (z := z) (E := E) (n := n) (J := J2) hM' k2' (nI (fdd T m F G s1)) v (0, 0)
      refine ⟨I3, J2, ?_, k2', f3⟩
      rw [e_221_45]
      simp (disch := first | assumption | omega) [k_St, n_St, i_St, j_St, r_St, wI_St, wJ_St, k_S0, n_S0, i_S0, j_S0, r_S0, wI_S0, wJ_S0, cI_s, cJ_s, cV_s, nR_s, nQ_s, nQ_n, lt_s_, gd_T, gd_t, Option.map_some, lits, neg_mI, nI_add, pk_mul, nI_clamp, nI_eq, nI_leI, nI_ltI, nm_eq, mn_eq, nm_lt, mn_lt, nm_le, mn_le, m_eq, bI_0, bI_1, m0, g1, k1, h9, e67]
    | ok t =>
      rw [c1] at k2 k4
      have hv := k4 t rfl
      subst hv
      obtain ⟨ta, tk, _, tb⟩ := pWa_s c1
      subst ta
      have h3 : MOk I3 J2 f T m F w true G (adv T m s1) := k2
      have s5 := so_5 h3
      have e76 := d_176 (lx := lx) (z := z) (E := E) (n := n) (J := J2) (d := fdd T m F G s1) (v := wv T m (adv T m s1)) hM' (h3.2.2.1.1 9 (by decide) (by decide)) h3.2.2.1.2.2.2.2.2.2.2 n9 hb (by omega) tb
      rw [eb_o, eb_o]
      simp only
      by_cases cr : rpt F (fdd T m F G s1) (wv T m (adv T m s1)) = true
      · rw [if_pos cr]
        rw [cr] at e76
        obtain ⟨I4, l1, l2, l3⟩ := kk_197 (lx := lx) (z := z) (E := E) (n := n) (e := 3) hM' h3 hn (by decide) (by decide)
        have e67 := b_221d (lx := lx) (z := z) (E := E) (n := n) (J := J2) hM' l2 (nI (fdd T m F G s1)) (nI (wv T m (adv T m s1))) (0, 0)
        refine ⟨I4, J2, ?_, l2, MF_t f3 l3⟩
        rw [e_221_45]
        simp (disch := first | assumption | omega) [k_St, n_St, i_St, j_St, r_St, wI_St, wJ_St, k_S0, n_S0, i_S0, j_S0, r_S0, wI_S0, wJ_S0, cI_s, cJ_s, cV_s, nR_s, nQ_s, nQ_n, lt_s_, gd_T, gd_t, Option.map_some, lits, neg_mI, nI_add, pk_mul, nI_clamp, nI_eq, nI_leI, nI_ltI, nm_eq, mn_eq, nm_lt, mn_lt, nm_le, mn_le, m_eq, bI_0, bI_1, m0, m4, fk, g1, k1, s5, e76, l1, e67]
      · rw [if_neg cr]
        have cr' : rpt F (fdd T m F G s1) (wv T m (adv T m s1)) = false := by simpa using cr
        rw [cr'] at e76
        have r67 : Am lx 221 45 [some (.ref (z + 132)), none, none, none, none] [.int (nI (fdd T m F G s1))] (0, 0) (St z E n K N R I1 J1) = Am lx 221 67 [some (.ref (z + 132)), none, some (.int (nI (fdd T m F G s1))), some (.int (nI (wv T m (adv T m s1)))), none] [] (0, 0) (St z E n K N R I3 J2) := by
          rw [e_221_45]
          simp (disch := first | assumption | omega) [k_St, n_St, i_St, j_St, r_St, wI_St, wJ_St, k_S0, n_S0, i_S0, j_S0, r_S0, wI_S0, wJ_S0, cI_s, cJ_s, cV_s, nR_s, nQ_s, nQ_n, lt_s_, gd_T, gd_t, Option.map_some, lits, neg_mI, nI_add, pk_mul, nI_clamp, nI_eq, nI_leI, nI_ltI, nm_eq, mn_eq, nm_lt, mn_lt, nm_le, mn_le, m_eq, bI_0, bI_1, m0, m4, fk, g1, k1, s5, e76]
        obtain ⟨I4, J4, l1, l2, l3⟩ := kk_196 (lx := lx) (z := z) (E := E) (n := n) hM' (MB_f hB f3 hf) h3 (Or.inr (Or.inl tk))
        have f4 := MF_t f3 l3
        obtain ⟨a, I5, J5, o1, o2, o3, o4, _⟩ := d_202 (lx := lx) (z := z) (E := E) (n := n) (x := .ok (adv T m (adv T m s1))) (H := nI 14) (lo := 0) (hi := 14) hM' (MB_f hB f4 hf) hn l2 (fun _ _ => rfl) (by decide) (by decide)
        have f5 := MF_t f4 o3
        rw [eb_o] at o2 o4
        rw [r67]
        cases c2 : pWh T m 0 14 (adv T m (adv T m s1)) with
        | error u =>
          rw [c2] at o2
          have o2' : MBd I5 f u.1 u.2 := o2
          have h9 := o2'.2.2.1
          refine ⟨I5, J5, ?_, o2', f5⟩
          rw [e_221_67]
          simp (disch := first | assumption | omega) [k_St, n_St, i_St, j_St, r_St, wI_St, wJ_St, k_S0, n_S0, i_S0, j_S0, r_S0, wI_S0, wJ_S0, cI_s, cJ_s, cV_s, nR_s, nQ_s, nQ_n, lt_s_, gd_T, gd_t, Option.map_some, lits, neg_mI, nI_add, pk_mul, nI_clamp, nI_eq, nI_leI, nI_ltI, nm_eq, mn_eq, nm_lt, mn_lt, nm_le, mn_le, m_eq, bI_0, bI_1, m0, l1, o1, h9]
        | ok b =>
          rw [c2] at o2 o4
          have ha := o4 b rfl
          subst ha
          have h5 : MOk I5 J5 f T m F w true G b.2 := o2
          have s5' := so_5 h5
          have q9 := h5.2.2.1.1 9 (by decide) (by decide)
          have lt9 : F 0 9 < 6 := by
            have : ¬ 6 ≤ F 0 9 := fun hc => by
              unfold pLc at y0
              rw [if_pos hc] at y0; simp at y0
            omega
          refine ⟨_, J5, ?_, MOk_h (d := fdd T m F G s1) (v := wv T m (adv T m s1)) (a := b.1) h5 hf, MF_t f5 ⟨fun c b1 b2 => ?_, fun k hk => ?_, fun _ _ _ => rfl, fun _ _ => rfl⟩⟩
          · rw [e_221_67]
            simp (disch := first | assumption | omega) [k_St, n_St, i_St, j_St, r_St, wI_St, wJ_St, k_S0, n_S0, i_S0, j_S0, r_S0, wI_S0, wJ_S0, cI_s, cJ_s, cV_s, nR_s, nQ_s, nQ_n, lt_s_, gd_T, gd_t, Option.map_some, lits, neg_mI, nI_add, pk_mul, nI_clamp, nI_eq, nI_leI, nI_ltI, nm_eq, mn_eq, nm_lt, mn_lt, nm_le, mn_le, m_eq, bI_0, bI_1, m0, m4, fk, l1, o1, s5', q9, fr17, fr18, fr19, fk6, fk7, fk8, fn6, fn7, fn8, u2_s, u2_a, u2_k]
          · rw [u2_a _ _ _ _ _ (by omega), u2_a _ _ _ _ _ (by omega), u2_a _ _ _ _ _ (by omega), u2_a _ _ _ _ _ (by omega)]
          · rw [u2_a _ _ _ _ _ (by omega), u2_a _ _ _ _ _ (by omega), u2_a _ _ _ _ _ (by omega), u2_a _ _ _ _ _ (by omega)]
end RMA
