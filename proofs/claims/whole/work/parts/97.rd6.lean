section RD6
variable {z : Nat} {E : aEt} {n : Nat} {K N : Nat → Nat} {R : Nat → Nat → Option Nat} {I : Nat → Nat → Int32} {J : Nat → Nat → Int64} {lx : List Value → aH → aO} {p s q m e : Nat} {T : Nat → Nat} {F G : Nat → Nat → Nat} {w r : Bool} {x : Exc Nat}
theorem b_51 (hR : Rd K N R p) (hB : CB I T m) (hE : EOk E) (h : CBd I p T m e q) : ∃ b : Bool, Ca lx 51 [.ref (z + 1)] (St z E n K N R I J) = some (some (.int (bI b)), (St z E n K N R I J)) := by
  obtain ⟨s, hT⟩ := h.2.2.2.2.2.1
  have e1 := b_58 (lx := lx) (z := z) (E := E) (n := n) (J := J) hR h
  have e2 := c_81 (lx := lx) (z := z) (E := E) (n := n) (J := J) hR hB hE (show 11 < 12 by decide) hT
  have e3 := c_81 (lx := lx) (z := z) (E := E) (n := n) (J := J) hR hB hE (show 10 < 12 by decide) hT
  obtain ⟨d0, d1, d2, d3, d4, d5, d6, d7, d8, d9, d10, d11, d12, hP, hp⟩ := hR
  obtain ⟨h1, h2, h3, _⟩ := h
  have fin : ∀ b : Bool, Am lx 51 21 [some (.ref (z + 1)), some (.int (bI b))] [] (0, 0) (St z E n K N R I J) = some (some (.int (bI b)), (St z E n K N R I J)) := by
    intro b
    rw [e_51_21]
    simp (disch := first | assumption | omega) [k_St, n_St, i_St, j_St, r_St, wI_St, wJ_St, k_S0, n_S0, i_S0, j_S0, r_S0, wI_S0, wJ_S0, cI_s, cJ_s, cV_s, nR_s, nQ_s, nQ_n, lt_s_, gd_T, gd_t, Option.map_some, lits, neg_mI, nI_add, pk_mul, nI_clamp, nI_eq, nI_leI, nI_ltI, nm_eq, mn_eq, nm_lt, mn_lt, nm_le, mn_le, m_eq, bI_0, bI_1, d0, h3, if_neg]
  refine ⟨isW T m s 11, ?_⟩
  rw [f_51]
  simp only [g_St, k_St, r_St, d0, d1, d8, gd_t, Option.map_some, nR_s, e2, cI_s]
  have f0 := fin false
  have f1 := fin true
  cases isW T m s 11
  · rw [if_pos (by decide), e_51_9, if_pos (by decide)]
    simp only [g_St, k_St, r_St, d0, d1, d8, gd_t, Option.map_some, nR_s, e3, cI_s, e1, cV_s]
    rw [show (0 : Int32) = bI false from rfl, f0, ite_self]
  · rw [if_neg (by decide), e_51_9, if_neg (by decide)]
    exact f1
theorem c_51 (hR : Rd K N R p) (hB : CB I T m) (hE : EOk E) (hn : FCn F) (h : CS I J p T m F w r G x) : ∃ v I', Ca lx 51 [.ref (z + 1)] (St z E n K N R I J) = some (some (.int v), St z E n K N R I' J) ∧ CS I' J p T m F w r G ((x.bind (pSd T m)).map Prod.snd) ∧ FRs I I' ∧ (∀ a, x.bind (pSd T m) = .ok a → v = nI a.1) := by
  have hR' := hR
  obtain ⟨d0, d1, d2, d3, d4, d5, d6, d7, d8, d9, d10, d11, d12, hP, hp⟩ := hR
  cases x with
  | error v =>
    obtain ⟨b, e0⟩ := b_51 (lx := lx) (z := z) (E := E) (n := n) (J := J) hR' hB hE h
    exact ⟨_, I, e0, h, FRs_r, fun a e => absurd e (by rw [eb_e]; simp)⟩
  | ok s =>
    have h' : COk I J p T m F w r G s := h
    have hT := h'.2.2.2.2.2.1
    have h1 := h'.1
    have e2 := c_81 (lx := lx) (z := z) (E := E) (n := n) (J := J) hR' hB hE (show 11 < 12 by decide) hT
    have e3 := c_81 (lx := lx) (z := z) (E := E) (n := n) (J := J) hR' hB hE (show 10 < 12 by decide) hT
    obtain ⟨I1, e4, e5, e6⟩ := kk_80 (lx := lx) (z := z) (E := E) (n := n) hR' hB h
    have fin : ∀ v : Int32, Am lx 51 21 [some (.ref (z + 1)), some (.int v)] [] (0, 0) (St z E n K N R I J) = some (some (.int v), St z E n K N R I1 J) := by
      intro v
      rw [e_51_21]
      simp (disch := first | assumption | omega) [k_St, n_St, i_St, j_St, r_St, wI_St, wJ_St, k_S0, n_S0, i_S0, j_S0, r_S0, wI_S0, wJ_S0, cI_s, cJ_s, cV_s, nR_s, nQ_s, nQ_n, lt_s_, gd_T, gd_t, Option.map_some, lits, neg_mI, nI_add, pk_mul, nI_clamp, nI_eq, nI_leI, nI_ltI, nm_eq, mn_eq, nm_lt, mn_lt, nm_le, mn_le, m_eq, bI_0, bI_1, d0, d1, d8, h1, e4]
    rw [eb_o]
    unfold pSd
    by_cases c : isW T m s 11 = true
    · rw [if_pos c]
      rw [c] at e2
      refine ⟨nI 1, I1, ?_, e5, e6, fun a e => by injection e with e; rw [← e]⟩
      rw [f_51]
      simp only [g_St, k_St, r_St, d0, d1, d8, gd_t, Option.map_some, nR_s, e2, cI_s]
      rw [if_neg (by decide), e_51_9, if_neg (by decide)]
      exact fin _
    · rw [if_neg c]
      have c' : isW T m s 11 = false := by simpa using c
      rw [c'] at e2
      by_cases c2 : isW T m s 10 = true
      · rw [if_pos c2]
        rw [c2] at e3
        refine ⟨nI 0, I1, ?_, e5, e6, fun a e => by injection e with e; rw [← e]⟩
        rw [f_51]
        simp only [g_St, k_St, r_St, d0, d1, d8, gd_t, Option.map_some, nR_s, e2, cI_s]
        rw [if_pos (by decide), e_51_9, if_pos (by decide)]
        simp only [g_St, k_St, r_St, d0, d1, d8, gd_t, Option.map_some, nR_s, e3, cI_s]
        rw [if_neg (by decide)]
        exact fin _
      · rw [if_neg c2]
        have c2' : isW T m s 10 = false := by simpa using c2
        rw [c2'] at e3
        obtain ⟨I2, k1, k2, k3⟩ := kk_58 (lx := lx) (z := z) (E := E) (n := n) (e := 1) hR' h hn (by decide) (by decide)
        have g3 := k2.2.2.1
        refine ⟨nI 0, I2, ?_, k2, k3, fun a e => by simp at e⟩
        rw [f_51]
        simp only [g_St, k_St, r_St, d0, d1, d8, gd_t, Option.map_some, nR_s, e2, cI_s]
        rw [if_pos (by decide), e_51_9, if_pos (by decide)]
        simp only [g_St, k_St, r_St, d0, d1, d8, gd_t, Option.map_some, nR_s, e3, cI_s]
        rw [if_pos (by decide), show (1 : Int32) = nI 1 from rfl, k1, cV_s, e_51_21]
        simp (disch := first | assumption | omega) [k_St, n_St, i_St, j_St, r_St, wI_St, wJ_St, k_S0, n_S0, i_S0, j_S0, r_S0, wI_S0, wJ_S0, cI_s, cJ_s, cV_s, nR_s, nQ_s, nQ_n, lt_s_, gd_T, gd_t, Option.map_some, lits, neg_mI, nI_add, pk_mul, nI_clamp, nI_eq, nI_leI, nI_ltI, nm_eq, mn_eq, nm_lt, mn_lt, nm_le, mn_le, m_eq, bI_0, bI_1, d0, g3]
theorem b_52a (hR : Rd K N R p) (hB : CB I T m) (h : CBd I p T m e q) : ∃ v, Am lx 52 7 [some (.ref (z + 1)), none, none] [] (0, 0) (St z E n K N R I J) = some (some (.long v), (St z E n K N R I J)) := by
  obtain ⟨s, hT⟩ := h.2.2.2.2.2.1
  have e1 := b_58 (lx := lx) (z := z) (E := E) (n := n) (J := J) hR h
  have e2 := c_84 (lx := lx) (z := z) (E := E) (n := n) (J := J) hR hB hT
  obtain ⟨d0, d1, d2, d3, d4, d5, d6, d7, d8, d9, d10, d11, d12, hP, hp⟩ := hR
  have kp := hP.1
  obtain ⟨h1, h2, h3, _, _, _, a4, a5, a7, a8, a9, n4, n5, n7, n8, n9, m4, m5, m7, m8, m9⟩ := h
  have fin : ∀ v, Am lx 52 34 [some (.ref (z + 1)), some (.long v), none] [] (0, 0) (St z E n K N R I J) = some (some (.long v), (St z E n K N R I J)) := by
    intro v
    rw [e_52_34]
    simp (disch := first | assumption | omega) [k_St, n_St, i_St, j_St, r_St, wI_St, wJ_St, k_S0, n_S0, i_S0, j_S0, r_S0, wI_S0, wJ_S0, cI_s, cJ_s, cV_s, nR_s, nQ_s, nQ_n, lt_s_, gd_T, gd_t, Option.map_some, lits, neg_mI, nI_add, pk_mul, nI_clamp, nI_eq, nI_leI, nI_ltI, nm_eq, mn_eq, nm_lt, mn_lt, nm_le, mn_le, m_eq, bI_0, bI_1, d0, h3, if_neg]
  have mid : ∀ v, Am lx 52 30 [some (.ref (z + 1)), some (.long v), none] [] (0, 0) (St z E n K N R I J) = some (some (.long v), (St z E n K N R I J)) := by
    intro v
    rw [e_52_30, e1]
    simp only [k_St, d0, gd_t, cV_s, fin]
  have q1 := fun y => c_55 (lx := lx) (z := z) (E := E) (n := n) (R := R) (I := I) (J := J) (y := y) d4 d5 n7
  have q2 := fun y => c_55 (lx := lx) (z := z) (E := E) (n := n) (R := R) (I := I) (J := J) (y := y) d6 d7 n8
  refine ⟨vJ T s (min (tLn T m s) 8), ?_⟩
  rw [e_52_7]
  simp only [k_St, i_St, r_St, d0, d1, d8, d2, d3, d12, kp, gd_t, Option.map_some, nR_s, cI_s, cJ_s, e2, m7, m8, q1, q2, fin, mid, ite_self]
theorem b_52 (hR : Rd K N R p) (hB : CB I T m) (hE : EOk E) (h : CBd I p T m e q) : ∃ v, Ca lx 52 [.ref (z + 1)] (St z E n K N R I J) = some (some (.long v), (St z E n K N R I J)) := by
  obtain ⟨s, hT⟩ := h.2.2.2.2.2.1
  have e1 := b_58 (lx := lx) (z := z) (E := E) (n := n) (J := J) hR h
  have e2 := c_54 (lx := lx) (z := z) (E := E) (n := n) (J := J) hR hB hE hT
  obtain ⟨v, e3⟩ := b_52a (lx := lx) (z := z) (E := E) (n := n) (J := J) hR hB h
  obtain ⟨d0, d1, d2, d3, d4, d5, d6, d7, d8, d9, d10, d11, d12, hP, hp⟩ := hR
  refine ⟨v, ?_⟩
  rw [f_52]
  simp only [k_St, d0, gd_t, e2, cI_s, e1, cV_s, e3, ite_self]
theorem fdJ {a c : Nat} {P : Nat → Nat} {s : Nat} (hJ : ∀ d, d < c → J a d = lN (w8 T m (P d))) (hk : ∀ d, d < c → tK T m (P d) = 1) (hs : tK T m s = 1) : fdi (fun i => decide (J a i = lN (w8 T m s))) c = fdi (fun d => decide (w8 T m (P d) = w8 T m s)) c :=
  fdi_c (fun i hi => by
    have : J a i = lN (w8 T m s) ↔ w8 T m (P i) = w8 T m s := by
      rw [hJ i hi]; exact pk_lEQ (w8_63 (hk i hi)) (w8_63 hs)
    simp only [this])
theorem isN_k (h : isN T m s = true) : tK T m s = 1 := by
  unfold isN at h
  simp only [Bool.and_eq_true, decide_eq_true_eq] at h
  exact h.1.1.1.1.1.1
theorem name8 (hR : Rd K N R p) (hB : CB I T m) (hT : CTk I T m s) (hs : tK T m s = 1) : Ca lx 84 [.ref (z + 2)] (St z E n K N R I J) = some (some (.long (lN (w8 T m s))), (St z E n K N R I J)) := by
  have e2 := c_84 (lx := lx) (z := z) (E := E) (n := n) (J := J) hR hB hT
  have tc := tK_c hs (Or.inl rfl)
  rw [Nat.min_eq_left (tc.2.2.2.1 rfl), vJ_v _ (tc.2.2.2.1 rfl) (fun i hi => (kc_1 (tc.2.2.2.2.2 i hi)).2)] at e2
  exact e2
theorem c_52 (hR : Rd K N R p) (hB : CB I T m) (hE : EOk E) (hn : FCn F) (hN : NW T m F G) (h : CS I J p T m F w r G x) : ∃ v I', Ca lx 52 [.ref (z + 1)] (St z E n K N R I J) = some (some (.long v), St z E n K N R I' J) ∧ CS I' J p T m F w r G (x.bind (pNm T m F G)) ∧ FRs I I' ∧ (∀ s t, x = .ok s → pNm T m F G s = .ok t → v = lN (w8 T m s)) := by
  have hR' := hR
  obtain ⟨d0, d1, d2, d3, d4, d5, d6, d7, d8, d9, d10, d11, d12, hP, hp⟩ := hR
  have kp := hP.1
  obtain ⟨n4, n5, n7, n8, n9⟩ := id hn
  cases x with
  | error v =>
    obtain ⟨v, e0⟩ := b_52 (lx := lx) (z := z) (E := E) (n := n) (J := J) hR' hB hE h
    exact ⟨v, I, e0, h, FRs_r, fun s t e => by simp at e⟩
  | ok s =>
    have h' : COk I J p T m F w r G s := h
    have hT := h'.2.2.2.2.2.1
    have h1 := h'.1
    have q0 := h'.2.2.2.2.2.2.1.1
    have m7 := q0 7 (by decide)
    have m8 := q0 8 (by decide)
    have j1 := h'.2.2.2.2.2.2.2.1
    have j2 := h'.2.2.2.2.2.2.2.2
    have e2 := c_54 (lx := lx) (z := z) (E := E) (n := n) (J := J) hR' hB hE hT
    rw [eb_o]
    unfold pNm
    by_cases c : isN T m s = true
    · rw [if_pos c]
      rw [c] at e2
      have ks := isN_k c
      have e84 := name8 (lx := lx) (z := z) (E := E) (n := n) (J := J) hR' hB hT ks
      have q1 := c_55 (lx := lx) (z := z) (E := E) (n := n) (R := R) (I := I) (J := J) (y := lN (w8 T m s)) d4 d5 n7
      have q2 := c_55 (lx := lx) (z := z) (E := E) (n := n) (R := R) (I := I) (J := J) (y := lN (w8 T m s)) d6 d7 n8
      rw [fdJ j1 hN.1 ks] at q1
      rw [fdJ j2 hN.2 ks] at q2
      have oxm : ∀ P c, c ≤ 4 → (oX (fdi P c) c = (-1 : Int32) ↔ anyB P c = false) := by
        intro P c hc
        have hf := fdi_le P c
        rw [show (-1 : Int32) = mI 1 from rfl]
        unfold oX
        by_cases g : fdi P c < c
        · have ga := fdi_t.mp g
          rw [if_pos g, nm_eq (by omega) (by decide) (by decide), ga]; simp
        · have ga : anyB P c = false := by
            cases hh : anyB P c
            · rfl
            · exact absurd (fdi_t.mpr hh) g
          rw [if_neg g, ga]; simp
      by_cases ck : kn T m F G s = true
      · rw [if_pos ck]
        obtain ⟨I2, k1, k2, k3⟩ := kk_58 (lx := lx) (z := z) (E := E) (n := n) (e := 3) hR' h hn (by decide) (by decide)
        have g3 := k2.2.2.1
        refine ⟨lN (w8 T m s), I2, ?_, k2, k3, fun s' t e e' => by simp at e; rw [e]⟩
        have f30 : Am lx 52 30 [some (.ref (z + 1)), some (.long (lN (w8 T m s))), none] [] (0, 0) (St z E n K N R I J) = some (some (.long (lN (w8 T m s))), St z E n K N R I2 J) := by
          rw [e_52_30, show (3 : Int32) = nI 3 from rfl, k1]
          simp only [k_St, d0, gd_t, cV_s]
          rw [e_52_34]
          simp (disch := first | assumption | omega) [k_St, n_St, i_St, j_St, r_St, wI_St, wJ_St, k_S0, n_S0, i_S0, j_S0, r_S0, wI_S0, wJ_S0, cI_s, cJ_s, cV_s, nR_s, nQ_s, nQ_n, lt_s_, gd_T, gd_t, Option.map_some, lits, neg_mI, nI_add, pk_mul, nI_clamp, nI_eq, nI_leI, nI_ltI, nm_eq, mn_eq, nm_lt, mn_lt, nm_le, mn_le, m_eq, bI_0, bI_1, d0, g3]
        rw [f_52]
        simp only [k_St, d0, gd_t, e2, cI_s]
        rw [if_neg (by decide), e_52_7]
        simp only [k_St, i_St, r_St, d0, d1, d8, d2, d3, d12, kp, gd_t, Option.map_some, nR_s, cI_s, cJ_s, e84, m7, m8, q1, q2, oxm _ _ n7, oxm _ _ n8, f30]
        unfold kn at ck
        cases ca : anyB (fun d => decide (w8 T m (G 0 d) = w8 T m s)) (F 0 7)
        · cases cb : anyB (fun d => decide (w8 T m (G 1 d) = w8 T m s)) (F 0 8)
          · rw [ca, cb] at ck; simp at ck
          · simp
        · simp
      · rw [if_neg ck]
        obtain ⟨I1, e4, e5, e6⟩ := kk_80 (lx := lx) (z := z) (E := E) (n := n) hR' hB h
        refine ⟨lN (w8 T m s), I1, ?_, e5, e6, fun s' t e e' => by simp at e; rw [e]⟩
        have f34 : Am lx 52 34 [some (.ref (z + 1)), some (.long (lN (w8 T m s))), none] [] (0, 0) (St z E n K N R I J) = some (some (.long (lN (w8 T m s))), St z E n K N R I1 J) := by
          rw [e_52_34]
          simp (disch := first | assumption | omega) [k_St, n_St, i_St, j_St, r_St, wI_St, wJ_St, k_S0, n_S0, i_S0, j_S0, r_S0, wI_S0, wJ_S0, cI_s, cJ_s, cV_s, nR_s, nQ_s, nQ_n, lt_s_, gd_T, gd_t, Option.map_some, lits, neg_mI, nI_add, pk_mul, nI_clamp, nI_eq, nI_leI, nI_ltI, nm_eq, mn_eq, nm_lt, mn_lt, nm_le, mn_le, m_eq, bI_0, bI_1, d0, d1, d8, h1, e4]
        rw [f_52]
        simp only [k_St, d0, gd_t, e2, cI_s]
        rw [if_neg (by decide), e_52_7]
        simp only [k_St, i_St, r_St, d0, d1, d8, d2, d3, d12, kp, gd_t, Option.map_some, nR_s, cI_s, cJ_s, e84, m7, m8, q1, q2, oxm _ _ n7, oxm _ _ n8, f34]
        unfold kn at ck
        simp at ck
        rw [if_pos ck.1, if_pos ck.2]
    · rw [if_neg c]
      have c' : isN T m s = false := by simpa using c
      rw [c'] at e2
      obtain ⟨I2, k1, k2, k3⟩ := kk_58 (lx := lx) (z := z) (E := E) (n := n) (e := 1) hR' h hn (by decide) (by decide)
      obtain ⟨v, e3⟩ := b_52a (lx := lx) (z := z) (E := E) (n := n) (J := J) hR' (CB_f hB k3) k2
      refine ⟨v, I2, ?_, k2, k3, fun s' t e e' => ?_⟩
      · rw [f_52]
        simp only [k_St, d0, gd_t, e2, cI_s]
        rw [if_pos (by decide), show (1 : Int32) = nI 1 from rfl, k1, cV_s, e3]
      · injection e with e; subst e
        rw [if_neg c] at e'; simp at e'
end RD6
