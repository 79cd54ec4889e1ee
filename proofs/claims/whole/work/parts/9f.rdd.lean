section RDD
variable {z : Nat} {E : aEt} {n : Nat} {K N : Nat → Nat} {R : Nat → Nat → Option Nat} {I : Nat → Nat → Int32} {J : Nat → Nat → Int64} {lx : List Value → aH → aO} {p s q m e : Nat} {T : Nat → Nat} {F G : Nat → Nat → Nat} {w r : Bool} {x : Exc Nat}
theorem t_36 {y : Exc Sg} (hR : Rd K N R p) (hB : CB I T m) (h : CLn I J p T m y) (hn : ∀ τ, y = .ok τ → FCn τ.2.1) : ∃ b I', Am lx 36 52 [some (.ref (z + 1))] [] (0, 0) (St z E n K N R I J) = some (some (.int (bI b)), St z E n K N R I' J) ∧ CLn I' J p T m ((y.bind (pGo T m)).map Prod.snd) ∧ FRs I I' ∧ (b = true ↔ ∃ τ, y = .ok τ ∧ tK T m τ.1 = 3) := by
  have hR' := hR
  obtain ⟨d0, d1, d2, d3, d4, d5, d6, d7, d8, d9, d10, d11, d12, hP, hp⟩ := hR
  cases y with
  | error v =>
    have h' : CBd I p T m v.1 v.2 := h
    obtain ⟨u1, u2, u3, _⟩ := id h'
    refine ⟨false, I, ?_, h, FRs_r, by simp⟩
    rw [e_36_52]
    simp (disch := first | assumption | omega) [k_St, n_St, i_St, j_St, r_St, wI_St, wJ_St, k_S0, n_S0, i_S0, j_S0, r_S0, wI_S0, wJ_S0, cI_s, cJ_s, cV_s, nR_s, nQ_s, nQ_n, lt_s_, gd_T, gd_t, Option.map_some, lits, neg_mI, nI_add, pk_mul, nI_clamp, nI_eq, nI_leI, nI_ltI, nm_eq, mn_eq, nm_lt, mn_lt, nm_le, mn_le, m_eq, bI_0, bI_1, d0, u3, if_neg] <;> rfl
  | ok τ =>
    have h' : COk I J p T m τ.2.1 τ.2.2.1 τ.2.2.2.1 τ.2.2.2.2 τ.1 := h
    obtain ⟨b, I', e1, e2, e3, e4⟩ := c_37 (lx := lx) (z := z) (E := E) (n := n) hR' hB (hn τ rfl) h'
    have k1 := h'.1
    refine ⟨b, I', ?_, e2, e3, ?_⟩
    · rw [e_36_52]
      simp (disch := first | assumption | omega) [k_St, n_St, i_St, j_St, r_St, wI_St, wJ_St, k_S0, n_S0, i_S0, j_S0, r_S0, wI_S0, wJ_S0, cI_s, cJ_s, cV_s, nR_s, nQ_s, nQ_n, lt_s_, gd_T, gd_t, Option.map_some, lits, neg_mI, nI_add, pk_mul, nI_clamp, nI_eq, nI_leI, nI_ltI, nm_eq, mn_eq, nm_lt, mn_lt, nm_le, mn_le, m_eq, bI_0, bI_1, d0, k1, e1]
      cases b <;> simp [lits, bI_0, bI_1, gd_T] <;> rfl
    · rw [e4]
      constructor
      · intro h; exact ⟨τ, rfl, h⟩
      · intro ⟨τ', h1, h2⟩; injection h1 with h1; rw [h1]; exact h2
theorem st81 {k : Nat} {b : Bool} (d0 : K 1 = 3) (d1 : R 1 0 = some 2) (d8 : K 2 = 6) (h : Ca lx 81 [.ref (z + 2), .ref (E.1 k)] (St z E n K N R I J) = some (some (.int (bI b)), (St z E n K N R I J))) (A B : aH → aO) : gd (aK (St z E n K N R I J) (z + 1) = 3) (nR (aR (St z E n K N R I J) (z + 1) 0) fun a => gd (aK (St z E n K N R I J) a = 6) (cI (Ca lx 81 [.ref a, .ref (aG (St z E n K N R I J) k)] (St z E n K N R I J)) fun x S2 => (if x = 0 then A S2 else B S2))) = if b then B (St z E n K N R I J) else A (St z E n K N R I J) := by
  simp only [g_St, k_St, r_St, d0, d1, d8, gd_t, Option.map_some, nR_s, h, cI_s]
  cases b
  · rw [if_pos (by decide), if_neg (by decide)]
  · rw [if_neg (by decide), if_pos rfl]
theorem c_36 (hR : Rd K N R p) (hB : CB I T m) (hE : EOk E) (hL : PV T m F w r G) (h : COk I J p T m F w r G s) : ∃ b I' J', Ca lx 36 [.ref (z + 1)] (St z E n K N R I J) = some (some (.int (bI b)), St z E n K N R I' J') ∧ CLn I' J' p T m (((pLn T m (s, F, w, r, G)).bind (pGo T m)).map Prod.snd) ∧ FRc p I I' ∧ FJ p J J' ∧ (b = true ↔ ∃ τ, pLn T m (s, F, w, r, G) = .ok τ ∧ tK T m τ.1 = 3) := by
  have hR' := hR
  obtain ⟨d0, d1, d2, d3, d4, d5, d6, d7, d8, d9, d10, d11, d12, hP, hp⟩ := hR
  obtain ⟨hn, hN, h45, h9⟩ := PV_L hL
  have hT := h.2.2.2.2.2.1
  have w0 := c_81 (lx := lx) (z := z) (E := E) (n := n) (J := J) hR' hB hE (show 0 < 12 by decide) hT
  have w1 := c_81 (lx := lx) (z := z) (E := E) (n := n) (J := J) hR' hB hE (show 1 < 12 by decide) hT
  have w2 := c_81 (lx := lx) (z := z) (E := E) (n := n) (J := J) hR' hB hE (show 2 < 12 by decide) hT
  have w3 := c_81 (lx := lx) (z := z) (E := E) (n := n) (J := J) hR' hB hE (show 3 < 12 by decide) hT
  have w4 := c_81 (lx := lx) (z := z) (E := E) (n := n) (J := J) hR' hB hE (show 4 < 12 by decide) hT
  have w5 := c_81 (lx := lx) (z := z) (E := E) (n := n) (J := J) hR' hB hE (show 5 < 12 by decide) hT
  have fin : ∀ I1 J1, CLn I1 J1 p T m (pLn T m (s, F, w, r, G)) → FRc p I I1 → FJ p J J1 → Ca lx 36 [.ref (z + 1)] (St z E n K N R I J) = Am lx 36 52 [some (.ref (z + 1))] [] (0, 0) (St z E n K N R I1 J1) → ∃ b I' J', Ca lx 36 [.ref (z + 1)] (St z E n K N R I J) = some (some (.int (bI b)), St z E n K N R I' J') ∧ CLn I' J' p T m (((pLn T m (s, F, w, r, G)).bind (pGo T m)).map Prod.snd) ∧ FRc p I I' ∧ FJ p J J' ∧ (b = true ↔ ∃ τ, pLn T m (s, F, w, r, G) = .ok τ ∧ tK T m τ.1 = 3) := fun I1 J1 c f j e => by
    obtain ⟨b, I2, e1, e2, e3, e4⟩ := t_36 (lx := lx) (z := z) (E := E) (n := n) hR' (CB_g hB f hp) c (fun τ hτ => (PV_ln (σ := (s, F, w, r, G)) hL hτ).1)
    exact ⟨b, I2, J1, e.trans e1, e2, FRc_t f (FRs_c e3), j, e4⟩
  by_cases c0 : isW T m s 0 = true
  · obtain ⟨I1, e1, e2, e3⟩ := c_38 (lx := lx) (z := z) (E := E) (n := n) hR' hB hE hn h
    have el : pLn T m (s, F, w, r, G) = (pFl T m F s).bind fun a => .ok (a.2, a.1, w, r, G) := by
      unfold pLn; simp only; rw [if_pos c0]
    refine fin I1 J (by rw [el]; exact e2) e3 FJ_r ?_
    rw [f_36, st81 d0 d1 d8 w0, if_pos c0]
    simp only [k_St, d0, gd_t, e1, cV_s]
  by_cases c1 : isW T m s 1 = true
  · obtain ⟨I1, J1, e1, e2, e3, e4⟩ := c_39 (lx := lx) (z := z) (E := E) (n := n) hR' hB hn h
    have el : pLn T m (s, F, w, r, G) = (pRw T m F r s).bind fun a => .ok (a.2, a.1, w, r, G) := by
      unfold pLn; simp only; rw [if_neg c0, if_pos c1]
    refine fin I1 J1 (by rw [el]; exact e2) e3 e4 ?_
    rw [f_36, st81 d0 d1 d8 w0, if_neg c0, st81 d0 d1 d8 w1, if_pos c1]
    simp only [k_St, d0, gd_t, e1, cV_s]
  by_cases c2 : isW T m s 2 = true
  · obtain ⟨I1, e1, e2, e3⟩ := c_41 (lx := lx) (z := z) (E := E) (n := n) hR' hB hn h45 h
    have el : pLn T m (s, F, w, r, G) = (pWl T m F w s).bind fun a => .ok (a.2, a.1, true, true, G) := by
      unfold pLn; simp only; rw [if_neg c0, if_neg c1, if_pos c2]
    refine fin I1 J (by rw [el]; exact e2) e3 FJ_r ?_
    rw [f_36, st81 d0 d1 d8 w0, if_neg c0, st81 d0 d1 d8 w1, if_neg c1, st81 d0 d1 d8 w2, if_pos c2]
    simp only [k_St, d0, gd_t, e1, cV_s]
  by_cases c3 : isW T m s 3 = true
  · obtain ⟨I1, J1, e1, e2, e3, e4⟩ := c_42 (lx := lx) (z := z) (E := E) (n := n) hR' hB hE hn hN h45 h
    have el : pLn T m (s, F, w, r, G) = (pDr T m F G s).bind fun a => .ok (a.2, a.1.1, w, true, a.1.2) := by
      unfold pLn; simp only; rw [if_neg c0, if_neg c1, if_neg c2, if_pos c3]
    refine fin I1 J1 (by rw [el]; exact e2) e3 e4 ?_
    rw [f_36, st81 d0 d1 d8 w0, if_neg c0, st81 d0 d1 d8 w1, if_neg c1, st81 d0 d1 d8 w2, if_neg c2, st81 d0 d1 d8 w3, if_pos c3]
    simp only [k_St, d0, gd_t, e1, cV_s]
  by_cases c4 : isW T m s 4 = true
  · obtain ⟨I1, J1, e1, e2, e3, e4⟩ := c_43 (lx := lx) (z := z) (E := E) (n := n) hR' hB hE hn hN h45 h
    have el : pLn T m (s, F, w, r, G) = (pDg T m F G s).bind fun a => .ok (a.2, a.1.1, w, true, a.1.2) := by
      unfold pLn; simp only; rw [if_neg c0, if_neg c1, if_neg c2, if_neg c3, if_pos c4]
    refine fin I1 J1 (by rw [el]; exact e2) e3 e4 ?_
    rw [f_36, st81 d0 d1 d8 w0, if_neg c0, st81 d0 d1 d8 w1, if_neg c1, st81 d0 d1 d8 w2, if_neg c2, st81 d0 d1 d8 w3, if_neg c3, st81 d0 d1 d8 w4, if_pos c4]
    simp only [k_St, d0, gd_t, e1, cV_s]
  by_cases c5 : isW T m s 5 = true
  · obtain ⟨I1, e1, e2, e3⟩ := c_45 (lx := lx) (z := z) (E := E) (n := n) hR' hB hE hn hN h9 h
    have el : pLn T m (s, F, w, r, G) = (pHd T m F G s).bind fun a => .ok (a.2, a.1, w, true, G) := by
      unfold pLn; simp only; rw [if_neg c0, if_neg c1, if_neg c2, if_neg c3, if_neg c4, if_pos c5]
    refine fin I1 J (by rw [el]; exact e2) e3 FJ_r ?_
    rw [f_36, st81 d0 d1 d8 w0, if_neg c0, st81 d0 d1 d8 w1, if_neg c1, st81 d0 d1 d8 w2, if_neg c2, st81 d0 d1 d8 w3, if_neg c3, st81 d0 d1 d8 w4, if_neg c4, st81 d0 d1 d8 w5, if_pos c5]
    simp only [k_St, d0, gd_t, e1, cV_s]
  obtain ⟨I1, e1, e2, e3⟩ := kk_58 (lx := lx) (z := z) (E := E) (n := n) (e := 1) hR' h hn (by decide) (by decide)
  have el : pLn T m (s, F, w, r, G) = .error (1, s) := by
    unfold pLn; simp only; rw [if_neg c0, if_neg c1, if_neg c2, if_neg c3, if_neg c4, if_neg c5]
  refine fin I1 J (by rw [el]; exact e2) (FRs_c e3) FJ_r ?_
  rw [f_36, st81 d0 d1 d8 w0, if_neg c0, st81 d0 d1 d8 w1, if_neg c1, st81 d0 d1 d8 w2, if_neg c2, st81 d0 d1 d8 w3, if_neg c3, st81 d0 d1 d8 w4, if_neg c4, st81 d0 d1 d8 w5, if_neg c5]
  have n1 : (1 : Int32) = nI 1 := rfl
  simp only [k_St, d0, gd_t, n1, e1, cV_s]
theorem al_go (f : Nat) (σ : Sg) (h : ∀ τ, pLn T m σ = .ok τ → tK T m τ.1 ≠ 3) : pAl T m (f + 1) σ = ((pLn T m σ).bind (pGo T m)).map Prod.snd := by
  rw [pAl]
  cases e : pLn T m σ with
  | error v => rfl
  | ok τ =>
    have := h τ e
    rw [eb_o, eb_o]
    unfold pGo
    simp only [if_neg this]
    by_cases c : tK T m τ.1 = 0
    · rw [if_pos c, if_pos c]
      cases τ.2.2.1 <;> rfl
    · rw [if_neg c, if_neg c]; rfl
theorem FJ_t {J1 J2 : Nat → Nat → Int64} (h : FJ p J J1) (h2 : FJ p J1 J2) : FJ p J J2 := fun a a1 a2 a3 => (h2 a a1 a2 a3).trans (h a a1 a2 a3)
theorem c_113l (hR : Rd K N R p) (hE : EOk E) (k0 : K 0 = 9) (r0 : R 0 0 = some 1) (b : aB) : ∀ (f i s : Nat) (F : Nat → Nat → Nat) (w r : Bool) (G : Nat → Nat → Nat) (I : Nat → Nat → Int32) (J : Nat → Nat → Int64), CB I T m → PV T m F w r G → COk I J p T m F w r G s → m < s + f → i ≤ s → ∃ I' J', Am lx 113 24 [some (.ref z), none, some (.int (nI 1)), some (.int (nI i))] [] b (St z E n K N R I J) = Am lx 113 36 [some (.ref z), none, none, none] [] b (St z E n K N R I' J') ∧ CLn I' J' p T m (pAl T m f (s, F, w, r, G)) ∧ FRc p I I' ∧ FJ p J J'
  | 0, i, s, F, w, r, G, I, J, hB, hL, h, hf, hi => by
    have := h.2.2.2.2.2.1.2.2.2.2
    omega
  | f + 1, i, s, F, w, r, G, I, J, hB, hL, h, hf, hi => by
    have ts := h.2.2.2.2.2.1.2.2.2.2
    have hm := hB.1
    have d0 := hR.1
    have hp := hR.2.2.2.2.2.2.2.2.2.2.2.2.2.2
    obtain ⟨o, I1, J1, e1, e2, e3, e4, e5⟩ := c_36 (lx := lx) (z := z) (E := E) (n := n) hR hB hE hL h
    cases o with
    | true =>
      obtain ⟨τ, t1, t2⟩ := e5.mp rfl
      have mn := ln_m (σ := (s, F, w, r, G)) ts t1
      have av := adv_ge (T := T) (m := m) τ.1
      have l3 := tL_3 t2
      have pv := PV_ln (σ := (s, F, w, r, G)) hL t1
      have ok2 : COk I1 J1 p T m τ.2.1 τ.2.2.1 τ.2.2.2.1 τ.2.2.2.2 (adv T m τ.1) := by
        rw [t1, eb_o] at e2
        unfold pGo at e2
        rw [if_pos t2] at e2
        exact e2
      obtain ⟨I2, J2, g1, g2, g3, g4⟩ := c_113l hR hE k0 r0 b f (i + 1) (adv T m τ.1) τ.2.1 τ.2.2.1 τ.2.2.2.1 τ.2.2.2.2 I1 J1 (CB_g hB e3 hp) pv ok2 (by simp only at mn; omega) (by simp only at mn; omega)
      refine ⟨I2, J2, ?_, ?_, FRc_t e3 g3, FJ_t e4 g4⟩
      · rw [← g1, e_113_24]
        simp (disch := first | assumption | omega) [k_St, n_St, i_St, j_St, r_St, wI_St, wJ_St, k_S0, n_S0, i_S0, j_S0, r_S0, wI_S0, wJ_S0, cI_s, cJ_s, cV_s, nR_s, nQ_s, nQ_n, lt_s_, gd_T, gd_t, Option.map_some, lits, neg_mI, nI_add, pk_mul, nI_clamp, nI_eq, nI_leI, nI_ltI, nm_eq, mn_eq, nm_lt, mn_lt, nm_le, mn_le, m_eq, bI_0, bI_1, k0, r0, d0, e1, if_neg]
        rfl
      · rw [pAl, t1, eb_o, if_pos t2]; exact g2
    | false =>
      refine ⟨I1, J1, ?_, ?_, e3, e4⟩
      · rw [e_113_24]
        simp (disch := first | assumption | omega) [k_St, n_St, i_St, j_St, r_St, wI_St, wJ_St, k_S0, n_S0, i_S0, j_S0, r_S0, wI_S0, wJ_S0, cI_s, cJ_s, cV_s, nR_s, nQ_s, nQ_n, lt_s_, gd_T, gd_t, Option.map_some, lits, neg_mI, nI_add, pk_mul, nI_clamp, nI_eq, nI_leI, nI_ltI, nm_eq, mn_eq, nm_lt, mn_lt, nm_le, mn_le, m_eq, bI_0, bI_1, k0, r0, d0, e1, if_neg]
        rw [e_113_24]
        by_cases c : 700 < i + 1
        · simp (disch := first | assumption | omega) [k_St, n_St, i_St, j_St, r_St, wI_St, wJ_St, k_S0, n_S0, i_S0, j_S0, r_S0, wI_S0, wJ_S0, cI_s, cJ_s, cV_s, nR_s, nQ_s, nQ_n, lt_s_, gd_T, gd_t, Option.map_some, lits, neg_mI, nI_add, pk_mul, nI_clamp, nI_eq, nI_leI, nI_ltI, nm_eq, mn_eq, nm_lt, mn_lt, nm_le, mn_le, m_eq, bI_0, bI_1, c]
        · simp (disch := first | assumption | omega) [k_St, n_St, i_St, j_St, r_St, wI_St, wJ_St, k_S0, n_S0, i_S0, j_S0, r_S0, wI_S0, wJ_S0, cI_s, cJ_s, cV_s, nR_s, nQ_s, nQ_n, lt_s_, gd_T, gd_t, Option.map_some, lits, neg_mI, nI_add, pk_mul, nI_clamp, nI_eq, nI_leI, nI_ltI, nm_eq, mn_eq, nm_lt, mn_lt, nm_le, mn_le, m_eq, bI_0, bI_1, c]
      · rw [al_go f (s, F, w, r, G) (fun τ h1 h2 => absurd (e5.mpr ⟨τ, h1, h2⟩) (by decide))]
        exact e2
/-! the plan is cleared, the tape opened -/
theorem c_23a (hP : Pl K N R p) (b : aB) : ∀ (n' i : Nat) (I : Nat → Nat → Int32), i + n' = 64 → ∃ I', Am lx 23 36 [some (.ref (z + p)), some (.int (nI i))] [] b (St z E n K N R I J) = some (none, St z E n K N R I' J) ∧ (∀ c, i ≤ c → c < 64 → I' (p + 1) c = nI 3) ∧ (∀ a c, a ≠ p + 1 ∨ c < i → I' a c = I a c)
  | 0, i, I, h => by
    have hP' := hP
    obtain ⟨p0, pr1, pr2, pr3, pr4, pr5, pr6, pr7, pr8, pk1, pk2, pk3, pk4, pk5, pk6, pk7, pk8, pn1, pn2, pn3, pn4, pn5, pn6, pn7, pn8⟩ := hP
    have n6 : Int32.ofNat 64 = nI 64 := rfl
    refine ⟨I, ?_, fun c c1 c2 => by omega, fun _ _ _ => rfl⟩
    rw [e_23_36]
    simp (disch := first | assumption | omega) [k_St, n_St, i_St, j_St, r_St, wI_St, wJ_St, k_S0, n_S0, i_S0, j_S0, r_S0, wI_S0, wJ_S0, cI_s, cJ_s, cV_s, nR_s, nQ_s, nQ_n, lt_s_, gd_T, gd_t, Option.map_some, lits, neg_mI, nI_add, pk_mul, nI_clamp, nI_eq, nI_leI, nI_ltI, nm_eq, mn_eq, nm_lt, mn_lt, nm_le, mn_le, m_eq, bI_0, bI_1, p0, pr1, pk1, pn1, n6, if_pos]
  | n' + 1, i, I, h => by
    obtain ⟨I', e1, e2, e3⟩ := c_23a hP b n' (i + 1) (u2 I (p + 1) i (nI 3)) (by omega)
    obtain ⟨p0, pr1, pr2, pr3, pr4, pr5, pr6, pr7, pr8, pk1, pk2, pk3, pk4, pk5, pk6, pk7, pk8, pn1, pn2, pn3, pn4, pn5, pn6, pn7, pn8⟩ := hP
    have n6 : Int32.ofNat 64 = nI 64 := rfl
    refine ⟨I', ?_, fun c c1 c2 => ?_, fun a c hc => ?_⟩
    · rw [e_23_36]
      simp (disch := first | assumption | omega) [k_St, n_St, i_St, j_St, r_St, wI_St, wJ_St, k_S0, n_S0, i_S0, j_S0, r_S0, wI_S0, wJ_S0, cI_s, cJ_s, cV_s, nR_s, nQ_s, nQ_n, lt_s_, gd_T, gd_t, Option.map_some, lits, neg_mI, nI_add, pk_mul, nI_clamp, nI_eq, nI_leI, nI_ltI, nm_eq, mn_eq, nm_lt, mn_lt, nm_le, mn_le, m_eq, bI_0, bI_1, p0, pr1, pk1, pn1, n6, if_neg]
      exact e1
    · by_cases ci : c = i
      · rw [ci, e3 (p + 1) i (Or.inr (by omega)), u2_s]
      · exact e2 c (by omega) c2
    · rw [e3 a c (by omega)]
      by_cases ha : a = p + 1
      · rw [ha, u2_k _ _ _ _ _ (by omega)]
      · rw [u2_a _ _ _ _ _ ha]
def Z00 : Nat → Nat → Nat := fun _ _ => 0
theorem c_23 (hP : Pl K N R p) : ∃ I' J', Ca lx 23 [.ref (z + p)] (St z E n K N R I J) = some (none, St z E n K N R I' J') ∧ PI I' J' p Z00 ∧ (∀ a, a ≠ p → a ≠ p + 1 → I' a = I a) ∧ (∀ a, a ≠ p → J' a = J a) := by
  have hP' := hP
  obtain ⟨p0, pr1, pr2, pr3, pr4, pr5, pr6, pr7, pr8, pk1, pk2, pk3, pk4, pk5, pk6, pk7, pk8, pn1, pn2, pn3, pn4, pn5, pn6, pn7, pn8⟩ := hP
  obtain ⟨I', e1, e2, e3⟩ := c_23a (lx := lx) (z := z) (E := E) (n := n) (J := u2 J p 10 0) hP' (0, 0) 64 0 (u2 (u2 (u2 (u2 (u2 (u2 (u2 (u2 (u2 (u2 I p 0 (nI 0)) p 1 (nI 0)) p 2 (nI 0)) p 3 (nI 0)) p 4 (nI 0)) p 5 (nI 0)) p 6 (nI 0)) p 7 (nI 0)) p 8 (nI 0)) p 9 (nI 0)) (by omega)
  refine ⟨I', u2 J p 10 0, ?_, ⟨?_, ?_, ?_, ?_, ?_, ?_, ?_, ?_⟩, ?_, ?_⟩
  · rw [f_23]
    simp (disch := first | assumption | omega) [k_St, n_St, i_St, j_St, r_St, wI_St, wJ_St, k_S0, n_S0, i_S0, j_S0, r_S0, wI_S0, wJ_S0, cI_s, cJ_s, cV_s, nR_s, nQ_s, nQ_n, lt_s_, gd_T, gd_t, Option.map_some, lits, neg_mI, nI_add, pk_mul, nI_clamp, nI_eq, nI_leI, nI_ltI, nm_eq, mn_eq, nm_lt, mn_lt, nm_le, mn_le, m_eq, bI_0, bI_1, p0]
    exact e1
  · intro j hj
    rw [e3 p j (Or.inl (by omega))]
    have : j = 0 ∨ j = 1 ∨ j = 2 ∨ j = 3 ∨ j = 4 ∨ j = 5 ∨ j = 6 ∨ j = 7 ∨ j = 8 ∨ j = 9 := by omega
    rcases this with h | h | h | h | h | h | h | h | h | h <;> subst h <;> simp (disch := first | assumption | omega) [u2_s, u2_a, u2_k, Z00]
  · intro c hc
    rw [e2 c (by omega) hc]
    have : inF Z00 c = false := by simp [inF, Z00]
    rw [this]; rfl
  · intro d hd; exact absurd hd (by simp [Z00])
  · intro d hd; exact absurd hd (by simp [Z00])
  · intro d hd; exact absurd hd (by simp [Z00])
  · intro d k hd; exact absurd hd (by simp [Z00])
  · intro d hd; exact absurd hd (by simp [Z00])
  · intro c hc
    rw [u2_s, hb_0]
    simp [isS, inF, Z00]
  · intro a a1 a2
    funext c
    rw [e3 a c (Or.inl a2)]
    simp (disch := first | assumption | omega) [u2_s, u2_a, u2_k]
  · intro a a1; exact u2_a _ _ _ _ _ a1
theorem PV_0 : PV T m Z00 false false G := by
  refine ⟨by simp [FCn, Z00], by simp [Z00], by simp [OS, Z00], by simp [Z00], by simp [Z00], by simp, by simp [Z00], fun g hg => absurd hg (by simp [Z00]), fun g hg => absurd hg (by simp [Z00]), by simp, by simp [Z00], ?_⟩
  refine ⟨fun k hk => absurd hk (by simp [Z00]), fun k hk => absurd hk (by simp [Z00]), fun k hk => absurd hk (by simp [Z00]), fun k j hk => absurd hk (by simp [Z00])⟩
theorem c_35 (hR : Rd K N (u2 R 1 3 (some p)) p) (hB : CB I T m) : ∃ I' J', Ca lx 35 [.ref (z + 1), .int (nI m), .ref (z + p)] (St z E n K N R I J) = some (none, St z E n K N (u2 R 1 3 (some p)) I' J') ∧ COk I' J' p T m Z00 false false G (tsk T m 0) ∧ FRc p I I' ∧ FJ p J J' := by
  have hR' := hR
  obtain ⟨d0, d1, d2, d3, d4, d5, d6, d7, d8, d9, d10, d11, d12, hP, hp⟩ := hR
  have kp := hP.1
  obtain ⟨I1, J1, e1, e2, e3, e4⟩ := c_23 (lx := lx) (z := z) (E := E) (n := n) (I := I) (J := J) hP
  obtain ⟨I2, g1, g2, g3, g4⟩ := c_80 (lx := lx) (z := z) (E := E) (n := n) (J := J1) (T := T) (m := m) (s := 0) (l := 0) (I := u2 (u2 (u2 (u2 (u2 (u2 (u2 (u2 (u2 I1 1 1 (nI 0)) 1 2 (nI 0)) 1 4 (nI 0)) 1 5 (nI 0)) 1 6 (nI 0)) 2 1 (nI 0)) 2 2 (nI m)) 2 3 (nI 0)) 2 4 (nI 0)) hR' ⟨hB.1, fun k hk => by
    have : u2 (u2 (u2 (u2 (u2 (u2 (u2 (u2 (u2 I1 1 1 (nI 0)) 1 2 (nI 0)) 1 4 (nI 0)) 1 5 (nI 0)) 1 6 (nI 0)) 2 1 (nI 0)) 2 2 (nI m)) 2 3 (nI 0)) 2 4 (nI 0) 3 = I1 3 := by simp (disch := first | assumption | omega) [u2_s, u2_a, u2_k]
    rw [this, e3 3 (by omega) (by omega)]; exact hB.2 k hk⟩ (by simp (disch := first | assumption | omega) [u2_s, u2_a, u2_k]) (by simp (disch := first | assumption | omega) [u2_s, u2_a, u2_k]) (by simp (disch := first | assumption | omega) [u2_s, u2_a, u2_k]) (by omega)
  refine ⟨I2, J1, ?_, ⟨?_, ?_, ?_, ?_, ?_, g2, ?_, ?_, ?_⟩, ?_, ?_⟩
  · rw [f_35]
    simp (disch := first | assumption | omega) [k_St, n_St, i_St, j_St, r_St, wI_St, wJ_St, k_S0, n_S0, i_S0, j_S0, r_S0, wI_S0, wJ_S0, cI_s, cJ_s, cV_s, nR_s, nQ_s, nQ_n, lt_s_, gd_T, gd_t, Option.map_some, lits, neg_mI, nI_add, pk_mul, nI_clamp, nI_eq, nI_leI, nI_ltI, nm_eq, mn_eq, nm_lt, mn_lt, nm_le, mn_le, m_eq, bI_0, bI_1, wR_St, d0, d12, kp, e1, d1, d8]
    rw [f_79]
    simp (disch := first | assumption | omega) [k_St, n_St, i_St, j_St, r_St, wI_St, wJ_St, k_S0, n_S0, i_S0, j_S0, r_S0, wI_S0, wJ_S0, cI_s, cJ_s, cV_s, nR_s, nQ_s, nQ_n, lt_s_, gd_T, gd_t, Option.map_some, lits, neg_mI, nI_add, pk_mul, nI_clamp, nI_eq, nI_leI, nI_ltI, nm_eq, mn_eq, nm_lt, mn_lt, nm_le, mn_le, m_eq, bI_0, bI_1, d8, g1]
  · rw [g3 1 (by decide)]; simp (disch := first | assumption | omega) [u2_s, u2_a, u2_k]
  · rw [g3 1 (by decide)]; simp (disch := first | assumption | omega) [u2_s, u2_a, u2_k]; rfl
  · rw [g3 1 (by decide)]; simp (disch := first | assumption | omega) [u2_s, u2_a, u2_k]; rfl
  · rw [g3 1 (by decide)]; simp (disch := first | assumption | omega) [u2_s, u2_a, u2_k]; rfl
  · rw [g4 1 (by decide)]; simp (disch := first | assumption | omega) [u2_s, u2_a, u2_k]
  · refine PI_c e2 (fun a a1 a2 => ?_) rfl
    rw [g3 a (by omega)]; simp (disch := first | assumption | omega) [u2_s, u2_a, u2_k]
  · intro d hd; exact absurd hd (by simp [Z00])
  · intro d hd; exact absurd hd (by simp [Z00])
  · intro a a1 a2 a3
    rw [g3 a a2]
    simp (disch := first | assumption | omega) [u2_s, u2_a, u2_k]
    exact e3 a (by omega) (by omega)
  · intro a a1 a2 a3; exact e4 a a3
/-- the class has read what it was told -/
theorem c_113h {hd : Nat} (hR : Rd K N (u2 R 1 3 (some p)) p) (hE : EOk E) (hB : CB I T m) (k0 : K 0 = 9) (r0 : R 0 0 = some 1) (r9 : R 0 9 = some p) (h1 : I 2 1 = nI hd) (hm : m ≤ hd) (h7 : hd ≤ 700) : ∃ I' J', Ca lx 113 [.ref z, .int (nI m)] (St z E n K N R I J) = Am lx 113 36 [some (.ref z), none, none, none] [] (0, 0) (St z E n K N (u2 R 1 3 (some p)) I' J') ∧ CLn I' J' p T m (pAl T m 701 (tsk T m 0, Z00, false, false, Z00)) ∧ FRc p I I' ∧ FJ p J J' := by
  have hb := hB.1
  obtain ⟨I1, J1, e1, e2, e3, e4⟩ := c_35 (lx := lx) (z := z) (E := E) (n := n) (G := Z00) (J := J) hR hB
  have hp := hR.2.2.2.2.2.2.2.2.2.2.2.2.2.2
  have d0 := hR.1
  have d1 : R 1 0 = some 2 := by have := hR.2.1; rwa [u2_k _ _ _ _ _ (by decide)] at this
  have d8 := hR.2.2.2.2.2.2.2.2.1
  obtain ⟨I2, J2, g1, g2, g3, g4⟩ := c_113l (lx := lx) (z := z) (n := n) (b := (0, 0)) hR hE k0 (by rw [u2_a _ _ _ _ _ (by decide)]; exact r0) 701 0 (tsk T m 0) Z00 false false Z00 I1 J1 (CB_g hB e3 hp) PV_0 e2 (by omega) (by omega)
  refine ⟨I2, J2, ?_, g2, FRc_t e3 g3, FJ_t e4 g4⟩
  rw [← g1, f_113]
  simp (disch := first | assumption | omega) [k_St, n_St, i_St, j_St, r_St, wI_St, wJ_St, k_S0, n_S0, i_S0, j_S0, r_S0, wI_S0, wJ_S0, cI_s, cJ_s, cV_s, nR_s, nQ_s, nQ_n, lt_s_, gd_T, gd_t, Option.map_some, lits, neg_mI, nI_add, pk_mul, nI_clamp, nI_eq, nI_leI, nI_ltI, nm_eq, mn_eq, nm_lt, mn_lt, nm_le, mn_le, m_eq, bI_0, bI_1, k0, r0, r9, d0, d1, d8, h1, if_neg, if_pos, e1]
end RDD
