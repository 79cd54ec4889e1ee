section RDC
variable {z : Nat} {E : aEt} {n : Nat} {K N : Nat → Nat} {R : Nat → Nat → Option Nat} {I : Nat → Nat → Int32} {J : Nat → Nat → Int64} {lx : List Value → aH → aO} {p s q m e : Nat} {T : Nat → Nat} {F G : Nat → Nat → Nat} {w r : Bool} {x : Exc Nat}
theorem pDn_b {a : Nat × Nat} (h : pDn T m F G s = .ok a) : a.1 < F 0 7 := by
  unfold pDn at h
  by_cases c1 : isN T m s = true
  · rw [if_pos c1] at h
    by_cases c2 : fdd T m F G s < F 0 7
    · rw [if_pos c2] at h; injection h with h; rw [← h]; exact c2
    · rw [if_neg c2] at h; simp at h
  · rw [if_neg c1] at h; simp at h
theorem pWh_b {a : Nat × Nat} {lo hi : Nat} (h : pWh T m lo hi s = .ok a) : lo ≤ a.1 ∧ a.1 ≤ hi := by
  unfold pWh at h
  by_cases c1 : tK T m s = 2
  · rw [if_pos c1] at h
    by_cases c2 : lo ≤ wv T m s ∧ wv T m s ≤ hi
    · rw [if_pos c2] at h; injection h with h; rw [← h]; exact c2
    · rw [if_neg c2] at h; simp at h
  · rw [if_neg c1] at h; simp at h
theorem s_29 {d v f : Nat} (hP : Pl K N R p) (h9 : I p 9 = nI (F 0 9)) (hc : F 0 9 < 6) : Ca lx 29 [.ref (z + p), .int (nI d), .int (nI v), .int (nI f)] (St z E n K N R I J) = some (none, St z E n K N R (u2 (u2 (u2 (u2 I (p + 6) (F 0 9) (nI d)) (p + 7) (F 0 9) (nI v)) (p + 8) (F 0 9) (nI f)) p 9 (nI (F 0 9 + 1))) J) := by
  obtain ⟨p0, pr1, pr2, pr3, pr4, pr5, pr6, pr7, pr8, pk1, pk2, pk3, pk4, pk5, pk6, pk7, pk8, pn1, pn2, pn3, pn4, pn5, pn6, pn7, pn8⟩ := hP
  rw [f_29]
  simp (disch := first | assumption | omega) [k_St, n_St, i_St, j_St, r_St, wI_St, wJ_St, k_S0, n_S0, i_S0, j_S0, r_S0, wI_S0, wJ_S0, cI_s, cJ_s, cV_s, nR_s, nQ_s, nQ_n, lt_s_, gd_T, gd_t, Option.map_some, lits, neg_mI, nI_add, pk_mul, nI_clamp, nI_eq, nI_leI, nI_ltI, nm_eq, mn_eq, nm_lt, mn_lt, nm_le, mn_le, m_eq, bI_0, bI_1, p0, pr6, pr7, pr8, pk6, pk7, pk8, pn6, pn7, pn8, h9, if_neg, u2_s, u2_a, u2_k]
theorem c_45 (hR : Rd K N R p) (hB : CB I T m) (hE : EOk E) (hn : FCn F) (hN : NW T m F G) (hb : ∀ k, k < F 0 9 → F 6 k < 4 ∧ F 7 k ≤ 60) (h : COk I J p T m F w r G s) : ∃ I', Ca lx 45 [.ref (z + 1)] (St z E n K N R I J) = some (none, St z E n K N R I' J) ∧ CLn I' J p T m ((pHd T m F G s).bind fun a => .ok (a.2, a.1, w, true, G)) ∧ FRc p I I' := by
  have hR' := hR
  obtain ⟨d0, d1, d2, d3, d4, d5, d6, d7, d8, d9, d10, d11, d12, hP, hp⟩ := hR
  have kp := hP.1
  have q9 := h.2.2.2.2.2.2.1.1 9 (by decide)
  have n9 := hn.2.2.2.2
  have n7 := hn.2.2.1
  obtain ⟨I0, e0, h0, f0⟩ : ∃ I0, Ca lx 45 [.ref (z + 1)] (St z E n K N R I J) = Am lx 45 9 [some (.ref (z + 1)), none, none, none, none] [] (0, 0) (St z E n K N R I0 J) ∧ CS I0 J p T m F w r G (if 6 ≤ F 0 9 then .error (5, s) else .ok s) ∧ FRs I I0 := by
    by_cases c : 6 ≤ F 0 9
    · obtain ⟨I1, e1, e2, e3⟩ := kk_58 (lx := lx) (z := z) (E := E) (n := n) (e := 5) hR' h hn (by decide) (by decide)
      refine ⟨I1, ?_, by rw [if_pos c]; exact e2, e3⟩
      rw [f_45]
      simp (disch := first | assumption | omega) [k_St, n_St, i_St, j_St, r_St, wI_St, wJ_St, k_S0, n_S0, i_S0, j_S0, r_S0, wI_S0, wJ_S0, cI_s, cJ_s, cV_s, nR_s, nQ_s, nQ_n, lt_s_, gd_T, gd_t, Option.map_some, lits, neg_mI, nI_add, pk_mul, nI_clamp, nI_eq, nI_leI, nI_ltI, nm_eq, mn_eq, nm_lt, mn_lt, nm_le, mn_le, m_eq, bI_0, bI_1, d0, d12, kp, q9, if_neg, e1]
    · refine ⟨I, ?_, by rw [if_neg c]; exact h, FRs_r⟩
      rw [f_45]
      simp (disch := first | assumption | omega) [k_St, n_St, i_St, j_St, r_St, wI_St, wJ_St, k_S0, n_S0, i_S0, j_S0, r_S0, wI_S0, wJ_S0, cI_s, cJ_s, cV_s, nR_s, nQ_s, nQ_n, lt_s_, gd_T, gd_t, Option.map_some, lits, neg_mI, nI_add, pk_mul, nI_clamp, nI_eq, nI_leI, nI_ltI, nm_eq, mn_eq, nm_lt, mn_lt, nm_le, mn_le, m_eq, bI_0, bI_1, d0, d12, kp, q9, if_pos]
  obtain ⟨I1, e1, h1, f1⟩ := c_46 (lx := lx) (z := z) (E := E) (n := n) hR' (CB_f hB f0) hn h0
  have f1' := FRs_t f0 f1
  obtain ⟨u, I2, e2, h2, f2, u2'⟩ := c_53 (lx := lx) (z := z) (E := E) (n := n) hR' (CB_f hB f1') hE hn hN h1
  have f2' := FRs_t f1' f2
  obtain ⟨v, I3, e3, h3, f3, v3, _⟩ := c_49 (lx := lx) (z := z) (E := E) (n := n) (L := nI 0) (H := nI 60) (lo := 0) (hi := 60) hR' (CB_f hB f2') hn h2 (fun _ _ => ⟨rfl, rfl⟩) (by decide) (by decide)
  have f3' := FRs_t f2' f3
  have er34 : ∀ {I4 : Nat → Nat → Int32} {e q : Nat}, CBd I4 p T m e q → FRs I I4 → Am lx 45 34 [some (.ref (z + 1)), some (.int u), none, some (.int v), none] [] (0, 0) (St z E n K N R I4 J) = some (none, St z E n K N R I4 J) := fun {I4 e q} hu f4 => by
    have e49 := b_49 (lx := lx) (z := z) (E := E) (n := n) (J := J) hR' (CB_f hB f4) hu (nI 0) (nI 14)
    obtain ⟨u1, u2, u3, _⟩ := hu
    rw [e_45_34]
    simp (disch := first | assumption | omega) [k_St, n_St, i_St, j_St, r_St, wI_St, wJ_St, k_S0, n_S0, i_S0, j_S0, r_S0, wI_S0, wJ_S0, cI_s, cJ_s, cV_s, nR_s, nQ_s, nQ_n, lt_s_, gd_T, gd_t, Option.map_some, lits, neg_mI, nI_add, pk_mul, nI_clamp, nI_eq, nI_leI, nI_ltI, nm_eq, mn_eq, nm_lt, mn_lt, nm_le, mn_le, m_eq, bI_0, bI_1, d0, e49, u3, if_neg]
  have er : ∀ a, CBd I3 p T m a.1 a.2 → pHd T m F G s = .error a → ∃ I', Ca lx 45 [.ref (z + 1)] (St z E n K N R I J) = some (none, St z E n K N R I' J) ∧ CLn I' J p T m ((pHd T m F G s).bind fun a => .ok (a.2, a.1, w, true, G)) ∧ FRc p I I' := fun a hu e' => by
    refine ⟨I3, ?_, by rw [e']; exact hu, FRs_c f3'⟩
    have e34 := er34 hu f3'
    have e59 := b_59 (lx := lx) (z := z) (E := E) (n := n) (J := J) hR' hu
    obtain ⟨_, _, _, _, _, _, a4, a5, a7, a8, a9, n4, n5, n7, n8, n9, m4, m5, m7, m8, m9⟩ := hu
    obtain ⟨o, e30⟩ := b_30 (lx := lx) (z := z) (E := E) (n := n) (J := J) hP m9 n9 u v
    rw [e0, e_45_9]
    simp only [k_St, i_St, r_St, d0, d1, d8, d12, kp, gd_t, Option.map_some, nR_s, cI_s, cV_s, e1, e2, lits, e3, e30, e59, e34, ite_self]
  by_cases c0 : 6 ≤ F 0 9
  · simp only [if_pos c0, eb_e, Except.map] at h3
    exact er _ h3 (by unfold pHd; rw [if_pos c0])
  · simp only [if_neg c0, eb_o] at h3 u2' v3 h2
    cases c1 : pLB T m F s with
    | error a =>
      simp only [c1, eb_e, Except.map] at h3
      exact er a h3 (by unfold pHd; rw [if_neg c0, c1, eb_e])
    | ok s1 =>
      simp only [c1, eb_o] at h3 u2' v3 h2
      cases c2 : pDn T m F G s1 with
      | error a =>
        simp only [c2, eb_e, Except.map] at h3
        exact er a h3 (by unfold pHd; rw [if_neg c0, c1, eb_o, c2, eb_e])
      | ok d =>
        simp only [c2, Except.map, eb_o] at h3 u2' v3 h2
        have hu := u2' d rfl
        subst hu
        have h2' : COk I2 J p T m F w true G d.2 := h2
        have t3 := h2'.2.2.2.2.2.1.2.1
        have dl := pDn_b c2
        cases c3 : pWh T m 0 60 d.2 with
        | error a =>
          rw [c3] at h3
          exact er a h3 (by unfold pHd; rw [if_neg c0, c1, eb_o, c2, eb_o, c3, eb_e])
        | ok b =>
          rw [c3] at h3 v3
          have hv := v3 b rfl
          subst hv
          have bl := pWh_b c3
          have h3' : COk I3 J p T m F w true G b.2 := h3
          have k9 := h3'.2.2.2.2.2.2.1.1 9 (by decide)
          have k6 := h3'.2.2.2.2.2.2.1.2.2.2.2.2.2.1
          have e30 := c_30 (lx := lx) (z := z) (E := E) (n := n) (J := J) (d := d.1) (v := b.1) hP k9 k6 n9 hb (by omega) bl.2
          have ep : pHd T m F G s = if rpt F d.1 b.1 then .error (3, d.2) else (pWh T m 0 14 b.2).bind fun f => .ok (u2 (u2 (u2 (u2 F 6 (F 0 9) d.1) 7 (F 0 9) b.1) 8 (F 0 9) f.1) 0 9 (F 0 9 + 1), f.2) := by
            unfold pHd; rw [if_neg c0, c1, eb_o, c2, eb_o, c3, eb_o]
          rw [ep]
          by_cases cr : rpt F d.1 b.1 = true
          · rw [if_pos cr]
            rw [cr] at e30
            obtain ⟨I4, g1, g2, g3⟩ := kk_59 (lx := lx) (z := z) (E := E) (n := n) (e := 3) hR' h3' hn (by decide) (by decide) d.2
            refine ⟨I4, ?_, g2, FRs_c (FRs_t f3' g3)⟩
            rw [e0, e_45_9]
            simp (disch := first | assumption | omega) [k_St, n_St, i_St, j_St, r_St, wI_St, wJ_St, k_S0, n_S0, i_S0, j_S0, r_S0, wI_S0, wJ_S0, cI_s, cJ_s, cV_s, nR_s, nQ_s, nQ_n, lt_s_, gd_T, gd_t, Option.map_some, lits, neg_mI, nI_add, pk_mul, nI_clamp, nI_eq, nI_leI, nI_ltI, nm_eq, mn_eq, nm_lt, mn_lt, nm_le, mn_le, m_eq, bI_0, bI_1, d0, d1, d8, d12, kp, e1, e2, e3, e30, t3, g1]
            exact er34 g2 (FRs_t f3' g3)
          · rw [if_neg cr]
            have cr' : rpt F d.1 b.1 = false := by simpa using cr
            rw [cr'] at e30
            obtain ⟨f, I4, g1, g2, g3, g4, _⟩ := c_49 (lx := lx) (z := z) (E := E) (n := n) (x := .ok b.2) (L := nI 0) (H := nI 14) (lo := 0) (hi := 14) hR' (CB_f hB f3') hn h3' (fun _ _ => ⟨rfl, rfl⟩) (by decide) (by decide)
            have f4' := FRs_t f3' g3
            have r34 : Ca lx 45 [.ref (z + 1)] (St z E n K N R I J) = Am lx 45 34 [some (.ref (z + 1)), some (.int (nI d.1)), none, some (.int (nI b.1)), none] [] (0, 0) (St z E n K N R I3 J) := by
              rw [e0, e_45_9]
              simp (disch := first | assumption | omega) [k_St, n_St, i_St, j_St, r_St, wI_St, wJ_St, k_S0, n_S0, i_S0, j_S0, r_S0, wI_S0, wJ_S0, cI_s, cJ_s, cV_s, nR_s, nQ_s, nQ_n, lt_s_, gd_T, gd_t, Option.map_some, lits, neg_mI, nI_add, pk_mul, nI_clamp, nI_eq, nI_leI, nI_ltI, nm_eq, mn_eq, nm_lt, mn_lt, nm_le, mn_le, m_eq, bI_0, bI_1, d0, d1, d8, d12, kp, e1, e2, e3, e30]
            rw [eb_o] at g2 g4
            cases c4 : pWh T m 0 14 b.2 with
            | error a =>
              rw [c4] at g2
              refine ⟨I4, ?_, g2, FRs_c f4'⟩
              have g2' : CBd I4 p T m a.1 a.2 := g2
              obtain ⟨u1, u2, u3, _⟩ := g2'
              rw [r34, e_45_34]
              simp (disch := first | assumption | omega) [k_St, n_St, i_St, j_St, r_St, wI_St, wJ_St, k_S0, n_S0, i_S0, j_S0, r_S0, wI_S0, wJ_S0, cI_s, cJ_s, cV_s, nR_s, nQ_s, nQ_n, lt_s_, gd_T, gd_t, Option.map_some, lits, neg_mI, nI_add, pk_mul, nI_clamp, nI_eq, nI_leI, nI_ltI, nm_eq, mn_eq, nm_lt, mn_lt, nm_le, mn_le, m_eq, bI_0, bI_1, d0, g1, u3, if_neg]
            | ok a =>
              rw [c4] at g2 g4
              have hf := g4 a rfl
              subst hf
              have g2' : COk I4 J p T m F w true G a.2 := g2
              have k1 := g2'.1
              have k9' := g2'.2.2.2.2.2.2.1.1 9 (by decide)
              have e29 := s_29 (lx := lx) (z := z) (E := E) (n := n) (J := J) (d := d.1) (v := b.1) (f := a.1) (F := F) hP k9' (by omega)
              refine ⟨_, ?_, COk_h (d := d.1) (v := b.1) (f := a.1) (by omega) g2' hp, fun b b1 b2 b3 => by rw [u2_a _ _ _ _ _ (by omega), u2_a _ _ _ _ _ (by omega), u2_a _ _ _ _ _ (by omega), u2_a _ _ _ _ _ (by omega)]; exact f4' b b1 b2⟩
              rw [r34, e_45_34]
              simp (disch := first | assumption | omega) [k_St, n_St, i_St, j_St, r_St, wI_St, wJ_St, k_S0, n_S0, i_S0, j_S0, r_S0, wI_S0, wJ_S0, cI_s, cJ_s, cV_s, nR_s, nQ_s, nQ_n, lt_s_, gd_T, gd_t, Option.map_some, lits, neg_mI, nI_add, pk_mul, nI_clamp, nI_eq, nI_leI, nI_ltI, nm_eq, mn_eq, nm_lt, mn_lt, nm_le, mn_le, m_eq, bI_0, bI_1, d0, d12, kp, g1, k1, e29]
/-! a line; does another one come -/
def pGo (T : Nat → Nat) (m : Nat) (τ : Sg) : Exc (Bool × Sg) := if tK T m τ.1 = 3 then .ok (true, (adv T m τ.1, τ.2)) else if tK T m τ.1 = 0 then (if τ.2.2.1 then .ok (false, τ) else .error (6, τ.1)) else .error (1, τ.1)
def LH (T : Nat → Nat) (m : Nat) (F G : Nat → Nat → Nat) : Prop := FCn F ∧ NW T m F G ∧ (0 < F 0 5 → 2 ≤ F 0 4) ∧ ∀ k, k < F 0 9 → F 6 k < 4 ∧ F 7 k ≤ 60
theorem c_37 (hR : Rd K N R p) (hB : CB I T m) (hn : FCn F) (h : COk I J p T m F w r G s) : ∃ b I', Ca lx 37 [.ref (z + 1)] (St z E n K N R I J) = some (some (.int (bI b)), St z E n K N R I' J) ∧ CLn I' J p T m ((pGo T m (s, F, w, r, G)).map Prod.snd) ∧ FRs I I' ∧ (b = true ↔ tK T m s = 3) := by
  have hR' := hR
  obtain ⟨d0, d1, d2, d3, d4, d5, d6, d7, d8, d9, d10, d11, d12, hP, hp⟩ := hR
  have t5 := h.2.2.2.2.2.1.2.2.2.1
  have h3 := h.2.2.1
  have lk := tK_le T m s
  unfold pGo
  by_cases c3 : tK T m s = 3
  · obtain ⟨I1, a1, a2, a3⟩ := kk_80 (lx := lx) (z := z) (E := E) (n := n) hR' hB h
    refine ⟨true, I1, ?_, ?_, a3, by simp [c3]⟩
    · rw [f_37]
      simp (disch := first | assumption | omega) [k_St, n_St, i_St, j_St, r_St, wI_St, wJ_St, k_S0, n_S0, i_S0, j_S0, r_S0, wI_S0, wJ_S0, cI_s, cJ_s, cV_s, nR_s, nQ_s, nQ_n, lt_s_, gd_T, gd_t, Option.map_some, lits, neg_mI, nI_add, pk_mul, nI_clamp, nI_eq, nI_leI, nI_ltI, nm_eq, mn_eq, nm_lt, mn_lt, nm_le, mn_le, m_eq, bI_0, bI_1, d0, d1, d8, t5, c3, a1] <;> rfl
    · simp only [if_pos c3, Except.map]; exact a2
  · by_cases c0 : tK T m s = 0
    · simp only [if_neg c3, if_pos c0]
      cases w with
      | true =>
        refine ⟨false, I, ?_, h, FRs_r, by simp [c3]⟩
        have h3' : I 1 5 = nI 1 := h3
        rw [f_37]
        simp (disch := first | assumption | omega) [k_St, n_St, i_St, j_St, r_St, wI_St, wJ_St, k_S0, n_S0, i_S0, j_S0, r_S0, wI_S0, wJ_S0, cI_s, cJ_s, cV_s, nR_s, nQ_s, nQ_n, lt_s_, gd_T, gd_t, Option.map_some, lits, neg_mI, nI_add, pk_mul, nI_clamp, nI_eq, nI_leI, nI_ltI, nm_eq, mn_eq, nm_lt, mn_lt, nm_le, mn_le, m_eq, bI_0, bI_1, d0, d1, d8, t5, c0, h3'] <;> rfl
      | false =>
        obtain ⟨I1, a1, a2, a3⟩ := kk_58 (lx := lx) (z := z) (E := E) (n := n) (e := 6) hR' h hn (by decide) (by decide)
        refine ⟨false, I1, ?_, a2, a3, by simp [c3]⟩
        have h3' : I 1 5 = nI 0 := h3
        rw [f_37]
        simp (disch := first | assumption | omega) [k_St, n_St, i_St, j_St, r_St, wI_St, wJ_St, k_S0, n_S0, i_S0, j_S0, r_S0, wI_S0, wJ_S0, cI_s, cJ_s, cV_s, nR_s, nQ_s, nQ_n, lt_s_, gd_T, gd_t, Option.map_some, lits, neg_mI, nI_add, pk_mul, nI_clamp, nI_eq, nI_leI, nI_ltI, nm_eq, mn_eq, nm_lt, mn_lt, nm_le, mn_le, m_eq, bI_0, bI_1, d0, d1, d8, t5, c0, h3', a1] <;> rfl
    · simp only [if_neg c3, if_neg c0]
      obtain ⟨I1, a1, a2, a3⟩ := kk_58 (lx := lx) (z := z) (E := E) (n := n) (e := 1) hR' h hn (by decide) (by decide)
      refine ⟨false, I1, ?_, a2, a3, by simp [c3]⟩
      rw [f_37]
      simp (disch := first | assumption | omega) [k_St, n_St, i_St, j_St, r_St, wI_St, wJ_St, k_S0, n_S0, i_S0, j_S0, r_S0, wI_S0, wJ_S0, cI_s, cJ_s, cV_s, nR_s, nQ_s, nQ_n, lt_s_, gd_T, gd_t, Option.map_some, lits, neg_mI, nI_add, pk_mul, nI_clamp, nI_eq, nI_leI, nI_ltI, nm_eq, mn_eq, nm_lt, mn_lt, nm_le, mn_le, m_eq, bI_0, bI_1, d0, d1, d8, t5, c0, c3, a1] <;> rfl
end RDC
