/-! what is kept: acts that can be undone, images -/
def WN (I : Nat → Nat → Int32) (J : Nat → Nat → Int64) (w : Nat) (F : Nat → Nat → Nat) (ρ : Nat → Nat) : Prop := WR I J w F ρ ∧ I w 2 = nI (ρ 16)
def RK (F : Nat → Nat → Nat) (ρ : Nat → Nat) : Prop := ROk F ρ ∧ ρ 16 ≤ 999
def CH (I : Nat → Nat → Int32) (J : Nat → Nat → Int64) (F : Nat → Nat → Nat) (nxt cnt img : Nat) (H M : Nat → Nat → Nat) : Prop := I 23 2 = nI nxt ∧ nxt < 16 ∧ I 23 3 = nI cnt ∧ cnt ≤ 16 ∧ I 23 4 = nI img ∧ img ≤ 3 ∧ (∀ i, i < cnt → WN I J (26 + 4 * ((nxt + 15 - i) % 16)) F (H i) ∧ RK F (H i)) ∧ (∀ i, i < img → WN I J (90 + 4 * i) F (M i) ∧ RK F (M i))
def CT (K N : Nat → Nat) (R : Nat → Nat → Option Nat) (I : Nat → Nat → Int32) (J : Nat → Nat → Int64) (p s : Nat) (F : Nat → Nat → Nat) (ρ : Nat → Nat) (cnt img : Nat) (H M : Nat → Nat → Nat) : Prop := CW K N R I J p s F ρ ∧ ∃ nxt, CH I J F nxt cnt img H M
def CX (t : Nat) (I I' : Nat → Nat → Int32) (J J' : Nat → Nat → Int64) : Prop := (∀ a, 1 ≤ a → a < 15 ∨ 107 < a → ¬ (111 ≤ a ∧ a ≤ 113) → I' a = I a ∧ J' a = J a) ∧ (∀ k, k ≠ 11 → I' 0 k = I 0 k) ∧ I' 0 11 = nI t ∧ J' 0 = J 0
def MH (I : Nat → Nat → Int32) (cnt img : Nat) (H M : Nat → Nat → Nat) : Prop := I 132 20 = nI cnt ∧ cnt ≤ 16 ∧ I 132 21 = nI img ∧ img ≤ 3 ∧ (∀ i, i < cnt → ∀ k, k < 145 → I 136 (145 * (cnt - 1 - i) + k) = nI (H i k)) ∧ (∀ i, i < img → ∀ k, k < 145 → I 137 (145 * i + k) = nI (M i k))
def MT (K N : Nat → Nat) (R : Nat → Nat → Option Nat) (I : Nat → Nat → Int32) (f : Nat) (F : Nat → Nat → Nat) (ρ : Nat → Nat) (cnt img : Nat) (H M : Nat → Nat → Nat) : Prop := MV K N R I f F ρ ∧ MH I cnt img H M
def MX (t : Nat) (I I' : Nat → Nat → Int32) : Prop := (∀ a, a < 132 ∨ a = 133 ∨ 146 ≤ a → I' a = I a) ∧ (∀ k, 3 ≤ k → k ≤ 19 → I' 132 k = I 132 k) ∧ I' 132 0 = nI 0 ∧ I' 132 1 = nI t ∧ I' 132 2 = mI 1
def OT (lx : List Value → aH → aO) (z : Nat) (E : aEt) (n : Nat) (K N : Nat → Nat) (R : Nat → Nat → Option Nat) (I : Nat → Nat → Int32) (J : Nat → Nat → Int64) (p s f : Nat) (F : Nat → Nat → Nat) (ρ : Nat → Nat) (cnt img : Nat) (H M : Nat → Nat → Nat) (u w : Nat) (as : List Value) : Prop := ∃ (t : Nat) (r : Int32) (ρ' : Nat → Nat) (cnt' img' : Nat) (H' M' : Nat → Nat → Nat), t ≠ 4 ∧ t < 7 ∧ (∃ I' J', Ca lx u (.ref z :: as) (St z E n K N R I J) = some (some (.int r), St z E n K N R I' J') ∧ CT K N R I' J' p s F ρ' cnt' img' H' M' ∧ CX t I I' J J') ∧ ∀ I2 J2, MT K N R I2 f F ρ cnt img H M → ∃ I3, Ca lx w (.ref (z + 132) :: as) (St z E n K N R I2 J2) = some (some (.int r), St z E n K N R I3 J2) ∧ MT K N R I3 f F ρ' cnt' img' H' M' ∧ MX t I2 I3
def OTj (lx : List Value → aH → aO) (z : Nat) (E : aEt) (n : Nat) (K N : Nat → Nat) (R : Nat → Nat → Option Nat) (I : Nat → Nat → Int32) (J : Nat → Nat → Int64) (p s f : Nat) (F : Nat → Nat → Nat) (ρ : Nat → Nat) (cnt img : Nat) (H M : Nat → Nat → Nat) (u w : Nat) (as : List Value) : Prop := ∃ (t : Nat) (r : Int64) (ρ' : Nat → Nat) (cnt' img' : Nat) (H' M' : Nat → Nat → Nat), t ≠ 4 ∧ t < 7 ∧ (∃ I' J', Ca lx u (.ref z :: as) (St z E n K N R I J) = some (some (.long r), St z E n K N R I' J') ∧ CT K N R I' J' p s F ρ' cnt' img' H' M' ∧ CX t I I' J J') ∧ ∀ I2 J2, MT K N R I2 f F ρ cnt img H M → ∃ I3, Ca lx w (.ref (z + 132) :: as) (St z E n K N R I2 J2) = some (some (.long r), St z E n K N R I3 J2) ∧ MT K N R I3 f F ρ' cnt' img' H' M' ∧ MX t I2 I3
section HIS
variable {z : Nat} {E : aEt} {n : Nat} {K N : Nat → Nat} {R : Nat → Nat → Option Nat} {I : Nat → Nat → Int32} {J : Nat → Nat → Int64} {lx : List Value → aH → aO} {p s f w v : Nat} {F : Nat → Nat → Nat} {ρ : Nat → Nat} {nxt cnt img : Nat} {H M : Nat → Nat → Nat} {I' : Nat → Nat → Int32} {J' : Nat → Nat → Int64}
theorem WN_f (h : WN I J w F ρ) (e : ∀ a, w ≤ a → a ≤ w + 3 → I' a = I a ∧ J' a = J a) : WN I' J' w F ρ := by
  obtain ⟨⟨r1, r2, r3, r4, r5, r6⟩, r7⟩ := h
  have e0 := e w (by omega) (by omega)
  have e1 := (e (w + 1) (by omega) (by omega)).1
  have e2 := (e (w + 2) (by omega) (by omega)).1
  have e3 := (e (w + 3) (by omega) (by omega)).1
  unfold WN WR
  rw [e1, e2, e3, e0.1, e0.2]
  exact ⟨⟨r1, r2, r3, r4, r5, r6⟩, r7⟩
theorem CH_f (h : CH I J F nxt cnt img H M) (e : ∀ a, 23 ≤ a → a ≤ 101 → I' a = I a ∧ J' a = J a) : CH I' J' F nxt cnt img H M := by
  obtain ⟨h1, h2, h3, h4, h5, h6, h7, h8⟩ := h
  have e23 := (e 23 (by omega) (by omega)).1
  refine ⟨by rw [e23]; exact h1, h2, by rw [e23]; exact h3, h4, by rw [e23]; exact h5, h6, ?_, ?_⟩
  · intro i hi
    have := Nat.mod_lt (nxt + 15 - i) (show 0 < 16 by omega)
    exact ⟨WN_f (h7 i hi).1 (fun a a1 a2 => e a (by omega) (by omega)), (h7 i hi).2⟩
  · intro i hi
    exact ⟨WN_f (h8 i hi).1 (fun a a1 a2 => e a (by omega) (by omega)), (h8 i hi).2⟩
/-- the plan, the works and what was told stay -/
theorem CW_f (h : CW K N R I J p s F ρ) {σ : Nat → Nat} (hσ : RK F σ) (hw : WN I' J' 15 F σ) (e : ∀ a, 114 ≤ a → a < 132 → I' a = I a ∧ J' a = J a) (e0 : ∀ k, k ≠ 11 → I' 0 k = I 0 k) : CW K N R I' J' p s F σ := by
  obtain ⟨h1, h2, h3, h4, h5, h6, h7, h8, h9⟩ := h
  have hp := h2.2.2.2.2.1
  refine ⟨h1, h2, by rw [e0 10 (by decide)]; exact h3, PI_c h4 (fun a a1 a2 => (e a (by omega) (by omega)).1) (e p (by omega) (by omega)).2, h5, hw.1, hσ.1, hw.2, hσ.2⟩
theorem CW_n (h : CW K N R I J p s F ρ) : WN I J 15 F ρ := ⟨h.2.2.2.2.2.1, h.2.2.2.2.2.2.2.1⟩
theorem CW_k (h : CW K N R I J p s F ρ) : RK F ρ := ⟨h.2.2.2.2.2.2.1, h.2.2.2.2.2.2.2.2⟩
theorem an15 {m : Nat} (h : m < 2 ^ 31) : nI m &&& nI 15 = nI (m % 16) := pk_andN (m := nI 15) (by omega) 4 (by decide)
theorem s_18 (hL : CL K N R p s) (hLw : CLw K N R p s) (hn : I 23 2 = nI nxt) (hn2 : nxt < 16) (hc : I 23 3 = nI cnt) (hc2 : cnt ≤ 16) : Ca lx 18 [.ref (z + 23), .ref (z + 15)] (St z E n K N R I J) = some (none, St z E n K N R (u2 (u2 (cpI I (26 + 4 * nxt) 15) 23 2 (nI ((nxt + 1) % 16))) 23 3 (nI (if cnt < 16 then cnt + 1 else 16))) (cpJ J (26 + 4 * nxt) 15)) := by
  rw [f_18]
  obtain ⟨hW15, _, _, _, _, hk, _⟩ := hLw
  obtain ⟨rk, wk⟩ := hk nxt hn2
  have e95 := s_95 (lx := lx) (z := z) (E := E) (n := n) (I := I) (J := J) wk hW15 (by omega)
  have kw := wk.1
  have hL' := hL
  unfold CL at hL'
  have a1 := an15 (m := nxt) (by omega)
  have a2 := an15 (m := nxt + 1) (by omega)
  have m1 : nxt % 16 = nxt := by omega
  rw [m1] at a1
  have x2 : cpI I (26 + 4 * nxt) 15 23 = I 23 := (cp_F (w := 26 + 4 * nxt) (v := 15) (I := I) (J := J) 23 (by omega)).1
  have k23 : K 23 = 1 := by simp [hL']
  have r23 : R 23 0 = some 24 := by simp [hL']
  have k24 : K 24 = 16 := by simp [hL']
  have n24 : N 24 = 16 := by simp [hL']
  have x3 : u2 (cpI I (26 + 4 * nxt) 15) 23 2 (nI ((nxt + 1) % 16)) 23 3 = nI cnt := by rw [u2_k _ _ _ _ _ (by decide), x2, hc]
  by_cases c : cnt < 16
  · have mx : (if cnt + 1 < 16 then nI (cnt + 1) else nI 16) = nI (cnt + 1) := by
      by_cases c2 : cnt + 1 < 16
      · rw [if_pos c2]
      · have : cnt + 1 = 16 := by omega
        rw [if_neg c2, this]
    simp (disch := first | assumption | omega) [k_St, n_St, i_St, j_St, r_St, wI_St, wJ_St, k_S0, n_S0, i_S0, j_S0, r_S0, wI_S0, wJ_S0, cI_s, cJ_s, cV_s, nR_s, nQ_s, nQ_n, lt_s_, gd_T, gd_t, Option.map_some, lits, neg_mI, nI_add, pk_mul, nI_clamp, nI_eq, nI_leI, nI_ltI, nm_eq, mn_eq, nm_lt, mn_lt, nm_le, mn_le, m_eq, bI_0, bI_1, k23, r23, hn, a1, k24, n24, rk, kw, e95, x2, a2, x3, ca_902, c, mx]
  · have c' : cnt = 16 := by omega
    simp (disch := first | assumption | omega) [k_St, n_St, i_St, j_St, r_St, wI_St, wJ_St, k_S0, n_S0, i_S0, j_S0, r_S0, wI_S0, wJ_S0, cI_s, cJ_s, cV_s, nR_s, nQ_s, nQ_n, lt_s_, gd_T, gd_t, Option.map_some, lits, neg_mI, nI_add, pk_mul, nI_clamp, nI_eq, nI_leI, nI_ltI, nm_eq, mn_eq, nm_lt, mn_lt, nm_le, mn_le, m_eq, bI_0, bI_1, k23, r23, hn, a1, k24, n24, rk, kw, e95, x2, a2, x3, ca_902, c', if_pos]
theorem CH_k (h : CH I J F nxt cnt img H M) (hw : WN I J 15 F ρ) (hk : RK F ρ) (o7 : F 0 7 ≤ 4) (o8 : F 0 8 ≤ 4) : CH (u2 (u2 (cpI I (26 + 4 * nxt) 15) 23 2 (nI ((nxt + 1) % 16))) 23 3 (nI (if cnt < 16 then cnt + 1 else 16))) (cpJ J (26 + 4 * nxt) 15) F ((nxt + 1) % 16) (if cnt < 16 then cnt + 1 else 16) img (fun i => if i = 0 then ρ else H (i - 1)) M := by
  obtain ⟨h1, h2, h3, h4, h5, h6, h7, h8⟩ := h
  have x2 : cpI I (26 + 4 * nxt) 15 23 = I 23 := (cp_F (w := 26 + 4 * nxt) (v := 15) (I := I) (J := J) 23 (by omega)).1
  have fr : ∀ a, a ≠ 23 → a < 26 + 4 * nxt ∨ 26 + 4 * nxt + 3 < a → u2 (u2 (cpI I (26 + 4 * nxt) 15) 23 2 (nI ((nxt + 1) % 16))) 23 3 (nI (if cnt < 16 then cnt + 1 else 16)) a = I a ∧ cpJ J (26 + 4 * nxt) 15 a = J a := by
    intro a ha hb
    have := cp_F (w := 26 + 4 * nxt) (v := 15) (I := I) (J := J) a hb
    rw [u2_a _ _ _ _ _ ha, u2_a _ _ _ _ _ ha]
    exact this
  refine ⟨?_, Nat.mod_lt _ (by omega), ?_, by split <;> omega, ?_, h6, ?_, ?_⟩
  · rw [u2_k _ _ _ _ _ (by decide), u2_s]
  · rw [u2_s]
  · rw [u2_k _ _ _ _ _ (by decide), u2_k _ _ _ _ _ (by decide), x2]; exact h5
  · intro i hi
    by_cases e : i = 0
    · subst e
      have m : ((nxt + 1) % 16 + 15 - 0) % 16 = nxt := by omega
      rw [m]
      simp only [if_true]
      refine ⟨?_, hk⟩
      have c1 := cp_W (w := 26 + 4 * nxt) hw.1 o7 o8 (by omega)
      have : WN (cpI I (26 + 4 * nxt) 15) (cpJ J (26 + 4 * nxt) 15) (26 + 4 * nxt) F ρ := ⟨c1, by rw [cp_n]; exact hw.2⟩
      exact WN_f this (fun a a1 a2 => ⟨by rw [u2_a _ _ _ _ _ (by omega), u2_a _ _ _ _ _ (by omega)], rfl⟩)
    · have hi2 : i - 1 < cnt := by
        by_cases c : cnt < 16
        · rw [if_pos c] at hi; omega
        · rw [if_neg c] at hi; omega
      have hi3 : i < 16 := by
        by_cases c : cnt < 16
        · rw [if_pos c] at hi; omega
        · rw [if_neg c] at hi; omega
      have m : ((nxt + 1) % 16 + 15 - i) % 16 = (nxt + 15 - (i - 1)) % 16 := by omega
      rw [m]
      simp only [e, if_false]
      have mm : (nxt + 15 - (i - 1)) % 16 ≠ nxt := by omega
      have ml : (nxt + 15 - (i - 1)) % 16 < 16 := Nat.mod_lt _ (by omega)
      exact ⟨WN_f (h7 (i - 1) hi2).1 (fun a a1 a2 => fr a (by omega) (by omega)), (h7 (i - 1) hi2).2⟩
  · intro i hi
    exact ⟨WN_f (h8 i hi).1 (fun a a1 a2 => fr a (by omega) (by omega)), (h8 i hi).2⟩
/-- a question leaves all this as it was -/
theorem CT_q {t : Nat} (h : CT K N R I J p s F ρ cnt img H M) (q : CQ t I I' J J') : CT K N R I' J' p s F ρ cnt img H M ∧ CX t I I' J J' := by
  obtain ⟨hC, nxt, hH⟩ := h
  obtain ⟨q1, q2, q3, q4⟩ := q
  refine ⟨⟨CW_f hC (CW_k hC) (WN_f (CW_n hC) (fun a a1 a2 => q1 a (by omega) (by unfold scC; omega))) (fun a a1 a2 => q1 a (by omega) (by unfold scC; omega)) q2, nxt, CH_f hH (fun a a1 a2 => q1 a (by omega) (by unfold scC; omega))⟩, ⟨fun a a1 a2 a3 => q1 a a1 (by unfold scC; omega), q2, q3, q4⟩⟩
theorem MT_q {t : Nat} (h : MT K N R I f F ρ cnt img H M) (q : MQr t I I') : MT K N R I' f F ρ cnt img H M ∧ MX t I I' := by
  obtain ⟨⟨h1, h2, h3, h4⟩, g1, g2, g3, g4, g5, g6⟩ := h
  obtain ⟨q1, q2, q3, q4, q5⟩ := q
  have e134 := q1 134 (by decide) (by unfold scM; omega)
  have e136 := q1 136 (by decide) (by unfold scM; omega)
  have e137 := q1 137 (by decide) (by unfold scM; omega)
  refine ⟨⟨⟨MD_c h1 (fun a ha => q1 a (by omega) (by unfold scM; omega)), by rw [e134]; exact h2, h3, h4⟩, ?_, g2, ?_, g4, by rw [e136]; exact g5, by rw [e137]; exact g6⟩, ⟨fun a ha => q1 a (by omega) (by unfold scM; omega), fun k k1 k2 => q2 k (by omega) (by omega) (by omega) (by omega) (by omega) (by omega), q3, q4, q5⟩⟩
  · rw [q2 20 (by decide) (by decide) (by decide) (by decide) (by decide) (by decide)]; exact g1
  · rw [q2 21 (by decide) (by decide) (by decide) (by decide) (by decide) (by decide)]; exact g3
theorem OQ_T {u w : Nat} {as : List Value} (h : CT K N R I J p s F ρ cnt img H M) (o : OQ lx z E n K N R I J f F ρ u w as) : OT lx z E n K N R I J p s f F ρ cnt img H M u w as := by
  obtain ⟨t, r, t4, t7, ⟨I1, J1, e1, q1⟩, m⟩ := o
  refine ⟨t, r, ρ, cnt, img, H, M, t4, t7, ⟨I1, J1, e1, CT_q h q1⟩, ?_⟩
  intro I2 J2 hm
  obtain ⟨I3, e3, q3⟩ := m I2 J2 hm.1
  exact ⟨I3, e3, MT_q hm q3⟩
theorem OJ_T {u w : Nat} {as : List Value} (h : CT K N R I J p s F ρ cnt img H M) (o : OJ lx z E n K N R I J f F ρ u w as) : OTj lx z E n K N R I J p s f F ρ cnt img H M u w as := by
  obtain ⟨t, r, t4, t7, ⟨I1, J1, e1, q1⟩, m⟩ := o
  refine ⟨t, r, ρ, cnt, img, H, M, t4, t7, ⟨I1, J1, e1, CT_q h q1⟩, ?_⟩
  intro I2 J2 hm
  obtain ⟨I3, e3, q3⟩ := m I2 J2 hm.1
  exact ⟨I3, e3, MT_q hm q3⟩
end HIS
