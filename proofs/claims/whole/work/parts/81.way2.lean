/-! the class's ways -/
def leI (d : Nat) : Int32 := if d = 9999 then mI 2 else nI d
def pl (I : Nat → Nat → Int32) (D : Nat → Nat) : Nat → Nat → Int32 := fun b k => if b = 103 ∧ k < 64 then leI (D k) else I b k
theorem pl_n {I : Nat → Nat → Int32} {D : Nat → Nat} {b : Nat} (h : b ≠ 103) : pl I D b = I b := by funext k; simp [pl, h]
theorem pl_s {I : Nat → Nat → Int32} {D : Nat → Nat} {k : Nat} (h : k < 64) : pl I D 103 k = leI (D k) := by simp [pl, h]
theorem pl_u {I : Nat → Nat → Int32} {D : Nat → Nat} {k v : Nat} (h : k < 64) (hv : v < 9999) : u2 (pl I D) 103 k (nI v) = pl I (up D k v) := by
  have e : nI v = leI v := by unfold leI; rw [if_neg (by omega)]
  rw [e]
  funext b j
  unfold u2 pl up
  by_cases hb : b = 103
  · by_cases hj : j = k
    · simp [hb, hj, h]
    · simp [hb, hj]
  · simp [hb]
def nrs (D : Nat → Nat) (s : Nat → Bool) : Nat → Nat
  | 0 => 64
  | i + 1 => if D i < 9999 ∧ s i = false ∧ (nrs D s i = 64 ∨ D i < D (nrs D s i)) then i else nrs D s i
theorem nrs_p (D : Nat → Nat) (s : Nat → Bool) : ∀ i, i ≤ 64 → (nrs D s i = 64 ∧ ∀ j, j < i → D j < 9999 → s j = true) ∨ (nrs D s i < i ∧ D (nrs D s i) < 9999 ∧ s (nrs D s i) = false ∧ ∀ j, j < i → D j < 9999 → s j = false → D (nrs D s i) ≤ D j)
  | 0, _ => Or.inl ⟨rfl, fun j h => by omega⟩
  | i + 1, hi => by
    have ih := nrs_p D s i (by omega)
    rw [nrs]
    by_cases c : D i < 9999 ∧ s i = false ∧ (nrs D s i = 64 ∨ D i < D (nrs D s i))
    · rw [if_pos c]
      right
      refine ⟨by omega, c.1, c.2.1, fun j hj h1 h2 => ?_⟩
      by_cases e : j = i
      · subst e; omega
      · rcases ih with ⟨a1, a2⟩ | ⟨a1, a2, a3, a4⟩
        · rw [a2 j (by omega) h1] at h2; cases h2
        · have := a4 j (by omega) h1 h2
          rcases c.2.2 with c3 | c3 <;> omega
    · rw [if_neg c]
      rcases ih with ⟨a1, a2⟩ | ⟨a1, a2, a3, a4⟩
      · left
        refine ⟨a1, fun j hj h1 => ?_⟩
        by_cases e : j = i
        · subst e
          cases h : s j
          · exact absurd ⟨h1, h, Or.inl a1⟩ c
          · rfl
        · exact a2 j (by omega) h1
      · right
        refine ⟨by omega, a2, a3, fun j hj h1 h2 => ?_⟩
        by_cases e : j = i
        · subst e
          apply Nat.le_of_not_lt
          intro l
          exact c ⟨h1, h2, Or.inr l⟩
        · exact a4 j (by omega) h1 h2
theorem ctB_u {s : Nat → Bool} {c : Nat} (h : s c = false) : ∀ {m : Nat}, c < m → ctB (fun i => s i || decide (i = c)) m = ctB s m + 1
  | 0, hc => by omega
  | m + 1, hc => by
    rw [ctB, ctB]
    by_cases e : c = m
    · subst e
      have : ctB (fun i => s i || decide (i = c)) c = ctB s c := ctB_c (fun i hi => by have : ¬ i = c := by omega
                                                                                       simp [this])
      rw [this]; simp [h]
    · rw [ctB_u h (m := m) (by omega)]
      have : ¬ m = c := by omega
      simp [this]; omega
theorem ctB_all {s : Nat → Bool} : ∀ {m : Nat}, ctB s m = m → ∀ c, c < m → s c = true
  | 0, _, c, hc => by omega
  | m + 1, h, c, hc => by
    rw [ctB] at h
    have l := ctB_le s m
    have e1 : s m = true := by
      cases e : s m
      · rw [e] at h; simp at h; omega
      · rfl
    by_cases e : c = m
    · rw [e]; exact e1
    · rw [e1] at h
      exact ctB_all (by simpa using h) c (by omega)
/-- settled cells are closed and nearer than the rest -/
def SI (O : Nat → Bool) (t : Nat → Nat) (fr : Nat) (D : Nat → Nat) (s : Nat → Bool) (r : Nat) : Prop := DI O t fr D ∧ (∀ c, c < 64 → s c = true → D c < 9999) ∧ (∀ c, c < 64 → s c = true → ∀ w, 1 ≤ w → w ≤ 4 → Clo O t D c w) ∧ (∀ c j, c < 64 → j < 64 → s c = true → D j < 9999 → s j = false → D c ≤ D j) ∧ (∀ c, c < 64 → D c < 9999 → D c ≤ 4 * r) ∧ ctB s 64 = r
def SJ (O : Nat → Bool) (t : Nat → Nat) (fr : Nat) (D : Nat → Nat) (s : Nat → Bool) (r c w : Nat) : Prop := DI O t fr D ∧ c < 64 ∧ s c = false ∧ D c < 9999 ∧ D c ≤ 4 * r ∧ (∀ x, x < 64 → s x = true → D x < 9999 ∧ D x ≤ D c) ∧ (∀ x, x < 64 → s x = true → ∀ v, 1 ≤ v → v ≤ 4 → Clo O t D x v) ∧ (∀ v, 1 ≤ v → v < w → Clo O t D c v) ∧ (∀ j, j < 64 → D j < 9999 → s j = false → D c ≤ D j) ∧ (∀ x, x < 64 → D x < 9999 → D x ≤ 4 * (r + 1)) ∧ ctB s 64 = r
section WAY3
variable {O : Nat → Bool} {t : Nat → Nat} {fr : Nat} {D : Nat → Nat} {s : Nat → Bool} {r c w : Nat}
theorem SJ_0 (h : SI O t fr D s r) (hc : c < 64) (h1 : D c < 9999) (h2 : s c = false) (h3 : ∀ j, j < 64 → D j < 9999 → s j = false → D c ≤ D j) : SJ O t fr D s r c 1 := by
  obtain ⟨a1, a2, a3, a4, a5, a6⟩ := h
  exact ⟨a1, hc, h2, h1, a5 c hc h1, fun x hx q => ⟨a2 x hx q, a4 x c hx hc q h1 h2⟩, a3, fun v v1 v2 => by omega, h3, fun x hx q => by have := a5 x hx q; omega, a6⟩
theorem SJ_k (h : SJ O t fr D s r c w) (k : Clo O t D c w) : SJ O t fr D s r c (w + 1) := by
  obtain ⟨a1, a2, a3, a4, a5, a6, a7, a8, a9, a10, a11⟩ := h
  refine ⟨a1, a2, a3, a4, a5, a6, a7, fun v v1 v2 => ?_, a9, a10, a11⟩
  by_cases e : v = w
  · rw [e]; exact k
  · exact a8 v v1 (by omega)
/-- a neighbour that is settled, or the cell itself, is near enough -/
theorem SJ_n (h : SJ O t fr D s r c w) (hn : nxc c w < 64) (q : (s (nxc c w) || decide (nxc c w = c)) = true) : Clo O t D c w := by
  intro _ _
  by_cases e : nxc c w = c
  · rw [e]; omega
  · have : s (nxc c w) = true := by simpa [e] using q
    have := (h.2.2.2.2.2.1 _ hn this).2
    omega
theorem SJ_l (h : SJ O t fr D s r c w) (w1 : 1 ≤ w) (w4 : w ≤ 4) (hn : nxc c w < 64) (o : O (nxc c w) = true) (q : (s (nxc c w) || decide (nxc c w = c)) = false) (ht : t (nxc c w) ≤ 4) (l : D c + t (nxc c w) < D (nxc c w)) : SJ O t fr (up D (nxc c w) (D c + t (nxc c w))) s r c (w + 1) := by
  obtain ⟨a1, a2, a3, a4, a5, a6, a7, a8, a9, a10, a11⟩ := h
  have q1 : s (nxc c w) = false := by simp at q; exact q.1
  have q2 : ¬ nxc c w = c := by simp at q; exact q.2
  have q2' : c ≠ nxc c w := fun e => q2 e.symm
  have dn := a1.2.1 _ hn
  have mono : ∀ y, y < 64 → up D (nxc c w) (D c + t (nxc c w)) y ≤ D y := by
    intro y hy
    by_cases e : y = nxc c w
    · rw [e, up_s]; omega
    · rw [up_n e]; omega
  have dw : D c < 9999 := a4
  refine ⟨DI_up a1 a2 a4 w1 w4 o l hn, a2, a3, by rw [up_n q2']; exact a4, by rw [up_n q2']; exact a5, ?_, ?_, ?_, ?_, ?_, a11⟩
  · intro x hx sx
    have e : x ≠ nxc c w := fun e => by rw [e, q1] at sx; cases sx
    rw [up_n e, up_n q2']; exact a6 x hx sx
  · intro x hx sx v v1 v2
    have e : x ≠ nxc c w := fun e => by rw [e, q1] at sx; cases sx
    intro h1 h2
    rw [up_n e] at h1 ⊢
    have m := a7 x hx sx v v1 v2 h1 h2
    by_cases e2 : nxc x v = nxc c w
    · rw [e2, up_s]; rw [e2] at m; omega
    · rw [up_n e2]; exact m
  · intro v v1 v2 h1 h2
    rw [up_n q2'] at h1 ⊢
    by_cases e : v = w
    · rw [e, up_s]; omega
    · have m := a8 v v1 (by omega) h1 h2
      by_cases e2 : nxc c v = nxc c w
      · rw [e2, up_s]; omega
      · rw [up_n e2]; exact m
  · intro j hj h1 h2
    rw [up_n q2']
    by_cases e : j = nxc c w
    · rw [e, up_s]; omega
    · rw [up_n e] at h1 ⊢; exact a9 j hj h1 h2
  · intro x hx h1
    by_cases e : x = nxc c w
    · rw [e, up_s]; omega
    · rw [up_n e] at h1 ⊢; exact a10 x hx h1
theorem SJ_e (h : SJ O t fr D s r c 5) : SI O t fr D (fun i => s i || decide (i = c)) (r + 1) := by
  obtain ⟨a1, a2, a3, a4, a5, a6, a7, a8, a9, a10, a11⟩ := h
  refine ⟨a1, ?_, ?_, ?_, a10, by rw [ctB_u a3 a2, a11]⟩
  · intro x hx q
    by_cases e : x = c
    · rw [e]; exact a4
    · exact (a6 x hx (by simpa [e] using q)).1
  · intro x hx q v v1 v2
    by_cases e : x = c
    · rw [e]; exact a8 v v1 (by omega)
    · exact a7 x hx (by simpa [e] using q) v v1 v2
  · intro x j hx hj q h1 h2
    have j1 : s j = false := by simp at h2; exact h2.1
    have := a9 j hj h1 j1
    by_cases e : x = c
    · rw [e]; exact this
    · have := (a6 x hx (by simpa [e] using q)).2
      omega
theorem SI_end (h : SI O t fr D s r) (k : ∀ j, j < 64 → D j < 9999 → s j = true) : DF O t fr D := by
  refine ⟨h.1, fun x hx v v1 v2 => ?_⟩
  intro h1 h2
  exact h.2.2.1 x hx (k x hx h1) v v1 v2 h1 h2
end WAY3
section WAY4
variable {z : Nat} {E : aEt} {n : Nat} {K N : Nat → Nat} {R : Nat → Nat → Option Nat} {I : Nat → Nat → Int32} {J : Nat → Nat → Int64} {lx : List Value → aH → aO} {p sp : Nat} {F : Nat → Nat → Nat} {ρ : Nat → Nat} {O : Nat → Bool} {D : Nat → Nat} {s : Nat → Bool} {fr r c w : Nat}
theorem c_91 (hL : CL K N R p sp) (hc : c < 64) : Ca lx 91 [.ref (z + 102), .int (nI c)] (St z E n K N R (pl I D) J) = some (some (.int (leI (D c))), St z E n K N R (pl I D) J) := by
  have hL' := hL
  unfold CL at hL'
  have k7 : K 102 = 7 := by simp [hL']
  have r0 : R 102 0 = some 103 := by simp [hL']
  have k13 : K 103 = 13 := by simp [hL']
  have n64 : N 103 = 64 := by simp [hL']
  rw [f_91]
  simp (disch := first | assumption | omega) [k_St, n_St, i_St, j_St, r_St, wI_St, wJ_St, k_S0, n_S0, i_S0, j_S0, r_S0, wI_S0, wJ_S0, cI_s, cJ_s, cV_s, nR_s, nQ_s, nQ_n, lt_s_, gd_T, gd_t, Option.map_some, lits, neg_mI, nI_add, pk_mul, nI_clamp, nI_eq, nI_leI, nI_ltI, nm_eq, mn_eq, nm_lt, mn_lt, nm_le, mn_le, m_eq, bI_0, bI_1, s_6 hc, k7, r0, k13, n64, pl_s]
theorem c_90 (hL : CL K N R p sp) (hc : c < 64) {v : Nat} (hv : v < 9999) (hD : D c ≤ 9999) : Ca lx 90 [.ref (z + 102), .int (nI c), .int (nI v)] (St z E n K N R (pl I D) J) = some (none, St z E n K N R (pl I (if v < D c then up D c v else D)) J) := by
  have hL' := hL
  unfold CL at hL'
  have k7 : K 102 = 7 := by simp [hL']
  have r0 : R 102 0 = some 103 := by simp [hL']
  have k13 : K 103 = 13 := by simp [hL']
  have n64 : N 103 = 64 := by simp [hL']
  rw [f_90]
  by_cases e : D c = 9999
  · have l : v < D c := by omega
    rw [if_pos l]
    have : leI (D c) = mI 2 := by unfold leI; rw [if_pos e]
    simp (disch := first | assumption | omega) [k_St, n_St, i_St, j_St, r_St, wI_St, wJ_St, k_S0, n_S0, i_S0, j_S0, r_S0, wI_S0, wJ_S0, cI_s, cJ_s, cV_s, nR_s, nQ_s, nQ_n, lt_s_, gd_T, gd_t, Option.map_some, lits, neg_mI, nI_add, pk_mul, nI_clamp, nI_eq, nI_leI, nI_ltI, nm_eq, mn_eq, nm_lt, mn_lt, nm_le, mn_le, m_eq, bI_0, bI_1, s_6 hc, k7, r0, k13, n64, pl_s, this, e_90_15, pl_u]
  · have : leI (D c) = nI (D c) := by unfold leI; rw [if_neg e]
    by_cases l : v < D c
    · rw [if_pos l]
      simp (disch := first | assumption | omega) [k_St, n_St, i_St, j_St, r_St, wI_St, wJ_St, k_S0, n_S0, i_S0, j_S0, r_S0, wI_S0, wJ_S0, cI_s, cJ_s, cV_s, nR_s, nQ_s, nQ_n, lt_s_, gd_T, gd_t, Option.map_some, lits, neg_mI, nI_add, pk_mul, nI_clamp, nI_eq, nI_leI, nI_ltI, nm_eq, mn_eq, nm_lt, mn_lt, nm_le, mn_le, m_eq, bI_0, bI_1, if_neg, s_6 hc, k7, r0, k13, n64, pl_s, this, e_90_15, pl_u]
    · rw [if_neg l]
      simp (disch := first | assumption | omega) [k_St, n_St, i_St, j_St, r_St, wI_St, wJ_St, k_S0, n_S0, i_S0, j_S0, r_S0, wI_S0, wJ_S0, cI_s, cJ_s, cV_s, nR_s, nQ_s, nQ_n, lt_s_, gd_T, gd_t, Option.map_some, lits, neg_mI, nI_add, pk_mul, nI_clamp, nI_eq, nI_leI, nI_ltI, nm_eq, mn_eq, nm_lt, mn_lt, nm_le, mn_le, m_eq, bI_0, bI_1, if_neg, if_pos, s_6 hc, k7, r0, k13, n64, pl_s, this]
theorem c_89 (hL : CL K N R p sp) (hD : ∀ c, c < 64 → D c ≤ 9999) : Ca lx 89 [.ref (z + 102)] (St z E n K N R (pl I D) (u2 J 102 1 (sto s))) = some (some (.int (oI (nrs D s 64))), St z E n K N R (pl I D) (u2 J 102 1 (sto s))) := by
  have hLL := hL
  have hL' := hL
  unfold CL at hL'
  have k7 : K 102 = 7 := by simp [hL']
  have r0 : R 102 0 = some 103 := by simp [hL']
  have k13 : K 103 = 13 := by simp [hL']
  have n64 : N 103 = 64 := by simp [hL']
  have o64 : (Int32.ofNat 64 : Int32) = nI 64 := rfl
  have js : u2 J 102 1 (sto s) 102 1 = sto s := u2_s _ _ _ _
  have L := loopN (X := fun i => Am lx 89 5 [some (.ref (z + 102)), some (.int (oI (nrs D s i))), some (.int (nI i))] [] (0, 0) (St z E n K N R (pl I D) (u2 J 102 1 (sto s)))) (n := 64) (by
    intro i hi
    try simp only
    rw [e_89_5, nrs]
    have s5 := s_5 (lx := lx) (sto s) hi
    rw [hb_s s hi] at s5
    have oi : oI i = nI i := oI_lt hi
    have di := hD i hi
    by_cases c1 : D i < 9999
    · have l1 : leI (D i) = nI (D i) := by unfold leI; rw [if_neg (by omega)]
      cases c2 : s i
      · rw [c2] at s5
        rcases nrs_p D s i (by omega) with ⟨a1, a2⟩ | ⟨a1, a2, a3, a4⟩
        · have o1 : oI 64 = mI 1 := rfl
          simp (disch := first | assumption | omega) [k_St, n_St, i_St, j_St, r_St, wI_St, wJ_St, k_S0, n_S0, i_S0, j_S0, r_S0, wI_S0, wJ_S0, cI_s, cJ_s, cV_s, nR_s, nQ_s, nQ_n, lt_s_, gd_T, gd_t, Option.map_some, lits, neg_mI, nI_add, pk_mul, nI_clamp, nI_eq, nI_leI, nI_ltI, nm_eq, mn_eq, nm_lt, mn_lt, nm_le, mn_le, m_eq, bI_0, bI_1, if_neg, k7, r0, k13, n64, o64, pl_s, l1, js, s5, a1, o1, oi, e_89_32, c1]
        · have x64 : nrs D s i < 64 := by omega
          have xn : ¬ nrs D s i = 64 := by omega
          have e91 := c_91 (lx := lx) (z := z) (E := E) (n := n) (N := N) (R := R) (I := I) (J := u2 J 102 1 (sto s)) (D := D) hLL x64
          have l2 : leI (D (nrs D s i)) = nI (D (nrs D s i)) := by unfold leI; rw [if_neg (by omega)]
          rw [l2] at e91
          by_cases c3 : D i < D (nrs D s i)
          · simp (disch := first | assumption | omega) [k_St, n_St, i_St, j_St, r_St, wI_St, wJ_St, k_S0, n_S0, i_S0, j_S0, r_S0, wI_S0, wJ_S0, cI_s, cJ_s, cV_s, nR_s, nQ_s, nQ_n, lt_s_, gd_T, gd_t, Option.map_some, lits, neg_mI, nI_add, pk_mul, nI_clamp, nI_eq, nI_leI, nI_ltI, nm_eq, mn_eq, nm_lt, mn_lt, nm_le, mn_le, m_eq, bI_0, bI_1, if_neg, if_pos, k7, r0, k13, n64, o64, pl_s, l1, js, s5, oI_lt x64, e91, c3, xn, oi, e_89_32, c1]
          · simp (disch := first | assumption | omega) [k_St, n_St, i_St, j_St, r_St, wI_St, wJ_St, k_S0, n_S0, i_S0, j_S0, r_S0, wI_S0, wJ_S0, cI_s, cJ_s, cV_s, nR_s, nQ_s, nQ_n, lt_s_, gd_T, gd_t, Option.map_some, lits, neg_mI, nI_add, pk_mul, nI_clamp, nI_eq, nI_leI, nI_ltI, nm_eq, mn_eq, nm_lt, mn_lt, nm_le, mn_le, m_eq, bI_0, bI_1, if_neg, if_pos, k7, r0, k13, n64, o64, pl_s, l1, js, s5, oI_lt x64, e91, c3, xn]
      · rw [c2] at s5
        simp (disch := first | assumption | omega) [k_St, n_St, i_St, j_St, r_St, wI_St, wJ_St, k_S0, n_S0, i_S0, j_S0, r_S0, wI_S0, wJ_S0, cI_s, cJ_s, cV_s, nR_s, nQ_s, nQ_n, lt_s_, gd_T, gd_t, Option.map_some, lits, neg_mI, nI_add, pk_mul, nI_clamp, nI_eq, nI_leI, nI_ltI, nm_eq, mn_eq, nm_lt, mn_lt, nm_le, mn_le, m_eq, bI_0, bI_1, if_neg, k7, r0, k13, n64, o64, pl_s, l1, js, s5]
    · have l1 : leI (D i) = mI 2 := by unfold leI; rw [if_pos (by omega)]
      simp (disch := first | assumption | omega) [k_St, n_St, i_St, j_St, r_St, wI_St, wJ_St, k_S0, n_S0, i_S0, j_S0, r_S0, wI_S0, wJ_S0, cI_s, cJ_s, cV_s, nR_s, nQ_s, nQ_n, lt_s_, gd_T, gd_t, Option.map_some, lits, neg_mI, nI_add, pk_mul, nI_clamp, nI_eq, nI_leI, nI_ltI, nm_eq, mn_eq, nm_lt, mn_lt, nm_le, mn_le, m_eq, bI_0, bI_1, if_neg, k7, r0, k13, n64, o64, pl_s, l1, c1])
  try simp only at L
  have n0 : oI (nrs D s 0) = mI 1 := rfl
  rw [n0] at L
  rw [f_89]
  have m1 : (-1 : Int32) = mI 1 := rfl
  have z0 : (0 : Int32) = nI 0 := rfl
  rw [m1, z0, L, e_89_5]
  simp (disch := first | assumption | omega) [k_St, n_St, i_St, j_St, r_St, wI_St, wJ_St, k_S0, n_S0, i_S0, j_S0, r_S0, wI_S0, wJ_S0, cI_s, cJ_s, cV_s, nR_s, nQ_s, nQ_n, lt_s_, gd_T, gd_t, Option.map_some, lits, neg_mI, nI_add, pk_mul, nI_clamp, nI_eq, nI_leI, nI_ltI, nm_eq, mn_eq, nm_lt, mn_lt, nm_le, mn_le, m_eq, bI_0, bI_1, k7, r0, k13, n64, o64]
end WAY4
