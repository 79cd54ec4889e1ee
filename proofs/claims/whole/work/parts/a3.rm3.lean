section RM3
variable {z : Nat} {E : aEt} {n : Nat} {K N : Nat → Nat} {R : Nat → Nat → Option Nat} {I : Nat → Nat → Int32} {J : Nat → Nat → Int64} {lx : List Value → aH → aO} {f s q m e : Nat} {T : Nat → Nat} {F G : Nat → Nat → Nat} {w r : Bool} {x : Exc Nat}
def pNd (T : Nat → Nat) (m k s : Nat) : Exc Nat := if isW T m s k then .ok (adv T m s) else .error (1, s)
def pWa (T : Nat → Nat) (m lo hi s : Nat) : Exc Nat := if tK T m s = 2 then (if lo ≤ wv T m s ∧ wv T m s ≤ hi then .ok s else .error (4, s)) else .error (1, s)
theorem pWh_a {lo hi : Nat} : pWh T m lo hi s = (pWa T m lo hi s).bind fun t => .ok (wv T m t, adv T m t) := by
  unfold pWh pWa
  (repeat' split) <;> rfl
theorem pPt_n {k lo hi : Nat} : pPt T m k lo hi s = (pNd T m k s).bind (pWh T m lo hi) := by
  unfold pPt pNd
  split <;> rfl
theorem pWa_s {lo hi t : Nat} (h : pWa T m lo hi s = .ok t) : t = s ∧ tK T m s = 2 ∧ lo ≤ wv T m s ∧ wv T m s ≤ hi := by
  unfold pWa at h
  by_cases c : tK T m s = 2
  · rw [if_pos c] at h
    by_cases c2 : lo ≤ wv T m s ∧ wv T m s ≤ hi
    · rw [if_pos c2] at h; injection h with h; exact ⟨h.symm, c, c2⟩
    · rw [if_neg c2] at h; simp at h
  · rw [if_neg c] at h; simp at h
theorem isW_k {k : Nat} (h : isW T m s k = true) : tK T m s = 1 := (isW_t.mp h).1
theorem d_200 {k : Nat} (hM : Rm K N R f) (hB : MB I T m) (hE : EOk E) (hk : k < 12) (hn : FCn F) (h : MS I J f T m F w r G x) : ∃ I' J', Ca lx 200 [.ref (z + 132), .ref (E.1 k)] (St z E n K N R I J) = some (none, St z E n K N R I' J') ∧ MS I' J' f T m F w r G (x.bind (pNd T m k)) ∧ MF f I I' J J' := by
  have m0 := hM.1
  cases x with
  | error v =>
    have h' : MBd I f v.1 v.2 := h
    have e1 := b_198 (lx := lx) (z := z) (E := E) (n := n) (J := J) hM h' (E.1 k)
    have e2 := b_197 (lx := lx) (z := z) (E := E) (n := n) (J := J) hM h' (nI 1)
    have e3 := b_196 (lx := lx) (z := z) (E := E) (n := n) (J := J) hM h'
    refine ⟨I, J, ?_, h, MF_r⟩
    rw [f_200]
    simp (disch := first | assumption | omega) [k_St, n_St, i_St, j_St, r_St, wI_St, wJ_St, k_S0, n_S0, i_S0, j_S0, r_S0, wI_S0, wJ_S0, cI_s, cJ_s, cV_s, nR_s, nQ_s, nQ_n, lt_s_, gd_T, gd_t, Option.map_some, lits, neg_mI, nI_add, pk_mul, nI_clamp, nI_eq, nI_leI, nI_ltI, nm_eq, mn_eq, nm_lt, mn_lt, nm_le, mn_le, m_eq, bI_0, bI_1, m0, e1, e2]
    rw [e_200_8]
    simp (disch := first | assumption | omega) [k_St, n_St, i_St, j_St, r_St, wI_St, wJ_St, k_S0, n_S0, i_S0, j_S0, r_S0, wI_S0, wJ_S0, cI_s, cJ_s, cV_s, nR_s, nQ_s, nQ_n, lt_s_, gd_T, gd_t, Option.map_some, lits, neg_mI, nI_add, pk_mul, nI_clamp, nI_eq, nI_leI, nI_ltI, nm_eq, mn_eq, nm_lt, mn_lt, nm_le, mn_le, m_eq, bI_0, bI_1, m0, e3]
  | ok s =>
    have h' : MOk I J f T m F w r G s := h
    have e1 := d_198 (lx := lx) (z := z) (E := E) (n := n) hM hE hk h'.2.1
    rw [eb_o]
    unfold pNd
    by_cases c : isW T m s k = true
    · rw [if_pos c]
      rw [c] at e1
      obtain ⟨I1, J1, g1, g2, g3⟩ := kk_196 (lx := lx) (z := z) (E := E) (n := n) hM hB h' (Or.inl (isW_k c))
      refine ⟨I1, J1, ?_, g2, g3⟩
      rw [f_200]
      simp (disch := first | assumption | omega) [k_St, n_St, i_St, j_St, r_St, wI_St, wJ_St, k_S0, n_S0, i_S0, j_S0, r_S0, wI_S0, wJ_S0, cI_s, cJ_s, cV_s, nR_s, nQ_s, nQ_n, lt_s_, gd_T, gd_t, Option.map_some, lits, neg_mI, nI_add, pk_mul, nI_clamp, nI_eq, nI_leI, nI_ltI, nm_eq, mn_eq, nm_lt, mn_lt, nm_le, mn_le, m_eq, bI_0, bI_1, m0, e1]
      rw [e_200_8]
      simp (disch := first | assumption | omega) [k_St, n_St, i_St, j_St, r_St, wI_St, wJ_St, k_S0, n_S0, i_S0, j_S0, r_S0, wI_S0, wJ_S0, cI_s, cJ_s, cV_s, nR_s, nQ_s, nQ_n, lt_s_, gd_T, gd_t, Option.map_some, lits, neg_mI, nI_add, pk_mul, nI_clamp, nI_eq, nI_leI, nI_ltI, nm_eq, mn_eq, nm_lt, mn_lt, nm_le, mn_le, m_eq, bI_0, bI_1, m0, g1]
    · rw [if_neg c]
      have c' : isW T m s k = false := by simpa using c
      rw [c'] at e1
      obtain ⟨I1, g1, g2, g3⟩ := kk_197 (lx := lx) (z := z) (E := E) (n := n) (e := 1) hM h' hn (by decide) (by decide)
      have e3 := b_196 (lx := lx) (z := z) (E := E) (n := n) (J := J) hM g2
      refine ⟨I1, J, ?_, g2, g3⟩
      rw [f_200]
      simp (disch := first | assumption | omega) [k_St, n_St, i_St, j_St, r_St, wI_St, wJ_St, k_S0, n_S0, i_S0, j_S0, r_S0, wI_S0, wJ_S0, cI_s, cJ_s, cV_s, nR_s, nQ_s, nQ_n, lt_s_, gd_T, gd_t, Option.map_some, lits, neg_mI, nI_add, pk_mul, nI_clamp, nI_eq, nI_leI, nI_ltI, nm_eq, mn_eq, nm_lt, mn_lt, nm_le, mn_le, m_eq, bI_0, bI_1, m0, e1, g1]
      rw [e_200_8]
      simp (disch := first | assumption | omega) [k_St, n_St, i_St, j_St, r_St, wI_St, wJ_St, k_S0, n_S0, i_S0, j_S0, r_S0, wI_S0, wJ_S0, cI_s, cJ_s, cV_s, nR_s, nQ_s, nQ_n, lt_s_, gd_T, gd_t, Option.map_some, lits, neg_mI, nI_add, pk_mul, nI_clamp, nI_eq, nI_leI, nI_ltI, nm_eq, mn_eq, nm_lt, mn_lt, nm_le, mn_le, m_eq, bI_0, bI_1, m0, e3]
theorem r_187 {v lo hi : Nat} (hv : v < 2 ^ 31) (hlo : lo < 2 ^ 31) (hhi : hi < 2 ^ 31) (S : aH) : Ca lx 187 [.int (nI v), .int (nI lo), .int (nI hi)] S = some (some (.int (bI (decide (lo ≤ v ∧ v ≤ hi)))), S) := by
  rw [f_187]
  by_cases c1 : v < lo
  · rw [decide_eq_false (by omega)]
    simp (disch := first | assumption | omega) [k_St, n_St, i_St, j_St, r_St, wI_St, wJ_St, k_S0, n_S0, i_S0, j_S0, r_S0, wI_S0, wJ_S0, cI_s, cJ_s, cV_s, nR_s, nQ_s, nQ_n, lt_s_, gd_T, gd_t, Option.map_some, lits, neg_mI, nI_add, pk_mul, nI_clamp, nI_eq, nI_leI, nI_ltI, nm_eq, mn_eq, nm_lt, mn_lt, nm_le, mn_le, m_eq, bI_0, bI_1, if_pos] <;> rfl
  · by_cases c2 : hi < v
    · rw [decide_eq_false (by omega)]
      simp (disch := first | assumption | omega) [k_St, n_St, i_St, j_St, r_St, wI_St, wJ_St, k_S0, n_S0, i_S0, j_S0, r_S0, wI_S0, wJ_S0, cI_s, cJ_s, cV_s, nR_s, nQ_s, nQ_n, lt_s_, gd_T, gd_t, Option.map_some, lits, neg_mI, nI_add, pk_mul, nI_clamp, nI_eq, nI_leI, nI_ltI, nm_eq, mn_eq, nm_lt, mn_lt, nm_le, mn_le, m_eq, bI_0, bI_1, c1, c2] <;> rfl
    · rw [decide_eq_true (by omega)]
      simp (disch := first | assumption | omega) [k_St, n_St, i_St, j_St, r_St, wI_St, wJ_St, k_S0, n_S0, i_S0, j_S0, r_S0, wI_S0, wJ_S0, cI_s, cJ_s, cV_s, nR_s, nQ_s, nQ_n, lt_s_, gd_T, gd_t, Option.map_some, lits, neg_mI, nI_add, pk_mul, nI_clamp, nI_eq, nI_leI, nI_ltI, nm_eq, mn_eq, nm_lt, mn_lt, nm_le, mn_le, m_eq, bI_0, bI_1, c1, c2] <;> rfl
theorem d_201 {H : Int32} {lo hi : Nat} (hM : Rm K N R f) (hn : FCn F) (h : MS I J f T m F w r G x) (hL : ∀ s, x = .ok s → H = nI hi) (hlo : lo < 2 ^ 31) (hhi : hi < 2 ^ 31) : ∃ v I', Ca lx 201 [.ref (z + 132), .int (nI lo), .int H] (St z E n K N R I J) = some (some (.int v), St z E n K N R I' J) ∧ MS I' J f T m F w r G (x.bind (pWa T m lo hi)) ∧ MF f I I' J J ∧ (∀ t, x.bind (pWa T m lo hi) = .ok t → v = nI (wv T m t)) ∧ (∀ u, x.bind (pWa T m lo hi) = .error u → v = nI lo) := by
  have m0 := hM.1
  cases x with
  | error v =>
    have h' : MBd I f v.1 v.2 := h
    have h9 := h'.2.2.1
    have e2 := b_197 (lx := lx) (z := z) (E := E) (n := n) (J := J) hM h' (nI 1)
    refine ⟨nI lo, I, ?_, h, MF_r, fun t e => absurd e (by rw [eb_e]; simp), fun _ _ => rfl⟩
    rw [f_201]
    simp (disch := first | assumption | omega) [k_St, n_St, i_St, j_St, r_St, wI_St, wJ_St, k_S0, n_S0, i_S0, j_S0, r_S0, wI_S0, wJ_S0, cI_s, cJ_s, cV_s, nR_s, nQ_s, nQ_n, lt_s_, gd_T, gd_t, Option.map_some, lits, neg_mI, nI_add, pk_mul, nI_clamp, nI_eq, nI_leI, nI_ltI, nm_eq, mn_eq, nm_lt, mn_lt, nm_le, mn_le, m_eq, bI_0, bI_1, m0, h9, if_neg, e2]
    rw [e_201_18]
    simp (disch := first | assumption | omega) [k_St, n_St, i_St, j_St, r_St, wI_St, wJ_St, k_S0, n_S0, i_S0, j_S0, r_S0, wI_S0, wJ_S0, cI_s, cJ_s, cV_s, nR_s, nQ_s, nQ_n, lt_s_, gd_T, gd_t, Option.map_some, lits, neg_mI, nI_add, pk_mul, nI_clamp, nI_eq, nI_leI, nI_ltI, nm_eq, mn_eq, nm_lt, mn_lt, nm_le, mn_le, m_eq, bI_0, bI_1, m0, h9]
  | ok s =>
    have hH := hL s rfl
    subst hH
    have h' : MOk I J f T m F w r G s := h
    obtain ⟨t1, t2, t3, t4, t5, ts⟩ := id h'.2.1
    have lk := tK_le T m s
    rw [eb_o]
    unfold pWa
    by_cases c : tK T m s = 2
    · have t2' : I 132 9 = nI 3 := by rw [t2, c]; rfl
      have t5' := t5 c
      have v3 := wv_lt c
      have e187 := r_187 (lx := lx) (v := wv T m s) (by omega) hlo hhi (St z E n K N R I J)
      rw [if_pos c]
      by_cases c2 : lo ≤ wv T m s ∧ wv T m s ≤ hi
      · rw [if_pos c2]
        rw [decide_eq_true c2] at e187
        refine ⟨nI (wv T m s), I, ?_, h', MF_r, fun t e => by injection e with e; rw [e], fun u e => by simp at e⟩
        rw [f_201]
        simp (disch := first | assumption | omega) [k_St, n_St, i_St, j_St, r_St, wI_St, wJ_St, k_S0, n_S0, i_S0, j_S0, r_S0, wI_S0, wJ_S0, cI_s, cJ_s, cV_s, nR_s, nQ_s, nQ_n, lt_s_, gd_T, gd_t, Option.map_some, lits, neg_mI, nI_add, pk_mul, nI_clamp, nI_eq, nI_leI, nI_ltI, nm_eq, mn_eq, nm_lt, mn_lt, nm_le, mn_le, m_eq, bI_0, bI_1, m0, t2', t5', e187]
        rw [e_201_18]
        simp (disch := first | assumption | omega) [k_St, n_St, i_St, j_St, r_St, wI_St, wJ_St, k_S0, n_S0, i_S0, j_S0, r_S0, wI_S0, wJ_S0, cI_s, cJ_s, cV_s, nR_s, nQ_s, nQ_n, lt_s_, gd_T, gd_t, Option.map_some, lits, neg_mI, nI_add, pk_mul, nI_clamp, nI_eq, nI_leI, nI_ltI, nm_eq, mn_eq, nm_lt, mn_lt, nm_le, mn_le, m_eq, bI_0, bI_1, m0, t2', t5', if_neg]
      · rw [if_neg c2]
        rw [decide_eq_false c2] at e187
        obtain ⟨I1, g1, g2, g3⟩ := kk_197 (lx := lx) (z := z) (E := E) (n := n) (e := 4) hM h' hn (by decide) (by decide)
        have h9 := g2.2.2.1
        refine ⟨nI lo, I1, ?_, g2, g3, fun t e => by simp at e, fun _ _ => rfl⟩
        rw [f_201]
        simp (disch := first | assumption | omega) [k_St, n_St, i_St, j_St, r_St, wI_St, wJ_St, k_S0, n_S0, i_S0, j_S0, r_S0, wI_S0, wJ_S0, cI_s, cJ_s, cV_s, nR_s, nQ_s, nQ_n, lt_s_, gd_T, gd_t, Option.map_some, lits, neg_mI, nI_add, pk_mul, nI_clamp, nI_eq, nI_leI, nI_ltI, nm_eq, mn_eq, nm_lt, mn_lt, nm_le, mn_le, m_eq, bI_0, bI_1, m0, t2', t5', e187, g1]
        rw [e_201_18]
        simp (disch := first | assumption | omega) [k_St, n_St, i_St, j_St, r_St, wI_St, wJ_St, k_S0, n_S0, i_S0, j_S0, r_S0, wI_S0, wJ_S0, cI_s, cJ_s, cV_s, nR_s, nQ_s, nQ_n, lt_s_, gd_T, gd_t, Option.map_some, lits, neg_mI, nI_add, pk_mul, nI_clamp, nI_eq, nI_leI, nI_ltI, nm_eq, mn_eq, nm_lt, mn_lt, nm_le, mn_le, m_eq, bI_0, bI_1, m0, h9]
    · rw [if_neg c]
      have k5 : srt (tK T m s) < 5 ∧ srt (tK T m s) ≠ 3 := by unfold srt; split <;> omega
      obtain ⟨I1, g1, g2, g3⟩ := kk_197 (lx := lx) (z := z) (E := E) (n := n) (e := 1) hM h' hn (by decide) (by decide)
      have h9 := g2.2.2.1
      refine ⟨nI lo, I1, ?_, g2, g3, fun t e => by simp at e, fun _ _ => rfl⟩
      rw [f_201]
      simp (disch := first | assumption | omega) [k_St, n_St, i_St, j_St, r_St, wI_St, wJ_St, k_S0, n_S0, i_S0, j_S0, r_S0, wI_S0, wJ_S0, cI_s, cJ_s, cV_s, nR_s, nQ_s, nQ_n, lt_s_, gd_T, gd_t, Option.map_some, lits, neg_mI, nI_add, pk_mul, nI_clamp, nI_eq, nI_leI, nI_ltI, nm_eq, mn_eq, nm_lt, mn_lt, nm_le, mn_le, m_eq, bI_0, bI_1, m0, t2, k5, if_neg, g1]
      rw [e_201_18]
      simp (disch := first | assumption | omega) [k_St, n_St, i_St, j_St, r_St, wI_St, wJ_St, k_S0, n_S0, i_S0, j_S0, r_S0, wI_S0, wJ_S0, cI_s, cJ_s, cV_s, nR_s, nQ_s, nQ_n, lt_s_, gd_T, gd_t, Option.map_some, lits, neg_mI, nI_add, pk_mul, nI_clamp, nI_eq, nI_leI, nI_ltI, nm_eq, mn_eq, nm_lt, mn_lt, nm_le, mn_le, m_eq, bI_0, bI_1, m0, h9]
theorem d_202 {H : Int32} {lo hi : Nat} (hM : Rm K N R f) (hB : MB I T m) (hn : FCn F) (h : MS I J f T m F w r G x) (hL : ∀ s, x = .ok s → H = nI hi) (hlo : lo < 2 ^ 31) (hhi : hi < 2 ^ 31) : ∃ v I' J', Ca lx 202 [.ref (z + 132), .int (nI lo), .int H] (St z E n K N R I J) = some (some (.int v), St z E n K N R I' J') ∧ MS I' J' f T m F w r G ((x.bind (pWh T m lo hi)).map Prod.snd) ∧ MF f I I' J J' ∧ (∀ a, x.bind (pWh T m lo hi) = .ok a → v = nI a.1) ∧ (∀ u, x.bind (pWh T m lo hi) = .error u → v = nI lo) := by
  have m0 := hM.1
  have hf := hM.2.2.2.2.2.1
  obtain ⟨v, I1, e1, e2, e3, e4, e5⟩ := d_201 (lx := lx) (z := z) (E := E) (n := n) hM hn h hL hlo hhi
  have eq : x.bind (pWh T m lo hi) = (x.bind (pWa T m lo hi)).bind fun t => .ok (wv T m t, adv T m t) := by
    cases x with
    | error v => rfl
    | ok s => rw [eb_o, eb_o, pWh_a]
  rw [eq]
  cases hx : x.bind (pWa T m lo hi) with
  | error u =>
    rw [hx] at e2
    have e2' : MBd I1 f u.1 u.2 := e2
    have e6 := b_196 (lx := lx) (z := z) (E := E) (n := n) (J := J) hM e2'
    refine ⟨v, I1, J, ?_, e2', e3, fun a e => absurd e (by rw [eb_e]; simp), fun _ _ => e5 u hx⟩
    rw [f_202]
    simp (disch := first | assumption | omega) [k_St, n_St, i_St, j_St, r_St, wI_St, wJ_St, k_S0, n_S0, i_S0, j_S0, r_S0, wI_S0, wJ_S0, cI_s, cJ_s, cV_s, nR_s, nQ_s, nQ_n, lt_s_, gd_T, gd_t, Option.map_some, lits, neg_mI, nI_add, pk_mul, nI_clamp, nI_eq, nI_leI, nI_ltI, nm_eq, mn_eq, nm_lt, mn_lt, nm_le, mn_le, m_eq, bI_0, bI_1, m0, e1, e6]
  | ok t =>
    rw [hx] at e2
    have e2' : MOk I1 J f T m F w r G t := e2
    have k2 : tK T m t = 2 := by
      cases x with
      | error v => rw [eb_e] at hx; simp at hx
      | ok s => rw [eb_o] at hx; have := pWa_s hx; rw [this.1]; exact this.2.1
    obtain ⟨I2, J2, g1, g2, g3⟩ := kk_196 (lx := lx) (z := z) (E := E) (n := n) hM (MB_f hB e3 hf) e2' (Or.inr (Or.inl k2))
    refine ⟨v, I2, J2, ?_, g2, MF_t e3 g3, fun a e => ?_, fun u e => absurd e (by rw [eb_o]; simp)⟩
    · rw [f_202]
      simp (disch := first | assumption | omega) [k_St, n_St, i_St, j_St, r_St, wI_St, wJ_St, k_S0, n_S0, i_S0, j_S0, r_S0, wI_S0, wJ_S0, cI_s, cJ_s, cV_s, nR_s, nQ_s, nQ_n, lt_s_, gd_T, gd_t, Option.map_some, lits, neg_mI, nI_add, pk_mul, nI_clamp, nI_eq, nI_leI, nI_ltI, nm_eq, mn_eq, nm_lt, mn_lt, nm_le, mn_le, m_eq, bI_0, bI_1, m0, e1, g1]
    · rw [eb_o] at e; injection e with e; rw [← e]; exact e4 t hx
theorem d_203 {k lo hi : Nat} (hM : Rm K N R f) (hB : MB I T m) (hE : EOk E) (hk : k < 12) (hn : FCn F) (h : MS I J f T m F w r G x) (hlo : lo < 2 ^ 31) (hhi : hi < 2 ^ 31) : ∃ v I' J', Ca lx 203 [.ref (z + 132), .ref (E.1 k), .int (nI lo), .int (nI hi)] (St z E n K N R I J) = some (some (.int v), St z E n K N R I' J') ∧ MS I' J' f T m F w r G ((x.bind (pPt T m k lo hi)).map Prod.snd) ∧ MF f I I' J J' ∧ (∀ a, x.bind (pPt T m k lo hi) = .ok a → v = nI a.1) := by
  have m0 := hM.1
  have hf := hM.2.2.2.2.2.1
  obtain ⟨I1, J1, e1, e2, e3⟩ := d_200 (lx := lx) (z := z) (n := n) hM hB hE hk hn h
  obtain ⟨v, I2, J2, g1, g2, g3, g4, _⟩ := d_202 (lx := lx) (z := z) (E := E) (n := n) (H := nI hi) (lo := lo) (hi := hi) hM (MB_f hB e3 hf) hn e2 (fun _ _ => rfl) hlo hhi
  have eq : x.bind (pPt T m k lo hi) = (x.bind (pNd T m k)).bind (pWh T m lo hi) := by
    cases x with
    | error v => rfl
    | ok s => rw [eb_o, eb_o, pPt_n]
  rw [eq]
  refine ⟨v, I2, J2, ?_, g2, MF_t e3 g3, g4⟩
  rw [f_203]
  simp (disch := first | assumption | omega) [k_St, n_St, i_St, j_St, r_St, wI_St, wJ_St, k_S0, n_S0, i_S0, j_S0, r_S0, wI_S0, wJ_S0, cI_s, cJ_s, cV_s, nR_s, nQ_s, nQ_n, lt_s_, gd_T, gd_t, Option.map_some, lits, neg_mI, nI_add, pk_mul, nI_clamp, nI_eq, nI_leI, nI_ltI, nm_eq, mn_eq, nm_lt, mn_lt, nm_le, mn_le, m_eq, bI_0, bI_1, m0, e1, g1]
theorem d_205 (hM : Rm K N R f) (hE : EOk E) (hT : MTk I J T m s) : Ca lx 205 [.ref (z + 132)] (St z E n K N R I J) = some (some (.int (bI (isN T m s))), (St z E n K N R I J)) := by
  have e0 := d_198 (lx := lx) (z := z) (n := n) hM hE (show 0 < 12 by decide) hT
  have e1 := d_198 (lx := lx) (z := z) (n := n) hM hE (show 1 < 12 by decide) hT
  have e2 := d_198 (lx := lx) (z := z) (n := n) hM hE (show 2 < 12 by decide) hT
  have e3 := d_198 (lx := lx) (z := z) (n := n) hM hE (show 3 < 12 by decide) hT
  have e4 := d_198 (lx := lx) (z := z) (n := n) hM hE (show 4 < 12 by decide) hT
  have e5 := d_198 (lx := lx) (z := z) (n := n) hM hE (show 5 < 12 by decide) hT
  have m0 := hM.1
  have t2 := hT.2.1
  have lk := tK_le T m s
  rw [f_205]
  unfold isN
  by_cases c : tK T m s = 1
  · have t2' : I 132 9 = nI 2 := by rw [t2, c]; rfl
    simp only [g_St, k_St, i_St, m0, gd_t, t2', c, e0, cI_s, lits, bI_0, e1, e2, e3, e4, e5, if_true]
    cases isW T m s 0 <;> cases isW T m s 1 <;> cases isW T m s 2 <;> cases isW T m s 3 <;> cases isW T m s 4 <;> cases isW T m s 5 <;> simp [gd_T, c] <;> rfl
  · have k5 : srt (tK T m s) < 5 ∧ srt (tK T m s) ≠ 2 := by unfold srt; split <;> omega
    simp (disch := first | assumption | omega) [k_St, n_St, i_St, j_St, r_St, wI_St, wJ_St, k_S0, n_S0, i_S0, j_S0, r_S0, wI_S0, wJ_S0, cI_s, cJ_s, cV_s, nR_s, nQ_s, nQ_n, lt_s_, gd_T, gd_t, Option.map_some, lits, neg_mI, nI_add, pk_mul, nI_clamp, nI_eq, nI_leI, nI_ltI, nm_eq, mn_eq, nm_lt, mn_lt, nm_le, mn_le, m_eq, bI_0, bI_1, m0, t2, k5, if_neg, c]
    rfl
theorem b_205 (hM : Rm K N R f) (h : MBd I f e q) : Ca lx 205 [.ref (z + 132)] (St z E n K N R I J) = some (some (.int (bI false)), (St z E n K N R I J)) := by
  have m0 := hM.1
  have h9 := h.2.2.1
  rw [f_205]
  simp (disch := first | assumption | omega) [k_St, n_St, i_St, j_St, r_St, wI_St, wJ_St, k_S0, n_S0, i_S0, j_S0, r_S0, wI_S0, wJ_S0, cI_s, cJ_s, cV_s, nR_s, nQ_s, nQ_n, lt_s_, gd_T, gd_t, Option.map_some, lits, neg_mI, nI_add, pk_mul, nI_clamp, nI_eq, nI_leI, nI_ltI, nm_eq, mn_eq, nm_lt, mn_lt, nm_le, mn_le, m_eq, bI_0, bI_1, m0, h9] <;> rfl
theorem MBd_11 (h : MBd I f e q) (hf : 147 ≤ f) (v : Int32) : MBd (u2 I f 11 v) f e q := by
  obtain ⟨h1, h2, h3, h4, h5, c, c1, c2⟩ := h
  exact ⟨h1, h2, by simp (disch := first | assumption | omega) [u2_s, u2_a, u2_k, h3], by simp (disch := first | assumption | omega) [u2_s, u2_a, u2_k, h4], by simp (disch := first | assumption | omega) [u2_s, u2_a, u2_k, h5], c, c1, by simp (disch := first | assumption | omega) [u2_s, u2_a, u2_k, c2]⟩
theorem MOk_11 (h : MOk I J f T m F w r G s) (hf : 147 ≤ f) : MOk (u2 I f 11 (nI 1)) J f T m F w true G s := by
  obtain ⟨h1, ⟨t1, t2, t3, t4, t5, ts⟩, ⟨w0, w1, w2⟩, h4, h5, h6⟩ := h
  have a1 : u2 I f 11 (nI 1) 132 = I 132 := u2_a _ _ _ _ _ (by omega)
  refine ⟨by rw [a1]; exact h1, ?_, ⟨fun j j1 j2 => by rw [u2_k _ _ _ _ _ (by omega)]; exact w0 j j1 j2, by rw [u2_k _ _ _ _ _ (by decide)]; exact w1, ?_⟩, by rw [u2_s]; rfl, by rw [u2_k _ _ _ _ _ (by decide)]; exact h5, ?_⟩
  · unfold MTk; rw [a1]; exact ⟨t1, t2, t3, t4, t5, ts⟩
  · rw [u2_a _ _ _ (f + 1) _ (by omega), u2_a _ _ _ (f + 2) _ (by omega), u2_a _ _ _ (f + 3) _ (by omega), u2_a _ _ _ (f + 4) _ (by omega), u2_a _ _ _ (f + 5) _ (by omega), u2_a _ _ _ (f + 6) _ (by omega), u2_a _ _ _ (f + 7) _ (by omega), u2_a _ _ _ (f + 8) _ (by omega)]; exact w2
  · rw [u2_a _ _ _ (f + 10) _ (by omega), u2_a _ _ _ (f + 11) _ (by omega)]; exact h6
theorem MF_11 (v : Int32) (hf : 147 ≤ f) : MF f I (u2 I f 11 v) J J :=
  ⟨fun a a1 a2 => u2_a _ _ _ _ _ (by omega), fun k hk => by rw [u2_a _ _ _ _ _ (by omega)], fun _ _ _ => rfl, fun _ _ => rfl⟩
def pLc (T : Nat → Nat) (m c C : Nat) (F : Nat → Nat → Nat) (s : Nat) : Exc Nat := if C ≤ c then .error (5, s) else pLB T m F s
theorem b_206c (hM : Rm K N R f) (h : MBd I f e q) (b : aB) : Am lx 206 16 [some (.ref (z + 132)), none, none] [] b (St z E n K N R I J) = some (none, St z E n K N R (u2 I f 11 (nI 1)) J) := by
  have e6 := b_196 (lx := lx) (z := z) (E := E) (n := n) (J := J) hM (MBd_11 h hM.2.2.2.2.2.1 (nI 1))
  obtain ⟨m0, m1, m2, m3, m4, hf, fk, fr12, fr13, fr14, fr15, fr16, fr17, fr18, fr19, fr20, fr21, fr22, fk1, fk2, fk3, fk4, fk5, fk6, fk7, fk8, fk9, fk10, fk11, fn1, fn2, fn3, fn4, fn5, fn6, fn7, fn8, fn9, fn10, fn11⟩ := hM
  rw [e_206_16]
  simp (disch := first | assumption | omega) [k_St, n_St, i_St, j_St, r_St, wI_St, wJ_St, k_S0, n_S0, i_S0, j_S0, r_S0, wI_S0, wJ_S0, cI_s, cJ_s, cV_s, nR_s, nQ_s, nQ_n, lt_s_, gd_T, gd_t, Option.map_some, lits, neg_mI, nI_add, pk_mul, nI_clamp, nI_eq, nI_leI, nI_ltI, nm_eq, mn_eq, nm_lt, mn_lt, nm_le, mn_le, m_eq, bI_0, bI_1, m0, m4, fk, e6]
theorem b_206b (hM : Rm K N R f) (h : MBd I f e q) (b : aB) : Am lx 206 7 [some (.ref (z + 132)), none, none] [] b (St z E n K N R I J) = some (none, St z E n K N R (u2 I f 11 (nI 1)) J) := by
  have e6 := b_206c (lx := lx) (z := z) (E := E) (n := n) (J := J) hM h b
  have e7 := b_197 (lx := lx) (z := z) (E := E) (n := n) (J := J) hM h
  obtain ⟨m0, m1, m2, m3, m4, hf, fk, fr12, fr13, fr14, fr15, fr16, fr17, fr18, fr19, fr20, fr21, fr22, fk1, fk2, fk3, fk4, fk5, fk6, fk7, fk8, fk9, fk10, fk11, fn1, fn2, fn3, fn4, fn5, fn6, fn7, fn8, fn9, fn10, fn11⟩ := hM
  rw [e_206_7]
  simp only [k_St, i_St, r_St, m0, m4, fk, gd_t, Option.map_some, nR_s, e7, cV_s, e6, ite_self]
theorem d_206 {c C : Nat} {A : Int32} (hM : Rm K N R f) (hB : MB I T m) (hn : FCn F) (h : MS I J f T m F w r G x) (hA : ∀ s, x = .ok s → A = nI c ∧ tK T m s = 1) (hc : c ≤ C) (hC : C < 2 ^ 31) : ∃ I' J', Ca lx 206 [.ref (z + 132), .int A, .int (nI C)] (St z E n K N R I J) = some (none, St z E n K N R I' J') ∧ MS I' J' f T m F w true G (x.bind (pLc T m c C F)) ∧ MF f I I' J J' := by
  have hM' := hM
  obtain ⟨m0, m1, m2, m3, m4, hf, fk, fr12, fr13, fr14, fr15, fr16, fr17, fr18, fr19, fr20, fr21, fr22, fk1, fk2, fk3, fk4, fk5, fk6, fk7, fk8, fk9, fk10, fk11, fn1, fn2, fn3, fn4, fn5, fn6, fn7, fn8, fn9, fn10, fn11⟩ := hM
  cases x with
  | error v =>
    have h' : MBd I f v.1 v.2 := h
    have e6 := b_206b (lx := lx) (z := z) (E := E) (n := n) (J := J) hM' h' (0, 0)
    have e7 := b_197 (lx := lx) (z := z) (E := E) (n := n) (J := J) hM' h'
    refine ⟨u2 I f 11 (nI 1), J, ?_, MBd_11 h' hf _, MF_11 _ hf⟩
    rw [f_206]
    simp only [k_St, m0, gd_t, e7, cV_s, e6, ite_self]
  | ok s =>
    obtain ⟨hA, ks⟩ := hA s rfl
    subst hA
    have h' : MOk I J f T m F w r G s := h
    have i5 := h'.2.2.1.1 5 (by decide) (by decide)
    have n5 := hn.2.1
    rw [eb_o]
    unfold pLc
    by_cases c1 : C ≤ c
    · rw [if_pos c1]
      obtain ⟨I1, g1, g2, g3⟩ := kk_197 (lx := lx) (z := z) (E := E) (n := n) (e := 5) hM' h' hn (by decide) (by decide)
      have e6 := b_206b (lx := lx) (z := z) (E := E) (n := n) (J := J) hM' g2 (0, 0)
      refine ⟨u2 I1 f 11 (nI 1), J, ?_, MBd_11 g2 hf _, MF_t g3 (MF_11 _ hf)⟩
      have c2 : c = C := by omega
      rw [f_206]
      simp (disch := first | assumption | omega) [k_St, n_St, i_St, j_St, r_St, wI_St, wJ_St, k_S0, n_S0, i_S0, j_S0, r_S0, wI_S0, wJ_S0, cI_s, cJ_s, cV_s, nR_s, nQ_s, nQ_n, lt_s_, gd_T, gd_t, Option.map_some, lits, neg_mI, nI_add, pk_mul, nI_clamp, nI_eq, nI_leI, nI_ltI, nm_eq, mn_eq, nm_lt, mn_lt, nm_le, mn_le, m_eq, bI_0, bI_1, m0, c2, g1, e6]
    · rw [if_neg c1]
      unfold pLB
      have c2 : ¬ c = C := by omega
      by_cases c5 : F 0 5 < 2
      · rw [if_pos c5]
        obtain ⟨I1, g1, g2, g3⟩ := kk_197 (lx := lx) (z := z) (E := E) (n := n) (e := 6) hM' h' hn (by decide) (by decide)
        have e6 := b_206c (lx := lx) (z := z) (E := E) (n := n) (J := J) hM' g2 (0, 0)
        refine ⟨u2 I1 f 11 (nI 1), J, ?_, MBd_11 g2 hf _, MF_t g3 (MF_11 _ hf)⟩
        rw [f_206]
        simp (disch := first | assumption | omega) [k_St, n_St, i_St, j_St, r_St, wI_St, wJ_St, k_S0, n_S0, i_S0, j_S0, r_S0, wI_S0, wJ_S0, cI_s, cJ_s, cV_s, nR_s, nQ_s, nQ_n, lt_s_, gd_T, gd_t, Option.map_some, lits, neg_mI, nI_add, pk_mul, nI_clamp, nI_eq, nI_leI, nI_ltI, nm_eq, mn_eq, nm_lt, mn_lt, nm_le, mn_le, m_eq, bI_0, bI_1, m0, c2]
        rw [e_206_7]
        simp (disch := first | assumption | omega) [k_St, n_St, i_St, j_St, r_St, wI_St, wJ_St, k_S0, n_S0, i_S0, j_S0, r_S0, wI_S0, wJ_S0, cI_s, cJ_s, cV_s, nR_s, nQ_s, nQ_n, lt_s_, gd_T, gd_t, Option.map_some, lits, neg_mI, nI_add, pk_mul, nI_clamp, nI_eq, nI_leI, nI_ltI, nm_eq, mn_eq, nm_lt, mn_lt, nm_le, mn_le, m_eq, bI_0, bI_1, m0, m4, fk, i5, if_neg, g1, e6]
      · rw [if_neg c5]
        obtain ⟨I1, J1, g1, g2, g3⟩ := kk_196 (lx := lx) (z := z) (E := E) (n := n) hM' (MB_f hB (MF_11 (J := J) (nI 1) hf) hf) (MOk_11 h' hf) (Or.inl ks)
        refine ⟨I1, J1, ?_, g2, MF_t (MF_11 _ hf) g3⟩
        rw [f_206]
        simp (disch := first | assumption | omega) [k_St, n_St, i_St, j_St, r_St, wI_St, wJ_St, k_S0, n_S0, i_S0, j_S0, r_S0, wI_S0, wJ_S0, cI_s, cJ_s, cV_s, nR_s, nQ_s, nQ_n, lt_s_, gd_T, gd_t, Option.map_some, lits, neg_mI, nI_add, pk_mul, nI_clamp, nI_eq, nI_leI, nI_ltI, nm_eq, mn_eq, nm_lt, mn_lt, nm_le, mn_le, m_eq, bI_0, bI_1, m0, c2]
        rw [e_206_7]
        simp (disch := first | assumption | omega) [k_St, n_St, i_St, j_St, r_St, wI_St, wJ_St, k_S0, n_S0, i_S0, j_S0, r_S0, wI_S0, wJ_S0, cI_s, cJ_s, cV_s, nR_s, nQ_s, nQ_n, lt_s_, gd_T, gd_t, Option.map_some, lits, neg_mI, nI_add, pk_mul, nI_clamp, nI_eq, nI_leI, nI_ltI, nm_eq, mn_eq, nm_lt, mn_lt, nm_le, mn_le, m_eq, bI_0, bI_1, m0, m4, fk, i5, if_pos]
        rw [e_206_16]
        simp (disch := first | assumption | omega) [k_St, n_St, i_St, j_St, r_St, wI_St, wJ_St, k_S0, n_S0, i_S0, j_S0, r_S0, wI_S0, wJ_S0, cI_s, cJ_s, cV_s, nR_s, nQ_s, nQ_n, lt_s_, gd_T, gd_t, Option.map_some, lits, neg_mI, nI_add, pk_mul, nI_clamp, nI_eq, nI_leI, nI_ltI, nm_eq, mn_eq, nm_lt, mn_lt, nm_le, mn_le, m_eq, bI_0, bI_1, m0, m4, fk, g1]
end RM3
