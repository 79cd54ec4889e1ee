section RD1
variable {z : Nat} {E : aEt} {n : Nat} {K N : Nat → Nat} {R : Nat → Nat → Option Nat} {I : Nat → Nat → Int32} {J : Nat → Nat → Int64} {lx : List Value → aH → aO} {p s q m : Nat} {T : Nat → Nat}
def Rd (K N : Nat → Nat) (R : Nat → Nat → Option Nat) (p : Nat) : Prop := K 1 = 3 ∧ R 1 0 = some 2 ∧ R 1 7 = some 13 ∧ R 1 8 = some 14 ∧ K 13 = 14 ∧ N 13 = 4 ∧ K 14 = 14 ∧ N 14 = 4 ∧ K 2 = 6 ∧ R 2 0 = some 3 ∧ K 3 = 13 ∧ N 3 = 700 ∧ R 1 3 = some p ∧ Pl K N R p ∧ 114 ≤ p
def CB (I : Nat → Nat → Int32) (T : Nat → Nat) (m : Nat) : Prop := m ≤ 700 ∧ ∀ k, k < m → T k < 256 ∧ I 3 k = nI (T k)
def CTk (I : Nat → Nat → Int32) (T : Nat → Nat) (m s : Nat) : Prop := I 2 2 = nI m ∧ I 2 3 = nI s ∧ I 2 4 = nI (tLn T m s) ∧ I 2 5 = nI (tK T m s) ∧ s ≤ m
def EOk (E : aEt) : Prop := ∀ i j, i < 13 → j < 13 → E.1 i = E.1 j → i = j
theorem sno {k : Nat} (hE : EOk E) (hk : k < 13) : strNo E.1 (E.1 k) = some k := by
  cases h : strNo E.1 (E.1 k) with
  | none =>
    unfold strNo at h
    rw [List.find?_eq_none] at h
    exact absurd (h k (List.mem_range.mpr hk)) (by simp)
  | some n =>
    obtain ⟨a, b⟩ := strNo_some h
    rw [hE _ _ a hk b]
theorem u2_u2 {α : Type} (f : Nat → Nat → α) (a k : Nat) (v w : α) : u2 (u2 f a k v) a k w = u2 f a k w := by
  funext b j; unfold u2; split
  · split <;> rfl
  · rfl
theorem c_85 (hR : Rd K N R p) (hB : CB I T m) (hq : q < m) : Ca lx 85 [.ref (z + 2), .int (nI q)] (St z E n K N R I J) = some (some (.int (nI (T q))), (St z E n K N R I J)) := by
  obtain ⟨d0, d1, d2, d3, d4, d5, d6, d7, d8, d9, d10, d11, d12, hP, hp⟩ := hR
  obtain ⟨b0, b1⟩ := hB
  have := b1 q hq
  rw [f_85]
  simp (disch := first | assumption | omega) [k_St, n_St, i_St, j_St, r_St, wI_St, wJ_St, k_S0, n_S0, i_S0, j_S0, r_S0, wI_S0, wJ_S0, cI_s, cJ_s, cV_s, nR_s, nQ_s, nQ_n, lt_s_, gd_T, gd_t, Option.map_some, lits, neg_mI, nI_add, pk_mul, nI_clamp, nI_eq, nI_leI, nI_ltI, nm_eq, mn_eq, nm_lt, mn_lt, nm_le, mn_le, m_eq, bI_0, bI_1, if_neg, d8, d9, d10, d11, this]
theorem c_86 {b : Nat} (hb : b < 256) (S : aH) : Ca lx 86 [.int (nI b)] S = some (some (.int (nI (kc b))), S) := by
  rw [f_86, e_86_9, e_86_18]
  unfold kc
  simp (disch := first | assumption | omega) [k_St, n_St, i_St, j_St, r_St, wI_St, wJ_St, k_S0, n_S0, i_S0, j_S0, r_S0, wI_S0, wJ_S0, cI_s, cJ_s, cV_s, nR_s, nQ_s, nQ_n, lt_s_, gd_T, gd_t, Option.map_some, lits, neg_mI, nI_add, pk_mul, nI_clamp, nI_eq, nI_leI, nI_ltI, nm_eq, mn_eq, nm_lt, mn_lt, nm_le, mn_le, m_eq, bI_0, bI_1]
  by_cases h1 : b < 97
  · simp only [h1, if_true, show ¬ (97 ≤ b ∧ b ≤ 122) by omega, if_false]
    by_cases h2 : b < 48
    · simp [h2, show ¬ (48 ≤ b ∧ b ≤ 57) by omega]
      split <;> first | rfl | omega
    · by_cases h3 : 57 < b
      · simp [h2, h3, show ¬ (48 ≤ b ∧ b ≤ 57) by omega]
        split <;> rfl
      · simp [h2, h3, show (48 ≤ b ∧ b ≤ 57) by omega]
  · by_cases h2 : 122 < b
    · simp [h1, h2, show ¬ (97 ≤ b ∧ b ≤ 122) by omega, show ¬ b < 48 by omega, show 57 < b by omega, show ¬ (48 ≤ b ∧ b ≤ 57) by omega]
      split <;> rfl
    · simp [h1, h2, show (97 ≤ b ∧ b ≤ 122) by omega]
theorem c_80a (hR : Rd K N R p) (hB : CB I T m) (h2 : I 2 2 = nI m) (b : aB) : ∀ n' q, q + n' = m → Am lx 80 7 [some (.ref (z + 2)), some (.int (nI q))] [] b (St z E n K N R I J) = Am lx 80 19 [some (.ref (z + 2)), some (.int (nI (q + rn (fun i => T i == 32) q n')))] [] b (St z E n K N R I J)
  | 0, q, h => by
    have hb := hB.1
    have k2 := hR.2.2.2.2.2.2.2.2.1
    rw [e_80_7]
    simp (disch := first | assumption | omega) [k_St, n_St, i_St, j_St, r_St, wI_St, wJ_St, k_S0, n_S0, i_S0, j_S0, r_S0, wI_S0, wJ_S0, cI_s, cJ_s, cV_s, nR_s, nQ_s, nQ_n, lt_s_, gd_T, gd_t, Option.map_some, lits, neg_mI, nI_add, pk_mul, nI_clamp, nI_eq, nI_leI, nI_ltI, nm_eq, mn_eq, nm_lt, mn_lt, nm_le, mn_le, m_eq, bI_0, bI_1, if_pos, k2, h2, rn]
  | n' + 1, q, h => by
    have hb := hB.1
    have k2 := hR.2.2.2.2.2.2.2.2.1
    have hT := (hB.2 q (by omega)).1
    have e := c_85 (lx := lx) (z := z) (E := E) (n := n) (J := J) hR hB (show q < m by omega)
    have ih := c_80a hR hB h2 b n' (q + 1) (by omega)
    rw [e_80_7, rn]
    by_cases c : T q = 32
    · simp (disch := first | assumption | omega) [k_St, n_St, i_St, j_St, r_St, wI_St, wJ_St, k_S0, n_S0, i_S0, j_S0, r_S0, wI_S0, wJ_S0, cI_s, cJ_s, cV_s, nR_s, nQ_s, nQ_n, lt_s_, gd_T, gd_t, Option.map_some, lits, neg_mI, nI_add, pk_mul, nI_clamp, nI_eq, nI_leI, nI_ltI, nm_eq, mn_eq, nm_lt, mn_lt, nm_le, mn_le, m_eq, bI_0, bI_1, if_neg, if_pos, k2, h2, e, c, ih, Nat.add_assoc, Nat.add_comm 1]
    · simp (disch := first | assumption | omega) [k_St, n_St, i_St, j_St, r_St, wI_St, wJ_St, k_S0, n_S0, i_S0, j_S0, r_S0, wI_S0, wJ_S0, cI_s, cJ_s, cV_s, nR_s, nQ_s, nQ_n, lt_s_, gd_T, gd_t, Option.map_some, lits, neg_mI, nI_add, pk_mul, nI_clamp, nI_eq, nI_leI, nI_ltI, nm_eq, mn_eq, nm_lt, mn_lt, nm_le, mn_le, m_eq, bI_0, bI_1, if_neg, k2, h2, e, c]
theorem c_80b (hR : Rd K N R p) (hB : CB I T m) (h2 : I 2 2 = nI m) {k : Nat} (h5 : I 2 5 = nI k) (hk : k < 5) (b : aB) : ∀ n' l, s + l + n' = m → Am lx 80 53 [some (.ref (z + 2)), some (.int (nI s))] [] b (St z E n K N R (u2 I 2 4 (nI l)) J) = Am lx 80 78 [some (.ref (z + 2)), none] [] b (St z E n K N R (u2 I 2 4 (nI (l + rn (fun i => kc (T i) == k) (s + l) n'))) J)
  | 0, l, h => by
    have hb := hB.1
    have k2 := hR.2.2.2.2.2.2.2.2.1
    rw [e_80_53]
    simp (disch := first | assumption | omega) [k_St, n_St, i_St, j_St, r_St, wI_St, wJ_St, k_S0, n_S0, i_S0, j_S0, r_S0, wI_S0, wJ_S0, cI_s, cJ_s, cV_s, nR_s, nQ_s, nQ_n, lt_s_, gd_T, gd_t, Option.map_some, lits, neg_mI, nI_add, pk_mul, nI_clamp, nI_eq, nI_leI, nI_ltI, nm_eq, mn_eq, nm_lt, mn_lt, nm_le, mn_le, m_eq, bI_0, bI_1, if_pos, k2, h2, rn, u2_s, u2_a, u2_k]
  | n' + 1, l, h => by
    have hb := hB.1
    have k2 := hR.2.2.2.2.2.2.2.2.1
    have hT := (hB.2 (s + l) (by omega)).1
    have hB' : CB (u2 I 2 4 (nI l)) T m := ⟨hB.1, fun k hk => by rw [u2_a _ _ _ _ _ (by decide)]; exact hB.2 k hk⟩
    have e := c_85 (lx := lx) (z := z) (E := E) (n := n) (J := J) hR hB' (show s + l < m by omega)
    have e2 := c_86 (lx := lx) hT (St z E n K N R (u2 I 2 4 (nI l)) J)
    have ih := c_80b hR hB h2 h5 hk b n' (l + 1) (by omega)
    have kb := kc_b (T (s + l))
    rw [e_80_53, rn]
    by_cases c : kc (T (s + l)) = k
    · simp (disch := first | assumption | omega) [k_St, n_St, i_St, j_St, r_St, wI_St, wJ_St, k_S0, n_S0, i_S0, j_S0, r_S0, wI_S0, wJ_S0, cI_s, cJ_s, cV_s, nR_s, nQ_s, nQ_n, lt_s_, gd_T, gd_t, Option.map_some, lits, neg_mI, nI_add, pk_mul, nI_clamp, nI_eq, nI_leI, nI_ltI, nm_eq, mn_eq, nm_lt, mn_lt, nm_le, mn_le, m_eq, bI_0, bI_1, if_neg, if_pos, k2, h2, h5, e, e2, c, u2_s, u2_a, u2_k, u2_u2, ih]
      rw [show s + (l + 1) = s + l + 1 by omega, show l + 1 + rn (fun i => kc (T i) == k) (s + l + 1) n' = l + (rn (fun i => kc (T i) == k) (s + l + 1) n' + 1) by omega]
    · simp (disch := first | assumption | omega) [k_St, n_St, i_St, j_St, r_St, wI_St, wJ_St, k_S0, n_S0, i_S0, j_S0, r_S0, wI_S0, wJ_S0, cI_s, cJ_s, cV_s, nR_s, nQ_s, nQ_n, lt_s_, gd_T, gd_t, Option.map_some, lits, neg_mI, nI_add, pk_mul, nI_clamp, nI_eq, nI_leI, nI_ltI, nm_eq, mn_eq, nm_lt, mn_lt, nm_le, mn_le, m_eq, bI_0, bI_1, if_neg, k2, h2, h5, e, e2, c, u2_s, u2_a, u2_k]
/-- the tape's next token -/
theorem c_80 (hR : Rd K N R p) (hB : CB I T m) {l : Nat} (h2 : I 2 2 = nI m) (h3 : I 2 3 = nI s) (h4 : I 2 4 = nI l) (hs : s + l ≤ m) : ∃ I', Ca lx 80 [.ref (z + 2)] (St z E n K N R I J) = some (none, St z E n K N R I' J) ∧ CTk I' T m (tsk T m (s + l)) ∧ (∀ a, a ≠ 2 → I' a = I a) ∧ (∀ k, k < 3 → I' 2 k = I 2 k) := by
  have hb := hB.1
  have k2 := hR.2.2.2.2.2.2.2.2.1
  have ea := c_80a (lx := lx) (z := z) (E := E) (n := n) (J := J) hR hB h2 (0, 0) (m - (s + l)) (s + l) (by omega)
  have hq : tsk T m (s + l) ≤ m := tsk_le hs
  rw [f_80]
  have et : s + l + rn (fun i => T i == 32) (s + l) (m - (s + l)) = tsk T m (s + l) := rfl
  rw [et] at ea
  generalize tsk T m (s + l) = t at *
  simp (disch := first | assumption | omega) [k_St, n_St, i_St, j_St, r_St, wI_St, wJ_St, k_S0, n_S0, i_S0, j_S0, r_S0, wI_S0, wJ_S0, cI_s, cJ_s, cV_s, nR_s, nQ_s, nQ_n, lt_s_, gd_T, gd_t, Option.map_some, lits, neg_mI, nI_add, pk_mul, nI_clamp, nI_eq, nI_leI, nI_ltI, nm_eq, mn_eq, nm_lt, mn_lt, nm_le, mn_le, m_eq, bI_0, bI_1, k2, h3, h4, ea]
  rw [e_80_19]
  by_cases c : t < m
  · have hT := (hB.2 t c).1
    have kb := kc_b (T t)
    have hB' : CB (u2 I 2 3 (nI t)) T m := ⟨hB.1, fun k hk => by rw [u2_a _ _ _ _ _ (by decide)]; exact hB.2 k hk⟩
    have e := c_85 (lx := lx) (z := z) (E := E) (n := n) (J := J) hR hB' c
    have e2 := c_86 (lx := lx) hT (St z E n K N R (u2 I 2 3 (nI t)) J)
    simp (disch := first | assumption | omega) [k_St, n_St, i_St, j_St, r_St, wI_St, wJ_St, k_S0, n_S0, i_S0, j_S0, r_S0, wI_S0, wJ_S0, cI_s, cJ_s, cV_s, nR_s, nQ_s, nQ_n, lt_s_, gd_T, gd_t, Option.map_some, lits, neg_mI, nI_add, pk_mul, nI_clamp, nI_eq, nI_leI, nI_ltI, nm_eq, mn_eq, nm_lt, mn_lt, nm_le, mn_le, m_eq, bI_0, bI_1, if_neg, k2, u2_s, u2_a, u2_k, h2, e, e2]
    rw [e_80_34]
    simp (disch := first | assumption | omega) [k_St, n_St, i_St, j_St, r_St, wI_St, wJ_St, k_S0, n_S0, i_S0, j_S0, r_S0, wI_S0, wJ_S0, cI_s, cJ_s, cV_s, nR_s, nQ_s, nQ_n, lt_s_, gd_T, gd_t, Option.map_some, lits, neg_mI, nI_add, pk_mul, nI_clamp, nI_eq, nI_leI, nI_ltI, nm_eq, mn_eq, nm_lt, mn_lt, nm_le, mn_le, m_eq, bI_0, bI_1, if_neg, k2, u2_s, u2_a, u2_k]
    rw [e_80_43]
    simp (disch := first | assumption | omega) [k_St, n_St, i_St, j_St, r_St, wI_St, wJ_St, k_S0, n_S0, i_S0, j_S0, r_S0, wI_S0, wJ_S0, cI_s, cJ_s, cV_s, nR_s, nQ_s, nQ_n, lt_s_, gd_T, gd_t, Option.map_some, lits, neg_mI, nI_add, pk_mul, nI_clamp, nI_eq, nI_leI, nI_ltI, nm_eq, mn_eq, nm_lt, mn_lt, nm_le, mn_le, m_eq, bI_0, bI_1, k2, u2_s, u2_a, u2_k]
    by_cases c2 : kc (T t) ≤ 2
    · have g1 : (if kc (T t) = 1 then Am lx 80 53 [some (.ref (z + 2)), some (.int (nI t))] [] (0, 0) (St z E n K N R (u2 (u2 (u2 I 2 3 (nI t)) 2 5 (nI (kc (T t)))) 2 4 (nI 1)) J) else if kc (T t) = 2 then Am lx 80 53 [some (.ref (z + 2)), some (.int (nI t))] [] (0, 0) (St z E n K N R (u2 (u2 (u2 I 2 3 (nI t)) 2 5 (nI (kc (T t)))) 2 4 (nI 1)) J) else some (none, St z E n K N R (u2 (u2 (u2 I 2 3 (nI t)) 2 5 (nI (kc (T t)))) 2 4 (nI 1)) J)) = Am lx 80 53 [some (.ref (z + 2)), some (.int (nI t))] [] (0, 0) (St z E n K N R (u2 (u2 (u2 I 2 3 (nI t)) 2 5 (nI (kc (T t)))) 2 4 (nI 1)) J) := by
        by_cases c3 : kc (T t) = 1
        · rw [if_pos c3]
        · rw [if_neg c3, if_pos (by omega)]
      rw [g1]
      have hB2 : CB (u2 (u2 I 2 3 (nI t)) 2 5 (nI (kc (T t)))) T m := ⟨hB.1, fun k hk => by rw [u2_a _ _ _ _ _ (by decide), u2_a _ _ _ _ _ (by decide)]; exact hB.2 k hk⟩
      have eb := c_80b (lx := lx) (z := z) (E := E) (n := n) (J := J) (s := t) hR hB2 (by rw [u2_k _ _ _ _ _ (by decide), u2_k _ _ _ _ _ (by decide)]; exact h2) (u2_s _ _ _ _) (by omega) (0, 0) (m - t - 1) 1 (by omega)
      rw [eb, e_80_78]
      have el : 1 + rn (fun i => kc (T i) == kc (T t)) (t + 1) (m - t - 1) = tLn T m t := by
        unfold tLn; rw [if_pos c, if_pos c2]; omega
      have ll := tL_le (T := T) hq
      rw [el]
      have fin : Am lx 80 88 [some (.ref (z + 2)), none] [.int (nI (if kc (T t) = 1 then 8 else 3)), .int (nI (tLn T m t))] (0, 0) (St z E n K N R (u2 (u2 (u2 I 2 3 (nI t)) 2 5 (nI (kc (T t)))) 2 4 (nI (tLn T m t))) J) = some (none, St z E n K N R (u2 (u2 (u2 I 2 3 (nI t)) 2 5 (nI (tK T m t))) 2 4 (nI (tLn T m t))) J) := by
        rw [e_80_88]
        by_cases c4 : tLn T m t ≤ (if kc (T t) = 1 then 8 else 3)
        · have : tK T m t = kc (T t) := by
            unfold tK; rw [if_pos c, if_neg]; split at c4 <;> omega
          rw [this, if_pos]
          rw [nI_leI (by omega) (by split <;> omega)]; exact c4
        · have : tK T m t = 4 := by
            unfold tK; rw [if_pos c, if_pos]; split at c4 <;> omega
          rw [this, if_neg (by rw [nI_leI (by omega) (by split <;> omega)]; exact c4)]
          simp (disch := first | assumption | omega) [k_St, n_St, i_St, j_St, r_St, wI_St, wJ_St, k_S0, n_S0, i_S0, j_S0, r_S0, wI_S0, wJ_S0, cI_s, cJ_s, cV_s, nR_s, nQ_s, nQ_n, lt_s_, gd_T, gd_t, Option.map_some, lits, neg_mI, nI_add, pk_mul, nI_clamp, nI_eq, nI_leI, nI_ltI, nm_eq, mn_eq, nm_lt, mn_lt, nm_le, mn_le, m_eq, bI_0, bI_1, k2, u2_s, u2_a, u2_k]
          congr 1
          funext a k
          unfold u2
          by_cases ha : a = 2
          · by_cases h5 : k = 5
            · simp [ha, h5]
            · simp [ha, h5]
          · simp [ha]
      refine ⟨u2 (u2 (u2 I 2 3 (nI t)) 2 5 (nI (tK T m t))) 2 4 (nI (tLn T m t)), ?_, ⟨?_, ?_, ?_, ?_, hq⟩, ?_, ?_⟩
      · refine Eq.trans ?_ fin
        by_cases c3 : kc (T t) = 1
        · simp (disch := first | assumption | omega) [k_St, n_St, i_St, j_St, r_St, wI_St, wJ_St, k_S0, n_S0, i_S0, j_S0, r_S0, wI_S0, wJ_S0, cI_s, cJ_s, cV_s, nR_s, nQ_s, nQ_n, lt_s_, gd_T, gd_t, Option.map_some, lits, neg_mI, nI_add, pk_mul, nI_clamp, nI_eq, nI_leI, nI_ltI, nm_eq, mn_eq, nm_lt, mn_lt, nm_le, mn_le, m_eq, bI_0, bI_1, k2, u2_s, u2_a, u2_k, c3]
        · simp (disch := first | assumption | omega) [k_St, n_St, i_St, j_St, r_St, wI_St, wJ_St, k_S0, n_S0, i_S0, j_S0, r_S0, wI_S0, wJ_S0, cI_s, cJ_s, cV_s, nR_s, nQ_s, nQ_n, lt_s_, gd_T, gd_t, Option.map_some, lits, neg_mI, nI_add, pk_mul, nI_clamp, nI_eq, nI_leI, nI_ltI, nm_eq, mn_eq, nm_lt, mn_lt, nm_le, mn_le, m_eq, bI_0, bI_1, k2, u2_s, u2_a, u2_k, c3]
      · simp (disch := first | assumption | omega) [u2_s, u2_a, u2_k, h2]
      · simp (disch := first | assumption | omega) [u2_s, u2_a, u2_k]
      · simp (disch := first | assumption | omega) [u2_s, u2_a, u2_k]
      · simp (disch := first | assumption | omega) [u2_s, u2_a, u2_k]
      · intro a ha; simp (disch := first | assumption | omega) [u2_s, u2_a, u2_k]
      · intro k hk; simp (disch := first | assumption | omega) [u2_s, u2_a, u2_k]
    · have l1 : tLn T m t = 1 := by unfold tLn; rw [if_pos c, if_neg c2]
      have kk : tK T m t = kc (T t) := by unfold tK; rw [if_pos c, if_neg (by omega)]
      rw [if_neg (by omega), if_neg (by omega)]
      refine ⟨_, rfl, ⟨?_, ?_, ?_, ?_, hq⟩, ?_, ?_⟩
      · simp (disch := first | assumption | omega) [u2_s, u2_a, u2_k, h2]
      · simp (disch := first | assumption | omega) [u2_s, u2_a, u2_k]
      · simp (disch := first | assumption | omega) [u2_s, u2_a, u2_k, l1]
      · simp (disch := first | assumption | omega) [u2_s, u2_a, u2_k, kk]
      · intro a ha; simp (disch := first | assumption | omega) [u2_s, u2_a, u2_k]
      · intro k hk; simp (disch := first | assumption | omega) [u2_s, u2_a, u2_k]
  · have l0 : tLn T m t = 0 := by unfold tLn; rw [if_neg c]
    have k0 : tK T m t = 0 := by unfold tK; rw [if_neg c]
    simp (disch := first | assumption | omega) [k_St, n_St, i_St, j_St, r_St, wI_St, wJ_St, k_S0, n_S0, i_S0, j_S0, r_S0, wI_S0, wJ_S0, cI_s, cJ_s, cV_s, nR_s, nQ_s, nQ_n, lt_s_, gd_T, gd_t, Option.map_some, lits, neg_mI, nI_add, pk_mul, nI_clamp, nI_eq, nI_leI, nI_ltI, nm_eq, mn_eq, nm_lt, mn_lt, nm_le, mn_le, m_eq, bI_0, bI_1, if_pos, k2, u2_s, u2_a, u2_k, h2]
    rw [e_80_34]
    simp (disch := first | assumption | omega) [k_St, n_St, i_St, j_St, r_St, wI_St, wJ_St, k_S0, n_S0, i_S0, j_S0, r_S0, wI_S0, wJ_S0, cI_s, cJ_s, cV_s, nR_s, nQ_s, nQ_n, lt_s_, gd_T, gd_t, Option.map_some, lits, neg_mI, nI_add, pk_mul, nI_clamp, nI_eq, nI_leI, nI_ltI, nm_eq, mn_eq, nm_lt, mn_lt, nm_le, mn_le, m_eq, bI_0, bI_1, if_neg, k2, u2_s, u2_a, u2_k]
    rw [e_80_43]
    simp (disch := first | assumption | omega) [k_St, n_St, i_St, j_St, r_St, wI_St, wJ_St, k_S0, n_S0, i_S0, j_S0, r_S0, wI_S0, wJ_S0, cI_s, cJ_s, cV_s, nR_s, nQ_s, nQ_n, lt_s_, gd_T, gd_t, Option.map_some, lits, neg_mI, nI_add, pk_mul, nI_clamp, nI_eq, nI_leI, nI_ltI, nm_eq, mn_eq, nm_lt, mn_lt, nm_le, mn_le, m_eq, bI_0, bI_1, k2, u2_s, u2_a, u2_k]
    refine ⟨_, rfl, ⟨?_, ?_, ?_, ?_, hq⟩, ?_, ?_⟩
    · simp (disch := first | assumption | omega) [u2_s, u2_a, u2_k, h2]
    · simp (disch := first | assumption | omega) [u2_s, u2_a, u2_k]
    · simp (disch := first | assumption | omega) [u2_s, u2_a, u2_k, l0]
    · simp (disch := first | assumption | omega) [u2_s, u2_a, u2_k, k0]
    · intro a ha; simp (disch := first | assumption | omega) [u2_s, u2_a, u2_k]
    · intro k hk; simp (disch := first | assumption | omega) [u2_s, u2_a, u2_k]
end RD1
