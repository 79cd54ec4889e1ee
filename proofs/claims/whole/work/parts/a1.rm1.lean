/-! the reference's reader -/
theorem bt8 : ∀ b, b < 256 → (((nI b).toInt8.toInt32) &&& nI 255) = nI b := by decide +kernel
section RM1
variable {z : Nat} {E : aEt} {n : Nat} {K N : Nat → Nat} {R : Nat → Nat → Option Nat} {I : Nat → Nat → Int32} {J : Nat → Nat → Int64} {lx : List Value → aH → aO} {f s q m e : Nat} {T : Nat → Nat}
def Rm (K N : Nat → Nat) (R : Nat → Nat → Option Nat) (f : Nat) : Prop := K 132 = 11 ∧ R 132 5 = some 133 ∧ K 133 = 12 ∧ N 133 = 700 ∧ R 132 4 = some f ∧ Fl K N R f
def MB (I : Nat → Nat → Int32) (T : Nat → Nat) (m : Nat) : Prop := m ≤ 700 ∧ I 132 7 = nI m ∧ ∀ k, k < m → T k < 256 ∧ I 133 k = (nI (T k)).toInt8.toInt32
def srt (k : Nat) : Nat := if k = 4 then 0 else k + 1
def MTk (I : Nat → Nat → Int32) (J : Nat → Nat → Int64) (T : Nat → Nat) (m s : Nat) : Prop := I 132 10 = nI s ∧ I 132 9 = nI (srt (tK T m s)) ∧ (tK T m s ≠ 4 → I 132 8 = nI (s + tLn T m s)) ∧ (tK T m s = 1 → I 132 14 = nI (tLn T m s) ∧ J 132 15 = lN (w5 T m s)) ∧ (tK T m s = 2 → I 132 11 = nI (wv T m s)) ∧ s ≤ m
/-- what a token's reading may change -/
def TF (I I' : Nat → Nat → Int32) (J J' : Nat → Nat → Int64) : Prop := (∀ a, a ≠ 132 → I' a = I a) ∧ (∀ k, k < 8 ∨ k = 12 ∨ k = 13 ∨ 14 < k → I' 132 k = I 132 k) ∧ (∀ a, a ≠ 132 → J' a = J a) ∧ (∀ k, k ≠ 15 → J' 132 k = J 132 k)
theorem TF_r : TF I I J J := ⟨fun _ _ => rfl, fun _ _ => rfl, fun _ _ => rfl, fun _ _ => rfl⟩
theorem TF_t {I1 I2 : Nat → Nat → Int32} {J1 J2 : Nat → Nat → Int64} (h : TF I I1 J J1) (h2 : TF I1 I2 J1 J2) : TF I I2 J J2 :=
  ⟨fun a ha => (h2.1 a ha).trans (h.1 a ha), fun k hk => (h2.2.1 k hk).trans (h.2.1 k hk), fun a ha => (h2.2.2.1 a ha).trans (h.2.2.1 a ha), fun k hk => (h2.2.2.2 k hk).trans (h.2.2.2 k hk)⟩
theorem TF_i (k : Nat) (v : Int32) (h : k = 8 ∨ k = 9 ∨ k = 10 ∨ k = 11 ∨ k = 14) : TF I (u2 I 132 k v) J J :=
  ⟨fun a ha => u2_a _ _ _ _ _ ha, fun j hj => u2_k _ _ _ _ _ (by omega), fun _ _ => rfl, fun _ _ => rfl⟩
theorem TF_j (v : Int64) : TF I I J (u2 J 132 15 v) :=
  ⟨fun _ _ => rfl, fun _ _ => rfl, fun a ha => u2_a _ _ _ _ _ ha, fun j hj => u2_k _ _ _ _ _ hj⟩
theorem MB_t {I1 : Nat → Nat → Int32} {J1 : Nat → Nat → Int64} (h : MB I T m) (h2 : TF I I1 J J1) : MB I1 T m :=
  ⟨h.1, by rw [h2.2.1 7 (by decide)]; exact h.2.1, fun k hk => by rw [h2.1 133 (by decide)]; exact h.2.2 k hk⟩
def byt (T : Nat → Nat) (m q : Nat) : Int32 := if q < m then nI (T q) else mI 1
theorem d_192 (hM : Rm K N R f) (hB : MB I T m) (hq : q ≤ m) : Ca lx 192 [.ref (z + 132), .int (nI q)] (St z E n K N R I J) = some (some (.int (byt T m q)), (St z E n K N R I J)) := by
  obtain ⟨m0, m1, m2, m3, m4, hf, fk, fr12, fr13, fr14, fr15, fr16, fr17, fr18, fr19, fr20, fr21, fr22, fk1, fk2, fk3, fk4, fk5, fk6, fk7, fk8, fk9, fk10, fk11, fn1, fn2, fn3, fn4, fn5, fn6, fn7, fn8, fn9, fn10, fn11⟩ := hM
  obtain ⟨b0, b1, b2⟩ := hB
  unfold byt
  rw [f_192]
  by_cases c : q < m
  · obtain ⟨t1, t2⟩ := b2 q c
    have t3 := bt8 _ t1
    rw [if_pos c]
    simp (disch := first | assumption | omega) [k_St, n_St, i_St, j_St, r_St, wI_St, wJ_St, k_S0, n_S0, i_S0, j_S0, r_S0, wI_S0, wJ_S0, cI_s, cJ_s, cV_s, nR_s, nQ_s, nQ_n, lt_s_, gd_T, gd_t, Option.map_some, lits, neg_mI, nI_add, pk_mul, nI_clamp, nI_eq, nI_leI, nI_ltI, nm_eq, mn_eq, nm_lt, mn_lt, nm_le, mn_le, m_eq, bI_0, bI_1, m0, m1, m2, m3, b1, t2, t3, if_neg]
  · rw [if_neg c]
    simp (disch := first | assumption | omega) [k_St, n_St, i_St, j_St, r_St, wI_St, wJ_St, k_S0, n_S0, i_S0, j_S0, r_S0, wI_S0, wJ_S0, cI_s, cJ_s, cV_s, nR_s, nQ_s, nQ_n, lt_s_, gd_T, gd_t, Option.map_some, lits, neg_mI, nI_add, pk_mul, nI_clamp, nI_eq, nI_leI, nI_ltI, nm_eq, mn_eq, nm_lt, mn_lt, nm_le, mn_le, m_eq, bI_0, bI_1, m0, b1, if_pos]
theorem s_193 (h : ∀ k, k < m → T k < 256) (S : aH) : Ca lx 193 [.int (byt T m q)] S = some (some (.int (bI (decide (q < m ∧ kc (T q) = 1)))), S) := by
  rw [f_193]
  unfold byt
  by_cases c : q < m
  · have t1 := h q c
    rw [if_pos c]
    by_cases c1 : kc (T q) = 1
    · have := kc_1 c1
      rw [decide_eq_true ⟨c, c1⟩]
      simp (disch := first | assumption | omega) [k_St, n_St, i_St, j_St, r_St, wI_St, wJ_St, k_S0, n_S0, i_S0, j_S0, r_S0, wI_S0, wJ_S0, cI_s, cJ_s, cV_s, nR_s, nQ_s, nQ_n, lt_s_, gd_T, gd_t, Option.map_some, lits, neg_mI, nI_add, pk_mul, nI_clamp, nI_eq, nI_leI, nI_ltI, nm_eq, mn_eq, nm_lt, mn_lt, nm_le, mn_le, m_eq, bI_0, bI_1, if_neg] <;> rfl
    · rw [decide_eq_false (by intro ⟨_, h⟩; exact c1 h)]
      have : ¬ (97 ≤ T q ∧ T q ≤ 122) := by
        intro h; apply c1; unfold kc; rw [if_pos h]
      by_cases c2 : T q < 97
      · simp (disch := first | assumption | omega) [k_St, n_St, i_St, j_St, r_St, wI_St, wJ_St, k_S0, n_S0, i_S0, j_S0, r_S0, wI_S0, wJ_S0, cI_s, cJ_s, cV_s, nR_s, nQ_s, nQ_n, lt_s_, gd_T, gd_t, Option.map_some, lits, neg_mI, nI_add, pk_mul, nI_clamp, nI_eq, nI_leI, nI_ltI, nm_eq, mn_eq, nm_lt, mn_lt, nm_le, mn_le, m_eq, bI_0, bI_1, if_pos] <;> rfl
      · have c3 : 122 < T q := by omega
        simp (disch := first | assumption | omega) [k_St, n_St, i_St, j_St, r_St, wI_St, wJ_St, k_S0, n_S0, i_S0, j_S0, r_S0, wI_S0, wJ_S0, cI_s, cJ_s, cV_s, nR_s, nQ_s, nQ_n, lt_s_, gd_T, gd_t, Option.map_some, lits, neg_mI, nI_add, pk_mul, nI_clamp, nI_eq, nI_leI, nI_ltI, nm_eq, mn_eq, nm_lt, mn_lt, nm_le, mn_le, m_eq, bI_0, bI_1, c2, c3] <;> rfl
  · rw [if_neg c, decide_eq_false (by intro ⟨h, _⟩; exact c h)]
    simp (disch := first | assumption | omega) [k_St, n_St, i_St, j_St, r_St, wI_St, wJ_St, k_S0, n_S0, i_S0, j_S0, r_S0, wI_S0, wJ_S0, cI_s, cJ_s, cV_s, nR_s, nQ_s, nQ_n, lt_s_, gd_T, gd_t, Option.map_some, lits, neg_mI, nI_add, pk_mul, nI_clamp, nI_eq, nI_leI, nI_ltI, nm_eq, mn_eq, nm_lt, mn_lt, nm_le, mn_le, m_eq, bI_0, bI_1] <;> rfl
theorem s_194 (h : ∀ k, k < m → T k < 256) (S : aH) : Ca lx 194 [.int (byt T m q)] S = some (some (.int (bI (decide (q < m ∧ kc (T q) = 2)))), S) := by
  rw [f_194]
  unfold byt
  by_cases c : q < m
  · have t1 := h q c
    rw [if_pos c]
    by_cases c1 : kc (T q) = 2
    · have := kc_2 c1
      rw [decide_eq_true ⟨c, c1⟩]
      simp (disch := first | assumption | omega) [k_St, n_St, i_St, j_St, r_St, wI_St, wJ_St, k_S0, n_S0, i_S0, j_S0, r_S0, wI_S0, wJ_S0, cI_s, cJ_s, cV_s, nR_s, nQ_s, nQ_n, lt_s_, gd_T, gd_t, Option.map_some, lits, neg_mI, nI_add, pk_mul, nI_clamp, nI_eq, nI_leI, nI_ltI, nm_eq, mn_eq, nm_lt, mn_lt, nm_le, mn_le, m_eq, bI_0, bI_1, if_neg] <;> rfl
    · rw [decide_eq_false (by intro ⟨_, h⟩; exact c1 h)]
      have : ¬ (48 ≤ T q ∧ T q ≤ 57) := by
        intro h; apply c1; unfold kc; rw [if_neg (by omega), if_pos h]
      by_cases c2 : T q < 48
      · simp (disch := first | assumption | omega) [k_St, n_St, i_St, j_St, r_St, wI_St, wJ_St, k_S0, n_S0, i_S0, j_S0, r_S0, wI_S0, wJ_S0, cI_s, cJ_s, cV_s, nR_s, nQ_s, nQ_n, lt_s_, gd_T, gd_t, Option.map_some, lits, neg_mI, nI_add, pk_mul, nI_clamp, nI_eq, nI_leI, nI_ltI, nm_eq, mn_eq, nm_lt, mn_lt, nm_le, mn_le, m_eq, bI_0, bI_1, if_pos] <;> rfl
      · have c3 : 57 < T q := by omega
        simp (disch := first | assumption | omega) [k_St, n_St, i_St, j_St, r_St, wI_St, wJ_St, k_S0, n_S0, i_S0, j_S0, r_S0, wI_S0, wJ_S0, cI_s, cJ_s, cV_s, nR_s, nQ_s, nQ_n, lt_s_, gd_T, gd_t, Option.map_some, lits, neg_mI, nI_add, pk_mul, nI_clamp, nI_eq, nI_leI, nI_ltI, nm_eq, mn_eq, nm_lt, mn_lt, nm_le, mn_le, m_eq, bI_0, bI_1, c2, c3] <;> rfl
  · rw [if_neg c, decide_eq_false (by intro ⟨h, _⟩; exact c h)]
    simp (disch := first | assumption | omega) [k_St, n_St, i_St, j_St, r_St, wI_St, wJ_St, k_S0, n_S0, i_S0, j_S0, r_S0, wI_S0, wJ_S0, cI_s, cJ_s, cV_s, nR_s, nQ_s, nQ_n, lt_s_, gd_T, gd_t, Option.map_some, lits, neg_mI, nI_add, pk_mul, nI_clamp, nI_eq, nI_leI, nI_ltI, nm_eq, mn_eq, nm_lt, mn_lt, nm_le, mn_le, m_eq, bI_0, bI_1] <;> rfl
theorem tL_w {k : Nat} (hs : s < m) (hk : kc (T s) = k) (h2 : k ≤ 2) : (∀ i, i < tLn T m s → kc (T (s + i)) = k) ∧ (s + tLn T m s < m → kc (T (s + tLn T m s)) ≠ k) ∧ 1 ≤ tLn T m s ∧ s + tLn T m s ≤ m := by
  have ll := tL_le (T := T) (m := m) (s := s) (by omega)
  have el : tLn T m s = rn (fun i => kc (T i) == kc (T s)) (s + 1) (m - s - 1) + 1 := by
    unfold tLn; rw [if_pos hs, if_pos (by omega)]
  refine ⟨fun i hi => ?_, fun h => ?_, by omega, ll⟩
  · cases i with
    | zero => exact hk
    | succ i =>
      have := rn_t _ _ _ i (by omega : i < rn (fun i => kc (T i) == kc (T s)) (s + 1) (m - s - 1))
      rw [show s + (i + 1) = s + 1 + i by omega]
      simp at this; omega
  · have := rn_s (fun i => kc (T i) == kc (T s)) (m - s - 1) (s + 1) (by omega)
    rw [show s + tLn T m s = s + 1 + rn (fun i => kc (T i) == kc (T s)) (s + 1) (m - s - 1) by omega]
    simp at this; omega
theorem lt5 {x b : Nat} (hb : 97 ≤ b) (hb2 : b ≤ 122) : (32 * lN x) + (((nI b - nI 97) + nI 1).toInt64) = lN (32 * x + (b - 96)) := by
  rw [pk_sub hb, nI_add, nI_l (by omega), show (32 : Int64) = lN 32 from rfl, lN_mul, lN_add, show b - 97 + 1 = b - 96 by omega]
theorem w_loop (hM : Rm K N R f) (hb : m ≤ 700) (h7 : ∀ k, k < m → T k < 256) (hs : s < m) (hk : kc (T s) = 1) (b : aB) : ∀ (n' i : Nat) (I : Nat → Nat → Int32) (J : Nat → Nat → Int64), i + n' = tLn T m s → MB I T m → I 132 8 = nI (s + i) → J 132 15 = lN (p5 T s (min i 8)) → ∃ I' J', Am lx 196 47 [some (.ref (z + 132)), none, some (.int (nI i))] [] b (St z E n K N R I J) = some (none, St z E n K N R I' J') ∧ I' 132 8 = nI (s + tLn T m s) ∧ I' 132 14 = nI (tLn T m s) ∧ J' 132 15 = lN (p5 T s (min (tLn T m s) 8)) ∧ I' 132 9 = (if 8 < tLn T m s then I 132 9 else nI 2) ∧ I' 132 10 = I 132 10 ∧ TF I I' J J'
  | 0, i, I, J, h, hB, h8, hj => by
    obtain ⟨_, l2, _, l4⟩ := tL_w (T := T) hs hk (by decide)
    have e1 := d_192 (lx := lx) (z := z) (E := E) (n := n) (J := J) hM hB (show s + i ≤ m by omega)
    have e2 := s_193 (lx := lx) (T := T) (m := m) (q := s + i) h7 (St z E n K N R I J)
    have hi : i = tLn T m s := by omega
    rw [decide_eq_false (by rw [hi]; intro ⟨a1, a2⟩; exact l2 a1 a2)] at e2
    obtain ⟨m0, m1, m2, m3, m4, hf, fk, fr12, fr13, fr14, fr15, fr16, fr17, fr18, fr19, fr20, fr21, fr22, fk1, fk2, fk3, fk4, fk5, fk6, fk7, fk8, fk9, fk10, fk11, fn1, fn2, fn3, fn4, fn5, fn6, fn7, fn8, fn9, fn10, fn11⟩ := hM
    by_cases c : 8 < i
    · refine ⟨u2 I 132 14 (nI i), J, ?_, by rw [u2_k _ _ _ _ _ (by decide), h8, hi], by rw [u2_s, hi], by rw [hj, hi], by rw [u2_k _ _ _ _ _ (by decide), if_pos (by omega)], u2_k _ _ _ _ _ (by decide), TF_i _ _ (by decide)⟩
      rw [e_196_47]
      simp (disch := first | assumption | omega) [k_St, n_St, i_St, j_St, r_St, wI_St, wJ_St, k_S0, n_S0, i_S0, j_S0, r_S0, wI_S0, wJ_S0, cI_s, cJ_s, cV_s, nR_s, nQ_s, nQ_n, lt_s_, gd_T, gd_t, Option.map_some, lits, neg_mI, nI_add, pk_mul, nI_clamp, nI_eq, nI_leI, nI_ltI, nm_eq, mn_eq, nm_lt, mn_lt, nm_le, mn_le, m_eq, bI_0, bI_1, m0, h8, e1, e2, c]
    · refine ⟨u2 (u2 I 132 14 (nI i)) 132 9 (nI 2), J, ?_, by simp (disch := first | assumption | omega) [u2_s, u2_a, u2_k, h8, hi], by simp (disch := first | assumption | omega) [u2_s, u2_a, u2_k, hi], by rw [hj, hi], by rw [u2_s, if_neg (by omega)], by simp (disch := first | assumption | omega) [u2_s, u2_a, u2_k], TF_t (TF_i 14 (nI i) (by decide)) (TF_i _ _ (by decide))⟩
      rw [e_196_47]
      simp (disch := first | assumption | omega) [k_St, n_St, i_St, j_St, r_St, wI_St, wJ_St, k_S0, n_S0, i_S0, j_S0, r_S0, wI_S0, wJ_S0, cI_s, cJ_s, cV_s, nR_s, nQ_s, nQ_n, lt_s_, gd_T, gd_t, Option.map_some, lits, neg_mI, nI_add, pk_mul, nI_clamp, nI_eq, nI_leI, nI_ltI, nm_eq, mn_eq, nm_lt, mn_lt, nm_le, mn_le, m_eq, bI_0, bI_1, m0, h8, e1, e2, c]
  | n' + 1, i, I, J, h, hB, h8, hj => by
    obtain ⟨l1, _, _, l4⟩ := tL_w (T := T) hs hk (by decide)
    have e1 := d_192 (lx := lx) (z := z) (E := E) (n := n) (J := J) hM hB (show s + i ≤ m by omega)
    have e2 := s_193 (lx := lx) (T := T) (m := m) (q := s + i) h7 (St z E n K N R I J)
    have ki := l1 i (by omega)
    rw [decide_eq_true ⟨by omega, ki⟩] at e2
    have kb := kc_1 ki
    have eb : byt T m (s + i) = nI (T (s + i)) := by unfold byt; rw [if_pos (by omega)]
    have m0 := hM.1
    by_cases c : 8 ≤ i
    · obtain ⟨I', J', g1, g2, g3, g4, g5, g6, g7⟩ := w_loop hM hb h7 hs hk b n' (i + 1) (u2 I 132 8 (nI (s + i + 1))) J (by omega) (MB_t hB (TF_i (J := J) 8 _ (by decide))) (by rw [u2_s, Nat.add_assoc]) (by rw [hj, Nat.min_eq_right c, Nat.min_eq_right (by omega)])
      refine ⟨I', J', ?_, g2, g3, g4, by rw [g5, u2_k _ _ _ _ _ (by decide)], by rw [g6, u2_k _ _ _ _ _ (by decide)], TF_t (TF_i 8 _ (by decide)) g7⟩
      rw [e_196_47]
      simp (disch := first | assumption | omega) [k_St, n_St, i_St, j_St, r_St, wI_St, wJ_St, k_S0, n_S0, i_S0, j_S0, r_S0, wI_S0, wJ_S0, cI_s, cJ_s, cV_s, nR_s, nQ_s, nQ_n, lt_s_, gd_T, gd_t, Option.map_some, lits, neg_mI, nI_add, pk_mul, nI_clamp, nI_eq, nI_leI, nI_ltI, nm_eq, mn_eq, nm_lt, mn_lt, nm_le, mn_le, m_eq, bI_0, bI_1, m0, h8, e1, e2, c]
      rw [e_196_73]
      simp (disch := first | assumption | omega) [k_St, n_St, i_St, j_St, r_St, wI_St, wJ_St, k_S0, n_S0, i_S0, j_S0, r_S0, wI_S0, wJ_S0, cI_s, cJ_s, cV_s, nR_s, nQ_s, nQ_n, lt_s_, gd_T, gd_t, Option.map_some, lits, neg_mI, nI_add, pk_mul, nI_clamp, nI_eq, nI_leI, nI_ltI, nm_eq, mn_eq, nm_lt, mn_lt, nm_le, mn_le, m_eq, bI_0, bI_1, m0, h8]
      exact g1
    · obtain ⟨I', J', g1, g2, g3, g4, g5, g6, g7⟩ := w_loop hM hb h7 hs hk b n' (i + 1) (u2 I 132 8 (nI (s + i + 1))) (u2 J 132 15 (lN (32 * p5 T s i + (T (s + i) - 96)))) (by omega) (MB_t hB (TF_i (J := J) 8 _ (by decide))) (by rw [u2_s, Nat.add_assoc]) (by rw [u2_s, Nat.min_eq_left (by omega)]; rfl)
      refine ⟨I', J', ?_, g2, g3, g4, by rw [g5, u2_k _ _ _ _ _ (by decide)], by rw [g6, u2_k _ _ _ _ _ (by decide)], TF_t (TF_t (TF_i 8 _ (by decide)) (TF_j _)) g7⟩
      rw [Nat.min_eq_left (by omega)] at hj
      have e5 := lt5 (x := p5 T s i) kb.1 kb.2
      rw [e_196_47]
      rw [eb] at e1 e2
      simp (disch := first | assumption | omega) [k_St, n_St, i_St, j_St, r_St, wI_St, wJ_St, k_S0, n_S0, i_S0, j_S0, r_S0, wI_S0, wJ_S0, cI_s, cJ_s, cV_s, nR_s, nQ_s, nQ_n, lt_s_, gd_T, gd_t, Option.map_some, lits, neg_mI, nI_add, pk_mul, nI_clamp, nI_eq, nI_leI, nI_ltI, nm_eq, mn_eq, nm_lt, mn_lt, nm_le, mn_le, m_eq, bI_0, bI_1, m0, h8, e1, e2, c, hj, e5]
      rw [e_196_73]
      simp (disch := first | assumption | omega) [k_St, n_St, i_St, j_St, r_St, wI_St, wJ_St, k_S0, n_S0, i_S0, j_S0, r_S0, wI_S0, wJ_S0, cI_s, cJ_s, cV_s, nR_s, nQ_s, nQ_n, lt_s_, gd_T, gd_t, Option.map_some, lits, neg_mI, nI_add, pk_mul, nI_clamp, nI_eq, nI_leI, nI_ltI, nm_eq, mn_eq, nm_lt, mn_lt, nm_le, mn_le, m_eq, bI_0, bI_1, m0, h8]
      exact g1
theorem n_loop (hM : Rm K N R f) (hb : m ≤ 700) (h7 : ∀ k, k < m → T k < 256) (hs : s < m) (hk : kc (T s) = 2) (b : aB) : ∀ (n' i : Nat) (I : Nat → Nat → Int32), i + n' = tLn T m s → MB I T m → I 132 8 = nI (s + i) → I 132 11 = nI (vv T s (min i 3)) → ∃ I', Am lx 196 98 [some (.ref (z + 132)), none, some (.int (nI i))] [] b (St z E n K N R I J) = some (none, St z E n K N R I' J) ∧ I' 132 8 = nI (s + tLn T m s) ∧ I' 132 11 = nI (vv T s (min (tLn T m s) 3)) ∧ I' 132 9 = (if 3 < tLn T m s then I 132 9 else nI 3) ∧ I' 132 10 = I 132 10 ∧ TF I I' J J
  | 0, i, I, h, hB, h8, hj => by
    obtain ⟨_, l2, _, l4⟩ := tL_w (T := T) hs hk (by decide)
    have e1 := d_192 (lx := lx) (z := z) (E := E) (n := n) (J := J) hM hB (show s + i ≤ m by omega)
    have e2 := s_194 (lx := lx) (T := T) (m := m) (q := s + i) h7 (St z E n K N R I J)
    have hi : i = tLn T m s := by omega
    rw [decide_eq_false (by rw [hi]; intro ⟨a1, a2⟩; exact l2 a1 a2)] at e2
    obtain ⟨m0, m1, m2, m3, m4, hf, fk, fr12, fr13, fr14, fr15, fr16, fr17, fr18, fr19, fr20, fr21, fr22, fk1, fk2, fk3, fk4, fk5, fk6, fk7, fk8, fk9, fk10, fk11, fn1, fn2, fn3, fn4, fn5, fn6, fn7, fn8, fn9, fn10, fn11⟩ := hM
    by_cases c : 3 < i
    · refine ⟨I, ?_, by rw [h8, hi], by rw [hj, hi], by rw [if_pos (by omega)], rfl, TF_r⟩
      rw [e_196_98]
      simp (disch := first | assumption | omega) [k_St, n_St, i_St, j_St, r_St, wI_St, wJ_St, k_S0, n_S0, i_S0, j_S0, r_S0, wI_S0, wJ_S0, cI_s, cJ_s, cV_s, nR_s, nQ_s, nQ_n, lt_s_, gd_T, gd_t, Option.map_some, lits, neg_mI, nI_add, pk_mul, nI_clamp, nI_eq, nI_leI, nI_ltI, nm_eq, mn_eq, nm_lt, mn_lt, nm_le, mn_le, m_eq, bI_0, bI_1, m0, h8, e1, e2, c]
    · refine ⟨u2 I 132 9 (nI 3), ?_, by simp (disch := first | assumption | omega) [u2_s, u2_a, u2_k, h8, hi], by simp (disch := first | assumption | omega) [u2_s, u2_a, u2_k, hj, hi], by rw [u2_s, if_neg (by omega)], by simp (disch := first | assumption | omega) [u2_s, u2_a, u2_k], TF_i _ _ (by decide)⟩
      rw [e_196_98]
      simp (disch := first | assumption | omega) [k_St, n_St, i_St, j_St, r_St, wI_St, wJ_St, k_S0, n_S0, i_S0, j_S0, r_S0, wI_S0, wJ_S0, cI_s, cJ_s, cV_s, nR_s, nQ_s, nQ_n, lt_s_, gd_T, gd_t, Option.map_some, lits, neg_mI, nI_add, pk_mul, nI_clamp, nI_eq, nI_leI, nI_ltI, nm_eq, mn_eq, nm_lt, mn_lt, nm_le, mn_le, m_eq, bI_0, bI_1, m0, h8, e1, e2, c]
  | n' + 1, i, I, h, hB, h8, hj => by
    obtain ⟨l1, _, _, l4⟩ := tL_w (T := T) hs hk (by decide)
    have e1 := d_192 (lx := lx) (z := z) (E := E) (n := n) (J := J) hM hB (show s + i ≤ m by omega)
    have e2 := s_194 (lx := lx) (T := T) (m := m) (q := s + i) h7 (St z E n K N R I J)
    have ki := l1 i (by omega)
    rw [decide_eq_true ⟨by omega, ki⟩] at e2
    have kb := kc_2 ki
    have eb : byt T m (s + i) = nI (T (s + i)) := by unfold byt; rw [if_pos (by omega)]
    have m0 := hM.1
    by_cases c : 3 ≤ i
    · obtain ⟨I', g1, g2, g4, g5, g6, g7⟩ := n_loop hM hb h7 hs hk b n' (i + 1) (u2 I 132 8 (nI (s + i + 1))) (by omega) (MB_t hB (TF_i (J := J) 8 _ (by decide))) (by rw [u2_s, Nat.add_assoc]) (by rw [u2_k _ _ _ _ _ (by decide), hj, Nat.min_eq_right c, Nat.min_eq_right (by omega)])
      refine ⟨I', ?_, g2, g4, by rw [g5, u2_k _ _ _ _ _ (by decide)], by rw [g6, u2_k _ _ _ _ _ (by decide)], TF_t (TF_i 8 _ (by decide)) g7⟩
      rw [e_196_98]
      simp (disch := first | assumption | omega) [k_St, n_St, i_St, j_St, r_St, wI_St, wJ_St, k_S0, n_S0, i_S0, j_S0, r_S0, wI_S0, wJ_S0, cI_s, cJ_s, cV_s, nR_s, nQ_s, nQ_n, lt_s_, gd_T, gd_t, Option.map_some, lits, neg_mI, nI_add, pk_mul, nI_clamp, nI_eq, nI_leI, nI_ltI, nm_eq, mn_eq, nm_lt, mn_lt, nm_le, mn_le, m_eq, bI_0, bI_1, m0, h8, e1, e2, c]
      rw [e_196_121]
      simp (disch := first | assumption | omega) [k_St, n_St, i_St, j_St, r_St, wI_St, wJ_St, k_S0, n_S0, i_S0, j_S0, r_S0, wI_S0, wJ_S0, cI_s, cJ_s, cV_s, nR_s, nQ_s, nQ_n, lt_s_, gd_T, gd_t, Option.map_some, lits, neg_mI, nI_add, pk_mul, nI_clamp, nI_eq, nI_leI, nI_ltI, nm_eq, mn_eq, nm_lt, mn_lt, nm_le, mn_le, m_eq, bI_0, bI_1, m0, h8]
      exact g1
    · obtain ⟨I', g1, g2, g4, g5, g6, g7⟩ := n_loop hM hb h7 hs hk b n' (i + 1) (u2 (u2 I 132 11 (nI (10 * vv T s i + T (s + i) - 48))) 132 8 (nI (s + i + 1))) (by omega) (MB_t hB (TF_t (TF_i (J := J) 11 _ (by decide)) (TF_i (J := J) 8 _ (by decide)))) (by rw [u2_s, Nat.add_assoc]) (by rw [u2_k _ _ _ _ _ (by decide), u2_s, Nat.min_eq_left (by omega)]; rfl)
      refine ⟨I', ?_, g2, g4, by rw [g5, u2_k _ _ _ _ _ (by decide), u2_k _ _ _ _ _ (by decide)], by rw [g6, u2_k _ _ _ _ _ (by decide), u2_k _ _ _ _ _ (by decide)], TF_t (TF_t (TF_i 11 _ (by decide)) (TF_i 8 _ (by decide))) g7⟩
      rw [Nat.min_eq_left (by omega)] at hj
      have e5 : nI (10 * vv T s i + T (s + i)) - nI 48 = nI (10 * vv T s i + T (s + i) - 48) := pk_sub (by omega)
      rw [e_196_98]
      rw [eb] at e1 e2
      simp (disch := first | assumption | omega) [k_St, n_St, i_St, j_St, r_St, wI_St, wJ_St, k_S0, n_S0, i_S0, j_S0, r_S0, wI_S0, wJ_S0, cI_s, cJ_s, cV_s, nR_s, nQ_s, nQ_n, lt_s_, gd_T, gd_t, Option.map_some, lits, neg_mI, nI_add, pk_mul, nI_clamp, nI_eq, nI_leI, nI_ltI, nm_eq, mn_eq, nm_lt, mn_lt, nm_le, mn_le, m_eq, bI_0, bI_1, m0, h8, e1, e2, c, hj, e5]
      rw [e_196_121]
      simp (disch := first | assumption | omega) [k_St, n_St, i_St, j_St, r_St, wI_St, wJ_St, k_S0, n_S0, i_S0, j_S0, r_S0, wI_S0, wJ_S0, cI_s, cJ_s, cV_s, nR_s, nQ_s, nQ_n, lt_s_, gd_T, gd_t, Option.map_some, lits, neg_mI, nI_add, pk_mul, nI_clamp, nI_eq, nI_leI, nI_ltI, nm_eq, mn_eq, nm_lt, mn_lt, nm_le, mn_le, m_eq, bI_0, bI_1, m0, h8, u2_s, u2_a, u2_k]
      exact g1
end RM1
