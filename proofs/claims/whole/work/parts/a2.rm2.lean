section RM2
variable {z : Nat} {E : aEt} {n : Nat} {K N : Nat → Nat} {R : Nat → Nat → Option Nat} {I : Nat → Nat → Int32} {J : Nat → Nat → Int64} {lx : List Value → aH → aO} {f s q m e : Nat} {T : Nat → Nat} {F G : Nat → Nat → Nat} {w r : Bool} {x : Exc Nat}
theorem tsk_s (h : q < m) (h2 : T q = 32) : tsk T m q = tsk T m (q + 1) := by
  unfold tsk
  rw [show m - q = (m - (q + 1)) + 1 by omega, rn]
  simp [h2]; omega
theorem tsk_n (h : ¬ (q < m ∧ T q = 32)) : tsk T m q = q := by
  unfold tsk
  by_cases c : q < m
  · have : ¬ T q = 32 := fun h' => h ⟨c, h'⟩
    rw [show m - q = (m - (q + 1)) + 1 by omega, rn]
    simp [this]
  · rw [show m - q = 0 by omega]; rfl
theorem byt_n {b : Nat} (hb : b < 256) (h : ∀ k, k < m → T k < 256) : byt T m q = nI b ↔ q < m ∧ T q = b := by
  unfold byt
  by_cases c : q < m
  · have := h q c
    rw [if_pos c, nI_eq (by omega) (by omega)]
    constructor
    · intro h; exact ⟨c, h⟩
    · intro h; exact h.2
  · rw [if_neg c, mn_eq (by omega) (by omega) (by omega)]
    constructor
    · intro h; exact absurd h id
    · intro h; exact c h.1
theorem byt_m (h : ∀ k, k < m → T k < 256) : byt T m q = mI 1 ↔ ¬ q < m := by
  unfold byt
  by_cases c : q < m
  · have := h q c
    rw [if_pos c, nm_eq (by omega) (by decide) (by decide)]
    constructor
    · intro h; exact absurd h id
    · intro h; exact h c
  · rw [if_neg c]; simp [c]
theorem d_196a (hM : Rm K N R f) (b : aB) : ∀ (n' q : Nat) (I : Nat → Nat → Int32), q + n' = m → MB I T m → I 132 8 = nI q → ∃ I' J', Am lx 196 6 [some (.ref (z + 132)), none, none] [] b (St z E n K N R I J) = some (none, St z E n K N R I' J') ∧ MTk I' J' T m (tsk T m q) ∧ TF I I' J J' := by
  intro n'
  induction n' with
  | zero =>
    intro q I h hB h8
    have hb := hB.1
    have h7 : ∀ k, k < m → T k < 256 := fun k hk => (hB.2.2 k hk).1
    have m0 := hM.1
    have et : tsk T m q = q := tsk_n (by omega)
    have e1 := d_192 (lx := lx) (z := z) (E := E) (n := n) (J := J) hM hB (show q ≤ m by omega)
    have hB1 : MB (u2 (u2 I 132 10 (nI q)) 132 9 (nI 0)) T m := MB_t hB (TF_t (TF_i (J := J) 10 _ (by decide)) (TF_i (J := J) 9 _ (by decide)))
    have e2 := d_192 (lx := lx) (z := z) (E := E) (n := n) (J := J) hM hB1 (show q ≤ m by omega)
    have eb : byt T m q = mI 1 := (byt_m h7).mpr (by omega)
    rw [eb] at e1 e2
    have tk : tK T m q = 0 := by unfold tK; rw [if_neg (by omega)]
    have tl : tLn T m q = 0 := by unfold tLn; rw [if_neg (by omega)]
    refine ⟨u2 (u2 (u2 I 132 10 (nI q)) 132 9 (nI 0)) 132 9 (nI 1), J, ?_, ?_, TF_t (TF_t (TF_i 10 _ (by decide)) (TF_i 9 _ (by decide))) (TF_i 9 _ (by decide))⟩
    · rw [e_196_6]
      simp (disch := first | assumption | omega) [k_St, n_St, i_St, j_St, r_St, wI_St, wJ_St, k_S0, n_S0, i_S0, j_S0, r_S0, wI_S0, wJ_S0, cI_s, cJ_s, cV_s, nR_s, nQ_s, nQ_n, lt_s_, gd_T, gd_t, Option.map_some, lits, neg_mI, nI_add, pk_mul, nI_clamp, nI_eq, nI_leI, nI_ltI, nm_eq, mn_eq, nm_lt, mn_lt, nm_le, mn_le, m_eq, bI_0, bI_1, m0, h8, e1, e2, u2_s, u2_a, u2_k]
    · rw [et]
      unfold MTk
      rw [tk, tl]
      refine ⟨by simp (disch := first | assumption | omega) [u2_s, u2_a, u2_k], by simp (disch := first | assumption | omega) [u2_s, u2_a, u2_k, srt], fun _ => by simp (disch := first | assumption | omega) [u2_s, u2_a, u2_k, h8], by simp, by simp, by omega⟩
  | succ n' ih =>
    intro q I h hB h8
    have hb := hB.1
    have h7 : ∀ k, k < m → T k < 256 := fun k hk => (hB.2.2 k hk).1
    have m0 := hM.1
    have hq : q < m := by omega
    have hT := h7 q hq
    have e1 := d_192 (lx := lx) (z := z) (E := E) (n := n) (J := J) hM hB (show q ≤ m by omega)
    have eb : byt T m q = nI (T q) := by unfold byt; rw [if_pos hq]
    by_cases c : T q = 32
    · obtain ⟨I', J', g1, g2, g3⟩ := ih (q + 1) (u2 I 132 8 (nI (q + 1))) (by omega) (MB_t hB (TF_i (J := J) 8 _ (by decide))) (u2_s _ _ _ _)
      refine ⟨I', J', ?_, by rw [tsk_s hq c]; exact g2, TF_t (TF_i 8 _ (by decide)) g3⟩
      rw [eb, c] at e1
      rw [e_196_6]
      simp (disch := first | assumption | omega) [k_St, n_St, i_St, j_St, r_St, wI_St, wJ_St, k_S0, n_S0, i_S0, j_S0, r_S0, wI_S0, wJ_S0, cI_s, cJ_s, cV_s, nR_s, nQ_s, nQ_n, lt_s_, gd_T, gd_t, Option.map_some, lits, neg_mI, nI_add, pk_mul, nI_clamp, nI_eq, nI_leI, nI_ltI, nm_eq, mn_eq, nm_lt, mn_lt, nm_le, mn_le, m_eq, bI_0, bI_1, m0, h8, e1]
      exact g1
    · have et : tsk T m q = q := tsk_n (fun h => c h.2)
      have fr1 : TF I (u2 (u2 I 132 10 (nI q)) 132 9 (nI 0)) J J := TF_t (TF_i 10 _ (by decide)) (TF_i 9 _ (by decide))
      have hB1 : MB (u2 (u2 I 132 10 (nI q)) 132 9 (nI 0)) T m := MB_t hB fr1
      have e2 := d_192 (lx := lx) (z := z) (E := E) (n := n) (J := J) hM hB1 (show q ≤ m by omega)
      have e3 := s_193 (lx := lx) (T := T) (m := m) (q := q) h7 (St z E n K N R (u2 (u2 I 132 10 (nI q)) 132 9 (nI 0)) J)
      have e4 := s_194 (lx := lx) (T := T) (m := m) (q := q) h7 (St z E n K N R (u2 (u2 I 132 10 (nI q)) 132 9 (nI 0)) J)
      rw [eb] at e1 e2 e3 e4
      have i8 : u2 (u2 I 132 10 (nI q)) 132 9 (nI 0) 132 8 = nI q := by simp (disch := first | assumption | omega) [u2_s, u2_a, u2_k, h8]
      rw [et]
      by_cases c1 : kc (T q) = 1
      · rw [decide_eq_true ⟨hq, c1⟩] at e3
        obtain ⟨I', J', g1, g2, g3, g4, g5, g6, g7⟩ := w_loop (lx := lx) (z := z) (E := E) (n := n) hM hb h7 hq c1 b (tLn T m q) 0 (u2 (u2 I 132 10 (nI q)) 132 9 (nI 0)) (u2 J 132 15 0) (by omega) hB1 (by rw [i8]; rfl) (by rw [u2_s]; rfl)
        refine ⟨I', J', ?_, ?_, TF_t (TF_t fr1 (TF_j 0)) g7⟩
        · rw [e_196_6]
          simp (disch := first | assumption | omega) [k_St, n_St, i_St, j_St, r_St, wI_St, wJ_St, k_S0, n_S0, i_S0, j_S0, r_S0, wI_S0, wJ_S0, cI_s, cJ_s, cV_s, nR_s, nQ_s, nQ_n, lt_s_, gd_T, gd_t, Option.map_some, lits, neg_mI, nI_add, pk_mul, nI_clamp, nI_eq, nI_leI, nI_ltI, nm_eq, mn_eq, nm_lt, mn_lt, nm_le, mn_le, m_eq, bI_0, bI_1, m0, h8, e1, e2, e3, u2_s, u2_a, u2_k, c]
          exact g1
        · have p10 : I' 132 10 = nI q := by rw [g6]; simp (disch := first | assumption | omega) [u2_s, u2_a, u2_k]
          rw [u2_s] at g5
          by_cases c8 : 8 < tLn T m q
          · have tk : tK T m q = 4 := by unfold tK; rw [if_pos hq, if_pos (Or.inl ⟨c1, c8⟩)]
            rw [if_pos c8] at g5
            unfold MTk; rw [tk]
            exact ⟨p10, g5, fun h => absurd rfl h, by simp, by simp, by omega⟩
          · have tk : tK T m q = 1 := by unfold tK; rw [if_pos hq, if_neg (by omega)]; exact c1
            rw [if_neg c8] at g5
            rw [Nat.min_eq_left (by omega)] at g4
            unfold MTk; rw [tk]
            exact ⟨p10, g5, fun _ => g2, fun _ => ⟨g3, g4⟩, by simp, by omega⟩
      · rw [decide_eq_false (fun h => c1 h.2)] at e3
        by_cases c2 : kc (T q) = 2
        · rw [decide_eq_true ⟨hq, c2⟩] at e4
          obtain ⟨I', g1, g2, g4, g5, g6, g7⟩ := n_loop (lx := lx) (z := z) (E := E) (n := n) (J := J) hM hb h7 hq c2 b (tLn T m q) 0 (u2 (u2 (u2 I 132 10 (nI q)) 132 9 (nI 0)) 132 11 (nI 0)) (by omega) (MB_t hB1 (TF_i (J := J) 11 _ (by decide))) (by rw [u2_k _ _ _ _ _ (by decide), i8]; rfl) (by rw [u2_s]; rfl)
          refine ⟨I', J, ?_, ?_, TF_t (TF_t fr1 (TF_i 11 _ (by decide))) g7⟩
          · rw [e_196_6]
            simp (disch := first | assumption | omega) [k_St, n_St, i_St, j_St, r_St, wI_St, wJ_St, k_S0, n_S0, i_S0, j_S0, r_S0, wI_S0, wJ_S0, cI_s, cJ_s, cV_s, nR_s, nQ_s, nQ_n, lt_s_, gd_T, gd_t, Option.map_some, lits, neg_mI, nI_add, pk_mul, nI_clamp, nI_eq, nI_leI, nI_ltI, nm_eq, mn_eq, nm_lt, mn_lt, nm_le, mn_le, m_eq, bI_0, bI_1, m0, h8, e1, e2, e3, e4, u2_s, u2_a, u2_k, c]
            exact g1
          · have p10 : I' 132 10 = nI q := by rw [g6]; simp (disch := first | assumption | omega) [u2_s, u2_a, u2_k]
            rw [u2_k _ _ _ _ _ (by decide), u2_s] at g5
            by_cases c8 : 3 < tLn T m q
            · have tk : tK T m q = 4 := by unfold tK; rw [if_pos hq, if_pos (Or.inr ⟨c2, c8⟩)]
              rw [if_pos c8] at g5
              unfold MTk; rw [tk]
              exact ⟨p10, g5, fun h => absurd rfl h, by simp, by simp, by omega⟩
            · have tk : tK T m q = 2 := by unfold tK; rw [if_pos hq, if_neg (by omega)]; exact c2
              rw [if_neg c8] at g5
              rw [Nat.min_eq_left (by omega)] at g4
              unfold MTk; rw [tk]
              exact ⟨p10, g5, fun _ => g2, by simp, fun _ => g4, by omega⟩
        · rw [decide_eq_false (fun h => c2 h.2)] at e4
          have tl : tLn T m q = 1 := by
            have := kc_b (T q)
            unfold tLn; rw [if_pos hq, if_neg (by omega)]
          have tk0 : tK T m q = kc (T q) := by unfold tK; rw [if_pos hq, if_neg (by omega)]
          by_cases c3 : T q = 59
          · have tk : tK T m q = 3 := by rw [tk0, c3]; decide
            refine ⟨u2 (u2 (u2 (u2 I 132 10 (nI q)) 132 9 (nI 0)) 132 9 (nI 4)) 132 8 (nI (q + 1)), J, ?_, ?_, TF_t (TF_t fr1 (TF_i 9 _ (by decide))) (TF_i 8 _ (by decide))⟩
            · rw [c3] at e1 e2 e3 e4
              rw [e_196_6]
              simp (disch := first | assumption | omega) [k_St, n_St, i_St, j_St, r_St, wI_St, wJ_St, k_S0, n_S0, i_S0, j_S0, r_S0, wI_S0, wJ_S0, cI_s, cJ_s, cV_s, nR_s, nQ_s, nQ_n, lt_s_, gd_T, gd_t, Option.map_some, lits, neg_mI, nI_add, pk_mul, nI_clamp, nI_eq, nI_leI, nI_ltI, nm_eq, mn_eq, nm_lt, mn_lt, nm_le, mn_le, m_eq, bI_0, bI_1, m0, h8, e1, e2, e3, e4, u2_s, u2_a, u2_k]
            · unfold MTk; rw [tk, tl]
              exact ⟨by simp (disch := first | assumption | omega) [u2_s, u2_a, u2_k], by simp (disch := first | assumption | omega) [u2_s, u2_a, u2_k, srt], fun _ => by simp (disch := first | assumption | omega) [u2_s, u2_a, u2_k], by simp, by simp, by omega⟩
          · have tk : tK T m q = 4 := by
              rw [tk0]
              unfold kc at c1 c2 ⊢
              revert c1 c2
              (repeat' split) <;> omega
            refine ⟨u2 (u2 I 132 10 (nI q)) 132 9 (nI 0), J, ?_, ?_, fr1⟩
            · rw [e_196_6]
              simp (disch := first | assumption | omega) [k_St, n_St, i_St, j_St, r_St, wI_St, wJ_St, k_S0, n_S0, i_S0, j_S0, r_S0, wI_S0, wJ_S0, cI_s, cJ_s, cV_s, nR_s, nQ_s, nQ_n, lt_s_, gd_T, gd_t, Option.map_some, lits, neg_mI, nI_add, pk_mul, nI_clamp, nI_eq, nI_leI, nI_ltI, nm_eq, mn_eq, nm_lt, mn_lt, nm_le, mn_le, m_eq, bI_0, bI_1, m0, h8, e1, e2, e3, e4, u2_s, u2_a, u2_k, c, c3]
            · unfold MTk; rw [tk]
              exact ⟨by simp (disch := first | assumption | omega) [u2_s, u2_a, u2_k], by simp (disch := first | assumption | omega) [u2_s, u2_a, u2_k, srt], fun h => absurd rfl h, by simp, by simp, by omega⟩
theorem d_196 {k : Nat} (hM : Rm K N R f) (hB : MB I T m) (h9 : I 132 9 = nI k) (hk : k < 5) (h8 : I 132 8 = nI q) (hq : q ≤ m) : ∃ I' J', Ca lx 196 [.ref (z + 132)] (St z E n K N R I J) = some (none, St z E n K N R I' J') ∧ MTk I' J' T m (tsk T m q) ∧ TF I I' J J' := by
  obtain ⟨I', J', g1, g2, g3⟩ := d_196a (lx := lx) (z := z) (E := E) (n := n) (J := J) hM (0, 0) (m - q) q I (by omega) hB h8
  have m0 := hM.1
  refine ⟨I', J', ?_, g2, g3⟩
  rw [f_196]
  simp (disch := first | assumption | omega) [k_St, n_St, i_St, j_St, r_St, wI_St, wJ_St, k_S0, n_S0, i_S0, j_S0, r_S0, wI_S0, wJ_S0, cI_s, cJ_s, cV_s, nR_s, nQ_s, nQ_n, lt_s_, gd_T, gd_t, Option.map_some, lits, neg_mI, nI_add, pk_mul, nI_clamp, nI_eq, nI_leI, nI_ltI, nm_eq, mn_eq, nm_lt, mn_lt, nm_le, mn_le, m_eq, bI_0, bI_1, m0, h9, if_neg]
  exact g1
/-! what stands in the reference while it reads -/
def FW (I : Nat → Nat → Int32) (f : Nat) (F : Nat → Nat → Nat) (w : Bool) : Prop := (∀ j, j < 10 → j ≠ 6 → I f j = nI (F 0 j)) ∧ (I f 6 = if w then nI (F 0 6) else mI 1) ∧ (∀ c, c < 64 → I (f + 1) c = nI (F 1 c)) ∧ (∀ d, d < F 0 7 → I (f + 2) d = nI (F 2 d)) ∧ (∀ g, g < F 0 8 → I (f + 3) g = nI (F 3 g)) ∧ (∀ g, g < F 0 8 → I (f + 4) g = nI (F 4 g)) ∧ (∀ g k, g < F 0 8 → k ≤ F 4 g → I (f + 5) (9 * g + k) = nI (F 5 (g * 9 + k))) ∧ (∀ k, k < F 0 9 → I (f + 6) k = nI (F 6 k) ∧ I (f + 7) k = nI (F 7 k) ∧ I (f + 8) k = nI (F 8 k))
theorem FW_F (h : FW I f F true) : FI I f F := ⟨fun j hj => by
  by_cases c : j = 6
  · rw [c]; exact h.2.1
  · exact h.1 j hj c, h.2.2⟩
def MNm (I : Nat → Nat → Int32) (J : Nat → Nat → Int64) (f : Nat) (T : Nat → Nat) (m c : Nat) (G : Nat → Nat → Nat) : Prop := I f 10 = nI c ∧ ∀ k, k < c → J (f + 9) k = lN (w5 T m (G 2 k)) ∧ I (f + 10) k = nI (G 3 k) ∧ I (f + 11) k = nI (G 4 k)
def MOk (I : Nat → Nat → Int32) (J : Nat → Nat → Int64) (f : Nat) (T : Nat → Nat) (m : Nat) (F : Nat → Nat → Nat) (w r : Bool) (G : Nat → Nat → Nat) (s : Nat) : Prop := I 132 12 = nI 0 ∧ MTk I J T m s ∧ FW I f F w ∧ I f 11 = bI r ∧ MNm I J f T m (F 0 7 + F 0 8) G
def MBd (I : Nat → Nat → Int32) (f e q : Nat) : Prop := 1 ≤ e ∧ e < 9 ∧ I 132 9 = nI 5 ∧ I 132 12 = nI e ∧ I 132 13 = nI q ∧ ∃ c, c ≤ 8 ∧ I f 10 = nI c
def MS (I : Nat → Nat → Int32) (J : Nat → Nat → Int64) (f : Nat) (T : Nat → Nat) (m : Nat) (F : Nat → Nat → Nat) (w r : Bool) (G : Nat → Nat → Nat) (x : Exc Nat) : Prop := match x with
  | .ok s => MOk I J f T m F w r G s
  | .error v => MBd I f v.1 v.2
/-- what a part of a line may change -/
def MF (f : Nat) (I I' : Nat → Nat → Int32) (J J' : Nat → Nat → Int64) : Prop := (∀ a, a ≠ 132 → ¬ (f ≤ a ∧ a ≤ f + 11) → I' a = I a) ∧ (∀ k, k < 8 ∨ 14 < k → I' 132 k = I 132 k) ∧ (∀ a, a ≠ 132 → a ≠ f + 9 → J' a = J a) ∧ (∀ k, k ≠ 15 → J' 132 k = J 132 k)
theorem MF_r : MF f I I J J := ⟨fun _ _ _ => rfl, fun _ _ => rfl, fun _ _ _ => rfl, fun _ _ => rfl⟩
theorem MF_t {I1 I2 : Nat → Nat → Int32} {J1 J2 : Nat → Nat → Int64} (h : MF f I I1 J J1) (h2 : MF f I1 I2 J1 J2) : MF f I I2 J J2 :=
  ⟨fun a ha hb => (h2.1 a ha hb).trans (h.1 a ha hb), fun k hk => (h2.2.1 k hk).trans (h.2.1 k hk), fun a ha hb => (h2.2.2.1 a ha hb).trans (h.2.2.1 a ha hb), fun k hk => (h2.2.2.2 k hk).trans (h.2.2.2 k hk)⟩
theorem TF_F {I1 : Nat → Nat → Int32} {J1 : Nat → Nat → Int64} (h : TF I I1 J J1) : MF f I I1 J J1 :=
  ⟨fun a ha _ => h.1 a ha, fun k hk => h.2.1 k (by omega), fun a ha _ => h.2.2.1 a ha, h.2.2.2⟩
theorem MB_f {I1 : Nat → Nat → Int32} {J1 : Nat → Nat → Int64} (h : MB I T m) (h2 : MF f I I1 J J1) (hf : 147 ≤ f) : MB I1 T m :=
  ⟨h.1, by rw [h2.2.1 7 (by decide)]; exact h.2.1, fun k hk => by rw [h2.1 133 (by decide) (by omega)]; exact h.2.2 k hk⟩
theorem FW_c {I1 : Nat → Nat → Int32} (h : FW I f F w) (e : ∀ a, f ≤ a → a ≤ f + 8 → I1 a = I a) : FW I1 f F w := by
  unfold FW
  rw [e f (by omega) (by omega), e (f + 1) (by omega) (by omega), e (f + 2) (by omega) (by omega), e (f + 3) (by omega) (by omega), e (f + 4) (by omega) (by omega), e (f + 5) (by omega) (by omega), e (f + 6) (by omega) (by omega), e (f + 7) (by omega) (by omega), e (f + 8) (by omega) (by omega)]
  exact h
theorem kk_196 (hM : Rm K N R f) (hB : MB I T m) (h : MOk I J f T m F w r G s) (hk : tK T m s = 1 ∨ tK T m s = 2 ∨ tK T m s = 3) : ∃ I' J', Ca lx 196 [.ref (z + 132)] (St z E n K N R I J) = some (none, St z E n K N R I' J') ∧ MOk I' J' f T m F w r G (adv T m s) ∧ MF f I I' J J' := by
  obtain ⟨h1, ⟨t1, t2, t3, t4, t5, ts⟩, h3, h4, h5, h6⟩ := h
  have hf := hM.2.2.2.2.2.1
  have hb := hB.1
  have ll := tL_le (T := T) ts
  obtain ⟨I', J', g1, g2, g3⟩ := d_196 (lx := lx) (z := z) (E := E) (n := n) (J := J) hM hB t2 (by unfold srt; split <;> omega) (t3 (by omega)) ll
  refine ⟨I', J', g1, ⟨by rw [g3.2.1 12 (by decide)]; exact h1, g2, FW_c h3 (fun a a1 a2 => g3.1 a (by omega)), by rw [g3.1 f (by omega)]; exact h4, by rw [g3.1 f (by omega)]; exact h5, ?_⟩, TF_F g3⟩
  rw [g3.2.2.1 (f + 9) (by omega), g3.1 (f + 10) (by omega), g3.1 (f + 11) (by omega)]; exact h6
theorem b_196 (hM : Rm K N R f) (h : MBd I f e q) : Ca lx 196 [.ref (z + 132)] (St z E n K N R I J) = some (none, (St z E n K N R I J)) := by
  have m0 := hM.1
  have h9 := h.2.2.1
  rw [f_196]
  simp (disch := first | assumption | omega) [k_St, n_St, i_St, j_St, r_St, wI_St, wJ_St, k_S0, n_S0, i_S0, j_S0, r_S0, wI_S0, wJ_S0, cI_s, cJ_s, cV_s, nR_s, nQ_s, nQ_n, lt_s_, gd_T, gd_t, Option.map_some, lits, neg_mI, nI_add, pk_mul, nI_clamp, nI_eq, nI_leI, nI_ltI, nm_eq, mn_eq, nm_lt, mn_lt, nm_le, mn_le, m_eq, bI_0, bI_1, m0, h9]
theorem kk_197 (hM : Rm K N R f) (h : MOk I J f T m F w r G s) (hn : FCn F) (he : 1 ≤ e) (he2 : e < 9) : ∃ I', Ca lx 197 [.ref (z + 132), .int (nI e)] (St z E n K N R I J) = some (none, St z E n K N R I' J) ∧ MBd I' f e s ∧ MF f I I' J J := by
  obtain ⟨h1, ⟨t1, t2, t3, t4, t5, ts⟩, h3, h4, h5, h6⟩ := h
  have m0 := hM.1
  have hf := hM.2.2.2.2.2.1
  obtain ⟨_, _, n7, n8, _⟩ := hn
  have lk := tK_le T m s
  have k5 : srt (tK T m s) < 5 := by unfold srt; split <;> omega
  refine ⟨u2 (u2 (u2 I 132 12 (nI e)) 132 13 (nI s)) 132 9 (nI 5), ?_, ⟨he, he2, by simp (disch := first | assumption | omega) [u2_s, u2_a, u2_k], by simp (disch := first | assumption | omega) [u2_s, u2_a, u2_k], by simp (disch := first | assumption | omega) [u2_s, u2_a, u2_k], F 0 7 + F 0 8, by omega, by simp (disch := first | assumption | omega) [u2_s, u2_a, u2_k, h5]⟩, ⟨fun a ha _ => by simp (disch := first | assumption | omega) [u2_s, u2_a, u2_k], fun k hk => by simp (disch := first | assumption | omega) [u2_s, u2_a, u2_k], fun _ _ _ => rfl, fun _ _ => rfl⟩⟩
  rw [f_197]
  simp (disch := first | assumption | omega) [k_St, n_St, i_St, j_St, r_St, wI_St, wJ_St, k_S0, n_S0, i_S0, j_S0, r_S0, wI_S0, wJ_S0, cI_s, cJ_s, cV_s, nR_s, nQ_s, nQ_n, lt_s_, gd_T, gd_t, Option.map_some, lits, neg_mI, nI_add, pk_mul, nI_clamp, nI_eq, nI_leI, nI_ltI, nm_eq, mn_eq, nm_lt, mn_lt, nm_le, mn_le, m_eq, bI_0, bI_1, m0, t2, if_neg, u2_s, u2_a, u2_k, t1]
theorem b_197 (hM : Rm K N R f) (h : MBd I f e q) (v : Int32) : Ca lx 197 [.ref (z + 132), .int v] (St z E n K N R I J) = some (none, (St z E n K N R I J)) := by
  have m0 := hM.1
  have h9 := h.2.2.1
  rw [f_197]
  simp (disch := first | assumption | omega) [k_St, n_St, i_St, j_St, r_St, wI_St, wJ_St, k_S0, n_S0, i_S0, j_S0, r_S0, wI_S0, wJ_S0, cI_s, cJ_s, cV_s, nR_s, nQ_s, nQ_n, lt_s_, gd_T, gd_t, Option.map_some, lits, neg_mI, nI_add, pk_mul, nI_clamp, nI_eq, nI_leI, nI_ltI, nm_eq, mn_eq, nm_lt, mn_lt, nm_le, mn_le, m_eq, bI_0, bI_1, m0, h9]
/-- the packed text -/
theorem s_195a {k : Nat} (hE : EOk E) (hk : k < 12) (b : aB) : ∀ n' i, i + n' = twl k → Am lx 195 5 [some (.ref (E.1 k)), some (.long (lN (p5 (tw k) 0 i))), none, some (.int (nI i))] [] b (St z E n K N R I J) = some (some (.long (lN (p5 (tw k) 0 (twl k)))), (St z E n K N R I J))
  | 0, i, h => by
    have hl := tw_l k hk
    have sn := q_903 (lx := lx) (z := z) (n := n) (K := K) (N := N) (R := R) (I := I) (J := J) hE hk
    have hi : i = twl k := by omega
    rw [e_195_5, hi]
    simp (disch := first | assumption | omega) [k_St, n_St, i_St, j_St, r_St, wI_St, wJ_St, k_S0, n_S0, i_S0, j_S0, r_S0, wI_S0, wJ_S0, cI_s, cJ_s, cV_s, nR_s, nQ_s, nQ_n, lt_s_, gd_T, gd_t, Option.map_some, lits, neg_mI, nI_add, pk_mul, nI_clamp, nI_eq, nI_leI, nI_ltI, nm_eq, mn_eq, nm_lt, mn_lt, nm_le, mn_le, m_eq, bI_0, bI_1, sn, if_pos]
  | n' + 1, i, h => by
    have hl := tw_l k hk
    have sn := q_903 (lx := lx) (z := z) (n := n) (K := K) (N := N) (R := R) (I := I) (J := J) hE hk
    have s4 := q_904 (lx := lx) (z := z) (n := n) (K := K) (N := N) (R := R) (I := I) (J := J) hE hk (show i < twl k by omega)
    have kb := kc_1 (tw_k k hk i (by omega))
    have ih := s_195a hE hk b n' (i + 1) (by omega)
    have e5 := lt5 (x := p5 (tw k) 0 i) kb.1 kb.2
    have ep : 32 * p5 (tw k) 0 i + (tw k i - 96) = p5 (tw k) 0 (i + 1) := by rw [p5, Nat.zero_add]
    rw [ep] at e5
    rw [e_195_5]
    simp (disch := first | assumption | omega) [k_St, n_St, i_St, j_St, r_St, wI_St, wJ_St, k_S0, n_S0, i_S0, j_S0, r_S0, wI_S0, wJ_S0, cI_s, cJ_s, cV_s, nR_s, nQ_s, nQ_n, lt_s_, gd_T, gd_t, Option.map_some, lits, neg_mI, nI_add, pk_mul, nI_clamp, nI_eq, nI_leI, nI_ltI, nm_eq, mn_eq, nm_lt, mn_lt, nm_le, mn_le, m_eq, bI_0, bI_1, sn, s4, if_neg, e5]
    exact ih
theorem s_195 {k : Nat} (hE : EOk E) (hk : k < 12) : Ca lx 195 [.ref (E.1 k)] (St z E n K N R I J) = some (some (.long (lN (p5 (tw k) 0 (twl k)))), (St z E n K N R I J)) := by
  have := s_195a (lx := lx) (z := z) (n := n) (K := K) (N := N) (R := R) (I := I) (J := J) hE hk (0, 0) (twl k) 0 (by omega)
  rw [f_195]
  exact this
theorem p5_63 {U : Nat → Nat} {s l : Nat} (hl : l ≤ 8) (h : ∀ i, i < l → U (s + i) ≤ 122) : p5 U s l < 2 ^ 63 := by
  have a := p5_lt (T := U) (s := s) l h
  have b : 32 ^ l ≤ 32 ^ 8 := Nat.pow_le_pow_right (by decide) hl
  have c : (32 : Nat) ^ 8 < 2 ^ 63 := by decide
  omega
theorem w5_63 (h : tK T m s = 1) : w5 T m s < 2 ^ 63 := by
  have := tK_c h (Or.inl rfl)
  exact p5_63 (this.2.2.2.1 rfl) (fun i hi => (kc_1 (this.2.2.2.2.2 i hi)).2)
theorem d_198 {k : Nat} (hM : Rm K N R f) (hE : EOk E) (hk : k < 12) (hT : MTk I J T m s) : Ca lx 198 [.ref (z + 132), .ref (E.1 k)] (St z E n K N R I J) = some (some (.int (bI (isW T m s k))), (St z E n K N R I J)) := by
  obtain ⟨t1, t2, t3, t4, t5, ts⟩ := hT
  have m0 := hM.1
  have lk := tK_le T m s
  have sn := s_195 (lx := lx) (z := z) (n := n) (K := K) (N := N) (R := R) (I := I) (J := J) hE hk
  have hl := tw_l k hk
  rw [f_198]
  by_cases c : tK T m s = 1
  · obtain ⟨a1, a2⟩ := t4 c
    have t2' : I 132 9 = nI 2 := by rw [t2, c]; rfl
    have lq : lN (w5 T m s) = lN (p5 (tw k) 0 (twl k)) ↔ w5 T m s = p5 (tw k) 0 (twl k) := pk_lEQ (w5_63 c) (p5_63 hl.2 (fun i hi => by rw [Nat.zero_add]; exact (kc_1 (tw_k k hk i hi)).2))
    have iw := isW_5 (T := T) (m := m) (s := s) hk c
    by_cases c2 : isW T m s k = true
    · have : lN (w5 T m s) = lN (p5 (tw k) 0 (twl k)) := lq.mpr (iw.mp c2)
      rw [c2]
      simp (disch := first | assumption | omega) [k_St, n_St, i_St, j_St, r_St, wI_St, wJ_St, k_S0, n_S0, i_S0, j_S0, r_S0, wI_S0, wJ_S0, cI_s, cJ_s, cV_s, nR_s, nQ_s, nQ_n, lt_s_, gd_T, gd_t, Option.map_some, lits, neg_mI, nI_add, pk_mul, nI_clamp, nI_eq, nI_leI, nI_ltI, nm_eq, mn_eq, nm_lt, mn_lt, nm_le, mn_le, m_eq, bI_0, bI_1, m0, t2', sn, a2, lgc, this] <;> rfl
    · have c2' : isW T m s k = false := by simpa using c2
      have : ¬ lN (w5 T m s) = lN (p5 (tw k) 0 (twl k)) := fun h => c2 (iw.mpr (lq.mp h))
      rw [c2']
      simp (disch := first | assumption | omega) [k_St, n_St, i_St, j_St, r_St, wI_St, wJ_St, k_S0, n_S0, i_S0, j_S0, r_S0, wI_S0, wJ_S0, cI_s, cJ_s, cV_s, nR_s, nQ_s, nQ_n, lt_s_, gd_T, gd_t, Option.map_some, lits, neg_mI, nI_add, pk_mul, nI_clamp, nI_eq, nI_leI, nI_ltI, nm_eq, mn_eq, nm_lt, mn_lt, nm_le, mn_le, m_eq, bI_0, bI_1, m0, t2', sn, a2, lgc, this] <;> rfl
  · have e2 : isW T m s k = false := by simp [isW, c]
    have k5 : srt (tK T m s) < 5 ∧ srt (tK T m s) ≠ 2 := by unfold srt; split <;> omega
    rw [e2]
    simp (disch := first | assumption | omega) [k_St, n_St, i_St, j_St, r_St, wI_St, wJ_St, k_S0, n_S0, i_S0, j_S0, r_S0, wI_S0, wJ_S0, cI_s, cJ_s, cV_s, nR_s, nQ_s, nQ_n, lt_s_, gd_T, gd_t, Option.map_some, lits, neg_mI, nI_add, pk_mul, nI_clamp, nI_eq, nI_leI, nI_ltI, nm_eq, mn_eq, nm_lt, mn_lt, nm_le, mn_le, m_eq, bI_0, bI_1, m0, t2, if_neg, k5] <;> rfl
theorem b_198 (hM : Rm K N R f) (h : MBd I f e q) (a : Nat) : Ca lx 198 [.ref (z + 132), .ref a] (St z E n K N R I J) = some (some (.int (bI false)), (St z E n K N R I J)) := by
  have m0 := hM.1
  have h9 := h.2.2.1
  rw [f_198]
  simp (disch := first | assumption | omega) [k_St, n_St, i_St, j_St, r_St, wI_St, wJ_St, k_S0, n_S0, i_S0, j_S0, r_S0, wI_S0, wJ_S0, cI_s, cJ_s, cV_s, nR_s, nQ_s, nQ_n, lt_s_, gd_T, gd_t, Option.map_some, lits, neg_mI, nI_add, pk_mul, nI_clamp, nI_eq, nI_leI, nI_ltI, nm_eq, mn_eq, nm_lt, mn_lt, nm_le, mn_le, m_eq, bI_0, bI_1, m0, h9] <;> rfl
end RM2
