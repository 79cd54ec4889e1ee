section RD3
variable {z : Nat} {E : aEt} {n : Nat} {K N : Nat → Nat} {R : Nat → Nat → Option Nat} {I : Nat → Nat → Int32} {J : Nat → Nat → Int64} {lx : List Value → aH → aO} {p s q m e : Nat} {T : Nat → Nat} {F G : Nat → Nat → Nat} {w r : Bool}
def CNt (I : Nat → Nat → Int32) (p : Nat) : Prop := ∃ a4 a5 a7 a8 a9, a4 ≤ 8 ∧ a5 ≤ 8 ∧ a7 ≤ 4 ∧ a8 ≤ 4 ∧ a9 ≤ 6 ∧ I p 4 = nI a4 ∧ I p 5 = nI a5 ∧ I p 7 = nI a7 ∧ I p 8 = nI a8 ∧ I p 9 = nI a9
def FCn (F : Nat → Nat → Nat) : Prop := F 0 4 ≤ 8 ∧ F 0 5 ≤ 8 ∧ F 0 7 ≤ 4 ∧ F 0 8 ≤ 4 ∧ F 0 9 ≤ 6
def COk (I : Nat → Nat → Int32) (J : Nat → Nat → Int64) (p : Nat) (T : Nat → Nat) (m : Nat) (F : Nat → Nat → Nat) (w r : Bool) (G : Nat → Nat → Nat) (s : Nat) : Prop := I 1 1 = nI 0 ∧ I 1 4 = bI (decide (0 < F 9 0)) ∧ I 1 5 = bI w ∧ I 1 6 = bI r ∧ I 2 1 = nI 0 ∧ CTk I T m s ∧ PI I J p F ∧ (∀ d, d < F 0 7 → J 13 d = lN (w8 T m (G 0 d))) ∧ (∀ g, g < F 0 8 → J 14 g = lN (w8 T m (G 1 g)))
def CBd (I : Nat → Nat → Int32) (p : Nat) (T : Nat → Nat) (m e q : Nat) : Prop := 1 ≤ e ∧ e < 9 ∧ I 1 1 = nI e ∧ I 1 2 = nI q ∧ I 2 1 = nI 0 ∧ (∃ s, CTk I T m s) ∧ CNt I p
def FRs (I I' : Nat → Nat → Int32) : Prop := ∀ a, a ≠ 1 → a ≠ 2 → I' a = I a
def CS (I : Nat → Nat → Int32) (J : Nat → Nat → Int64) (p : Nat) (T : Nat → Nat) (m : Nat) (F : Nat → Nat → Nat) (w r : Bool) (G : Nat → Nat → Nat) (x : Exc Nat) : Prop := match x with
  | .ok s => COk I J p T m F w r G s
  | .error v => CBd I p T m v.1 v.2
theorem FRs_r : FRs I I := fun _ _ _ => rfl
theorem FRs_t {I1 I2 : Nat → Nat → Int32} (h : FRs I I1) (h2 : FRs I1 I2) : FRs I I2 := fun a a1 a2 => (h2 a a1 a2).trans (h a a1 a2)
theorem CB_f {I1 : Nat → Nat → Int32} (h : CB I T m) (h2 : FRs I I1) : CB I1 T m := ⟨h.1, fun k hk => by rw [h2 3 (by decide) (by decide)]; exact h.2 k hk⟩
theorem kk_80 (hR : Rd K N R p) (hB : CB I T m) (h : COk I J p T m F w r G s) : ∃ I', Ca lx 80 [.ref (z + 2)] (St z E n K N R I J) = some (none, St z E n K N R I' J) ∧ COk I' J p T m F w r G (adv T m s) ∧ FRs I I' := by
  obtain ⟨h1, h2, h3, h4, h5, ⟨t2, t3, t4, t5, ts⟩, h7, h8, h9⟩ := h
  obtain ⟨I', e1, e2, e3, e4⟩ := c_80 (lx := lx) (z := z) (E := E) (n := n) (J := J) hR hB t2 t3 t4 (tL_le ts)
  have hp := hR.2.2.2.2.2.2.2.2.2.2.2.2.2.2
  refine ⟨I', e1, ⟨?_, ?_, ?_, ?_, ?_, e2, ?_, h8, h9⟩, fun a _ ha => e3 a ha⟩
  · rw [e3 1 (by decide)]; exact h1
  · rw [e3 1 (by decide)]; exact h2
  · rw [e3 1 (by decide)]; exact h3
  · rw [e3 1 (by decide)]; exact h4
  · rw [e4 1 (by decide)]; exact h5
  · exact PI_c h7 (fun b b1 b2 => e3 b (by omega)) rfl
theorem kk_59 (hR : Rd K N R p) (h : COk I J p T m F w r G s) (hn : FCn F) (he : 1 ≤ e) (he2 : e < 9) (q : Nat) : ∃ I', Ca lx 59 [.ref (z + 1), .int (nI e), .int (nI q)] (St z E n K N R I J) = some (none, St z E n K N R I' J) ∧ CBd I' p T m e q ∧ FRs I I' := by
  obtain ⟨d0, d1, d2, d3, d4, d5, d6, d7, d8, d9, d10, d11, d12, hP, hp⟩ := hR
  obtain ⟨h1, h2, h3, h4, h5, ⟨t2, t3, t4, t5, ts⟩, ⟨q0, _⟩, h8, h9⟩ := h
  obtain ⟨n1, n2, n3, n4, n5⟩ := hn
  refine ⟨u2 (u2 I 1 1 (nI e)) 1 2 (nI q), ?_, ⟨he, he2, ?_, ?_, ?_, ⟨s, ?_, ?_, ?_, ?_, ts⟩, F 0 4, F 0 5, F 0 7, F 0 8, F 0 9, n1, n2, n3, n4, n5, ?_, ?_, ?_, ?_, ?_⟩, ?_⟩
  · rw [f_59]
    simp (disch := first | assumption | omega) [k_St, n_St, i_St, j_St, r_St, wI_St, wJ_St, k_S0, n_S0, i_S0, j_S0, r_S0, wI_S0, wJ_S0, cI_s, cJ_s, cV_s, nR_s, nQ_s, nQ_n, lt_s_, gd_T, gd_t, Option.map_some, lits, neg_mI, nI_add, pk_mul, nI_clamp, nI_eq, nI_leI, nI_ltI, nm_eq, mn_eq, nm_lt, mn_lt, nm_le, mn_le, m_eq, bI_0, bI_1, d0, h1]
  · simp (disch := first | assumption | omega) [u2_s, u2_a, u2_k]
  · simp (disch := first | assumption | omega) [u2_s, u2_a, u2_k]
  · simp (disch := first | assumption | omega) [u2_s, u2_a, u2_k, h5]
  · simp (disch := first | assumption | omega) [u2_s, u2_a, u2_k, t2]
  · simp (disch := first | assumption | omega) [u2_s, u2_a, u2_k, t3]
  · simp (disch := first | assumption | omega) [u2_s, u2_a, u2_k, t4]
  · simp (disch := first | assumption | omega) [u2_s, u2_a, u2_k, t5]
  · simp (disch := first | assumption | omega) [u2_s, u2_a, u2_k, q0 4 (by decide)]
  · simp (disch := first | assumption | omega) [u2_s, u2_a, u2_k, q0 5 (by decide)]
  · simp (disch := first | assumption | omega) [u2_s, u2_a, u2_k, q0 7 (by decide)]
  · simp (disch := first | assumption | omega) [u2_s, u2_a, u2_k, q0 8 (by decide)]
  · simp (disch := first | assumption | omega) [u2_s, u2_a, u2_k, q0 9 (by decide)]
  · intro a a1 a2; simp (disch := first | assumption | omega) [u2_s, u2_a, u2_k]
theorem kk_58 (hR : Rd K N R p) (h : COk I J p T m F w r G s) (hn : FCn F) (he : 1 ≤ e) (he2 : e < 9) : ∃ I', Ca lx 58 [.ref (z + 1), .int (nI e)] (St z E n K N R I J) = some (none, St z E n K N R I' J) ∧ CBd I' p T m e s ∧ FRs I I' := by
  obtain ⟨I', e1, e2, e3⟩ := kk_59 (lx := lx) (z := z) (E := E) (n := n) hR h hn he he2 s
  obtain ⟨d0, d1, d2, d3, d4, d5, d6, d7, d8, d9, d10, d11, d12, hP, hp⟩ := hR
  refine ⟨I', ?_, e2, e3⟩
  rw [f_58]
  simp (disch := first | assumption | omega) [k_St, n_St, i_St, j_St, r_St, wI_St, wJ_St, k_S0, n_S0, i_S0, j_S0, r_S0, wI_S0, wJ_S0, cI_s, cJ_s, cV_s, nR_s, nQ_s, nQ_n, lt_s_, gd_T, gd_t, Option.map_some, lits, neg_mI, nI_add, pk_mul, nI_clamp, nI_eq, nI_leI, nI_ltI, nm_eq, mn_eq, nm_lt, mn_lt, nm_le, mn_le, m_eq, bI_0, bI_1, d0, d1, d8, h.2.2.2.2.2.1.2.1, e1]
/-! a fault found: nothing goes on -/
theorem b_59 (hR : Rd K N R p) (h : CBd I p T m e q) (x y : Int32) : Ca lx 59 [.ref (z + 1), .int x, .int y] (St z E n K N R I J) = some (none, (St z E n K N R I J)) := by
  obtain ⟨d0, d1, d2, d3, d4, d5, d6, d7, d8, d9, d10, d11, d12, hP, hp⟩ := hR
  obtain ⟨h1, h2, h3, _⟩ := h
  rw [f_59]
  simp (disch := first | assumption | omega) [k_St, n_St, i_St, j_St, r_St, wI_St, wJ_St, k_S0, n_S0, i_S0, j_S0, r_S0, wI_S0, wJ_S0, cI_s, cJ_s, cV_s, nR_s, nQ_s, nQ_n, lt_s_, gd_T, gd_t, Option.map_some, lits, neg_mI, nI_add, pk_mul, nI_clamp, nI_eq, nI_leI, nI_ltI, nm_eq, mn_eq, nm_lt, mn_lt, nm_le, mn_le, m_eq, bI_0, bI_1, d0, h3, if_neg]
theorem b_58 (hR : Rd K N R p) (h : CBd I p T m e q) (x : Int32) : Ca lx 58 [.ref (z + 1), .int x] (St z E n K N R I J) = some (none, (St z E n K N R I J)) := by
  have e1 := b_59 (lx := lx) (z := z) (E := E) (n := n) (J := J) hR h x (I 2 3)
  obtain ⟨d0, d1, d2, d3, d4, d5, d6, d7, d8, d9, d10, d11, d12, hP, hp⟩ := hR
  rw [f_58]
  simp (disch := first | assumption | omega) [k_St, n_St, i_St, j_St, r_St, wI_St, wJ_St, k_S0, n_S0, i_S0, j_S0, r_S0, wI_S0, wJ_S0, cI_s, cJ_s, cV_s, nR_s, nQ_s, nQ_n, lt_s_, gd_T, gd_t, Option.map_some, lits, neg_mI, nI_add, pk_mul, nI_clamp, nI_eq, nI_leI, nI_ltI, nm_eq, mn_eq, nm_lt, mn_lt, nm_le, mn_le, m_eq, bI_0, bI_1, d0, d1, d8, e1]
theorem b_49a (hR : Rd K N R p) (hB : CB I T m) (h : CBd I p T m e q) (x y : Int32) : Am lx 49 9 [some (.ref (z + 1)), some (.int x), some (.int y), none] [] (0, 0) (St z E n K N R I J) = some (some (.int (nI 0)), (St z E n K N R I J)) := by
  obtain ⟨s, hT⟩ := h.2.2.2.2.2.1
  have e1 := b_58 (lx := lx) (z := z) (E := E) (n := n) (J := J) hR h
  have e2 := c_83 (lx := lx) (z := z) (E := E) (n := n) (J := J) hR hB hT
  obtain ⟨d0, d1, d2, d3, d4, d5, d6, d7, d8, d9, d10, d11, d12, hP, hp⟩ := hR
  obtain ⟨h1, h2, h3, _⟩ := h
  have fin : ∀ v, Am lx 49 24 [some (.ref (z + 1)), none, none, some (.int v)] [] (0, 0) (St z E n K N R I J) = some (some (.int (nI 0)), (St z E n K N R I J)) := by
    intro v
    rw [e_49_24]
    simp (disch := first | assumption | omega) [k_St, n_St, i_St, j_St, r_St, wI_St, wJ_St, k_S0, n_S0, i_S0, j_S0, r_S0, wI_S0, wJ_S0, cI_s, cJ_s, cV_s, nR_s, nQ_s, nQ_n, lt_s_, gd_T, gd_t, Option.map_some, lits, neg_mI, nI_add, pk_mul, nI_clamp, nI_eq, nI_leI, nI_ltI, nm_eq, mn_eq, nm_lt, mn_lt, nm_le, mn_le, m_eq, bI_0, bI_1, d0, h3, if_neg]
  have mid : ∀ v, Am lx 49 20 [some (.ref (z + 1)), none, none, some (.int v)] [] (0, 0) (St z E n K N R I J) = some (some (.int (nI 0)), (St z E n K N R I J)) := by
    intro v
    rw [e_49_20, e1]
    simp (disch := first | assumption | omega) [k_St, n_St, i_St, j_St, r_St, wI_St, wJ_St, k_S0, n_S0, i_S0, j_S0, r_S0, wI_S0, wJ_S0, cI_s, cJ_s, cV_s, nR_s, nQ_s, nQ_n, lt_s_, gd_T, gd_t, Option.map_some, lits, neg_mI, nI_add, pk_mul, nI_clamp, nI_eq, nI_leI, nI_ltI, nm_eq, mn_eq, nm_lt, mn_lt, nm_le, mn_le, m_eq, bI_0, bI_1, d0, fin]
  rw [e_49_9]
  simp (disch := first | assumption | omega) [k_St, n_St, i_St, j_St, r_St, wI_St, wJ_St, k_S0, n_S0, i_S0, j_S0, r_S0, wI_S0, wJ_S0, cI_s, cJ_s, cV_s, nR_s, nQ_s, nQ_n, lt_s_, gd_T, gd_t, Option.map_some, lits, neg_mI, nI_add, pk_mul, nI_clamp, nI_eq, nI_leI, nI_ltI, nm_eq, mn_eq, nm_lt, mn_lt, nm_le, mn_le, m_eq, bI_0, bI_1, d0, d1, d8, e2, fin, mid]
theorem b_49 (hR : Rd K N R p) (hB : CB I T m) (h : CBd I p T m e q) (x y : Int32) : Ca lx 49 [.ref (z + 1), .int x, .int y] (St z E n K N R I J) = some (some (.int (nI 0)), (St z E n K N R I J)) := by
  have e0 := b_49a (lx := lx) (z := z) (E := E) (n := n) (J := J) hR hB h x y
  have e1 := b_58 (lx := lx) (z := z) (E := E) (n := n) (J := J) hR h
  obtain ⟨d0, d1, d2, d3, d4, d5, d6, d7, d8, d9, d10, d11, d12, hP, hp⟩ := hR
  rw [f_49]
  simp (disch := first | assumption | omega) [k_St, n_St, i_St, j_St, r_St, wI_St, wJ_St, k_S0, n_S0, i_S0, j_S0, r_S0, wI_S0, wJ_S0, cI_s, cJ_s, cV_s, nR_s, nQ_s, nQ_n, lt_s_, gd_T, gd_t, Option.map_some, lits, neg_mI, nI_add, pk_mul, nI_clamp, nI_eq, nI_leI, nI_ltI, nm_eq, mn_eq, nm_lt, mn_lt, nm_le, mn_le, m_eq, bI_0, bI_1, d0, d1, d8, e0, e1]
theorem b_48 {k : Nat} (hR : Rd K N R p) (hB : CB I T m) (hE : EOk E) (hk : k < 12) (h : CBd I p T m e q) (x y : Int32) : Ca lx 48 [.ref (z + 1), .ref (E.1 k), .int x, .int y] (St z E n K N R I J) = some (some (.int (nI 0)), (St z E n K N R I J)) := by
  obtain ⟨s, hT⟩ := h.2.2.2.2.2.1
  have e0 := b_49 (lx := lx) (z := z) (E := E) (n := n) (J := J) hR hB h x y
  have e1 := b_58 (lx := lx) (z := z) (E := E) (n := n) (J := J) hR h
  have e2 := c_81 (lx := lx) (z := z) (E := E) (n := n) (J := J) hR hB hE hk hT
  obtain ⟨d0, d1, d2, d3, d4, d5, d6, d7, d8, d9, d10, d11, d12, hP, hp⟩ := hR
  obtain ⟨h1, h2, h3, _⟩ := h
  have fin : Am lx 48 9 [some (.ref (z + 1)), none, some (.int x), some (.int y)] [] (0, 0) (St z E n K N R I J) = some (some (.int (nI 0)), (St z E n K N R I J)) := by
    rw [e_48_9, e_48_16]
    simp (disch := first | assumption | omega) [k_St, n_St, i_St, j_St, r_St, wI_St, wJ_St, k_S0, n_S0, i_S0, j_S0, r_S0, wI_S0, wJ_S0, cI_s, cJ_s, cV_s, nR_s, nQ_s, nQ_n, lt_s_, gd_T, gd_t, Option.map_some, lits, neg_mI, nI_add, pk_mul, nI_clamp, nI_eq, nI_leI, nI_ltI, nm_eq, mn_eq, nm_lt, mn_lt, nm_le, mn_le, m_eq, bI_0, bI_1, d0, h3, if_neg, e0]
  rw [f_48]
  simp (disch := first | assumption | omega) [k_St, n_St, i_St, j_St, r_St, wI_St, wJ_St, k_S0, n_S0, i_S0, j_S0, r_S0, wI_S0, wJ_S0, cI_s, cJ_s, cV_s, nR_s, nQ_s, nQ_n, lt_s_, gd_T, gd_t, Option.map_some, lits, neg_mI, nI_add, pk_mul, nI_clamp, nI_eq, nI_leI, nI_ltI, nm_eq, mn_eq, nm_lt, mn_lt, nm_le, mn_le, m_eq, bI_0, bI_1, d0, d1, d8, e2, e1, fin]
theorem c_54 (hR : Rd K N R p) (hB : CB I T m) (hE : EOk E) (hT : CTk I T m s) : Ca lx 54 [.ref (z + 1)] (St z E n K N R I J) = some (some (.int (bI (isN T m s))), (St z E n K N R I J)) := by
  have e0 := c_81 (lx := lx) (z := z) (E := E) (n := n) (J := J) hR hB hE (show 0 < 12 by decide) hT
  have e1 := c_81 (lx := lx) (z := z) (E := E) (n := n) (J := J) hR hB hE (show 1 < 12 by decide) hT
  have e2 := c_81 (lx := lx) (z := z) (E := E) (n := n) (J := J) hR hB hE (show 2 < 12 by decide) hT
  have e3 := c_81 (lx := lx) (z := z) (E := E) (n := n) (J := J) hR hB hE (show 3 < 12 by decide) hT
  have e4 := c_81 (lx := lx) (z := z) (E := E) (n := n) (J := J) hR hB hE (show 4 < 12 by decide) hT
  have e5 := c_81 (lx := lx) (z := z) (E := E) (n := n) (J := J) hR hB hE (show 5 < 12 by decide) hT
  have t5 := hT.2.2.2.1
  have lk := tK_le T m s
  obtain ⟨d0, d1, d2, d3, d4, d5, d6, d7, d8, d9, d10, d11, d12, hP, hp⟩ := hR
  rw [f_54]
  unfold isN
  by_cases c : tK T m s = 1
  · simp only [g_St, k_St, i_St, r_St, d0, d1, d8, gd_t, Option.map_some, nR_s, t5, c, e0, cI_s, lits, bI_0, e1, e2, e3, e4, e5, if_true]
    cases isW T m s 0 <;> cases isW T m s 1 <;> cases isW T m s 2 <;> cases isW T m s 3 <;> cases isW T m s 4 <;> cases isW T m s 5 <;> simp [gd_T, c] <;> rfl
  · simp (disch := first | assumption | omega) [k_St, n_St, i_St, j_St, r_St, wI_St, wJ_St, k_S0, n_S0, i_S0, j_S0, r_S0, wI_S0, wJ_S0, cI_s, cJ_s, cV_s, nR_s, nQ_s, nQ_n, lt_s_, gd_T, gd_t, Option.map_some, lits, neg_mI, nI_add, pk_mul, nI_clamp, nI_eq, nI_leI, nI_ltI, nm_eq, mn_eq, nm_lt, mn_lt, nm_le, mn_le, m_eq, bI_0, bI_1, d0, d1, d8, t5, c]
    rfl
theorem fdi_le (P : Nat → Bool) (n : Nat) : fdi P n ≤ n := rn_le _ _ _
def oX (x c : Nat) : Int32 := if x < c then nI x else mI 1
theorem lgc (x y : Int64) : lg_cmp x y = nI 0 ↔ x = y := lg_cmp_eq x y
theorem c_55a {a c : Nat} {y : Int64} (ka : K a = 14) (na : N a = 4) (hc : c ≤ 4) (b : aB) : ∀ n' i, i + n' = c → Am lx 55 3 [some (.ref (z + a)), some (.int (nI c)), some (.long y), none, some (.int (nI i))] [] b (St z E n K N R I J) = some (some (.int (oX (i + rn (fun i => !decide (J a i = y)) i n') c)), (St z E n K N R I J))
  | 0, i, h => by
    rw [e_55_3]
    simp (disch := first | assumption | omega) [k_St, n_St, i_St, j_St, r_St, wI_St, wJ_St, k_S0, n_S0, i_S0, j_S0, r_S0, wI_S0, wJ_S0, cI_s, cJ_s, cV_s, nR_s, nQ_s, nQ_n, lt_s_, gd_T, gd_t, Option.map_some, lits, neg_mI, nI_add, pk_mul, nI_clamp, nI_eq, nI_leI, nI_ltI, nm_eq, mn_eq, nm_lt, mn_lt, nm_le, mn_le, m_eq, bI_0, bI_1, if_pos, rn]
    unfold oX
    rw [if_neg (by omega)]
  | n' + 1, i, h => by
    have ih := c_55a (y := y) ka na hc b n' (i + 1) (by omega)
    have n4 : Int32.ofNat 4 = nI 4 := rfl
    rw [e_55_3, rn]
    by_cases c2 : J a i = y
    · simp (disch := first | assumption | omega) [k_St, n_St, i_St, j_St, r_St, wI_St, wJ_St, k_S0, n_S0, i_S0, j_S0, r_S0, wI_S0, wJ_S0, cI_s, cJ_s, cV_s, nR_s, nQ_s, nQ_n, lt_s_, gd_T, gd_t, Option.map_some, lits, neg_mI, nI_add, pk_mul, nI_clamp, nI_eq, nI_leI, nI_ltI, nm_eq, mn_eq, nm_lt, mn_lt, nm_le, mn_le, m_eq, bI_0, bI_1, if_neg, ka, na, n4, lgc, c2]
      unfold oX
      rw [if_pos (by omega)]
    · simp (disch := first | assumption | omega) [k_St, n_St, i_St, j_St, r_St, wI_St, wJ_St, k_S0, n_S0, i_S0, j_S0, r_S0, wI_S0, wJ_S0, cI_s, cJ_s, cV_s, nR_s, nQ_s, nQ_n, lt_s_, gd_T, gd_t, Option.map_some, lits, neg_mI, nI_add, pk_mul, nI_clamp, nI_eq, nI_leI, nI_ltI, nm_eq, mn_eq, nm_lt, mn_lt, nm_le, mn_le, m_eq, bI_0, bI_1, if_neg, ka, na, n4, lgc, c2]
      rw [ih, show i + (rn (fun i => !decide (J a i = y)) (i + 1) n' + 1) = i + 1 + rn (fun i => !decide (J a i = y)) (i + 1) n' by omega]
theorem c_55 {a c : Nat} {y : Int64} (ka : K a = 14) (na : N a = 4) (hc : c ≤ 4) : Ca lx 55 [.ref (z + a), .int (nI c), .long y] (St z E n K N R I J) = some (some (.int (oX (fdi (fun i => decide (J a i = y)) c) c)), (St z E n K N R I J)) := by
  have := c_55a (lx := lx) (z := z) (E := E) (n := n) (K := K) (N := N) (R := R) (I := I) (J := J) (y := y) ka na hc (0, 0) c 0 (by omega)
  rw [f_55]
  rw [Nat.zero_add] at this
  exact this
end RD3
