section SEC6
variable {z : Nat} {E : aEt} {n : Nat} {K N : Nat → Nat} {R : Nat → Nat → Option Nat} {I : Nat → Nat → Int32} {J : Nat → Nat → Int64} {lx : List Value → aH → aO} {p s f : Nat} {F : Nat → Nat → Nat} {ρ : Nat → Nat} {I' : Nat → Nat → Int32}
def moI (x : Nat) : Int32 := if x = 64 then mI 2 else nI x
def moV (b : Nat × Nat) : Int32 := if b.1 = 64 then mI 2 else nI b.2
/-- the reference while it looks for one more drum -/
def YY (I1 Ic : Nat → Nat → Int32) (T : Nat → Nat) (v : Int32) : Prop := (∀ k, k < 64 → Ic 144 k = nI (T k)) ∧ Ic 132 32 = v ∧ (∀ a, a ≠ 132 → a ≠ 144 → a ≠ 145 → Ic a = I1 a) ∧ ∀ k, k ≠ 32 → Ic 132 k = I1 132 k
theorem YY_p {I1 Ic : Nat → Nat → Int32} {T g : Nat → Nat} {v : Int32} (h : YY I1 Ic T v) : YY I1 (pr Ic 145 15 g) T v :=
  ⟨fun k hk => by rw [pr_n (by decide)]; exact h.1 k hk, by rw [pr_n (by decide)]; exact h.2.1, fun a a1 a2 a3 => by rw [pr_n a3]; exact h.2.2.1 a a1 a2 a3, fun k hk => by rw [pr_n (by decide)]; exact h.2.2.2 k hk⟩
theorem d_289b (h : MD K N R I f F) {I1 Ic : Nat → Nat → Int32} (m1 : MFt I I1 F) {T : Nat → Nat} (hT : ∀ c, T c ≤ 320) {v : Int32} (hy : YY I1 Ic T v) {i : Nat} (hi : i < 64) (x : Int32) : Am lx 289 26 [some (.ref (z + 132)), none, some (.int x), some (.int (nI i)), some (.int (nI 0)), none] [] (0, 0) (St z E n K N R Ic J) = (if x = mI 2 then Am lx 289 92 [some (.ref (z + 132)), none, none, some (.int (nI i)), some (.int (nI (lvA T i))), none] [] (0, 0) (St z E n K N R (pr Ic 145 15 (bfA T i 64)) J) else if nI (lvA T i) < v then Am lx 289 92 [some (.ref (z + 132)), none, none, some (.int (nI i)), some (.int (nI (lvA T i))), none] [] (0, 0) (St z E n K N R (pr Ic 145 15 (bfA T i 64)) J) else Am lx 289 11 [some (.ref (z + 132)), none, some (.int x), some (.int (nI (i + 1))), none, none] [] (0, 0) (St z E n K N R (pr Ic 145 15 (bfA T i 64)) J)) := by
  obtain ⟨km, _, _, _, _, _, _, _, _, _, _, r28, r29, r30, _, _, _, _, _, _, _, _, _, _, k143, k144, k145, _, _, _, _, _, _, _, _, _, _, n143, n144, n145⟩ := h.1
  have L := loopN (X := fun k => Am lx 289 26 [some (.ref (z + 132)), none, some (.int x), some (.int (nI i)), some (.int (nI k)), none] [] (0, 0) (St z E n K N R (fun b j => if b = 145 ∧ j < k then nI 0 else Ic b j) J)) (n := 15) (by
    intro k hk
    try simp only
    rw [e_289_26]
    have e : u2 (fun b j => if b = 145 ∧ j < k then nI 0 else Ic b j) 145 k (nI 0) = fun b j => if b = 145 ∧ j < k + 1 then nI 0 else Ic b j := by
      funext b j
      unfold u2
      by_cases hb : b = 145
      · by_cases hj : j = k
        · simp [hb, hj]
        · have : j < k + 1 ↔ j < k := by omega
          simp [hb, hj, this]
      · simp [hb]
    simp (disch := first | assumption | omega) [k_St, n_St, i_St, j_St, r_St, wI_St, wJ_St, k_S0, n_S0, i_S0, j_S0, r_S0, wI_S0, wJ_S0, cI_s, cJ_s, cV_s, nR_s, nQ_s, nQ_n, lt_s_, gd_T, gd_t, Option.map_some, lits, neg_mI, nI_add, pk_mul, nI_clamp, nI_eq, nI_leI, nI_ltI, nm_eq, mn_eq, nm_lt, mn_lt, nm_le, mn_le, m_eq, bI_0, bI_1, if_neg, km, r30, k145, n145, e])
  try simp only at L
  have e0 : (fun b j => if b = 145 ∧ j < 0 then nI 0 else Ic b j) = Ic := by funext b j; simp
  have e15 : (fun b j => if b = 145 ∧ j < 15 then nI 0 else Ic b j) = pr Ic 145 15 (bfA T i 0) := rfl
  rw [e0, e15] at L
  have x44 : ∀ g k, k < 64 → pr Ic 145 15 g 144 k = nI (T k) := fun g k hk => by rw [pr_n (by decide)]; exact hy.1 k hk
  have L2 := loopN (X := fun d => Am lx 289 41 [some (.ref (z + 132)), none, some (.int x), some (.int (nI i)), some (.int (nI 0)), some (.int (nI d))] [] (0, 0) (St z E n K N R (pr Ic 145 15 (bfA T i d)) J)) (n := 64) (by
    intro d hd
    try simp only
    rw [e_289_41, bfA]
    have s4 := s_191 (lx := lx) hi hd
    rw [apt_c] at s4
    have al := apt_le hd hi
    have t1 := hT d
    have bl := bf_le hT i d (apt d i)
    by_cases c : 0 < T d
    · rw [if_pos c]
      simp (disch := first | assumption | omega) [k_St, n_St, i_St, j_St, r_St, wI_St, wJ_St, k_S0, n_S0, i_S0, j_S0, r_S0, wI_S0, wJ_S0, cI_s, cJ_s, cV_s, nR_s, nQ_s, nQ_n, lt_s_, gd_T, gd_t, Option.map_some, lits, neg_mI, nI_add, pk_mul, nI_clamp, nI_eq, nI_leI, nI_ltI, nm_eq, mn_eq, nm_lt, mn_lt, nm_le, mn_le, m_eq, bI_0, bI_1, if_neg, km, r29, k144, n144, x44, r30, s4, k145, n145, pr_s, pr_u]
    · rw [if_neg c]
      have t0 : T d = 0 := by omega
      simp (disch := first | assumption | omega) [k_St, n_St, i_St, j_St, r_St, wI_St, wJ_St, k_S0, n_S0, i_S0, j_S0, r_S0, wI_S0, wJ_S0, cI_s, cJ_s, cV_s, nR_s, nQ_s, nQ_n, lt_s_, gd_T, gd_t, Option.map_some, lits, neg_mI, nI_add, pk_mul, nI_clamp, nI_eq, nI_leI, nI_ltI, nm_eq, mn_eq, nm_lt, mn_lt, nm_le, mn_le, m_eq, bI_0, bI_1, if_neg, if_pos, km, r29, k144, n144, x44, t0])
  try simp only at L2
  have L3 := loopN (X := fun k => Am lx 289 67 [some (.ref (z + 132)), none, some (.int x), some (.int (nI i)), some (.int (nI (mxk (bfA T i 64) k))), some (.int (nI k))] [] (0, 0) (St z E n K N R (pr Ic 145 15 (bfA T i 64)) J)) (n := 15) (by
    intro k hk
    try simp only
    rw [e_289_67, mxk]
    have bl := bf_le hT i 64 k
    have ml := mxk_le (fun k => bf_le hT i 64 k) k
    by_cases c : mxk (bfA T i 64) k < bfA T i 64 k
    · simp (disch := first | assumption | omega) [k_St, n_St, i_St, j_St, r_St, wI_St, wJ_St, k_S0, n_S0, i_S0, j_S0, r_S0, wI_S0, wJ_S0, cI_s, cJ_s, cV_s, nR_s, nQ_s, nQ_n, lt_s_, gd_T, gd_t, Option.map_some, lits, neg_mI, nI_add, pk_mul, nI_clamp, nI_eq, nI_leI, nI_ltI, nm_eq, mn_eq, nm_lt, mn_lt, nm_le, mn_le, m_eq, bI_0, bI_1, if_neg, if_pos, km, r30, k145, n145, pr_s, c]
    · simp (disch := first | assumption | omega) [k_St, n_St, i_St, j_St, r_St, wI_St, wJ_St, k_S0, n_S0, i_S0, j_S0, r_S0, wI_S0, wJ_S0, cI_s, cJ_s, cV_s, nR_s, nQ_s, nQ_n, lt_s_, gd_T, gd_t, Option.map_some, lits, neg_mI, nI_add, pk_mul, nI_clamp, nI_eq, nI_leI, nI_ltI, nm_eq, mn_eq, nm_lt, mn_lt, nm_le, mn_le, m_eq, bI_0, bI_1, if_neg, if_pos, km, r30, k145, n145, pr_s, c])
  try simp only at L3
  have m0 : mxk (bfA T i 64) 0 = 0 := rfl
  rw [m0] at L3
  have x32 : pr Ic 145 15 (bfA T i 64) 132 32 = v := by rw [pr_n (by decide)]; exact hy.2.1
  rw [L, e_289_26]
  simp (disch := first | assumption | omega) [k_St, n_St, i_St, j_St, r_St, wI_St, wJ_St, k_S0, n_S0, i_S0, j_S0, r_S0, wI_S0, wJ_S0, cI_s, cJ_s, cV_s, nR_s, nQ_s, nQ_n, lt_s_, gd_T, gd_t, Option.map_some, lits, neg_mI, nI_add, pk_mul, nI_clamp, nI_eq, nI_leI, nI_ltI, nm_eq, mn_eq, nm_lt, mn_lt, nm_le, mn_le, m_eq, bI_0, bI_1, if_pos, L2]
  rw [e_289_41]
  simp (disch := first | assumption | omega) [k_St, n_St, i_St, j_St, r_St, wI_St, wJ_St, k_S0, n_S0, i_S0, j_S0, r_S0, wI_S0, wJ_S0, cI_s, cJ_s, cV_s, nR_s, nQ_s, nQ_n, lt_s_, gd_T, gd_t, Option.map_some, lits, neg_mI, nI_add, pk_mul, nI_clamp, nI_eq, nI_leI, nI_ltI, nm_eq, mn_eq, nm_lt, mn_lt, nm_le, mn_le, m_eq, bI_0, bI_1, if_pos, L3]
  rw [e_289_67]
  have le : mxk (bfA T i 64) 15 = lvA T i := rfl
  simp (disch := first | assumption | omega) [k_St, n_St, i_St, j_St, r_St, wI_St, wJ_St, k_S0, n_S0, i_S0, j_S0, r_S0, wI_S0, wJ_S0, cI_s, cJ_s, cV_s, nR_s, nQ_s, nQ_n, lt_s_, gd_T, gd_t, Option.map_some, lits, neg_mI, nI_add, pk_mul, nI_clamp, nI_eq, nI_leI, nI_ltI, nm_eq, mn_eq, nm_lt, mn_lt, nm_le, mn_le, m_eq, bI_0, bI_1, if_pos, km, x32, le]
theorem d_289 (h : MD K N R I f F) {m : Nat} (hm : m ≤ 60) : ∃ I1 Ic, Ca lx 289 [.ref (z + 132), .int (nI m)] (St z E n K N R I J) = some (some (.int (if fct F = 0 then mI 2 else moI (bdF F (TA F m) 64).1)), St z E n K N R Ic J) ∧ MFt I I1 F ∧ YY I1 Ic (TA F m) (if fct F = 0 then mI 2 else moV (bdF F (TA F m) 64)) := by
  obtain ⟨I1, e1, m1⟩ := d_286 (lx := lx) (z := z) (E := E) (n := n) (J := J) h hm
  have hO := h.2.2.2.2
  have km := h.1.1
  have fl := fct_l F
  obtain ⟨o0, o0x, o1, o2, o2x, o3, o4, o4x, o5, o5x, o6, o7, o8, o9, oS, oD, oG, oH⟩ := hO
  have hT := TA_le F m
  have y0 : YY I1 (u2 (pr I1 144 64 (TA F m)) 132 32 (mI 2)) (TA F m) (mI 2) := by
    refine ⟨fun k hk => ?_, u2_s _ _ _ _, fun a a1 a2 a3 => ?_, fun k hk => ?_⟩
    · rw [u2_a _ _ _ _ _ (by decide), pr_s hk]
    · rw [u2_a _ _ _ _ _ a1, pr_n a2]
    · rw [u2_k _ _ _ _ _ hk, pr_n (by decide)]
  have mdY : ∀ {Ic v}, YY I1 Ic (TA F m) v → MD K N R Ic f F := fun hy => MD_c (MFt_D h m1) (fun a ha => hy.2.2.1 a (by omega) (by omega) (by omega))
  have x31 : ∀ {Ic v}, YY I1 Ic (TA F m) v → Ic 132 31 = nI (fct F) := fun hy => by rw [hy.2.2.2 31 (by decide)]; exact m1.2.1
  by_cases c0 : fct F = 0
  · refine ⟨I1, _, ?_, m1, by rw [if_pos c0]; exact y0⟩
    have e266 := s_266 (lx := lx) (z := z) (E := E) (n := n) (J := J) (mdY y0)
    have q31 := x31 y0
    rw [c0] at q31
    rw [f_289, if_pos c0]
    simp (disch := first | assumption | omega) [k_St, n_St, i_St, j_St, r_St, wI_St, wJ_St, k_S0, n_S0, i_S0, j_S0, r_S0, wI_S0, wJ_S0, cI_s, cJ_s, cV_s, nR_s, nQ_s, nQ_n, lt_s_, gd_T, gd_t, Option.map_some, lits, neg_mI, nI_add, pk_mul, nI_clamp, nI_eq, nI_leI, nI_ltI, nm_eq, mn_eq, nm_lt, mn_lt, nm_le, mn_le, m_eq, bI_0, bI_1, km, e1]
    rw [e_289_11]
    simp (disch := first | assumption | omega) [k_St, n_St, i_St, j_St, r_St, wI_St, wJ_St, k_S0, n_S0, i_S0, j_S0, r_S0, wI_S0, wJ_S0, cI_s, cJ_s, cV_s, nR_s, nQ_s, nQ_n, lt_s_, gd_T, gd_t, Option.map_some, lits, neg_mI, nI_add, pk_mul, nI_clamp, nI_eq, nI_leI, nI_ltI, nm_eq, mn_eq, nm_lt, mn_lt, nm_le, mn_le, m_eq, bI_0, bI_1, if_neg, km, e266, q31]
  · have A : ∀ i, i ≤ 8 * (F 0 5 - 1) + F 0 4 - 1 + 1 → ∃ Ic, Am lx 289 11 [some (.ref (z + 132)), none, some (.int (mI 2)), some (.int (nI 0)), none, none] [] (0, 0) (St z E n K N R (u2 (pr I1 144 64 (TA F m)) 132 32 (mI 2)) J) = Am lx 289 11 [some (.ref (z + 132)), none, some (.int (moI (bdF F (TA F m) i).1)), some (.int (nI i)), none, none] [] (0, 0) (St z E n K N R Ic J) ∧ YY I1 Ic (TA F m) (moV (bdF F (TA F m) i)) := by
      intro i
      induction i with
      | zero => intro _; exact ⟨_, rfl, y0⟩
      | succ i ih =>
        intro hi
        obtain ⟨Ic, e2, hy⟩ := ih (by omega)
        have i64 : i < 64 := by omega
        have e266 := s_266 (lx := lx) (z := z) (E := E) (n := n) (J := J) (mdY hy)
        have e267 := s_267 (lx := lx) (z := z) (E := E) (n := n) (J := J) (mdY hy) i64
        have q31 := x31 hy
        have ni : ¬ i = 64 := by omega
        have mi : moI i = nI i := by unfold moI; rw [if_neg ni]
        have fp : ¬ fct F ≤ 0 := by omega
        rw [bdF]
        cases c1 : isS F i
        · rw [c1] at e267
          refine ⟨Ic, ?_, by simpa using hy⟩
          rw [e2, e_289_11]
          simp (disch := first | assumption | omega) [k_St, n_St, i_St, j_St, r_St, wI_St, wJ_St, k_S0, n_S0, i_S0, j_S0, r_S0, wI_S0, wJ_S0, cI_s, cJ_s, cV_s, nR_s, nQ_s, nQ_n, lt_s_, gd_T, gd_t, Option.map_some, lits, neg_mI, nI_add, pk_mul, nI_clamp, nI_eq, nI_leI, nI_ltI, nm_eq, mn_eq, nm_lt, mn_lt, nm_le, mn_le, m_eq, bI_0, bI_1, if_neg, km, e266, q31, fp, e267]
        · rw [c1] at e267
          have ll := lv_le hT i
          have body := d_289b (lx := lx) (z := z) (E := E) (n := n) (J := J) h m1 hT hy i64 (moI (bdF F (TA F m) i).1)
          have w92 : Am lx 289 92 [some (.ref (z + 132)), none, none, some (.int (nI i)), some (.int (nI (lvA (TA F m) i))), none] [] (0, 0) (St z E n K N R (pr Ic 145 15 (bfA (TA F m) i 64)) J) = Am lx 289 11 [some (.ref (z + 132)), none, some (.int (nI i)), some (.int (nI (i + 1))), none, none] [] (0, 0) (St z E n K N R (u2 (pr Ic 145 15 (bfA (TA F m) i 64)) 132 32 (nI (lvA (TA F m) i))) J) := by
            rw [e_289_92]
            simp [k_St, n_St, i_St, j_St, r_St, wI_St, wJ_St, k_S0, n_S0, i_S0, j_S0, r_S0, wI_S0, wJ_S0, cI_s, cJ_s, cV_s, nR_s, nQ_s, nQ_n, lt_s_, gd_T, gd_t, Option.map_some, lits, neg_mI, nI_add, pk_mul, nI_clamp, nI_eq, nI_leI, nI_ltI, nm_eq, mn_eq, nm_lt, mn_lt, nm_le, mn_le, m_eq, bI_0, bI_1, km]
          have hy1 := YY_p (g := bfA (TA F m) i 64) hy
          have hy2 : YY I1 (u2 (pr Ic 145 15 (bfA (TA F m) i 64)) 132 32 (nI (lvA (TA F m) i))) (TA F m) (moV (i, lvA (TA F m) i)) := by
            refine ⟨fun k hk => ?_, ?_, fun a a1 a2 a3 => ?_, fun k hk => ?_⟩
            · rw [u2_a _ _ _ _ _ (by decide)]; exact hy1.1 k hk
            · rw [u2_s]; unfold moV; rw [if_neg ni]
            · rw [u2_a _ _ _ _ _ a1]; exact hy1.2.2.1 a a1 a2 a3
            · rw [u2_k _ _ _ _ _ hk]; exact hy1.2.2.2 k hk
          have pre : Am lx 289 11 [some (.ref (z + 132)), none, some (.int (moI (bdF F (TA F m) i).1)), some (.int (nI i)), none, none] [] (0, 0) (St z E n K N R Ic J) = Am lx 289 26 [some (.ref (z + 132)), none, some (.int (moI (bdF F (TA F m) i).1)), some (.int (nI i)), some (.int (nI 0)), none] [] (0, 0) (St z E n K N R Ic J) := by
            rw [e_289_11]
            simp (disch := first | assumption | omega) [k_St, n_St, i_St, j_St, r_St, wI_St, wJ_St, k_S0, n_S0, i_S0, j_S0, r_S0, wI_S0, wJ_S0, cI_s, cJ_s, cV_s, nR_s, nQ_s, nQ_n, lt_s_, gd_T, gd_t, Option.map_some, lits, neg_mI, nI_add, pk_mul, nI_clamp, nI_eq, nI_leI, nI_ltI, nm_eq, mn_eq, nm_lt, mn_lt, nm_le, mn_le, m_eq, bI_0, bI_1, if_neg, km, e266, q31, fp, e267]
          rcases bdF_l F (TA F m) i (by omega) with c2 | ⟨c2, c3⟩
          · have mb : moI (bdF F (TA F m) i).1 = mI 2 := by unfold moI; rw [if_pos c2]
            refine ⟨u2 (pr Ic 145 15 (bfA (TA F m) i 64)) 132 32 (nI (lvA (TA F m) i)), ?_, ?_⟩
            · rw [e2, pre, body, mb, if_pos rfl, w92]
              simp [c2, mi]
            · simpa [c2] using hy2
          · have c2n : ¬ (bdF F (TA F m) i).1 = 64 := by omega
            have mb : moI (bdF F (TA F m) i).1 = nI (bdF F (TA F m) i).1 := by unfold moI; rw [if_neg c2n]
            have mn : ¬ nI (bdF F (TA F m) i).1 = mI 2 := by
              rw [nm_eq (by omega) (by omega) (by omega)]; exact id
            have mv : moV (bdF F (TA F m) i) = nI (bdF F (TA F m) i).2 := by unfold moV; rw [if_neg c2n]
            have lb : (bdF F (TA F m) i).2 ≤ 20480 := by rw [c3]; exact lv_le hT _
            by_cases c4 : lvA (TA F m) i < (bdF F (TA F m) i).2
            · refine ⟨u2 (pr Ic 145 15 (bfA (TA F m) i 64)) 132 32 (nI (lvA (TA F m) i)), ?_, ?_⟩
              · rw [e2, pre, body, mb, if_neg mn, mv, if_pos (nI_lt c4 (by omega)), w92]
                simp [c2n, c4, mi]
              · simpa [c2n, c4] using hy2
            · refine ⟨pr Ic 145 15 (bfA (TA F m) i 64), ?_, ?_⟩
              · rw [e2, pre, body, mb, if_neg mn, mv, if_neg (nI_nlt (by omega) (by omega))]
                simp [c2n, c4, mb]
              · simpa [c2n, c4] using hy1
    obtain ⟨Ic, e2, hy⟩ := A _ (Nat.le_refl _)
    have be : bdF F (TA F m) (8 * (F 0 5 - 1) + F 0 4 - 1 + 1) = bdF F (TA F m) 64 := loopF (X := bdF F (TA F m)) (by omega) (fun i h1 h2 => by
      rw [bdF]
      have : isS F i = false := by
        unfold isS inF
        by_cases d1 : i % 8 < F 0 4
        · have d2 : ¬ i / 8 < F 0 5 := by omega
          simp [d2]
        · simp [d1]
      simp [this])
    rw [be] at e2 hy
    refine ⟨I1, Ic, ?_, m1, by rw [if_neg c0]; exact hy⟩
    have e266 := s_266 (lx := lx) (z := z) (E := E) (n := n) (J := J) (mdY hy)
    rw [f_289, if_neg c0]
    simp (disch := first | assumption | omega) [k_St, n_St, i_St, j_St, r_St, wI_St, wJ_St, k_S0, n_S0, i_S0, j_S0, r_S0, wI_S0, wJ_S0, cI_s, cJ_s, cV_s, nR_s, nQ_s, nQ_n, lt_s_, gd_T, gd_t, Option.map_some, lits, neg_mI, nI_add, pk_mul, nI_clamp, nI_eq, nI_leI, nI_ltI, nm_eq, mn_eq, nm_lt, mn_lt, nm_le, mn_le, m_eq, bI_0, bI_1, km, e1, e2]
    rw [e_289_11]
    simp (disch := first | assumption | omega) [k_St, n_St, i_St, j_St, r_St, wI_St, wJ_St, k_S0, n_S0, i_S0, j_S0, r_S0, wI_S0, wJ_S0, cI_s, cJ_s, cV_s, nR_s, nQ_s, nQ_n, lt_s_, gd_T, gd_t, Option.map_some, lits, neg_mI, nI_add, pk_mul, nI_clamp, nI_eq, nI_leI, nI_ltI, nm_eq, mn_eq, nm_lt, mn_lt, nm_le, mn_le, m_eq, bI_0, bI_1, if_pos, km, e266]
end SEC6
