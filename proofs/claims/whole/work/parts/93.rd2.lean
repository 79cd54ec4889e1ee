section RD2
variable {z : Nat} {E : aEt} {n : Nat} {K N : Nat → Nat} {R : Nat → Nat → Option Nat} {I : Nat → Nat → Int32} {J : Nat → Nat → Int64} {lx : List Value → aH → aO} {p s q m : Nat} {T : Nat → Nat}
theorem q_903 {k : Nat} (hE : EOk E) (hk : k < 12) : Ca lx 903 [.ref (E.1 k)] (St z E n K N R I J) = some (some (.int (nI (twl k))), (St z E n K N R I J)) := by
  have : strNo (aG (St z E n K N R I J)) (E.1 k) = some k := sno hE (by omega)
  rw [ca_903, this, nR_s]; rfl
theorem q_904 {k i : Nat} (hE : EOk E) (hk : k < 12) (hi : i < twl k) : Ca lx 904 [.ref (E.1 k), .int (nI i)] (St z E n K N R I J) = some (some (.int (nI (tw k i))), (St z E n K N R I J)) := by
  have : strNo (aG (St z E n K N R I J)) (E.1 k) = some k := sno hE (by omega)
  have hl := tw_l k hk
  have ix : ix_ (nI i) (stLenL.getD k 0) := ix_n hi (show twl k < 2 ^ 31 by omega)
  rw [ca_904, this, nR_s, gd_t ix, nI_clamp (by omega), tw_b k hk i hi]
theorem c_81a {k : Nat} (hR : Rd K N R p) (hB : CB I T m) (hE : EOk E) (hk : k < 12) (h3 : I 2 3 = nI s) (h4 : I 2 4 = nI (twl k)) (hs : s + twl k ≤ m) (b : aB) : ∀ n' i, i + n' = twl k → (∀ j, j < i → T (s + j) = tw k j) → Am lx 81 14 [some (.ref (z + 2)), some (.ref (E.1 k)), some (.int (nI i))] [] b (St z E n K N R I J) = some (some (.int (bI (decide (∀ j, j < twl k → T (s + j) = tw k j)))), (St z E n K N R I J))
  | 0, i, h, hj => by
    have k2 := hR.2.2.2.2.2.2.2.2.1
    have hl := tw_l k hk
    have hh : decide (∀ j, j < twl k → T (s + j) = tw k j) = true := by
      rw [decide_eq_true_eq]; intro j h'; exact hj j (by omega)
    rw [e_81_14, hh]
    simp (disch := first | assumption | omega) [k_St, n_St, i_St, j_St, r_St, wI_St, wJ_St, k_S0, n_S0, i_S0, j_S0, r_S0, wI_S0, wJ_S0, cI_s, cJ_s, cV_s, nR_s, nQ_s, nQ_n, lt_s_, gd_T, gd_t, Option.map_some, lits, neg_mI, nI_add, pk_mul, nI_clamp, nI_eq, nI_leI, nI_ltI, nm_eq, mn_eq, nm_lt, mn_lt, nm_le, mn_le, m_eq, bI_0, bI_1, if_pos, k2, h4]
    rfl
  | n' + 1, i, h, hj => by
    have hb := hB.1
    have k2 := hR.2.2.2.2.2.2.2.2.1
    have hl := tw_l k hk
    have e := c_85 (lx := lx) (z := z) (E := E) (n := n) (J := J) hR hB (show s + i < m by omega)
    have hT := (hB.2 (s + i) (by omega)).1
    have ht := kc_1 (tw_k k hk i (by omega))
    have sn := q_904 (lx := lx) (z := z) (n := n) (K := K) (N := N) (R := R) (I := I) (J := J) hE hk (show i < twl k by omega)
    rw [e_81_14]
    by_cases c : T (s + i) = tw k i
    · have ih := c_81a hR hB hE hk h3 h4 hs b n' (i + 1) (by omega) (fun j h' => by
        by_cases e : j = i
        · rw [e]; exact c
        · exact hj j (by omega))
      simp (disch := first | assumption | omega) [k_St, n_St, i_St, j_St, r_St, wI_St, wJ_St, k_S0, n_S0, i_S0, j_S0, r_S0, wI_S0, wJ_S0, cI_s, cJ_s, cV_s, nR_s, nQ_s, nQ_n, lt_s_, gd_T, gd_t, Option.map_some, lits, neg_mI, nI_add, pk_mul, nI_clamp, nI_eq, nI_leI, nI_ltI, nm_eq, mn_eq, nm_lt, mn_lt, nm_le, mn_le, m_eq, bI_0, bI_1, if_neg, k2, h3, h4, e, sn, c]
      exact ih
    · have hh : decide (∀ j, j < twl k → T (s + j) = tw k j) = false := by
        rw [decide_eq_false_iff_not]; intro h'; exact c (h' i (by omega))
      simp (disch := first | assumption | omega) [k_St, n_St, i_St, j_St, r_St, wI_St, wJ_St, k_S0, n_S0, i_S0, j_S0, r_S0, wI_S0, wJ_S0, cI_s, cJ_s, cV_s, nR_s, nQ_s, nQ_n, lt_s_, gd_T, gd_t, Option.map_some, lits, neg_mI, nI_add, pk_mul, nI_clamp, nI_eq, nI_leI, nI_ltI, nm_eq, mn_eq, nm_lt, mn_lt, nm_le, mn_le, m_eq, bI_0, bI_1, if_neg, k2, h3, h4, e, sn, c, hh]
      rfl
theorem c_81 {k : Nat} (hR : Rd K N R p) (hB : CB I T m) (hE : EOk E) (hk : k < 12) (hT : CTk I T m s) : Ca lx 81 [.ref (z + 2), .ref (E.1 k)] (St z E n K N R I J) = some (some (.int (bI (isW T m s k))), (St z E n K N R I J)) := by
  have hb := hB.1
  have k2 := hR.2.2.2.2.2.2.2.2.1
  have hl := tw_l k hk
  obtain ⟨t2, t3, t4, t5, ts⟩ := hT
  have ll := tL_le (T := T) ts
  have lk := tK_le T m s
  have sn := q_903 (lx := lx) (z := z) (n := n) (K := K) (N := N) (R := R) (I := I) (J := J) hE hk
  rw [f_81]
  by_cases c : tK T m s = 1
  · by_cases c2 : tLn T m s = twl k
    · have := c_81a (lx := lx) (z := z) (n := n) (J := J) hR hB hE hk t3 (by rw [t4, c2]) (by omega) (0, 0) (twl k) 0 (by omega) (fun j h => by omega)
      have e2 : isW T m s k = decide (∀ j, j < twl k → T (s + j) = tw k j) := by simp [isW, c, c2]
      rw [e2]
      simp (disch := first | assumption | omega) [k_St, n_St, i_St, j_St, r_St, wI_St, wJ_St, k_S0, n_S0, i_S0, j_S0, r_S0, wI_S0, wJ_S0, cI_s, cJ_s, cV_s, nR_s, nQ_s, nQ_n, lt_s_, gd_T, gd_t, Option.map_some, lits, neg_mI, nI_add, pk_mul, nI_clamp, nI_eq, nI_leI, nI_ltI, nm_eq, mn_eq, nm_lt, mn_lt, nm_le, mn_le, m_eq, bI_0, bI_1, if_pos, k2, t5, t4, c, c2, sn]
      exact this
    · have e2 : isW T m s k = false := by simp [isW, c2]
      simp (disch := first | assumption | omega) [k_St, n_St, i_St, j_St, r_St, wI_St, wJ_St, k_S0, n_S0, i_S0, j_S0, r_S0, wI_S0, wJ_S0, cI_s, cJ_s, cV_s, nR_s, nQ_s, nQ_n, lt_s_, gd_T, gd_t, Option.map_some, lits, neg_mI, nI_add, pk_mul, nI_clamp, nI_eq, nI_leI, nI_ltI, nm_eq, mn_eq, nm_lt, mn_lt, nm_le, mn_le, m_eq, bI_0, bI_1, k2, t5, t4, c, c2, sn, e2]
      rfl
  · have e2 : isW T m s k = false := by simp [isW, c]
    simp (disch := first | assumption | omega) [k_St, n_St, i_St, j_St, r_St, wI_St, wJ_St, k_S0, n_S0, i_S0, j_S0, r_S0, wI_S0, wJ_S0, cI_s, cJ_s, cV_s, nR_s, nQ_s, nQ_n, lt_s_, gd_T, gd_t, Option.map_some, lits, neg_mI, nI_add, pk_mul, nI_clamp, nI_eq, nI_leI, nI_ltI, nm_eq, mn_eq, nm_lt, mn_lt, nm_le, mn_le, m_eq, bI_0, bI_1, k2, t5, c, e2]
    rfl
theorem c_82 {i : Nat} (hR : Rd K N R p) (hB : CB I T m) (h3 : I 2 3 = nI s) (hi : s + i < m) : Ca lx 82 [.ref (z + 2), .int (nI i)] (St z E n K N R I J) = some (some (.int (nI (T (s + i)))), (St z E n K N R I J)) := by
  have k2 := hR.2.2.2.2.2.2.2.2.1
  have e := c_85 (lx := lx) (z := z) (E := E) (n := n) (J := J) hR hB hi
  rw [f_82]
  simp (disch := first | assumption | omega) [k_St, n_St, i_St, j_St, r_St, wI_St, wJ_St, k_S0, n_S0, i_S0, j_S0, r_S0, wI_S0, wJ_S0, cI_s, cJ_s, cV_s, nR_s, nQ_s, nQ_n, lt_s_, gd_T, gd_t, Option.map_some, lits, neg_mI, nI_add, pk_mul, nI_clamp, nI_eq, nI_leI, nI_ltI, nm_eq, mn_eq, nm_lt, mn_lt, nm_le, mn_le, m_eq, bI_0, bI_1, k2, h3, e]
def vI (T : Nat → Nat) (s : Nat) : Nat → Int32
  | 0 => nI 0
  | j + 1 => ((nI 10 * vI T s j) + nI (T (s + j))) - nI 48
theorem vI_v {T : Nat → Nat} {s : Nat} : ∀ j, (∀ i, i < j → 48 ≤ T (s + i)) → vI T s j = nI (vv T s j)
  | 0, _ => rfl
  | j + 1, h => by
    have := h j (by omega)
    rw [vI, vv, vI_v j (fun i hi => h i (by omega)), pk_mul, nI_add, pk_sub (by omega)]
def vJ (T : Nat → Nat) (s : Nat) : Nat → Int64
  | 0 => 0
  | j + 1 => (vJ T s j <<< ((8 : Int32).toInt64 &&& 63)) ||| ((nI (T (s + j))).toInt64)
theorem sh8 {x b : Nat} (hx : x < 2 ^ 55) (hb : b < 256) : (lN x <<< ((8 : Int32).toInt64 &&& 63)) ||| (nI b).toInt64 = lN (256 * x + b) := by
  rw [nI_l (by omega)]
  have e8 : ((8 : Int32).toInt64 &&& 63) = 8 := by decide
  rw [e8, ← Int64.toBitVec_inj]
  apply BitVec.eq_of_toNat_eq
  rw [Int64.toBitVec_or, Int64.toBitVec_shiftLeft, BitVec.toNat_or]
  have s8 : ((8 : Int64).toBitVec.smod 64).toNat = 8 := by decide
  have tn : ∀ n : Nat, n < 2 ^ 63 → (lN n).toBitVec.toNat = n := by
    intro n hn
    show (BitVec.ofNat 64 n).toNat = n
    rw [BitVec.toNat_ofNat, Nat.mod_eq_of_lt (by omega)]
  rw [BitVec.shiftLeft_eq', s8, BitVec.toNat_shiftLeft, tn x (by omega), tn b (by omega), tn _ (by omega), Nat.shiftLeft_eq, Nat.mod_eq_of_lt (by omega)]
  have := Nat.two_pow_add_eq_or_of_lt (i := 8) (b := b) (by omega) x
  rw [show x * 2 ^ 8 = 2 ^ 8 * x by omega, ← this]
theorem p8_l2 {T : Nat → Nat} {s : Nat} : ∀ j, (∀ i, i < j + 1 → T (s + i) ≤ 122) → p8 T s (j + 1) < 128 * 256 ^ j
  | 0, h => by
    have := h 0 (by omega)
    rw [p8, p8]; omega
  | j + 1, h => by
    have a := p8_l2 (s := s) j (fun i hi => h i (by omega))
    have b := h (j + 1) (by omega)
    rw [p8, Nat.pow_succ]
    omega
theorem p8_63 {T : Nat → Nat} {s j : Nat} (hj : j ≤ 8) (h : ∀ i, i < j → T (s + i) ≤ 122) : p8 T s j < 2 ^ 63 := by
  cases j with
  | zero => simp [p8]
  | succ j =>
    have a := p8_l2 (s := s) j h
    have : 256 ^ j ≤ 256 ^ 7 := Nat.pow_le_pow_right (by decide) (by omega)
    have e : 128 * 256 ^ 7 = 2 ^ 63 := by decide
    omega
theorem vJ_v {T : Nat → Nat} {s : Nat} : ∀ j, j ≤ 8 → (∀ i, i < j → T (s + i) ≤ 122) → vJ T s j = lN (p8 T s j)
  | 0, _, _ => rfl
  | j + 1, hj, h => by
    have h1 := h j (by omega)
    have h4 : p8 T s j < 2 ^ 55 := by
      cases j with
      | zero => simp [p8]
      | succ j =>
        have a := p8_l2 (s := s) j (fun i hi => h i (by omega))
        have : 256 ^ j ≤ 256 ^ 6 := Nat.pow_le_pow_right (by decide) (by omega)
        have e : 128 * 256 ^ 6 = 2 ^ 55 := by decide
        omega
    rw [vJ, p8, vJ_v j (by omega) (fun i hi => h i (by omega)), sh8 h4 (by omega)]
theorem c_83 (hR : Rd K N R p) (hB : CB I T m) (hT : CTk I T m s) : Ca lx 83 [.ref (z + 2)] (St z E n K N R I J) = some (some (.int (vI T s (min (tLn T m s) 3))), (St z E n K N R I J)) := by
  have hb := hB.1
  have k2 := hR.2.2.2.2.2.2.2.2.1
  obtain ⟨t2, t3, t4, t5, ts⟩ := hT
  have ll := tL_le (T := T) ts
  have L := loopN (X := fun i => Am lx 83 5 [some (.ref (z + 2)), some (.int (vI T s i)), some (.int (nI i))] [] (0, 0) (St z E n K N R I J)) (n := min (tLn T m s) 3) (by
    intro i hi
    have e := c_85 (lx := lx) (z := z) (E := E) (n := n) (J := J) hR hB (show s + i < m by omega)
    try simp only
    rw [e_83_5, vI]
    simp (disch := first | assumption | omega) [k_St, n_St, i_St, j_St, r_St, wI_St, wJ_St, k_S0, n_S0, i_S0, j_S0, r_S0, wI_S0, wJ_S0, cI_s, cJ_s, cV_s, nR_s, nQ_s, nQ_n, lt_s_, gd_T, gd_t, Option.map_some, lits, neg_mI, nI_add, pk_mul, nI_clamp, nI_eq, nI_leI, nI_ltI, nm_eq, mn_eq, nm_lt, mn_lt, nm_le, mn_le, m_eq, bI_0, bI_1, if_neg, k2, t3, t4, e])
  try simp only at L
  rw [f_83]
  have z0 : (0 : Int32) = nI 0 := rfl
  rw [z0]
  refine L.trans ?_
  rw [e_83_5]
  by_cases c : tLn T m s ≤ 3
  · rw [Nat.min_eq_left c]
    simp (disch := first | assumption | omega) [k_St, n_St, i_St, j_St, r_St, wI_St, wJ_St, k_S0, n_S0, i_S0, j_S0, r_S0, wI_S0, wJ_S0, cI_s, cJ_s, cV_s, nR_s, nQ_s, nQ_n, lt_s_, gd_T, gd_t, Option.map_some, lits, neg_mI, nI_add, pk_mul, nI_clamp, nI_eq, nI_leI, nI_ltI, nm_eq, mn_eq, nm_lt, mn_lt, nm_le, mn_le, m_eq, bI_0, bI_1, if_pos, k2, t4]
  · rw [Nat.min_eq_right (by omega)]
    simp (disch := first | assumption | omega) [k_St, n_St, i_St, j_St, r_St, wI_St, wJ_St, k_S0, n_S0, i_S0, j_S0, r_S0, wI_S0, wJ_S0, cI_s, cJ_s, cV_s, nR_s, nQ_s, nQ_n, lt_s_, gd_T, gd_t, Option.map_some, lits, neg_mI, nI_add, pk_mul, nI_clamp, nI_eq, nI_leI, nI_ltI, nm_eq, mn_eq, nm_lt, mn_lt, nm_le, mn_le, m_eq, bI_0, bI_1, if_pos, k2, t4]
theorem c_84 (hR : Rd K N R p) (hB : CB I T m) (hT : CTk I T m s) : Ca lx 84 [.ref (z + 2)] (St z E n K N R I J) = some (some (.long (vJ T s (min (tLn T m s) 8))), (St z E n K N R I J)) := by
  have hb := hB.1
  have k2 := hR.2.2.2.2.2.2.2.2.1
  obtain ⟨t2, t3, t4, t5, ts⟩ := hT
  have ll := tL_le (T := T) ts
  have L := loopN (X := fun i => Am lx 84 5 [some (.ref (z + 2)), some (.long (vJ T s i)), none, some (.int (nI i))] [] (0, 0) (St z E n K N R I J)) (n := min (tLn T m s) 8) (by
    intro i hi
    have e := c_85 (lx := lx) (z := z) (E := E) (n := n) (J := J) hR hB (show s + i < m by omega)
    try simp only
    rw [e_84_5, vJ]
    simp (disch := first | assumption | omega) [k_St, n_St, i_St, j_St, r_St, wI_St, wJ_St, k_S0, n_S0, i_S0, j_S0, r_S0, wI_S0, wJ_S0, cI_s, cJ_s, cV_s, nR_s, nQ_s, nQ_n, lt_s_, gd_T, gd_t, Option.map_some, lits, neg_mI, nI_add, pk_mul, nI_clamp, nI_eq, nI_leI, nI_ltI, nm_eq, mn_eq, nm_lt, mn_lt, nm_le, mn_le, m_eq, bI_0, bI_1, if_neg, k2, t3, t4, e])
  try simp only at L
  rw [f_84]
  have z0 : (0 : Int32) = nI 0 := rfl
  rw [z0]
  refine L.trans ?_
  rw [e_84_5]
  by_cases c : tLn T m s ≤ 8
  · rw [Nat.min_eq_left c]
    simp (disch := first | assumption | omega) [k_St, n_St, i_St, j_St, r_St, wI_St, wJ_St, k_S0, n_S0, i_S0, j_S0, r_S0, wI_S0, wJ_S0, cI_s, cJ_s, cV_s, nR_s, nQ_s, nQ_n, lt_s_, gd_T, gd_t, Option.map_some, lits, neg_mI, nI_add, pk_mul, nI_clamp, nI_eq, nI_leI, nI_ltI, nm_eq, mn_eq, nm_lt, mn_lt, nm_le, mn_le, m_eq, bI_0, bI_1, if_pos, k2, t4]
  · rw [Nat.min_eq_right (by omega)]
    simp (disch := first | assumption | omega) [k_St, n_St, i_St, j_St, r_St, wI_St, wJ_St, k_S0, n_S0, i_S0, j_S0, r_S0, wI_S0, wJ_S0, cI_s, cJ_s, cV_s, nR_s, nQ_s, nQ_n, lt_s_, gd_T, gd_t, Option.map_some, lits, neg_mI, nI_add, pk_mul, nI_clamp, nI_eq, nI_leI, nI_ltI, nm_eq, mn_eq, nm_lt, mn_lt, nm_le, mn_le, m_eq, bI_0, bI_1, if_pos, k2, t4]
end RD2
