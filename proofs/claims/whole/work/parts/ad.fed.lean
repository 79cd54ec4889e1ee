/-! bytes fed to both -/
def yE (x : Int32) (sh : Nat) : Int32 := ((x.toUInt32 >>> ((nI sh).toUInt32 &&& Int32.toUInt32 31)).toInt32) &&& nI 255
def yB (x : Int32) (sh : Nat) : Nat := (yE x sh).toBitVec.toNat
theorem yB_e (x : Int32) (sh : Nat) : nI (yB x sh) = yE x sh := by
  rw [← Int32.toBitVec_inj]
  show BitVec.ofNat 32 (yB x sh) = _
  unfold yB
  rw [BitVec.ofNat_toNat, BitVec.setWidth_eq]
theorem yB_l (x : Int32) (sh : Nat) : yB x sh < 256 := by
  unfold yB yE
  rw [Int32.toBitVec_and, BitVec.toNat_and]
  have h : (nI 255).toBitVec.toNat = 255 := by decide
  rw [h]
  exact Nat.lt_succ_of_le Nat.and_le_right
theorem g255 : ∀ i, i < 8 → (255#32 : BitVec 32).getLsbD i = true := by decide
theorem y8s {x : Int32} {sh : Nat} (h1 : ((nI sh &&& 31).toBitVec.smod 32).toNat = sh) (h2 : (((nI sh).toUInt32 &&& Int32.toUInt32 31).toBitVec % 32#32).toNat = sh) (h3 : sh ≤ 24) : (x >>> (nI sh &&& 31)).toInt8 = (yE x sh).toInt8 := by
  rw [← Int8.toBitVec_inj]
  apply BitVec.eq_of_getLsbD_eq
  intro i hi
  have e1 : ((x >>> (nI sh &&& 31)).toInt8).toBitVec = (x.toBitVec.sshiftRight sh).signExtend 8 := by
    show ((x >>> (nI sh &&& 31)).toBitVec).signExtend 8 = _
    rw [Int32.toBitVec_shiftRight]
    show (x.toBitVec.sshiftRight (((nI sh &&& 31).toBitVec.smod 32).toNat)).signExtend 8 = _
    rw [h1]
  have e2 : ((yE x sh).toInt8).toBitVec = ((x.toBitVec >>> sh) &&& 255#32).signExtend 8 := by
    show ((x.toUInt32 >>> ((nI sh).toUInt32 &&& Int32.toUInt32 31)).toBitVec &&& (nI 255).toBitVec).signExtend 8 = _
    rw [UInt32.toBitVec_shiftRight]
    show ((x.toBitVec >>> (((nI sh).toUInt32 &&& Int32.toUInt32 31).toBitVec % 32#32).toNat) &&& 255#32).signExtend 8 = _
    rw [h2]
  rw [e1, e2, BitVec.getLsbD_signExtend, BitVec.getLsbD_signExtend, BitVec.getLsbD_and, g255 i hi, BitVec.getLsbD_sshiftRight, BitVec.getLsbD_ushiftRight]
  rw [if_pos (show i < 32 by omega), if_pos (show i < 32 by omega), if_pos (show sh + i < 32 by omega), decide_eq_false (show ¬ 32 ≤ i by omega)]
  simp
theorem y8 (x : Int32) {j : Nat} (hj : j < 4) : (((x >>> (nI (24 - 8 * j) &&& 31)).toInt8.toInt32).toInt8.toInt32) = (nI (yB x (24 - 8 * j))).toInt8.toInt32 := by
  have h : (x >>> (nI (24 - 8 * j) &&& 31)).toInt8 = (yE x (24 - 8 * j)).toInt8 := by
    have : j = 0 ∨ j = 1 ∨ j = 2 ∨ j = 3 := by omega
    rcases this with h | h | h | h <;> subst h
    · exact y8s (sh := 24) (by decide) (by decide) (by decide)
    · exact y8s (sh := 16) (by decide) (by decide) (by decide)
    · exact y8s (sh := 8) (by decide) (by decide) (by decide)
    · exact y8s (sh := 0) (by decide) (by decide) (by decide)
  rw [Int8.toInt8_toInt32, h, yB_e]
section FED
variable {z : Nat} {E : aEt} {n : Nat} {K N : Nat → Nat} {R : Nat → Nat → Option Nat} {I : Nat → Nat → Int32} {J : Nat → Nat → Int64} {lx : List Value → aH → aO} {m hd : Nat} {T : Nat → Nat}
theorem c_78 (k2 : K 2 = 6) (r2 : R 2 0 = some 3) (k3 : K 3 = 13) (n3 : N 3 = 700) (x : Int32) (h1 : I 2 1 = nI hd) (hh : hd + 4 ≤ 700) : ∃ I', Ca lx 78 [.ref (z + 2), .int x] (St z E n K N R I J) = some (none, St z E n K N R I' J) ∧ I' 2 1 = nI (hd + 4) ∧ (∀ j, j < 4 → I' 3 (hd + j) = nI (yB x (24 - 8 * j))) ∧ (∀ k, k < hd → I' 3 k = I 3 k) ∧ (∀ a, a ≠ 2 → a ≠ 3 → I' a = I a) ∧ (∀ k, k ≠ 1 → I' 2 k = I 2 k) := by
  have st : ∀ (I : Nat → Nat → Int32) (q sh : Nat), I 2 1 = nI q → q < 700 → sh ≤ 24 → Am lx 78 3 [some (.ref (z + 2)), some (.int x), some (.int (nI sh))] [] (0, 0) (St z E n K N R I J) = Am lx 78 3 [some (.ref (z + 2)), some (.int x), some (.int (nI sh + mI 8))] [] (0, 0) (St z E n K N R (u2 (u2 I 3 q (nI (yB x sh))) 2 1 (nI (q + 1))) J) := by
    intro I q sh h1 hq hs
    have ey := yB_e x sh
    unfold yE at ey
    rw [e_78_3]
    simp (disch := first | assumption | omega) [k_St, n_St, i_St, j_St, r_St, wI_St, wJ_St, k_S0, n_S0, i_S0, j_S0, r_S0, wI_S0, wJ_S0, cI_s, cJ_s, cV_s, nR_s, nQ_s, nQ_n, lt_s_, gd_T, gd_t, Option.map_some, lits, neg_mI, nI_add, pk_mul, nI_clamp, nI_eq, nI_leI, nI_ltI, nm_eq, mn_eq, nm_lt, mn_lt, nm_le, mn_le, m_eq, bI_0, bI_1, k2, r2, k3, n3, h1, if_neg, u2_s, u2_a, u2_k, ey]
  have m8 : ∀ a, 8 ≤ a → nI a + mI 8 = nI (a - 8) := fun a ha => by
    have := pk_sub (a := a) (b := 8) ha
    rw [← this]
    show nI a + -(nI 8) = _
    rw [Int32.sub_eq_add_neg]
  have s0 := st I hd 24 h1 (by omega) (by omega)
  rw [m8 24 (by omega)] at s0
  have s1 := st (u2 (u2 I 3 hd (nI (yB x 24))) 2 1 (nI (hd + 1))) (hd + 1) 16 (u2_s _ _ _ _) (by omega) (by omega)
  rw [m8 16 (by omega)] at s1
  have s2 := st (u2 (u2 (u2 (u2 I 3 hd (nI (yB x 24))) 2 1 (nI (hd + 1))) 3 (hd + 1) (nI (yB x 16))) 2 1 (nI (hd + 1 + 1))) (hd + 1 + 1) 8 (u2_s _ _ _ _) (by omega) (by omega)
  rw [m8 8 (by omega)] at s2
  have s3 := st (u2 (u2 (u2 (u2 (u2 (u2 I 3 hd (nI (yB x 24))) 2 1 (nI (hd + 1))) 3 (hd + 1) (nI (yB x 16))) 2 1 (nI (hd + 1 + 1))) 3 (hd + 1 + 1) (nI (yB x 8))) 2 1 (nI (hd + 1 + 1 + 1))) (hd + 1 + 1 + 1) 0 (u2_s _ _ _ _) (by omega) (by omega)
  refine ⟨u2 (u2 (u2 (u2 (u2 (u2 (u2 (u2 I 3 hd (nI (yB x 24))) 2 1 (nI (hd + 1))) 3 (hd + 1) (nI (yB x 16))) 2 1 (nI (hd + 1 + 1))) 3 (hd + 1 + 1) (nI (yB x 8))) 2 1 (nI (hd + 1 + 1 + 1))) 3 (hd + 1 + 1 + 1) (nI (yB x 0))) 2 1 (nI (hd + 1 + 1 + 1 + 1)), ?_, ?_, ?_, ?_, ?_, ?_⟩
  · rw [f_78, show (24 : Int32) = nI 24 from rfl, s0, s1, s2, s3, e_78_3]
    have : nI 0 + mI 8 < 0 := by decide
    rw [if_pos this]
  · rw [u2_s]
  · intro j hj
    have : j = 0 ∨ j = 1 ∨ j = 2 ∨ j = 3 := by omega
    rcases this with h | h | h | h <;> subst h <;> simp (disch := first | assumption | omega) [u2_s, u2_a, u2_k, Nat.add_assoc]
  · intro k hk; simp (disch := first | assumption | omega) [u2_s, u2_a, u2_k, Nat.add_assoc]
  · intro a a1 a2; simp (disch := first | assumption | omega) [u2_s, u2_a, u2_k]
  · intro k hk; simp (disch := first | assumption | omega) [u2_s, u2_a, u2_k]
def arg5 (v1 v2 v3 v4 v5 : Int32) (i : Nat) : Int32 := if i < 4 then v1 else if i < 8 then v2 else if i < 12 then v3 else if i < 16 then v4 else v5
theorem c_112 (k0 : K 0 = 9) (r0 : R 0 0 = some 1) (k1 : K 1 = 3) (r1 : R 1 0 = some 2) (k2 : K 2 = 6) (r2 : R 2 0 = some 3) (k3 : K 3 = 13) (n3 : N 3 = 700) (v1 v2 v3 v4 v5 : Int32) (h1 : I 2 1 = nI hd) (hh : hd ≤ 700) : ∃ I', Ca lx 112 [.ref z, .int v1, .int v2, .int v3, .int v4, .int v5] (St z E n K N R I J) = some (some (.int (if hd + 20 ≤ 700 then nI (hd + 20) else mI 1)), St z E n K N R I' J) ∧ (hd + 20 ≤ 700 → I' 2 1 = nI (hd + 20) ∧ (∀ j, j < 20 → I' 3 (hd + j) = nI (yB (arg5 v1 v2 v3 v4 v5 j) (24 - 8 * (j % 4)))) ∧ (∀ k, k < hd → I' 3 k = I 3 k)) ∧ (¬ hd + 20 ≤ 700 → I' = I) ∧ (∀ a, a ≠ 2 → a ≠ 3 → I' a = I a) ∧ (∀ k, k ≠ 1 → I' 2 k = I 2 k) := by
  by_cases c : hd + 20 ≤ 700
  · obtain ⟨I1, a1, a2, a3, a4, a5, a6⟩ := c_78 (lx := lx) (z := z) (E := E) (n := n) (J := J) k2 r2 k3 n3 v1 h1 (by omega)
    obtain ⟨I2, b1, b2, b3, b4, b5, b6⟩ := c_78 (lx := lx) (z := z) (E := E) (n := n) (J := J) k2 r2 k3 n3 v2 a2 (by omega)
    obtain ⟨I3, c1, c2, c3, c4, c5, c6⟩ := c_78 (lx := lx) (z := z) (E := E) (n := n) (J := J) k2 r2 k3 n3 v3 b2 (by omega)
    obtain ⟨I4, d1, d2, d3, d4, d5, d6⟩ := c_78 (lx := lx) (z := z) (E := E) (n := n) (J := J) k2 r2 k3 n3 v4 c2 (by omega)
    obtain ⟨I5, e1, e2, e3, e4, e5, e6⟩ := c_78 (lx := lx) (z := z) (E := E) (n := n) (J := J) k2 r2 k3 n3 v5 d2 (by omega)
    have e77 : Ca lx 77 [.ref (z + 2)] (St z E n K N R I J) = some (some (.int (nI 1)), (St z E n K N R I J)) := by
      rw [f_77]
      simp (disch := first | assumption | omega) [k_St, n_St, i_St, j_St, r_St, wI_St, wJ_St, k_S0, n_S0, i_S0, j_S0, r_S0, wI_S0, wJ_S0, cI_s, cJ_s, cV_s, nR_s, nQ_s, nQ_n, lt_s_, gd_T, gd_t, Option.map_some, lits, neg_mI, nI_add, pk_mul, nI_clamp, nI_eq, nI_leI, nI_ltI, nm_eq, mn_eq, nm_lt, mn_lt, nm_le, mn_le, m_eq, bI_0, bI_1, k2, h1, if_neg]
    refine ⟨I5, ?_, fun _ => ⟨by rw [e2], fun j hj => ?_, fun k hk => ?_⟩, fun h => absurd c h, fun a x1 x2 => ?_, fun k hk => ?_⟩
    · rw [if_pos c, f_112]
      simp (disch := first | assumption | omega) [k_St, n_St, i_St, j_St, r_St, wI_St, wJ_St, k_S0, n_S0, i_S0, j_S0, r_S0, wI_S0, wJ_S0, cI_s, cJ_s, cV_s, nR_s, nQ_s, nQ_n, lt_s_, gd_T, gd_t, Option.map_some, lits, neg_mI, nI_add, pk_mul, nI_clamp, nI_eq, nI_leI, nI_ltI, nm_eq, mn_eq, nm_lt, mn_lt, nm_le, mn_le, m_eq, bI_0, bI_1, k0, r0, k1, r1, k2, e77, a1, b1, c1, d1, e1, e2]
    · unfold arg5
      by_cases j1 : j < 4
      · rw [if_pos j1, e4 _ (by omega), d4 _ (by omega), c4 _ (by omega), b4 _ (by omega), a3 j j1, Nat.mod_eq_of_lt j1]
      · rw [if_neg j1]
        by_cases j2 : j < 8
        · rw [if_pos j2, e4 _ (by omega), d4 _ (by omega), c4 _ (by omega), show hd + j = hd + 4 + (j - 4) by omega, b3 _ (by omega), show j % 4 = j - 4 by omega]
        · rw [if_neg j2]
          by_cases j3 : j < 12
          · rw [if_pos j3, e4 _ (by omega), d4 _ (by omega), show hd + j = hd + 4 + 4 + (j - 8) by omega, c3 _ (by omega), show j % 4 = j - 8 by omega]
          · rw [if_neg j3]
            by_cases j4 : j < 16
            · rw [if_pos j4, e4 _ (by omega), show hd + j = hd + 4 + 4 + 4 + (j - 12) by omega, d3 _ (by omega), show j % 4 = j - 12 by omega]
            · rw [if_neg j4, show hd + j = hd + 4 + 4 + 4 + 4 + (j - 16) by omega, e3 _ (by omega), show j % 4 = j - 16 by omega]
    · rw [e4 _ (by omega), d4 _ (by omega), c4 _ (by omega), b4 _ (by omega), a4 k hk]
    · rw [e5 a x1 x2, d5 a x1 x2, c5 a x1 x2, b5 a x1 x2, a5 a x1 x2]
    · rw [e6 k hk, d6 k hk, c6 k hk, b6 k hk, a6 k hk]
  · have e77 : Ca lx 77 [.ref (z + 2)] (St z E n K N R I J) = some (some (.int (nI 0)), (St z E n K N R I J)) := by
      rw [f_77]
      simp (disch := first | assumption | omega) [k_St, n_St, i_St, j_St, r_St, wI_St, wJ_St, k_S0, n_S0, i_S0, j_S0, r_S0, wI_S0, wJ_S0, cI_s, cJ_s, cV_s, nR_s, nQ_s, nQ_n, lt_s_, gd_T, gd_t, Option.map_some, lits, neg_mI, nI_add, pk_mul, nI_clamp, nI_eq, nI_leI, nI_ltI, nm_eq, mn_eq, nm_lt, mn_lt, nm_le, mn_le, m_eq, bI_0, bI_1, k2, h1, if_pos]
    refine ⟨I, ?_, fun h => absurd h c, fun _ => rfl, fun _ _ _ => rfl, fun _ _ => rfl⟩
    rw [if_neg c, f_112]
    simp (disch := first | assumption | omega) [k_St, n_St, i_St, j_St, r_St, wI_St, wJ_St, k_S0, n_S0, i_S0, j_S0, r_S0, wI_S0, wJ_S0, cI_s, cJ_s, cV_s, nR_s, nQ_s, nQ_n, lt_s_, gd_T, gd_t, Option.map_some, lits, neg_mI, nI_add, pk_mul, nI_clamp, nI_eq, nI_leI, nI_ltI, nm_eq, mn_eq, nm_lt, mn_lt, nm_le, mn_le, m_eq, bI_0, bI_1, k0, r0, k1, r1, k2, e77]
theorem d_222a (m0 : K 132 = 11) (m1 : R 132 5 = some 133) (m2 : K 133 = 12) (m3 : N 133 = 700) (v1 v2 v3 v4 v5 : Int32) (hh : hd + 20 ≤ 700) (b : aB) : ∀ (n' i : Nat) (I : Nat → Nat → Int32), i + n' = 20 → I 132 6 = nI (hd + i) → ∃ I', Am lx 222 14 [some (.ref (z + 132)), some (.int v1), some (.int v2), some (.int v3), some (.int v4), some (.int v5), some (.int (nI i)), none] [] b (St z E n K N R I J) = some (some (.int (nI (hd + 20))), St z E n K N R I' J) ∧ I' 132 6 = nI (hd + 20) ∧ (∀ j, i ≤ j → j < 20 → I' 133 (hd + j) = (nI (yB (arg5 v1 v2 v3 v4 v5 j) (24 - 8 * (j % 4)))).toInt8.toInt32) ∧ (∀ k, k < hd + i → I' 133 k = I 133 k) ∧ (∀ a, a ≠ 132 → a ≠ 133 → I' a = I a) ∧ (∀ k, k ≠ 6 → I' 132 k = I 132 k)
  | 0, i, I, hi, h6 => by
    have i20 : i = 20 := by omega
    subst i20
    refine ⟨I, ?_, h6, fun j j1 j2 => by omega, fun _ _ => rfl, fun _ _ _ => rfl, fun _ _ => rfl⟩
    rw [e_222_14]
    simp (disch := first | assumption | omega) [k_St, n_St, i_St, j_St, r_St, wI_St, wJ_St, k_S0, n_S0, i_S0, j_S0, r_S0, wI_S0, wJ_S0, cI_s, cJ_s, cV_s, nR_s, nQ_s, nQ_n, lt_s_, gd_T, gd_t, Option.map_some, lits, neg_mI, nI_add, pk_mul, nI_clamp, nI_eq, nI_leI, nI_ltI, nm_eq, mn_eq, nm_lt, mn_lt, nm_le, mn_le, m_eq, bI_0, bI_1, m0, h6]
  | n' + 1, i, I, hi, h6 => by
    obtain ⟨I', e1, e2, e3, e4, e5, e6⟩ := d_222a m0 m1 m2 m3 v1 v2 v3 v4 v5 hh b n' (i + 1) (u2 (u2 I 133 (hd + i) ((nI (yB (arg5 v1 v2 v3 v4 v5 i) (24 - 8 * (i % 4)))).toInt8.toInt32)) 132 6 (nI (hd + i + 1))) (by omega) (by rw [u2_s, Nat.add_assoc])
    have r39 : Am lx 222 14 [some (.ref (z + 132)), some (.int v1), some (.int v2), some (.int v3), some (.int v4), some (.int v5), some (.int (nI i)), none] [] b (St z E n K N R I J) = Am lx 222 39 [some (.ref (z + 132)), some (.int v1), some (.int v2), some (.int v3), some (.int v4), some (.int v5), some (.int (nI i)), none] [.int (arg5 v1 v2 v3 v4 v5 i)] b (St z E n K N R I J) := by
      rw [e_222_14]
      unfold arg5
      have c20 : ¬ 20 ≤ i := by omega
      by_cases j1 : i < 4
      · have : ¬ 4 ≤ i := by omega
        simp (disch := first | assumption | omega) [k_St, n_St, i_St, j_St, r_St, wI_St, wJ_St, k_S0, n_S0, i_S0, j_S0, r_S0, wI_S0, wJ_S0, cI_s, cJ_s, cV_s, nR_s, nQ_s, nQ_n, lt_s_, gd_T, gd_t, Option.map_some, lits, neg_mI, nI_add, pk_mul, nI_clamp, nI_eq, nI_leI, nI_ltI, nm_eq, mn_eq, nm_lt, mn_lt, nm_le, mn_le, m_eq, bI_0, bI_1, c20, this, j1]
      · by_cases j2 : i < 8
        · have x1 : ¬ 8 ≤ i := by omega
          have x2 : 4 ≤ i := by omega
          simp (disch := first | assumption | omega) [k_St, n_St, i_St, j_St, r_St, wI_St, wJ_St, k_S0, n_S0, i_S0, j_S0, r_S0, wI_S0, wJ_S0, cI_s, cJ_s, cV_s, nR_s, nQ_s, nQ_n, lt_s_, gd_T, gd_t, Option.map_some, lits, neg_mI, nI_add, pk_mul, nI_clamp, nI_eq, nI_leI, nI_ltI, nm_eq, mn_eq, nm_lt, mn_lt, nm_le, mn_le, m_eq, bI_0, bI_1, c20, x1, x2, j1, j2]
        · by_cases j3 : i < 12
          · have x1 : ¬ 12 ≤ i := by omega
            have x2 : 4 ≤ i := by omega
            have x3 : 8 ≤ i := by omega
            simp (disch := first | assumption | omega) [k_St, n_St, i_St, j_St, r_St, wI_St, wJ_St, k_S0, n_S0, i_S0, j_S0, r_S0, wI_S0, wJ_S0, cI_s, cJ_s, cV_s, nR_s, nQ_s, nQ_n, lt_s_, gd_T, gd_t, Option.map_some, lits, neg_mI, nI_add, pk_mul, nI_clamp, nI_eq, nI_leI, nI_ltI, nm_eq, mn_eq, nm_lt, mn_lt, nm_le, mn_le, m_eq, bI_0, bI_1, c20, x1, x2, x3, j1, j2, j3]
          · by_cases j4 : i < 16
            · have x1 : ¬ 16 ≤ i := by omega
              have x2 : 4 ≤ i := by omega
              have x3 : 8 ≤ i := by omega
              have x4 : 12 ≤ i := by omega
              simp (disch := first | assumption | omega) [k_St, n_St, i_St, j_St, r_St, wI_St, wJ_St, k_S0, n_S0, i_S0, j_S0, r_S0, wI_S0, wJ_S0, cI_s, cJ_s, cV_s, nR_s, nQ_s, nQ_n, lt_s_, gd_T, gd_t, Option.map_some, lits, neg_mI, nI_add, pk_mul, nI_clamp, nI_eq, nI_leI, nI_ltI, nm_eq, mn_eq, nm_lt, mn_lt, nm_le, mn_le, m_eq, bI_0, bI_1, c20, x1, x2, x3, x4, j1, j2, j3, j4]
            · have x2 : 4 ≤ i := by omega
              have x3 : 8 ≤ i := by omega
              have x4 : 12 ≤ i := by omega
              have x5 : 16 ≤ i := by omega
              simp (disch := first | assumption | omega) [k_St, n_St, i_St, j_St, r_St, wI_St, wJ_St, k_S0, n_S0, i_S0, j_S0, r_S0, wI_S0, wJ_S0, cI_s, cJ_s, cV_s, nR_s, nQ_s, nQ_n, lt_s_, gd_T, gd_t, Option.map_some, lits, neg_mI, nI_add, pk_mul, nI_clamp, nI_eq, nI_leI, nI_ltI, nm_eq, mn_eq, nm_lt, mn_lt, nm_le, mn_le, m_eq, bI_0, bI_1, c20, x2, x3, x4, x5, j1, j2, j3, j4]
    have rm : nI i - nI i / nI 4 * nI 4 = nI (i % 4) := pk_rem (by omega) (by omega) (by omega)
    have s24 : nI 24 - nI (8 * (i % 4)) = nI (24 - 8 * (i % 4)) := pk_sub (by omega)
    have ey := y8 (arg5 v1 v2 v3 v4 v5 i) (j := i % 4) (by omega)
    have n4 : ¬ nI 4 = nI 0 := by decide
    refine ⟨I', ?_, e2, fun j j1 j2 => ?_, fun k hk => ?_, fun a a1 a2 => ?_, fun k hk => ?_⟩
    · rw [r39, e_222_39]
      simp only [k_St, n_St, i_St, r_St, m0, m1, m2, m3, gd_t, Option.map_some, nR_s, h6, wI_St, lt_s_, show (4 : Int32) = nI 4 from rfl, show (8 : Int32) = nI 8 from rfl, show (24 : Int32) = nI 24 from rfl, show (1 : Int32) = nI 1 from rfl, show (0 : Int32) = nI 0 from rfl, rm, pk_mul, s24, ey, nI_add]
      rw [gd_t (by decide), gd_t ⟨trivial, ix_n (by omega) (by decide)⟩, nI_clamp (by omega)]
      simp only [u2_a _ 133 _ 132 _ (by decide), h6, nI_add, k_St, m0, gd_t]
      exact e1
    · by_cases c : j = i
      · rw [c, e4 _ (by omega), u2_a _ _ _ _ _ (by decide), u2_s]
      · exact e3 j (by omega) j2
    · rw [e4 k (by omega), u2_a _ _ _ _ _ (by decide), u2_k _ _ _ _ _ (by omega)]
    · rw [e5 a a1 a2, u2_a _ _ _ _ _ a1, u2_a _ _ _ _ _ a2]
    · rw [e6 k hk, u2_k _ _ _ _ _ hk, u2_a _ _ _ _ _ (by decide)]
theorem d_222 (m0 : K 132 = 11) (m1 : R 132 5 = some 133) (m2 : K 133 = 12) (m3 : N 133 = 700) (v1 v2 v3 v4 v5 : Int32) (h6 : I 132 6 = nI hd) (hh : hd ≤ 700) : ∃ I', Ca lx 222 [.ref (z + 132), .int v1, .int v2, .int v3, .int v4, .int v5] (St z E n K N R I J) = some (some (.int (if hd + 20 ≤ 700 then nI (hd + 20) else mI 1)), St z E n K N R I' J) ∧ (hd + 20 ≤ 700 → I' 132 6 = nI (hd + 20) ∧ (∀ j, j < 20 → I' 133 (hd + j) = (nI (yB (arg5 v1 v2 v3 v4 v5 j) (24 - 8 * (j % 4)))).toInt8.toInt32) ∧ (∀ k, k < hd → I' 133 k = I 133 k)) ∧ (¬ hd + 20 ≤ 700 → I' = u2 I 132 0 (nI 0)) ∧ (∀ a, a ≠ 132 → a ≠ 133 → I' a = I a) ∧ (∀ k, k ≠ 0 → k ≠ 6 → I' 132 k = I 132 k) := by
  by_cases c : hd + 20 ≤ 700
  · obtain ⟨I', e1, e2, e3, e4, e5, e6⟩ := d_222a (lx := lx) (z := z) (E := E) (n := n) (J := J) m0 m1 m2 m3 v1 v2 v3 v4 v5 c (0, 0) 20 0 (u2 I 132 0 (nI 0)) (by omega) (by rw [u2_k _ _ _ _ _ (by decide), h6]; rfl)
    refine ⟨I', ?_, fun _ => ⟨e2, fun j hj => e3 j (by omega) hj, fun k hk => ?_⟩, fun h => absurd c h, fun a a1 a2 => ?_, fun k k1 k2 => ?_⟩
    · rw [if_pos c, f_222]
      simp (disch := first | assumption | omega) [k_St, n_St, i_St, j_St, r_St, wI_St, wJ_St, k_S0, n_S0, i_S0, j_S0, r_S0, wI_S0, wJ_S0, cI_s, cJ_s, cV_s, nR_s, nQ_s, nQ_n, lt_s_, gd_T, gd_t, Option.map_some, lits, neg_mI, nI_add, pk_mul, nI_clamp, nI_eq, nI_leI, nI_ltI, nm_eq, mn_eq, nm_lt, mn_lt, nm_le, mn_le, m_eq, bI_0, bI_1, m0, u2_s, u2_a, u2_k, h6, c]
      exact e1
    · rw [e4 k (by omega), u2_a _ _ _ _ _ (by decide)]
    · rw [e5 a a1 a2, u2_a _ _ _ _ _ a1]
    · rw [e6 k k2, u2_k _ _ _ _ _ k1]
  · refine ⟨u2 I 132 0 (nI 0), ?_, fun h => absurd h c, fun _ => rfl, fun a a1 a2 => u2_a _ _ _ _ _ a1, fun k k1 k2 => u2_k _ _ _ _ _ k1⟩
    rw [if_neg c, f_222]
    simp (disch := first | assumption | omega) [k_St, n_St, i_St, j_St, r_St, wI_St, wJ_St, k_S0, n_S0, i_S0, j_S0, r_S0, wI_S0, wJ_S0, cI_s, cJ_s, cV_s, nR_s, nQ_s, nQ_n, lt_s_, gd_T, gd_t, Option.map_some, lits, neg_mI, nI_add, pk_mul, nI_clamp, nI_eq, nI_leI, nI_ltI, nm_eq, mn_eq, nm_lt, mn_lt, nm_le, mn_le, m_eq, bI_0, bI_1, m0, u2_s, u2_a, u2_k, h6, c]
end FED
