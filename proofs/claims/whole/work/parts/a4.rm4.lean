section RM4
variable {z : Nat} {E : aEt} {n : Nat} {K N : Nat → Nat} {R : Nat → Nat → Option Nat} {I : Nat → Nat → Int32} {J : Nat → Nat → Int64} {lx : List Value → aH → aO} {f s q m e : Nat} {T : Nat → Nat} {F G : Nat → Nat → Nat} {w r : Bool} {x : Exc Nat}
theorem tn64 {a : Nat} (ha : a < 2 ^ 63) : (lN a).toBitVec.toNat = a := by
  show (BitVec.ofNat 64 a).toNat = a
  rw [BitVec.toNat_ofNat, Nat.mod_eq_of_lt (by omega)]
theorem sm64 : ∀ k, k < 64 → (((nI k).toInt64 &&& 63).toBitVec.smod 64).toNat = k := by decide +kernel
theorem l32 : ∀ b, b < 32 → (lN b).toInt32 = nI b := by decide +kernel
theorem shr {a k : Nat} (ha : a < 2 ^ 63) (hk : k < 64) : lN a >>> ((nI k).toInt64 &&& 63) = lN (a / 2 ^ k) := by
  rw [← Int64.toBitVec_inj, Int64.toBitVec_shiftRight]
  apply BitVec.eq_of_toNat_eq
  have hm : (lN a).toBitVec.msb = false := by
    rw [BitVec.msb_eq_false_iff_two_mul_lt, tn64 ha]; omega
  have hd : a / 2 ^ k < 2 ^ 63 := Nat.lt_of_le_of_lt (Nat.div_le_self _ _) ha
  show ((lN a).toBitVec.sshiftRight (((nI k).toInt64 &&& 63).toBitVec.smod 64).toNat).toNat = _
  rw [sm64 k hk, BitVec.sshiftRight_eq_of_msb_false hm, BitVec.toNat_ushiftRight, tn64 ha, tn64 hd, Nat.shiftRight_eq_div_pow]
theorem an31 {a : Nat} (ha : a < 2 ^ 63) : lN a &&& 31 = lN (a % 32) := by
  rw [← Int64.toBitVec_inj, Int64.toBitVec_and]
  apply BitVec.eq_of_toNat_eq
  have h31 : (31 : Int64).toBitVec.toNat = 2 ^ 5 - 1 := by decide
  have hd : a % 32 < 2 ^ 63 := by omega
  rw [BitVec.toNat_and, tn64 ha, tn64 hd, h31, Nat.and_two_pow_sub_one_eq_mod]
theorem p5_q {l : Nat} : ∀ j, (∀ i, i < l + j → 97 ≤ T (s + i) ∧ T (s + i) ≤ 122) → p5 T s (l + j) / 2 ^ (5 * j) = p5 T s l
  | 0, _ => by simp
  | j + 1, h => by
    have ih := p5_q (l := l) j (fun i hi => h i (by omega))
    have hb := h (l + j) (by omega)
    rw [show l + (j + 1) = (l + j) + 1 by omega, p5, show 5 * (j + 1) = 5 + 5 * j by omega, Nat.pow_add, ← Nat.div_div_eq_div_mul]
    rw [show (32 * p5 T s (l + j) + (T (s + (l + j)) - 96)) / 2 ^ 5 = p5 T s (l + j) by omega]
    exact ih
theorem p5_at {l k : Nat} (hk : k < l) (h : ∀ i, i < l → 97 ≤ T (s + i) ∧ T (s + i) ≤ 122) : p5 T s l / 2 ^ (5 * (l - 1 - k)) % 32 = T (s + k) - 96 := by
  have := p5_q (T := T) (s := s) (l := k + 1) (l - 1 - k) (fun i hi => h i (by omega))
  rw [show k + 1 + (l - 1 - k) = l by omega] at this
  have hb := h k hk
  rw [this, p5]
  omega
theorem d_204 {k : Nat} (hM : Rm K N R f) (hT : MTk I J T m s) (h1 : tK T m s = 1) (hk : k < tLn T m s) : Ca lx 204 [.ref (z + 132), .int (nI k)] (St z E n K N R I J) = some (some (.int (nI (T (s + k)))), (St z E n K N R I J)) := by
  obtain ⟨t1, t2, t3, t4, t5, ts⟩ := hT
  obtain ⟨a1, a2⟩ := t4 h1
  have m0 := hM.1
  have tc := tK_c h1 (Or.inl rfl)
  have l8 := tc.2.2.2.1 rfl
  have hb : ∀ i, i < tLn T m s → 97 ≤ T (s + i) ∧ T (s + i) ≤ 122 := fun i hi => kc_1 (tc.2.2.2.2.2 i hi)
  have pa := p5_at hk hb
  have hw := w5_63 h1
  have hq : p5 T s (tLn T m s) / 2 ^ (5 * (tLn T m s - 1 - k)) < 2 ^ 63 := Nat.lt_of_le_of_lt (Nat.div_le_self _ _) hw
  have e1 : nI (tLn T m s) - nI 1 - nI k = nI (tLn T m s - 1 - k) := by rw [pk_sub (by omega), pk_sub (by omega)]
  have e2 : (((lN (w5 T m s) >>> ((nI (5 * (tLn T m s - 1 - k))).toInt64 &&& 63)) &&& 31).toInt32) = nI (T (s + k) - 96) := by
    rw [shr hw (by omega)]
    show ((lN (p5 T s (tLn T m s) / 2 ^ (5 * (tLn T m s - 1 - k))) &&& 31).toInt32) = _
    rw [an31 hq, pa, l32 _ (by have := hb k hk; omega)]
  have hbk := hb k hk
  have e3 : nI (T (s + k) - 96 + 97) - nI 1 = nI (T (s + k)) := by rw [pk_sub (by omega), show T (s + k) - 96 + 97 - 1 = T (s + k) by omega]
  rw [f_204]
  simp (disch := first | assumption | omega) [k_St, n_St, i_St, j_St, r_St, wI_St, wJ_St, k_S0, n_S0, i_S0, j_S0, r_S0, wI_S0, wJ_S0, cI_s, cJ_s, cV_s, nR_s, nQ_s, nQ_n, lt_s_, gd_T, gd_t, Option.map_some, lits, neg_mI, nI_add, pk_mul, nI_clamp, nI_eq, nI_leI, nI_ltI, nm_eq, mn_eq, nm_lt, mn_lt, nm_le, mn_le, m_eq, bI_0, bI_1, m0, a1, a2, e1, e2, e3]
theorem s_213 {b : Nat} (hb : b < 256) (S : aH) : Ca lx 213 [.int (nI b)] S = some (some (.int (if slc b = 4 then mI 1 else nI (slc b))), S) := by
  rw [f_213]
  unfold slc
  simp (disch := first | assumption | omega) [k_St, n_St, i_St, j_St, r_St, wI_St, wJ_St, k_S0, n_S0, i_S0, j_S0, r_S0, wI_S0, wJ_S0, cI_s, cJ_s, cV_s, nR_s, nQ_s, nQ_n, lt_s_, gd_T, gd_t, Option.map_some, lits, neg_mI, nI_add, pk_mul, nI_clamp, nI_eq, nI_leI, nI_ltI, nm_eq, mn_eq, nm_lt, mn_lt, nm_le, mn_le, m_eq, bI_0, bI_1]
  by_cases h1 : b = 99
  · simp [h1]
  · by_cases h2 : b = 103
    · simp [h2]
    · by_cases h3 : b = 114
      · simp [h3]
      · by_cases h4 : b = 115
        · simp [h4]
        · simp [h1, h2, h3, h4]
theorem s_218 {b : Nat} (hb : b < 256) (S : aH) : Ca lx 218 [.int (nI b)] S = some (some (.int (nI (wyl b))), S) := by
  rw [f_218]
  unfold wyl
  simp (disch := first | assumption | omega) [k_St, n_St, i_St, j_St, r_St, wI_St, wJ_St, k_S0, n_S0, i_S0, j_S0, r_S0, wI_S0, wJ_S0, cI_s, cJ_s, cV_s, nR_s, nQ_s, nQ_n, lt_s_, gd_T, gd_t, Option.map_some, lits, neg_mI, nI_add, pk_mul, nI_clamp, nI_eq, nI_leI, nI_ltI, nm_eq, mn_eq, nm_lt, mn_lt, nm_le, mn_le, m_eq, bI_0, bI_1]
  by_cases h1 : b = 101
  · simp [h1]
  · by_cases h2 : b = 110
    · simp [h2]
    · by_cases h3 : b = 115
      · simp [h3]
      · by_cases h4 : b = 119
        · simp [h4]
        · simp [h1, h2, h3, h4]
theorem d_178 (hM : Rm K N R f) (q1 : ∀ c, c < 64 → I (f + 1) c = nI (F 1 c)) (hb : ∀ c, c < 64 → F 1 c ≤ 3) {c : Nat} (hc : c < 64) : Ca lx 178 [.ref (z + f), .int (nI c)] (St z E n K N R I J) = some (some (.int (bI (decide (F 1 c = 3)))), (St z E n K N R I J)) := by
  have b := hb c hc
  obtain ⟨m0, m1, m2, m3, m4, hf, fk, fr12, fr13, fr14, fr15, fr16, fr17, fr18, fr19, fr20, fr21, fr22, fk1, fk2, fk3, fk4, fk5, fk6, fk7, fk8, fk9, fk10, fk11, fn1, fn2, fn3, fn4, fn5, fn6, fn7, fn8, fn9, fn10, fn11⟩ := hM
  rw [f_178]
  by_cases e : F 1 c = 3
  · simp (disch := first | assumption | omega) [k_St, n_St, i_St, j_St, r_St, wI_St, wJ_St, k_S0, n_S0, i_S0, j_S0, r_S0, wI_S0, wJ_S0, cI_s, cJ_s, cV_s, nR_s, nQ_s, nQ_n, lt_s_, gd_T, gd_t, Option.map_some, lits, neg_mI, nI_add, pk_mul, nI_clamp, nI_eq, nI_leI, nI_ltI, nm_eq, mn_eq, nm_lt, mn_lt, nm_le, mn_le, m_eq, bI_0, bI_1, fk, fr12, fk1, fn1, q1 c hc, e] <;> rfl
  · simp (disch := first | assumption | omega) [k_St, n_St, i_St, j_St, r_St, wI_St, wJ_St, k_S0, n_S0, i_S0, j_S0, r_S0, wI_S0, wJ_S0, cI_s, cJ_s, cV_s, nR_s, nQ_s, nQ_n, lt_s_, gd_T, gd_t, Option.map_some, lits, neg_mI, nI_add, pk_mul, nI_clamp, nI_eq, nI_leI, nI_ltI, nm_eq, mn_eq, nm_lt, mn_lt, nm_le, mn_le, m_eq, bI_0, bI_1, fk, fr12, fk1, fn1, q1 c hc, e] <;> rfl
theorem d_179 (hM : Rm K N R f) (q1 : ∀ c, c < 64 → I (f + 1) c = nI (F 1 c)) (hb : ∀ c, c < 64 → F 1 c ≤ 3) (x : Nat) : Ca lx 179 [.ref (z + f), .int (oI x)] (St z E n K N R I J) = some (some (.int (bI (decide (x < 64) && !decide (F 1 x = 3)))), (St z E n K N R I J)) := by
  have kf := hM.2.2.2.2.2.2.1
  rw [f_179]
  by_cases hx : x < 64
  · rw [oI_lt hx, d_178 hM q1 hb hx]
    by_cases e : F 1 x = 3
    · simp (disch := first | assumption | omega) [k_St, n_St, i_St, j_St, r_St, wI_St, wJ_St, k_S0, n_S0, i_S0, j_S0, r_S0, wI_S0, wJ_S0, cI_s, cJ_s, cV_s, nR_s, nQ_s, nQ_n, lt_s_, gd_T, gd_t, Option.map_some, lits, neg_mI, nI_add, pk_mul, nI_clamp, nI_eq, nI_leI, nI_ltI, nm_eq, mn_eq, nm_lt, mn_lt, nm_le, mn_le, m_eq, bI_0, bI_1, kf, e] <;> rfl
    · simp (disch := first | assumption | omega) [k_St, n_St, i_St, j_St, r_St, wI_St, wJ_St, k_S0, n_S0, i_S0, j_S0, r_S0, wI_S0, wJ_S0, cI_s, cJ_s, cV_s, nR_s, nQ_s, nQ_n, lt_s_, gd_T, gd_t, Option.map_some, lits, neg_mI, nI_add, pk_mul, nI_clamp, nI_eq, nI_leI, nI_ltI, nm_eq, mn_eq, nm_lt, mn_lt, nm_le, mn_le, m_eq, bI_0, bI_1, kf, e, hx] <;> rfl
  · rw [oI_ge hx]
    simp (disch := first | assumption | omega) [k_St, n_St, i_St, j_St, r_St, wI_St, wJ_St, k_S0, n_S0, i_S0, j_S0, r_S0, wI_S0, wJ_S0, cI_s, cJ_s, cV_s, nR_s, nQ_s, nQ_n, lt_s_, gd_T, gd_t, Option.map_some, lits, neg_mI, nI_add, pk_mul, nI_clamp, nI_eq, nI_leI, nI_ltI, nm_eq, mn_eq, nm_lt, mn_lt, nm_le, mn_le, m_eq, bI_0, bI_1, hx] <;> rfl
theorem d_177 (kf : K f = 10) (e4 : I f 4 = nI (F 0 4)) (e5 : I f 5 = nI (F 0 5)) (o4x : F 0 4 ≤ 8) (o5x : F 0 5 ≤ 8) {c w : Nat} (hc : c < 64) (hi : inF F c = true) (hw : w < 5) (h0 : 1 ≤ w) : Ca lx 177 [.ref (z + f), .int (nI c), .int (nI w)] (St z E n K N R I J) = some (some (.int (oI (nf F c w))), (St z E n K N R I J)) := by
  rw [f_177]
  have e8 : (8 : Int32) = nI 8 := rfl
  have c1 : nI c - nI c / 8 * 8 = nI (c % 8) := by rw [e8]; exact pk_rem (by omega) (by omega) (by omega)
  have c2 : nI c / 8 = nI (c / 8) := by rw [e8]; exact pk_div (by omega) (by omega) (by omega)
  have g8 : (¬ (8 : Int32) = 0) := by decide
  rw [c2] at c1
  simp only [c2, c1, gd_t g8, e_177_15, e_177_32, i_St, e4, e5, k_St, kf, gd_t]
  have key : ∀ a b : Fin 9, ∀ c : Fin 64, ∀ w : Fin 5, 1 ≤ w.val → c.val % 8 < a.val → c.val / 8 < b.val → (if nI (c.val % 8) + (if nI w.val = 2 then 1 else if nI w.val = 4 then -1 else 0) < 0 then (-1) else if nI a.val ≤ nI (c.val % 8) + (if nI w.val = 2 then 1 else if nI w.val = 4 then -1 else 0) then (-1) else if nI (c.val / 8) + (if nI w.val = 3 then 1 else if nI w.val = 1 then -1 else 0) < 0 then (-1) else if nI (c.val / 8) + (if nI w.val = 3 then 1 else if nI w.val = 1 then -1 else 0) < nI b.val then 8 * (nI (c.val / 8) + (if nI w.val = 3 then 1 else if nI w.val = 1 then -1 else 0)) + (nI (c.val % 8) + (if nI w.val = 2 then 1 else if nI w.val = 4 then -1 else 0)) else (-1)) = oI (if nxc c.val w.val < 64 ∧ (decide (nxc c.val w.val % 8 < a.val) && decide (nxc c.val w.val / 8 < b.val)) = true then nxc c.val w.val else 64) := by decide +kernel
  have hi2 : c % 8 < F 0 4 ∧ c / 8 < F 0 5 := by simpa [inF] using hi
  have := key ⟨F 0 4, by omega⟩ ⟨F 0 5, by omega⟩ ⟨c, hc⟩ ⟨w, hw⟩ h0 hi2.1 hi2.2
  simp only at this
  unfold nf inF
  rw [← this]
  clear this key
  have ws : w = 1 ∨ w = 2 ∨ w = 3 ∨ w = 4 := by omega
  have t12 : ¬ (nI 1 = (2 : Int32)) := by decide
  have t0 : ∀ S : aH, ∀ c : Prop, ∀ _ : Decidable c, ∀ a b : Int32, (some (some (Value.int (if c then a else b)), S) : aO) = if c then some (some (Value.int a), S) else some (some (Value.int b), S) := by
    intro S c _ a b; split <;> rfl
  rcases ws with e | e | e | e <;> subst e <;> simp (decide := true) only [if_true, if_false, t0, gd_T]
theorem d_175a {c : Nat} {y : Int64} (hM : Rm K N R f) (h10 : I f 10 = nI c) (hc : c ≤ 8) (b : aB) : ∀ n' i, i + n' = c → Am lx 175 3 [some (.ref (z + f)), some (.long y), none, some (.int (nI i))] [] b (St z E n K N R I J) = some (some (.int (oX (i + rn (fun i => !decide (J (f + 9) i = y)) i n') c)), (St z E n K N R I J))
  | 0, i, h => by
    have kf := hM.2.2.2.2.2.2.1
    rw [e_175_3]
    simp (disch := first | assumption | omega) [k_St, n_St, i_St, j_St, r_St, wI_St, wJ_St, k_S0, n_S0, i_S0, j_S0, r_S0, wI_S0, wJ_S0, cI_s, cJ_s, cV_s, nR_s, nQ_s, nQ_n, lt_s_, gd_T, gd_t, Option.map_some, lits, neg_mI, nI_add, pk_mul, nI_clamp, nI_eq, nI_leI, nI_ltI, nm_eq, mn_eq, nm_lt, mn_lt, nm_le, mn_le, m_eq, bI_0, bI_1, if_pos, rn, kf, h10]
    unfold oX
    rw [if_neg (by omega)]
  | n' + 1, i, h => by
    have ih := d_175a (y := y) hM h10 hc b n' (i + 1) (by omega)
    have n4 : Int32.ofNat 8 = nI 8 := rfl
    obtain ⟨m0, m1, m2, m3, m4, hf, fk, fr12, fr13, fr14, fr15, fr16, fr17, fr18, fr19, fr20, fr21, fr22, fk1, fk2, fk3, fk4, fk5, fk6, fk7, fk8, fk9, fk10, fk11, fn1, fn2, fn3, fn4, fn5, fn6, fn7, fn8, fn9, fn10, fn11⟩ := hM
    rw [e_175_3, rn]
    by_cases c2 : J (f + 9) i = y
    · simp (disch := first | assumption | omega) [k_St, n_St, i_St, j_St, r_St, wI_St, wJ_St, k_S0, n_S0, i_S0, j_S0, r_S0, wI_S0, wJ_S0, cI_s, cJ_s, cV_s, nR_s, nQ_s, nQ_n, lt_s_, gd_T, gd_t, Option.map_some, lits, neg_mI, nI_add, pk_mul, nI_clamp, nI_eq, nI_leI, nI_ltI, nm_eq, mn_eq, nm_lt, mn_lt, nm_le, mn_le, m_eq, bI_0, bI_1, if_neg, fk, fr20, fk9, fn9, n4, lgc, c2, h10]
      unfold oX
      rw [if_pos (by omega)]
    · simp (disch := first | assumption | omega) [k_St, n_St, i_St, j_St, r_St, wI_St, wJ_St, k_S0, n_S0, i_S0, j_S0, r_S0, wI_S0, wJ_S0, cI_s, cJ_s, cV_s, nR_s, nQ_s, nQ_n, lt_s_, gd_T, gd_t, Option.map_some, lits, neg_mI, nI_add, pk_mul, nI_clamp, nI_eq, nI_leI, nI_ltI, nm_eq, mn_eq, nm_lt, mn_lt, nm_le, mn_le, m_eq, bI_0, bI_1, if_neg, fk, fr20, fk9, fn9, n4, lgc, c2, h10]
      rw [ih, show i + (rn (fun i => !decide (J (f + 9) i = y)) (i + 1) n' + 1) = i + 1 + rn (fun i => !decide (J (f + 9) i = y)) (i + 1) n' by omega]
theorem d_175 {c : Nat} {y : Int64} (hM : Rm K N R f) (h10 : I f 10 = nI c) (hc : c ≤ 8) : Ca lx 175 [.ref (z + f), .long y] (St z E n K N R I J) = some (some (.int (oX (fdi (fun i => decide (J (f + 9) i = y)) c) c)), (St z E n K N R I J)) := by
  have := d_175a (lx := lx) (z := z) (E := E) (n := n) (J := J) (y := y) hM h10 hc (0, 0) c 0 (by omega)
  rw [f_175]
  rw [Nat.zero_add] at this
  exact this
theorem w58 {t : Nat} (h1 : tK T m s = 1) (h2 : tK T m t = 1) : w5 T m s = w5 T m t ↔ w8 T m s = w8 T m t := p58 h1 h2
/-- the names as the reference keeps them -/
theorem fdN (hN : NM T m (F 0 7) (F 0 8) G) (hI : MNm I J f T m (F 0 7 + F 0 8) G) (hs : tK T m s = 1) : fdi (fun i => decide (J (f + 9) i = lN (w5 T m s))) (F 0 7 + F 0 8) = fdi (fun k => decide (w8 T m (G 2 k) = w8 T m s)) (F 0 7 + F 0 8) :=
  fdi_c (fun i hi => by
    have ki := (hN.1 i hi).1
    have : J (f + 9) i = lN (w5 T m s) ↔ w8 T m (G 2 i) = w8 T m s := by
      rw [(hI.2 i hi).1, ← w58 ki hs]; exact pk_lEQ (w5_63 ki) (w5_63 hs)
    simp only [this])
theorem kn_2 (hN : NM T m (F 0 7) (F 0 8) G) : anyB (fun k => decide (w8 T m (G 2 k) = w8 T m s)) (F 0 7 + F 0 8) = kn T m F G s := by
  obtain ⟨h1, h2, h3, _⟩ := hN
  rw [Bool.eq_iff_iff]
  unfold kn
  rw [Bool.or_eq_true, anyB_t, anyB_t, anyB_t]
  simp only [decide_eq_true_eq]
  constructor
  · intro ⟨k, k1, k2⟩
    obtain ⟨_, b⟩ := h1 k k1
    rcases b with ⟨_, b1, b2⟩ | ⟨_, b1, b2⟩
    · exact Or.inl ⟨G 4 k, b1, by rw [← b2]; exact k2⟩
    · exact Or.inr ⟨G 4 k, b1, by rw [← b2]; exact k2⟩
  · intro h
    rcases h with ⟨d, d1, d2⟩ | ⟨d, d1, d2⟩
    · obtain ⟨k, k1, k2, k3⟩ := h2 d d1
      obtain ⟨_, b⟩ := h1 k k1
      rcases b with ⟨_, _, b2⟩ | ⟨b0, _, _⟩
      · exact ⟨k, k1, by rw [b2, k3]; exact d2⟩
      · omega
    · obtain ⟨k, k1, k2, k3⟩ := h3 d d1
      obtain ⟨_, b⟩ := h1 k k1
      rcases b with ⟨b0, _, _⟩ | ⟨_, _, b2⟩
      · omega
      · exact ⟨k, k1, by rw [b2, k3]; exact d2⟩
theorem b_207c (hM : Rm K N R f) (h : MBd I f e q) (b : aB) : Am lx 207 18 [some (.ref (z + 132)), none, none] [] b (St z E n K N R I J) = some (some (.long (J 132 15)), (St z E n K N R I J)) := by
  have e6 := b_196 (lx := lx) (z := z) (E := E) (n := n) (J := J) hM h
  have m0 := hM.1
  rw [e_207_18]
  simp (disch := first | assumption | omega) [k_St, n_St, i_St, j_St, r_St, wI_St, wJ_St, k_S0, n_S0, i_S0, j_S0, r_S0, wI_S0, wJ_S0, cI_s, cJ_s, cV_s, nR_s, nQ_s, nQ_n, lt_s_, gd_T, gd_t, Option.map_some, lits, neg_mI, nI_add, pk_mul, nI_clamp, nI_eq, nI_leI, nI_ltI, nm_eq, mn_eq, nm_lt, mn_lt, nm_le, mn_le, m_eq, bI_0, bI_1, m0, e6]
theorem b_207b (hM : Rm K N R f) (h : MBd I f e q) (b : aB) : Am lx 207 7 [some (.ref (z + 132)), none, none] [] b (St z E n K N R I J) = some (some (.long (J 132 15)), (St z E n K N R I J)) := by
  have e6 := b_207c (lx := lx) (z := z) (E := E) (n := n) (J := J) hM h b
  have e7 := b_197 (lx := lx) (z := z) (E := E) (n := n) (J := J) hM h
  obtain ⟨c, c1, c2⟩ := h.2.2.2.2.2
  have e8 := d_175 (lx := lx) (z := z) (E := E) (n := n) (J := J) (y := J 132 15) hM c2 c1
  obtain ⟨m0, m1, m2, m3, m4, hf, fk, fr12, fr13, fr14, fr15, fr16, fr17, fr18, fr19, fr20, fr21, fr22, fk1, fk2, fk3, fk4, fk5, fk6, fk7, fk8, fk9, fk10, fk11, fn1, fn2, fn3, fn4, fn5, fn6, fn7, fn8, fn9, fn10, fn11⟩ := hM
  rw [e_207_7]
  simp only [k_St, i_St, j_St, r_St, m0, m4, fk, gd_t, Option.map_some, nR_s, e8, cI_s, e7, cV_s, e6, ite_self]
theorem d_207 (hM : Rm K N R f) (hB : MB I T m) (hE : EOk E) (hn : FCn F) (hN : NM T m (F 0 7) (F 0 8) G) (h : MS I J f T m F w r G x) : ∃ v I' J', Ca lx 207 [.ref (z + 132)] (St z E n K N R I J) = some (some (.long v), St z E n K N R I' J') ∧ MS I' J' f T m F w r G (x.bind (pNm T m F G)) ∧ MF f I I' J J' ∧ (∀ s t, x = .ok s → pNm T m F G s = .ok t → v = lN (w5 T m s)) := by
  have m0 := hM.1
  have hf := hM.2.2.2.2.2.1
  have kf := hM.2.2.2.2.2.2.1
  have m4 := hM.2.2.2.2.1
  cases x with
  | error v =>
    have h' : MBd I f v.1 v.2 := h
    have e1 := b_205 (lx := lx) (z := z) (E := E) (n := n) (J := J) hM h'
    have e7 := b_197 (lx := lx) (z := z) (E := E) (n := n) (J := J) hM h' (nI 1)
    have e6 := b_207b (lx := lx) (z := z) (E := E) (n := n) (J := J) hM h' (0, 0)
    refine ⟨J 132 15, I, J, ?_, h, MF_r, fun s t e => by simp at e⟩
    rw [f_207]
    simp (disch := first | assumption | omega) [k_St, n_St, i_St, j_St, r_St, wI_St, wJ_St, k_S0, n_S0, i_S0, j_S0, r_S0, wI_S0, wJ_S0, cI_s, cJ_s, cV_s, nR_s, nQ_s, nQ_n, lt_s_, gd_T, gd_t, Option.map_some, lits, neg_mI, nI_add, pk_mul, nI_clamp, nI_eq, nI_leI, nI_ltI, nm_eq, mn_eq, nm_lt, mn_lt, nm_le, mn_le, m_eq, bI_0, bI_1, m0, e1, e7, e6]
  | ok s =>
    have h' : MOk I J f T m F w r G s := h
    have e1 := d_205 (lx := lx) (z := z) (E := E) (n := n) hM hE h'.2.1
    rw [eb_o]
    unfold pNm
    by_cases c : isN T m s = true
    · rw [if_pos c]
      rw [c] at e1
      have ks := isN_k c
      have hj := (h'.2.1.2.2.2.1 ks).2
      have mn := h'.2.2.2.2
      have h10 := mn.1
      obtain ⟨_, _, n7, n8, _⟩ := id hn
      have e8 := d_175 (lx := lx) (z := z) (E := E) (n := n) (J := J) (y := lN (w5 T m s)) hM h10 (by omega)
      rw [fdN hN mn ks] at e8
      have kt : fdi (fun k => decide (w8 T m (G 2 k) = w8 T m s)) (F 0 7 + F 0 8) < F 0 7 + F 0 8 ↔ kn T m F G s = true := by rw [fdi_t, kn_2 hN]
      unfold oX at e8
      by_cases ck : kn T m F G s = true
      · rw [if_pos ck]
        have lt := kt.mpr ck
        rw [if_pos lt] at e8
        obtain ⟨I1, g1, g2, g3⟩ := kk_197 (lx := lx) (z := z) (E := E) (n := n) (e := 3) hM h' hn (by decide) (by decide)
        have e6 := b_207c (lx := lx) (z := z) (E := E) (n := n) (J := J) hM g2 (0, 0)
        refine ⟨J 132 15, I1, J, ?_, g2, g3, fun s' t e e' => ?_⟩
        · rw [f_207]
          simp (disch := first | assumption | omega) [k_St, n_St, i_St, j_St, r_St, wI_St, wJ_St, k_S0, n_S0, i_S0, j_S0, r_S0, wI_S0, wJ_S0, cI_s, cJ_s, cV_s, nR_s, nQ_s, nQ_n, lt_s_, gd_T, gd_t, Option.map_some, lits, neg_mI, nI_add, pk_mul, nI_clamp, nI_eq, nI_leI, nI_ltI, nm_eq, mn_eq, nm_lt, mn_lt, nm_le, mn_le, m_eq, bI_0, bI_1, m0, e1]
          rw [e_207_7]
          simp (disch := first | assumption | omega) [k_St, n_St, i_St, j_St, r_St, wI_St, wJ_St, k_S0, n_S0, i_S0, j_S0, r_S0, wI_S0, wJ_S0, cI_s, cJ_s, cV_s, nR_s, nQ_s, nQ_n, lt_s_, gd_T, gd_t, Option.map_some, lits, neg_mI, nI_add, pk_mul, nI_clamp, nI_eq, nI_leI, nI_ltI, nm_eq, mn_eq, nm_lt, mn_lt, nm_le, mn_le, m_eq, bI_0, bI_1, m0, m4, kf, hj, e8, g1, e6]
        · injection e with e; subst e
          rw [if_pos c, if_pos ck] at e'; simp at e'
      · rw [if_neg ck]
        have lt : ¬ fdi (fun k => decide (w8 T m (G 2 k) = w8 T m s)) (F 0 7 + F 0 8) < F 0 7 + F 0 8 := fun h => ck (kt.mp h)
        rw [if_neg lt] at e8
        obtain ⟨I1, J1, g1, g2, g3⟩ := kk_196 (lx := lx) (z := z) (E := E) (n := n) hM hB h' (Or.inl ks)
        refine ⟨lN (w5 T m s), I1, J1, ?_, g2, g3, fun s' t e e' => by injection e with e; rw [e]⟩
        rw [f_207]
        simp (disch := first | assumption | omega) [k_St, n_St, i_St, j_St, r_St, wI_St, wJ_St, k_S0, n_S0, i_S0, j_S0, r_S0, wI_S0, wJ_S0, cI_s, cJ_s, cV_s, nR_s, nQ_s, nQ_n, lt_s_, gd_T, gd_t, Option.map_some, lits, neg_mI, nI_add, pk_mul, nI_clamp, nI_eq, nI_leI, nI_ltI, nm_eq, mn_eq, nm_lt, mn_lt, nm_le, mn_le, m_eq, bI_0, bI_1, m0, e1]
        rw [e_207_7]
        simp (disch := first | assumption | omega) [k_St, n_St, i_St, j_St, r_St, wI_St, wJ_St, k_S0, n_S0, i_S0, j_S0, r_S0, wI_S0, wJ_S0, cI_s, cJ_s, cV_s, nR_s, nQ_s, nQ_n, lt_s_, gd_T, gd_t, Option.map_some, lits, neg_mI, nI_add, pk_mul, nI_clamp, nI_eq, nI_leI, nI_ltI, nm_eq, mn_eq, nm_lt, mn_lt, nm_le, mn_le, m_eq, bI_0, bI_1, m0, m4, kf, hj, e8]
        rw [e_207_18]
        simp (disch := first | assumption | omega) [k_St, n_St, i_St, j_St, r_St, wI_St, wJ_St, k_S0, n_S0, i_S0, j_S0, r_S0, wI_S0, wJ_S0, cI_s, cJ_s, cV_s, nR_s, nQ_s, nQ_n, lt_s_, gd_T, gd_t, Option.map_some, lits, neg_mI, nI_add, pk_mul, nI_clamp, nI_eq, nI_leI, nI_ltI, nm_eq, mn_eq, nm_lt, mn_lt, nm_le, mn_le, m_eq, bI_0, bI_1, m0, hj, g1]
    · rw [if_neg c]
      have c' : isN T m s = false := by simpa using c
      rw [c'] at e1
      obtain ⟨I1, g1, g2, g3⟩ := kk_197 (lx := lx) (z := z) (E := E) (n := n) (e := 1) hM h' hn (by decide) (by decide)
      have e6 := b_207b (lx := lx) (z := z) (E := E) (n := n) (J := J) hM g2 (0, 0)
      refine ⟨J 132 15, I1, J, ?_, g2, g3, fun s' t e e' => ?_⟩
      · rw [f_207]
        simp (disch := first | assumption | omega) [k_St, n_St, i_St, j_St, r_St, wI_St, wJ_St, k_S0, n_S0, i_S0, j_S0, r_S0, wI_S0, wJ_S0, cI_s, cJ_s, cV_s, nR_s, nQ_s, nQ_n, lt_s_, gd_T, gd_t, Option.map_some, lits, neg_mI, nI_add, pk_mul, nI_clamp, nI_eq, nI_leI, nI_ltI, nm_eq, mn_eq, nm_lt, mn_lt, nm_le, mn_le, m_eq, bI_0, bI_1, m0, e1, g1, e6]
      · injection e with e; subst e
        rw [if_neg c] at e'; simp at e'
theorem d_209 (hM : Rm K N R f) (hB : MB I T m) (hn : FCn F) (h1 : ∀ c, c < 64 → F 1 c ≤ 3) (h : MS I J f T m F w r G x) (hF : ∀ s, x = .ok s → 2 ≤ F 0 4 ∧ 2 ≤ F 0 5) : ∃ v I' J', Ca lx 209 [.ref (z + 132)] (St z E n K N R I J) = some (some (.int v), St z E n K N R I' J') ∧ MS I' J' f T m F w r G ((x.bind (pCl T m F)).map Prod.snd) ∧ MF f I I' J J' ∧ (∀ a, x.bind (pCl T m F) = .ok a → v = nI a.1) := by
  have m0 := hM.1
  have hf := hM.2.2.2.2.2.1
  have kf := hM.2.2.2.2.2.2.1
  have m4 := hM.2.2.2.2.1
  obtain ⟨n4, n5, _⟩ := id hn
  have w1 : ∀ s, x = .ok s → I f 4 - nI 1 = nI (F 0 4 - 1) := fun s hs => by
    rw [hs] at h
    have h' : MOk I J f T m F w r G s := h
    rw [h'.2.2.1.1 4 (by decide) (by decide)]
    have := hF s hs
    exact pk_sub (by omega)
  obtain ⟨v1, I1, J1, e1, e2, e3, e4, e5⟩ := d_202 (lx := lx) (z := z) (E := E) (n := n) (H := I f 4 - nI 1) (lo := 0) (hi := F 0 4 - 1) hM hB hn h w1 (by decide) (by omega)
  have hB1 := MB_f hB e3 hf
  have w2 : ∀ s, (x.bind (pWh T m 0 (F 0 4 - 1))).map Prod.snd = .ok s → I1 f 5 - nI 1 = nI (F 0 5 - 1) := fun s hs => by
    rw [hs] at e2
    have h' : MOk I1 J1 f T m F w r G s := e2
    rw [h'.2.2.1.1 5 (by decide) (by decide)]
    cases x with
    | error u => rw [eb_e] at hs; simp [Except.map] at hs
    | ok t => have := hF t rfl; exact pk_sub (by omega)
  obtain ⟨v2, I2, g1, g2, g3, g4, g5⟩ := d_201 (lx := lx) (z := z) (E := E) (n := n) (H := I1 f 5 - nI 1) (lo := 0) (hi := F 0 5 - 1) hM hn e2 w2 (by decide) (by omega)
  have f2 := MF_t e3 g3
  have bad : ∀ u, MBd I2 f u.1 u.2 → x.bind (pCl T m F) = .error u → ∃ v I' J', Ca lx 209 [.ref (z + 132)] (St z E n K N R I J) = some (some (.int v), St z E n K N R I' J') ∧ MS I' J' f T m F w r G ((x.bind (pCl T m F)).map Prod.snd) ∧ MF f I I' J J' ∧ (∀ a, x.bind (pCl T m F) = .ok a → v = nI a.1) := fun u hu e => by
    have h9 := hu.2.2.1
    have e6 := b_196 (lx := lx) (z := z) (E := E) (n := n) (J := J1) hM hu
    refine ⟨nI 8 * v2 + v1, I2, J1, ?_, by rw [e]; exact hu, f2, fun a e' => by rw [e] at e'; simp at e'⟩
    rw [f_209]
    simp (disch := first | assumption | omega) [k_St, n_St, i_St, j_St, r_St, wI_St, wJ_St, k_S0, n_S0, i_S0, j_S0, r_S0, wI_S0, wJ_S0, cI_s, cJ_s, cV_s, nR_s, nQ_s, nQ_n, lt_s_, gd_T, gd_t, Option.map_some, lits, neg_mI, nI_add, pk_mul, nI_clamp, nI_eq, nI_leI, nI_ltI, nm_eq, mn_eq, nm_lt, mn_lt, nm_le, mn_le, m_eq, bI_0, bI_1, m0, m4, kf, e1, g1, h9]
    rw [e_209_37]
    simp (disch := first | assumption | omega) [k_St, n_St, i_St, j_St, r_St, wI_St, wJ_St, k_S0, n_S0, i_S0, j_S0, r_S0, wI_S0, wJ_S0, cI_s, cJ_s, cV_s, nR_s, nQ_s, nQ_n, lt_s_, gd_T, gd_t, Option.map_some, lits, neg_mI, nI_add, pk_mul, nI_clamp, nI_eq, nI_leI, nI_ltI, nm_eq, mn_eq, nm_lt, mn_lt, nm_le, mn_le, m_eq, bI_0, bI_1, m0, e6]
  cases x with
  | error u =>
    exact bad u g2 rfl
  | ok s =>
    simp only [eb_o] at e2 e4 e5 g2 g4 g5 bad ⊢
    unfold pCl at bad ⊢
    cases hx : pWh T m 0 (F 0 4 - 1) s with
    | error u =>
      simp only [hx, Except.map, eb_e] at g2 bad
      rw [← hx]
      simp only [hx, eb_e]
      exact bad u g2 rfl
    | ok a =>
      simp only [hx, Except.map, eb_o] at e2 e4 g2 g4 g5 bad ⊢
      have v1e := e4 a rfl
      subst v1e
      have ab := pWh_b hx
      rw [pWh_a] at bad ⊢
      cases hy : pWa T m 0 (F 0 5 - 1) a.2 with
      | error u =>
        simp only [hy, eb_e] at g2 bad ⊢
        exact bad u g2 rfl
      | ok t =>
        simp only [hy, eb_o] at g2 g4 bad ⊢
        have v2e := g4 t rfl
        subst v2e
        obtain ⟨ta, tk, tb⟩ := pWa_s hy
        rw [ta] at g2 g1 bad ⊢
        have g2' : MOk I2 J1 f T m F w r G a.2 := g2
        have hf0 := hF s rfl
        have c64 : 8 * wv T m a.2 + a.1 < 64 := by omega
        have e178 := d_178 (lx := lx) (z := z) (E := E) (n := n) (J := J1) hM g2'.2.2.1.2.2.1 h1 c64
        have s9 : I2 132 9 = nI 3 := by rw [g2'.2.1.2.1, tk]; rfl
        have is : isS F (8 * wv T m a.2 + a.1) = !decide (F 1 (8 * wv T m a.2 + a.1) = 3) := by
          unfold isS inF
          rw [decide_eq_true c64, decide_eq_true (show (8 * wv T m a.2 + a.1) % 8 < F 0 4 by omega), decide_eq_true (show (8 * wv T m a.2 + a.1) / 8 < F 0 5 by omega)]
          simp
        by_cases c : F 1 (8 * wv T m a.2 + a.1) = 3
        · have : isS F (8 * wv T m a.2 + a.1) = false := by rw [is, decide_eq_true c]; rfl
          rw [this, if_neg (by decide)]
          rw [decide_eq_true c] at e178
          obtain ⟨I3, k1, k2, k3⟩ := kk_197 (lx := lx) (z := z) (E := E) (n := n) (e := 7) hM g2' hn (by decide) (by decide)
          have e6 := b_196 (lx := lx) (z := z) (E := E) (n := n) (J := J1) hM k2
          refine ⟨nI (8 * wv T m a.2 + a.1), I3, J1, ?_, k2, MF_t f2 k3, fun a e => by simp at e⟩
          rw [f_209]
          simp (disch := first | assumption | omega) [k_St, n_St, i_St, j_St, r_St, wI_St, wJ_St, k_S0, n_S0, i_S0, j_S0, r_S0, wI_S0, wJ_S0, cI_s, cJ_s, cV_s, nR_s, nQ_s, nQ_n, lt_s_, gd_T, gd_t, Option.map_some, lits, neg_mI, nI_add, pk_mul, nI_clamp, nI_eq, nI_leI, nI_ltI, nm_eq, mn_eq, nm_lt, mn_lt, nm_le, mn_le, m_eq, bI_0, bI_1, m0, m4, kf, e1, g1, s9, e178, k1, if_neg]
          rw [e_209_37]
          simp (disch := first | assumption | omega) [k_St, n_St, i_St, j_St, r_St, wI_St, wJ_St, k_S0, n_S0, i_S0, j_S0, r_S0, wI_S0, wJ_S0, cI_s, cJ_s, cV_s, nR_s, nQ_s, nQ_n, lt_s_, gd_T, gd_t, Option.map_some, lits, neg_mI, nI_add, pk_mul, nI_clamp, nI_eq, nI_leI, nI_ltI, nm_eq, mn_eq, nm_lt, mn_lt, nm_le, mn_le, m_eq, bI_0, bI_1, m0, e6]
        · have : isS F (8 * wv T m a.2 + a.1) = true := by rw [is, decide_eq_false c]; rfl
          rw [this, if_pos rfl]
          rw [decide_eq_false c] at e178
          obtain ⟨I3, J3, k1, k2, k3⟩ := kk_196 (lx := lx) (z := z) (E := E) (n := n) hM (MB_f hB f2 hf) g2' (Or.inr (Or.inl tk))
          refine ⟨nI (8 * wv T m a.2 + a.1), I3, J3, ?_, k2, MF_t f2 k3, fun a e => by injection e with e; rw [← e]⟩
          rw [f_209]
          simp (disch := first | assumption | omega) [k_St, n_St, i_St, j_St, r_St, wI_St, wJ_St, k_S0, n_S0, i_S0, j_S0, r_S0, wI_S0, wJ_S0, cI_s, cJ_s, cV_s, nR_s, nQ_s, nQ_n, lt_s_, gd_T, gd_t, Option.map_some, lits, neg_mI, nI_add, pk_mul, nI_clamp, nI_eq, nI_leI, nI_ltI, nm_eq, mn_eq, nm_lt, mn_lt, nm_le, mn_le, m_eq, bI_0, bI_1, m0, m4, kf, e1, g1, s9, e178, if_neg]
          rw [e_209_37]
          simp (disch := first | assumption | omega) [k_St, n_St, i_St, j_St, r_St, wI_St, wJ_St, k_S0, n_S0, i_S0, j_S0, r_S0, wI_S0, wJ_S0, cI_s, cJ_s, cV_s, nR_s, nQ_s, nQ_n, lt_s_, gd_T, gd_t, Option.map_some, lits, neg_mI, nI_add, pk_mul, nI_clamp, nI_eq, nI_leI, nI_ltI, nm_eq, mn_eq, nm_lt, mn_lt, nm_le, mn_le, m_eq, bI_0, bI_1, m0, k1]
end RM4
