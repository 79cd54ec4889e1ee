/-! the best blast -/
def wU (F : Nat → Nat → Nat) (P : Nat → Bool) : Nat → Nat
  | 0 => 0
  | i + 1 => if P i && decide (F 3 i = 0) then wU F P i + 1 else wU F P i
def wD (F : Nat → Nat → Nat) (P : Nat → Bool) : Nat → Nat
  | 0 => 0
  | i + 1 => if P i && decide (F 3 i ≠ 0) then wD F P i + 1 else wD F P i
theorem wUD_le (F : Nat → Nat → Nat) (P : Nat → Bool) : ∀ i, wU F P i ≤ i ∧ wD F P i ≤ i
  | 0 => ⟨Nat.le_refl _, Nat.le_refl _⟩
  | i + 1 => by
    have := wUD_le F P i
    rw [wU, wD]
    constructor
    · split <;> omega
    · split <;> omega
def wI_ (F : Nat → Nat → Nat) (P : Nat → Bool) (i : Nat) : Int32 := nI (wU F P i) - nI (wD F P i)
theorem wI_u {a b : Nat} (ha : a ≤ 4) (hb : b ≤ 4) : nI a - nI b + nI 1 = nI (a + 1) - nI b := by
  have : ∀ a b : Fin 5, nI a.val - nI b.val + nI 1 = nI (a.val + 1) - nI b.val := by decide +kernel
  exact this ⟨a, by omega⟩ ⟨b, by omega⟩
theorem wI_d {a b : Nat} (ha : a ≤ 4) (hb : b ≤ 4) : nI a - nI b + mI 1 = nI a - nI (b + 1) := by
  have : ∀ a b : Fin 5, nI a.val - nI b.val + mI 1 = nI a.val - nI (b.val + 1) := by decide +kernel
  exact this ⟨a, by omega⟩ ⟨b, by omega⟩
theorem wI_l {a b : Nat} (ha : a ≤ 4) (hb : b ≤ 4) : mI 9999 < nI a - nI b := by
  have : ∀ a b : Fin 5, mI 9999 < nI a.val - nI b.val := by decide +kernel
  exact this ⟨a, by omega⟩ ⟨b, by omega⟩
theorem wI_z {a b : Nat} (ha : a ≤ 4) (hb : b ≤ 4) : nI a - nI b + nI 0 = nI a - nI b := by
  have : ∀ a b : Fin 5, nI a.val - nI b.val + nI 0 = nI a.val - nI b.val := by decide +kernel
  exact this ⟨a, by omega⟩ ⟨b, by omega⟩
def bbF (F : Nat → Nat → Nat) (W : Nat → Int32) : Nat → Nat × Int32
  | 0 => (64, nI 0)
  | i + 1 => if isS F i && (decide ((bbF F W i).1 = 64) || decide ((bbF F W i).2 < W i)) then (i, W i) else bbF F W i
theorem bbF_l (F : Nat → Nat → Nat) (W : Nat → Int32) : ∀ i, i ≤ 64 → (bbF F W i).1 = 64 ∨ (bbF F W i).1 < i
  | 0, _ => Or.inl rfl
  | i + 1, h => by
    rw [bbF]
    split
    · right; show i < i + 1; omega
    · rcases bbF_l F W i (by omega) with e | e
      · exact Or.inl e
      · exact Or.inr (by omega)
theorem bbF_s (F : Nat → Nat → Nat) (W : Nat → Int32) {c : Nat} (hs : isS F c = true) : ∀ i, i ≤ 64 → c < i → (bbF F W i).1 < 64
  | 0, _, h => by omega
  | i + 1, h, hc => by
    rw [bbF]
    by_cases e : c = i
    · subst e
      by_cases e2 : (bbF F W c).1 = 64
      · simp [hs, e2]; omega
      · have := bbF_l F W c (by omega)
        split
        · show c < 64; omega
        · omega
    · have := bbF_s F W hs i (by omega) (by omega)
      split
      · show i < 64; omega
      · exact this
theorem bbF_e (F : Nat → Nat → Nat) (W : Nat → Int32) {m : Nat} (hm : m ≤ 64) (h : ∀ i, m ≤ i → i < 64 → isS F i = false) : bbF F W m = bbF F W 64 :=
  loopF (X := bbF F W) hm (fun i h1 h2 => by rw [bbF, h i h1 h2]; simp)
section OP10
variable {z : Nat} {E : aEt} {n : Nat} {K N : Nat → Nat} {R : Nat → Nat → Option Nat} {I : Nat → Nat → Int32} {J : Nat → Nat → Int64} {lx : List Value → aH → aO} {p s f w : Nat} {F : Nat → Nat → Nat} {ρ : Nat → Nat}
theorem s_33 (hP : Pl K N R p) (hF : PI I J p F) (hO : FOk F) (P : Nat → Bool) : Ca lx 33 [.ref (z + p), .int (nI (msk P (F 0 8)))] (St z E n K N R I J) = some (some (.int (wI_ F P (F 0 8))), (St z E n K N R I J)) := by
  rw [f_33]
  have o8 : F 0 8 ≤ 4 := hO.2.2.2.2.2.2.2.2.2.2.2.2.1
  have kp := hP.1
  have q8 := hF.1 8 (by decide)
  obtain ⟨_, _, _, pr3, _, _, _, _, _, _, _, pk3, _, _, _, _, _, _, _, pn3, _⟩ := id hP
  have q3 := hF.2.2.2.1
  have L := loopN (X := fun i => Am lx 33 5 [some (.ref (z + p)), some (.int (nI (msk P (F 0 8)))), some (.int (wI_ F P i)), some (.int (nI i))] [] (0, 0) (St z E n K N R I J)) (n := F 0 8) (by
    intro i hi
    try simp only
    rw [e_33_5]
    have t := bt_t (msk_16 P o8) (show i < 4 by omega)
    rw [msk_b P o8 hi] at t
    have hl := wUD_le F P i
    have hb := (hO.2.2.2.2.2.2.2.2.2.2.2.2.2.2.2.2.1 i hi).1
    unfold wI_
    rw [wU, wD]
    cases hp : P i
    · rw [hp] at t
      simp (disch := first | assumption | omega) [k_St, n_St, i_St, j_St, r_St, wI_St, wJ_St, k_S0, n_S0, i_S0, j_S0, r_S0, wI_S0, wJ_S0, cI_s, cJ_s, cV_s, nR_s, nQ_s, nQ_n, lt_s_, gd_T, gd_t, Option.map_some, lits, neg_mI, nI_add, pk_mul, nI_clamp, nI_eq, nI_leI, nI_ltI, nm_eq, mn_eq, nm_lt, mn_lt, nm_le, mn_le, m_eq, bI_0, bI_1, if_neg, kp, q8, t]
    · rw [hp] at t
      by_cases c : F 3 i = 0
      · simp (disch := first | assumption | omega) [k_St, n_St, i_St, j_St, r_St, wI_St, wJ_St, k_S0, n_S0, i_S0, j_S0, r_S0, wI_S0, wJ_S0, cI_s, cJ_s, cV_s, nR_s, nQ_s, nQ_n, lt_s_, gd_T, gd_t, Option.map_some, lits, neg_mI, nI_add, pk_mul, nI_clamp, nI_eq, nI_leI, nI_ltI, nm_eq, mn_eq, nm_lt, mn_lt, nm_le, mn_le, m_eq, bI_0, bI_1, if_neg, kp, q8, t, pr3, pk3, pn3, q3 i hi, c, e_33_25, wI_u]
      · simp (disch := first | assumption | omega) [k_St, n_St, i_St, j_St, r_St, wI_St, wJ_St, k_S0, n_S0, i_S0, j_S0, r_S0, wI_S0, wJ_S0, cI_s, cJ_s, cV_s, nR_s, nQ_s, nQ_n, lt_s_, gd_T, gd_t, Option.map_some, lits, neg_mI, nI_add, pk_mul, nI_clamp, nI_eq, nI_leI, nI_ltI, nm_eq, mn_eq, nm_lt, mn_lt, nm_le, mn_le, m_eq, bI_0, bI_1, if_neg, kp, q8, t, pr3, pk3, pn3, q3 i hi, c, e_33_25, wI_d])
  try simp only at L
  have w0 : wI_ F P 0 = nI 0 := by unfold wI_ wU wD; decide
  rw [w0] at L
  have z0 : (0 : Int32) = nI 0 := rfl
  rw [z0, L, e_33_5]
  simp (disch := first | assumption | omega) [k_St, n_St, i_St, j_St, r_St, wI_St, wJ_St, k_S0, n_S0, i_S0, j_S0, r_S0, wI_S0, wJ_S0, cI_s, cJ_s, cV_s, nR_s, nQ_s, nQ_n, lt_s_, gd_T, gd_t, Option.map_some, lits, neg_mI, nI_add, pk_mul, nI_clamp, nI_eq, nI_leI, nI_ltI, nm_eq, mn_eq, nm_lt, mn_lt, nm_le, mn_le, m_eq, bI_0, bI_1, kp, q8]
theorem o_136 (h : CW K N R I J p s F ρ) (x : Int32) : OQ lx z E n K N R I J f F ρ 136 278 [.int x] := by
  have hU : ∀ v, CW K N R (u2 I 0 11 v) J p s F ρ := fun v => CW_u h
  have e67 := c_167 (lx := lx) x
  obtain ⟨hL, ⟨hW15, hW19, hP, hPs, hps, _⟩, h10, hF, hO, hR, hρ, _, h16⟩ := h
  obtain ⟨k0, _, r1, r2, _, _, _, _, r7, rp, _⟩ := hL
  have o8 : F 0 8 ≤ 4 := hO.2.2.2.2.2.2.2.2.2.2.2.2.1
  have kp := hP.1
  have k15 := hW15.1
  have t1 : nI 1 = bI true := rfl
  rcases rg_i x (n := 3) (by omega) with c | ⟨r, hr, er⟩
  · have c161 := c_161 (lx := lx) (z := z) (E := E) (n := n) (N := N) (R := R) (I := I) (J := J) k0 true false
    rw [← t1] at c161
    rw [c] at e67
    refine ⟨2, mI 1, by decide, by decide, ⟨_, _, ?_, CQ_u⟩, fun I2 J2 hM => ⟨_, ?_, MQ_1⟩⟩
    · rw [f_136]
      simp [k_St, n_St, i_St, j_St, r_St, wI_St, wJ_St, k_S0, n_S0, i_S0, j_S0, r_S0, wI_S0, wJ_S0, cI_s, cJ_s, cV_s, nR_s, nQ_s, nQ_n, lt_s_, gd_T, gd_t, Option.map_some, lits, neg_mI, nI_add, pk_mul, nI_clamp, nI_eq, nI_leI, nI_ltI, nm_eq, mn_eq, nm_lt, mn_lt, nm_le, mn_le, m_eq, bI_0, bI_1, k0, h10, e67, c161]
    · rw [f_278]
      have e87 := d_187 (lx := lx) x (m := 2) (by omega)
      rw [c] at e87
      have km := hM.1.1.1
      have rf := hM.1.2.2.1
      simp [k_St, n_St, i_St, j_St, r_St, wI_St, wJ_St, k_S0, n_S0, i_S0, j_S0, r_S0, wI_S0, wJ_S0, cI_s, cJ_s, cV_s, nR_s, nQ_s, nQ_n, lt_s_, gd_T, gd_t, Option.map_some, lits, neg_mI, nI_add, pk_mul, nI_clamp, nI_eq, nI_leI, nI_ltI, nm_eq, mn_eq, nm_lt, mn_lt, nm_le, mn_le, m_eq, bI_0, bI_1, km, rf, e87, d_182]
  · subst er
    have c161 := c_161 (lx := lx) (z := z) (E := E) (n := n) (N := N) (R := R) (I := I) (J := J) k0 true true
    rw [← t1] at c161
    rw [rg_t hr (by omega), ← t1] at e67
    have hU0 := hU (nI 0)
    obtain ⟨_, _, _, hF0, _, hR0, _⟩ := hU0
    have hwl : F 0 6 < 64 := isS_lt hO.2.2.2.2.2.2.2.2.2.2.1
    have bl := bbF_s F (fun c => wI_ F (fun g => nrP F ρ c r g && !decide (ρ (8 + g) = 1)) (F 0 8)) hO.2.2.2.2.2.2.2.2.2.2.1 64 (Nat.le_refl _) hwl
    refine ⟨0, nI (whl (bbF F (fun c => wI_ F (fun g => nrP F ρ c r g && !decide (ρ (8 + g) = 1)) (F 0 8)) 64).1), by decide, by decide, ⟨_, _, ?_, CQ_u⟩, fun I2 J2 hM => ⟨_, ?_, MQ_p (ρ := ρ)⟩⟩
    · rw [f_136]
      have L := loopN (X := fun i => Am lx 136 16 [some (.ref z), some (.int (nI r)), some (.int (oI (bbF F (fun c => wI_ F (fun g => nrP F ρ c r g && !decide (ρ (8 + g) = 1)) (F 0 8)) i).1)), some (.int (bbF F (fun c => wI_ F (fun g => nrP F ρ c r g && !decide (ρ (8 + g) = 1)) (F 0 8)) i).2), some (.int (nI i)), none] [] (0, 0) (St z E n K N R (u2 I 0 11 (nI 0)) J)) (n := 64) (by
        intro i hi
        try simp only
        rw [e_136_16]
        have a1 := s_26c (lx := lx) (z := z) (E := E) (n := n) hP hF0 hi
        have a2 := s_104 (lx := lx) (z := z) (E := E) (n := n) hP hF0 hW15 hR0 hO (ROk_a hρ) hi (show r ≤ 2 by omega)
        have a3 := s_33 (lx := lx) (z := z) (E := E) (n := n) hP hF0 hO (fun g => nrP F ρ i r g && !decide (ρ (8 + g) = 1))
        have bb := bbF_l F (fun c => wI_ F (fun g => nrP F ρ c r g && !decide (ρ (8 + g) = 1)) (F 0 8)) i (by omega)
        have oi : oI i = nI i := oI_lt hi
        rw [bbF]
        cases c1 : isS F i
        · rw [c1] at a1
          simp (disch := first | assumption | omega) [k_St, n_St, i_St, j_St, r_St, wI_St, wJ_St, k_S0, n_S0, i_S0, j_S0, r_S0, wI_S0, wJ_S0, cI_s, cJ_s, cV_s, nR_s, nQ_s, nQ_n, lt_s_, gd_T, gd_t, Option.map_some, lits, neg_mI, nI_add, pk_mul, nI_clamp, nI_eq, nI_leI, nI_ltI, nm_eq, mn_eq, nm_lt, mn_lt, nm_le, mn_le, m_eq, bI_0, bI_1, if_neg, k0, rp, kp, a1]
        · rw [c1] at a1
          by_cases c2 : (bbF F (fun c => wI_ F (fun g => nrP F ρ c r g && !decide (ρ (8 + g) = 1)) (F 0 8)) i).1 = 64
          · have o64 : oI 64 = mI 1 := rfl
            simp (disch := first | assumption | omega) [k_St, n_St, i_St, j_St, r_St, wI_St, wJ_St, k_S0, n_S0, i_S0, j_S0, r_S0, wI_S0, wJ_S0, cI_s, cJ_s, cV_s, nR_s, nQ_s, nQ_n, lt_s_, gd_T, gd_t, Option.map_some, lits, neg_mI, nI_add, pk_mul, nI_clamp, nI_eq, nI_leI, nI_ltI, nm_eq, mn_eq, nm_lt, mn_lt, nm_le, mn_le, m_eq, bI_0, bI_1, if_neg, k0, rp, kp, a1, r1, k15, a2, a3, c2, o64, oi, e_136_42]
          · have c2' : (bbF F (fun c => wI_ F (fun g => nrP F ρ c r g && !decide (ρ (8 + g) = 1)) (F 0 8)) i).1 < 64 := by omega
            have oi2 := oI_lt c2'
            by_cases c3 : (bbF F (fun c => wI_ F (fun g => nrP F ρ c r g && !decide (ρ (8 + g) = 1)) (F 0 8)) i).2 < wI_ F (fun g => nrP F ρ i r g && !decide (ρ (8 + g) = 1)) (F 0 8)
            · have c3' := Int32.not_le.mpr c3
              simp (disch := first | assumption | omega) [k_St, n_St, i_St, j_St, r_St, wI_St, wJ_St, k_S0, n_S0, i_S0, j_S0, r_S0, wI_S0, wJ_S0, cI_s, cJ_s, cV_s, nR_s, nQ_s, nQ_n, lt_s_, gd_T, gd_t, Option.map_some, lits, neg_mI, nI_add, pk_mul, nI_clamp, nI_eq, nI_leI, nI_ltI, nm_eq, mn_eq, nm_lt, mn_lt, nm_le, mn_le, m_eq, bI_0, bI_1, if_neg, k0, rp, kp, a1, r1, k15, a2, a3, c2, c3, c3', oi, oi2, e_136_42]
            · have c3' := Int32.not_lt.mp c3
              simp (disch := first | assumption | omega) [k_St, n_St, i_St, j_St, r_St, wI_St, wJ_St, k_S0, n_S0, i_S0, j_S0, r_S0, wI_S0, wJ_S0, cI_s, cJ_s, cV_s, nR_s, nQ_s, nQ_n, lt_s_, gd_T, gd_t, Option.map_some, lits, neg_mI, nI_add, pk_mul, nI_clamp, nI_eq, nI_leI, nI_ltI, nm_eq, mn_eq, nm_lt, mn_lt, nm_le, mn_le, m_eq, bI_0, bI_1, if_neg, k0, rp, kp, a1, r1, k15, a2, a3, c2, c3, c3', oi, oi2, e_136_42])
      try simp only at L
      have b1 : oI (bbF F (fun c => wI_ F (fun g => nrP F ρ c r g && !decide (ρ (8 + g) = 1)) (F 0 8)) 0).1 = mI 1 := rfl
      have b2 : (bbF F (fun c => wI_ F (fun g => nrP F ρ c r g && !decide (ρ (8 + g) = 1)) (F 0 8)) 0).2 = nI 0 := rfl
      rw [b1, b2] at L
      simp (disch := first | assumption | omega) [k_St, n_St, i_St, j_St, r_St, wI_St, wJ_St, k_S0, n_S0, i_S0, j_S0, r_S0, wI_S0, wJ_S0, cI_s, cJ_s, cV_s, nR_s, nQ_s, nQ_n, lt_s_, gd_T, gd_t, Option.map_some, lits, neg_mI, nI_add, pk_mul, nI_clamp, nI_eq, nI_leI, nI_ltI, nm_eq, mn_eq, nm_lt, mn_lt, nm_le, mn_le, m_eq, bI_0, bI_1, k0, h10, e67, c161, L]
      rw [e_136_16]
      simp (disch := first | assumption | omega) [k_St, n_St, i_St, j_St, r_St, wI_St, wJ_St, k_S0, n_S0, i_S0, j_S0, r_S0, wI_S0, wJ_S0, cI_s, cJ_s, cV_s, nR_s, nQ_s, nQ_n, lt_s_, gd_T, gd_t, Option.map_some, lits, neg_mI, nI_add, pk_mul, nI_clamp, nI_eq, nI_leI, nI_ltI, nm_eq, mn_eq, nm_lt, mn_lt, nm_le, mn_le, m_eq, bI_0, bI_1, if_pos, oI_lt bl, s_3 bl]
    · rw [f_278]
      have hM0 := MV_0 hM
      have e87 := d_187 (lx := lx) (nI r) (m := 2) (by omega)
      rw [rg_t hr (by omega)] at e87
      have e231 := s_231 (lx := lx) (z := z) (E := E) (n := n) (J := J2) hM0.1 hM0.2.1
      have hMp := MD_p (ρ := ρ) (m := 145) hM0.1 (show 135 < 147 by decide)
      have e266 := s_266 (lx := lx) (z := z) (E := E) (n := n) (J := J2) hMp
      obtain ⟨⟨km, _⟩, ⟨f0, kf, _, _, r14, _, _, _, _, _, _, _, _, _, _, k3, _, _, _, _, _, _, _, _, _, _, n3, _⟩, rf, ⟨q0, _, _, q3, _⟩, _⟩ := hMp
      have q8 := q0 8 (by decide)
      have hO' := hO
      obtain ⟨o0, o0x, o1, o2, o2x, o3, o4, o4x, o5, o5x, o6, o7, o8, o9, oS, oD, oG, oH⟩ := hO
      have m12 : nI 1 - nI 2 = mI 1 := by decide
      have inn : ∀ i, i < 64 → ∀ (a b : Int32), Am lx 278 42 [some (.ref (z + 132)), some (.int (nI r)), some (.int a), some (.int b), some (.int (nI i)), some (.int (nI 0)), some (.int (nI 0))] [] (0, 0) (St z E n K N R (pr (u2 I2 132 0 (nI 0)) 135 145 ρ) J2) = if b < wI_ F (fun g => nrP F ρ i r g && !decide (ρ (8 + g) = 1)) (F 0 8) then Am lx 278 28 [some (.ref (z + 132)), some (.int (nI r)), some (.int (nI i)), some (.int (wI_ F (fun g => nrP F ρ i r g && !decide (ρ (8 + g) = 1)) (F 0 8))), some (.int (nI (i + 1))), none, none] [] (0, 0) (St z E n K N R (pr (u2 I2 132 0 (nI 0)) 135 145 ρ) J2) else Am lx 278 28 [some (.ref (z + 132)), some (.int (nI r)), some (.int a), some (.int b), some (.int (nI (i + 1))), none, none] [] (0, 0) (St z E n K N R (pr (u2 I2 132 0 (nI 0)) 135 145 ρ) J2) := by
        intro i hi a b
        have a2 := s_275 (lx := lx) (z := z) (E := E) (n := n) (J := J2) hM0.1 (ROk_a hρ) hi (show r ≤ 2 by omega)
        have L := loopN (X := fun g => Am lx 278 42 [some (.ref (z + 132)), some (.int (nI r)), some (.int a), some (.int b), some (.int (nI i)), some (.int (wI_ F (fun g => nrP F ρ i r g && !decide (ρ (8 + g) = 1)) g)), some (.int (nI g))] [] (0, 0) (St z E n K N R (pr (u2 I2 132 0 (nI 0)) 135 145 ρ) J2)) (n := F 0 8) (by
          intro g hg
          try simp only
          rw [e_278_42]
          have a3 := s_188 (lx := lx) (msk_16 (fun g => nrP F ρ i r g && !decide (ρ (8 + g) = 1)) o8) (show g < 4 by omega)
          rw [msk_b _ o8 hg] at a3
          have hl := wUD_le F (fun g => nrP F ρ i r g && !decide (ρ (8 + g) = 1)) g
          have hb := (oG g hg).1
          unfold wI_
          rw [wU, wD]
          cases hp : (nrP F ρ i r g && !decide (ρ (8 + g) = 1))
          · rw [hp] at a3
            simp (disch := first | assumption | omega) [k_St, n_St, i_St, j_St, r_St, wI_St, wJ_St, k_S0, n_S0, i_S0, j_S0, r_S0, wI_S0, wJ_S0, cI_s, cJ_s, cV_s, nR_s, nQ_s, nQ_n, lt_s_, gd_T, gd_t, Option.map_some, lits, neg_mI, nI_add, pk_mul, nI_clamp, nI_eq, nI_leI, nI_ltI, nm_eq, mn_eq, nm_lt, mn_lt, nm_le, mn_le, m_eq, bI_0, bI_1, if_neg, km, rf, kf, q8, a2, a3, e_278_67, wI_z]
          · rw [hp] at a3
            by_cases c : F 3 g = 0
            · simp (disch := first | assumption | omega) [k_St, n_St, i_St, j_St, r_St, wI_St, wJ_St, k_S0, n_S0, i_S0, j_S0, r_S0, wI_S0, wJ_S0, cI_s, cJ_s, cV_s, nR_s, nQ_s, nQ_n, lt_s_, gd_T, gd_t, Option.map_some, lits, neg_mI, nI_add, pk_mul, nI_clamp, nI_eq, nI_leI, nI_ltI, nm_eq, mn_eq, nm_lt, mn_lt, nm_le, mn_le, m_eq, bI_0, bI_1, if_neg, km, rf, kf, q8, a2, a3, r14, k3, n3, q3 g hg, c, e_278_67, pk_sub, wI_u]
            · have c1 : F 3 g = 1 := by omega
              simp (disch := first | assumption | omega) [k_St, n_St, i_St, j_St, r_St, wI_St, wJ_St, k_S0, n_S0, i_S0, j_S0, r_S0, wI_S0, wJ_S0, cI_s, cJ_s, cV_s, nR_s, nQ_s, nQ_n, lt_s_, gd_T, gd_t, Option.map_some, lits, neg_mI, nI_add, pk_mul, nI_clamp, nI_eq, nI_leI, nI_ltI, nm_eq, mn_eq, nm_lt, mn_lt, nm_le, mn_le, m_eq, bI_0, bI_1, if_neg, km, rf, kf, q8, a2, a3, r14, k3, n3, q3 g hg, c1, e_278_67, m12, wI_d])
        try simp only at L
        have w0 : wI_ F (fun g => nrP F ρ i r g && !decide (ρ (8 + g) = 1)) 0 = nI 0 := by
          unfold wI_ wU wD; decide
        rw [w0] at L
        rw [L, e_278_42]
        simp (disch := first | assumption | omega) [k_St, n_St, i_St, j_St, r_St, wI_St, wJ_St, k_S0, n_S0, i_S0, j_S0, r_S0, wI_S0, wJ_S0, cI_s, cJ_s, cV_s, nR_s, nQ_s, nQ_n, lt_s_, gd_T, gd_t, Option.map_some, lits, neg_mI, nI_add, pk_mul, nI_clamp, nI_eq, nI_leI, nI_ltI, nm_eq, mn_eq, nm_lt, mn_lt, nm_le, mn_le, m_eq, bI_0, bI_1, if_pos, km, rf, kf, q8]
      have L := loopN (X := fun i => Am lx 278 28 [some (.ref (z + 132)), some (.int (nI r)), some (.int (oI (bbF F (fun c => wI_ F (fun g => nrP F ρ c r g && !decide (ρ (8 + g) = 1)) (F 0 8)) i).1)), some (.int (if (bbF F (fun c => wI_ F (fun g => nrP F ρ c r g && !decide (ρ (8 + g) = 1)) (F 0 8)) i).1 = 64 then mI 9999 else (bbF F (fun c => wI_ F (fun g => nrP F ρ c r g && !decide (ρ (8 + g) = 1)) (F 0 8)) i).2)), some (.int (nI i)), none, none] [] (0, 0) (St z E n K N R (pr (u2 I2 132 0 (nI 0)) 135 145 ρ) J2)) (n := 8 * (F 0 5 - 1) + F 0 4 - 1 + 1) (by
        intro i hi
        try simp only
        rw [e_278_28]
        have i64 : i < 64 := by omega
        have a1 := s_267 (lx := lx) (z := z) (E := E) (n := n) (J := J2) (MD_p (ρ := ρ) (m := 145) hM0.1 (show 135 < 147 by decide)) i64
        have bb := bbF_l F (fun c => wI_ F (fun g => nrP F ρ c r g && !decide (ρ (8 + g) = 1)) (F 0 8)) i (by omega)
        have hl := wUD_le F (fun g => nrP F ρ i r g && !decide (ρ (8 + g) = 1)) (F 0 8)
        have oi : oI i = nI i := oI_lt i64
        have ni : ¬ i = 64 := by omega
        rw [bbF]
        cases c1 : isS F i
        · rw [c1] at a1
          simp (disch := first | assumption | omega) [k_St, n_St, i_St, j_St, r_St, wI_St, wJ_St, k_S0, n_S0, i_S0, j_S0, r_S0, wI_S0, wJ_S0, cI_s, cJ_s, cV_s, nR_s, nQ_s, nQ_n, lt_s_, gd_T, gd_t, Option.map_some, lits, neg_mI, nI_add, pk_mul, nI_clamp, nI_eq, nI_leI, nI_ltI, nm_eq, mn_eq, nm_lt, mn_lt, nm_le, mn_le, m_eq, bI_0, bI_1, if_neg, km, e266, a1]
        · rw [c1] at a1
          by_cases c2 : (bbF F (fun c => wI_ F (fun g => nrP F ρ c r g && !decide (ρ (8 + g) = 1)) (F 0 8)) i).1 = 64
          · have o64 : oI 64 = mI 1 := rfl
            have wl : mI 9999 < wI_ F (fun g => nrP F ρ i r g && !decide (ρ (8 + g) = 1)) (F 0 8) := wI_l (by omega) (by omega)
            simp (disch := first | assumption | omega) [k_St, n_St, i_St, j_St, r_St, wI_St, wJ_St, k_S0, n_S0, i_S0, j_S0, r_S0, wI_S0, wJ_S0, cI_s, cJ_s, cV_s, nR_s, nQ_s, nQ_n, lt_s_, gd_T, gd_t, Option.map_some, lits, neg_mI, nI_add, pk_mul, nI_clamp, nI_eq, nI_leI, nI_ltI, nm_eq, mn_eq, nm_lt, mn_lt, nm_le, mn_le, m_eq, bI_0, bI_1, if_neg, km, e266, a1, inn i i64, c2, o64, oi, wl, ni]
          · by_cases c3 : (bbF F (fun c => wI_ F (fun g => nrP F ρ c r g && !decide (ρ (8 + g) = 1)) (F 0 8)) i).2 < wI_ F (fun g => nrP F ρ i r g && !decide (ρ (8 + g) = 1)) (F 0 8)
            · simp (disch := first | assumption | omega) [k_St, n_St, i_St, j_St, r_St, wI_St, wJ_St, k_S0, n_S0, i_S0, j_S0, r_S0, wI_S0, wJ_S0, cI_s, cJ_s, cV_s, nR_s, nQ_s, nQ_n, lt_s_, gd_T, gd_t, Option.map_some, lits, neg_mI, nI_add, pk_mul, nI_clamp, nI_eq, nI_leI, nI_ltI, nm_eq, mn_eq, nm_lt, mn_lt, nm_le, mn_le, m_eq, bI_0, bI_1, if_neg, km, e266, a1, inn i i64, c2, c3, oi, ni]
            · simp (disch := first | assumption | omega) [k_St, n_St, i_St, j_St, r_St, wI_St, wJ_St, k_S0, n_S0, i_S0, j_S0, r_S0, wI_S0, wJ_S0, cI_s, cJ_s, cV_s, nR_s, nQ_s, nQ_n, lt_s_, gd_T, gd_t, Option.map_some, lits, neg_mI, nI_add, pk_mul, nI_clamp, nI_eq, nI_leI, nI_ltI, nm_eq, mn_eq, nm_lt, mn_lt, nm_le, mn_le, m_eq, bI_0, bI_1, if_neg, km, e266, a1, inn i i64, c2, c3])
      try simp only at L
      have b1 : oI (bbF F (fun c => wI_ F (fun g => nrP F ρ c r g && !decide (ρ (8 + g) = 1)) (F 0 8)) 0).1 = mI 1 := rfl
      have b2 : (if (bbF F (fun c => wI_ F (fun g => nrP F ρ c r g && !decide (ρ (8 + g) = 1)) (F 0 8)) 0).1 = 64 then mI 9999 else (bbF F (fun c => wI_ F (fun g => nrP F ρ c r g && !decide (ρ (8 + g) = 1)) (F 0 8)) 0).2) = mI 9999 := rfl
      rw [b1, b2, bbF_e F _ (show 8 * (F 0 5 - 1) + F 0 4 - 1 + 1 ≤ 64 by omega) (fun i h1 h2 => by
        unfold isS inF
        by_cases d1 : i % 8 < F 0 4
        · have d2 : ¬ i / 8 < F 0 5 := by omega
          simp [d2]
        · simp [d1])] at L
      simp (disch := first | assumption | omega) [k_St, n_St, i_St, j_St, r_St, wI_St, wJ_St, k_S0, n_S0, i_S0, j_S0, r_S0, wI_S0, wJ_S0, cI_s, cJ_s, cV_s, nR_s, nQ_s, nQ_n, lt_s_, gd_T, gd_t, Option.map_some, lits, neg_mI, nI_add, pk_mul, nI_clamp, nI_eq, nI_leI, nI_ltI, nm_eq, mn_eq, nm_lt, mn_lt, nm_le, mn_le, m_eq, bI_0, bI_1, km, rf, e87, e231, L]
      rw [e_278_28]
      simp (disch := first | assumption | omega) [k_St, n_St, i_St, j_St, r_St, wI_St, wJ_St, k_S0, n_S0, i_S0, j_S0, r_S0, wI_S0, wJ_S0, cI_s, cJ_s, cV_s, nR_s, nQ_s, nQ_n, lt_s_, gd_T, gd_t, Option.map_some, lits, neg_mI, nI_add, pk_mul, nI_clamp, nI_eq, nI_leI, nI_ltI, nm_eq, mn_eq, nm_lt, mn_lt, nm_le, mn_le, m_eq, bI_0, bI_1, if_pos, km, e266, oI_lt bl, s_230 bl, s_185]
end OP10
