section OP12
variable {z : Nat} {E : aEt} {n : Nat} {K N : Nat → Nat} {R : Nat → Nat → Option Nat} {I : Nat → Nat → Int32} {J : Nat → Nat → Int64} {lx : List Value → aH → aO} {p s f : Nat} {F : Nat → Nat → Nat} {ρ : Nat → Nat}
theorem CQ_l {t : Nat} {D : Nat → Nat} {q : Int64} : CQ t I (pl (u2 I 0 11 (nI t)) D) J (u2 J 102 1 q) :=
  CQ_w (fun a ha => ⟨pl_n (fun e => ha (by unfold scC; omega)), u2_a _ _ _ _ _ (fun e => ha (by unfold scC; omega))⟩)
theorem MQ_l {t : Nat} {D : Nat → Nat} : MQr t I (u2 (u2 (pr (pr (u2 I 132 0 (nI 0)) 138 64 D) 135 145 ρ) 132 1 (nI t)) 132 2 (mI 1)) :=
  MQ_0 (fun a h h2 => by rw [pr_n (fun e => h2 (Or.inl e)), pr_n (fun e => h2 (by unfold scM; omega)), u2_a _ _ _ _ _ h]) (fun k _ _ _ => by rw [pr_n (by decide), pr_n (by decide)])
theorem ways_eq {qt : Bool} {fr : Nat} {D D' : Nat → Nat} (a : opn F ρ qt fr = true → DF (opn F ρ qt) (tks F ρ) fr D) (b : opn F ρ qt fr = false → ∀ c, D c = 9999) (a' : opn F ρ qt fr = true → DF (opn F ρ qt) (tks F ρ) fr D') (b' : opn F ρ qt fr = false → ∀ c, D' c = 9999) {c : Nat} (hc : c < 64) : D c = D' c := by
  cases o : opn F ρ qt fr
  · rw [b o, b' o]
  · exact DF_eq (fun c h => opn_l h) (a o) (a' o) hc
theorem opn_f : opn F ρ false = isS F := by funext c; simp [opn]
theorem opn_t (c : Nat) : opn F ρ true c = unh F ρ c := by simp [opn, unh]
theorem ways_le {qt : Bool} {fr : Nat} {D : Nat → Nat} (a : opn F ρ qt fr = true → DF (opn F ρ qt) (tks F ρ) fr D) (b : opn F ρ qt fr = false → ∀ c, D c = 9999) {c : Nat} (hc : c < 64) : D c ≤ 9999 := by
  cases o : opn F ρ qt fr
  · rw [b o]; omega
  · exact (a o).1.2.1 c hc
theorem d_261 (h : Mo K N R) {D : Nat → Nat} {c : Nat} (hc : c < 64) (hD : D c ≤ 9999) : Ca lx 261 [.ref (z + 132), .int (nI c)] (St z E n K N R (pr (pr I 138 64 D) 135 145 ρ) J) = some (some (.int (leI (D c))), St z E n K N R (pr (pr I 138 64 D) 135 145 ρ) J) := by
  obtain ⟨km, _, _, _, _, _, r22, _, _, _, _, _, _, _, _, _, _, _, _, k138, _, _, _, _, _, _, _, _, _, _, _, _, n138, _⟩ := h
  rw [f_261]
  have x1 : pr (pr I 138 64 D) 135 145 ρ 138 c = nI (D c) := by rw [pr_n (by decide), pr_s hc]
  unfold leI
  by_cases e : D c = 9999
  · rw [e] at x1
    simp (disch := first | assumption | omega) [k_St, n_St, i_St, j_St, r_St, wI_St, wJ_St, k_S0, n_S0, i_S0, j_S0, r_S0, wI_S0, wJ_S0, cI_s, cJ_s, cV_s, nR_s, nQ_s, nQ_n, lt_s_, gd_T, gd_t, Option.map_some, lits, neg_mI, nI_add, pk_mul, nI_clamp, nI_eq, nI_leI, nI_ltI, nm_eq, mn_eq, nm_lt, mn_lt, nm_le, mn_le, m_eq, bI_0, bI_1, km, r22, k138, n138, x1, e]
  · simp (disch := first | assumption | omega) [k_St, n_St, i_St, j_St, r_St, wI_St, wJ_St, k_S0, n_S0, i_S0, j_S0, r_S0, wI_S0, wJ_S0, cI_s, cJ_s, cV_s, nR_s, nQ_s, nQ_n, lt_s_, gd_T, gd_t, Option.map_some, lits, neg_mI, nI_add, pk_mul, nI_clamp, nI_eq, nI_leI, nI_ltI, nm_eq, mn_eq, nm_lt, mn_lt, nm_le, mn_le, m_eq, bI_0, bI_1, km, r22, k138, n138, x1, e]
theorem o_129 (h : CW K N R I J p s F ρ) (x y x' y' : Int32) : OQ lx z E n K N R I J f F ρ 129 262 [.int x, .int y, .int x', .int y'] := by
  have h0 : CW K N R (u2 I 0 11 (nI 0)) J p s F ρ := CW_u h
  have e24 := c_24 (lx := lx) (z := z) (E := E) (n := n) h x y
  have e24' := c_24 (lx := lx) (z := z) (E := E) (n := n) h x' y'
  obtain ⟨hL, ⟨hW15, hW19, hP, hPs, hps, _⟩, _, hF, hO, hR, hρ, _⟩ := h
  have hL2 := hL
  obtain ⟨k0, _, r1, r2, _, r4, _, _, _, rp, _⟩ := hL
  have k7 : K 102 = 7 := by have := hL2; unfold CL at this; simp [this]
  have kp := hP.1
  rcases hl_i hO x y with c | ⟨a, b, ha, hb, ea, eb, l, hi, ht⟩
  · rw [c] at e24
    refine ⟨1, mI 1, by decide, by decide, ⟨_, _, ?_, CQ_u⟩, fun I2 J2 hM => ⟨_, ?_, MQ_1⟩⟩
    · rw [f_129]
      simp [k_St, n_St, i_St, j_St, r_St, wI_St, wJ_St, k_S0, n_S0, i_S0, j_S0, r_S0, wI_S0, wJ_S0, cI_s, cJ_s, cV_s, nR_s, nQ_s, nQ_n, lt_s_, gd_T, gd_t, Option.map_some, lits, neg_mI, nI_add, pk_mul, nI_clamp, nI_eq, nI_leI, nI_ltI, nm_eq, mn_eq, nm_lt, mn_lt, nm_le, mn_le, m_eq, bI_0, bI_1, k0, rp, kp, e24, e_129_17, c_160f]
    · rw [f_262]
      have e := d_226 (lx := lx) (z := z) (E := E) (n := n) (J := J2) (MV_0 hM).1 x y
      rw [c] at e
      have km := hM.1.1.1
      simp [k_St, n_St, i_St, j_St, r_St, wI_St, wJ_St, k_S0, n_S0, i_S0, j_S0, r_S0, wI_S0, wJ_S0, cI_s, cJ_s, cV_s, nR_s, nQ_s, nQ_n, lt_s_, gd_T, gd_t, Option.map_some, lits, neg_mI, nI_add, pk_mul, nI_clamp, nI_eq, nI_leI, nI_ltI, nm_eq, mn_eq, nm_lt, mn_lt, nm_le, mn_le, m_eq, bI_0, bI_1, km, e, e_262_14, d_182]
  · rcases hl_i hO x' y' with c | ⟨a', b', ha', hb', ea', eb', l', hi', ht'⟩
    · rw [c] at e24'
      rw [ht] at e24
      refine ⟨1, mI 1, by decide, by decide, ⟨_, _, ?_, CQ_u⟩, fun I2 J2 hM => ⟨_, ?_, MQ_1⟩⟩
      · rw [f_129]
        simp [k_St, n_St, i_St, j_St, r_St, wI_St, wJ_St, k_S0, n_S0, i_S0, j_S0, r_S0, wI_S0, wJ_S0, cI_s, cJ_s, cV_s, nR_s, nQ_s, nQ_n, lt_s_, gd_T, gd_t, Option.map_some, lits, neg_mI, nI_add, pk_mul, nI_clamp, nI_eq, nI_leI, nI_ltI, nm_eq, mn_eq, nm_lt, mn_lt, nm_le, mn_le, m_eq, bI_0, bI_1, k0, rp, kp, e24, e24', e_129_17, c_160f]
      · rw [f_262]
        have e := d_226 (lx := lx) (z := z) (E := E) (n := n) (J := J2) (MV_0 hM).1 x y
        have e' := d_226 (lx := lx) (z := z) (E := E) (n := n) (J := J2) (MV_0 hM).1 x' y'
        rw [c] at e'
        rw [ht] at e
        have km := hM.1.1.1
        simp [k_St, n_St, i_St, j_St, r_St, wI_St, wJ_St, k_S0, n_S0, i_S0, j_S0, r_S0, wI_S0, wJ_S0, cI_s, cJ_s, cV_s, nR_s, nQ_s, nQ_n, lt_s_, gd_T, gd_t, Option.map_some, lits, neg_mI, nI_add, pk_mul, nI_clamp, nI_eq, nI_leI, nI_ltI, nm_eq, mn_eq, nm_lt, mn_lt, nm_le, mn_le, m_eq, bI_0, bI_1, km, e, e', e_262_14, d_182]
    · rw [ht'] at e24'
      rw [ht] at e24
      obtain ⟨D, sq, e88, da, db⟩ := c_88 (lx := lx) (z := z) (E := E) (n := n) (O := opn F ρ false) (x := J p 10) (fr := 8 * b + a) h0 (fun c hc => by rw [opn_f]; exact hF.2.2.2.2.2.2.2 c hc) (fun c hc => opn_S hc) l
      have e91 := c_91 (lx := lx) (z := z) (E := E) (n := n) (N := N) (R := R) (I := u2 I 0 11 (nI 0)) (J := u2 J 102 1 (sto sq)) (D := D) hL2 l'
      refine ⟨0, leI (D (8 * b' + a')), by decide, by decide, ⟨_, _, ?_, CQ_l (D := D) (q := sto sq)⟩, fun I2 J2 hM => ?_⟩
      · rw [f_129]
        subst ea eb ea' eb'
        simp (disch := first | assumption | omega) [k_St, n_St, i_St, j_St, r_St, wI_St, wJ_St, k_S0, n_S0, i_S0, j_S0, r_S0, wI_S0, wJ_S0, cI_s, cJ_s, cV_s, nR_s, nQ_s, nQ_n, lt_s_, gd_T, gd_t, Option.map_some, lits, neg_mI, nI_add, pk_mul, nI_clamp, nI_eq, nI_leI, nI_ltI, nm_eq, mn_eq, nm_lt, mn_lt, nm_le, mn_le, m_eq, bI_0, bI_1, k0, rp, kp, e24, e24', e_129_17, c_160t, r4, r1, s_0, k7, e88, e91]
      · have hM0 := MV_0 hM
        obtain ⟨D', e260, da', db'⟩ := d_260 (lx := lx) (z := z) (E := E) (n := n) (J := J2) hM0.1 hρ hM0.2.1 false l hi
        refine ⟨_, ?_, MQ_l (D := D') (ρ := ρ)⟩
        rw [f_262]
        have e := d_226 (lx := lx) (z := z) (E := E) (n := n) (J := J2) hM0.1 x y
        have e' := d_226 (lx := lx) (z := z) (E := E) (n := n) (J := J2) hM0.1 x' y'
        rw [ht'] at e'
        rw [ht] at e
        have e261 := d_261 (lx := lx) (z := z) (E := E) (n := n) (I := u2 I2 132 0 (nI 0)) (J := J2) (ρ := ρ) hM.1.1 (D := D') l' (ways_le da' db' l')
        rw [← ways_eq da db da' db' l'] at e261
        rw [bf_] at e260
        subst ea eb ea' eb'
        have km := hM.1.1.1
        simp (disch := first | assumption | omega) [k_St, n_St, i_St, j_St, r_St, wI_St, wJ_St, k_S0, n_S0, i_S0, j_S0, r_S0, wI_S0, wJ_S0, cI_s, cJ_s, cV_s, nR_s, nQ_s, nQ_n, lt_s_, gd_T, gd_t, Option.map_some, lits, neg_mI, nI_add, pk_mul, nI_clamp, nI_eq, nI_leI, nI_ltI, nm_eq, mn_eq, nm_lt, mn_lt, nm_le, mn_le, m_eq, bI_0, bI_1, km, e, e', s_229, e260, e261, s_185]
theorem o_130 (h : CW K N R I J p s F ρ) (x y x' y' : Int32) : OQ lx z E n K N R I J f F ρ 130 263 [.int x, .int y, .int x', .int y'] := by
  have h0 : CW K N R (u2 I 0 11 (nI 0)) J p s F ρ := CW_u h
  have e24 := c_24 (lx := lx) (z := z) (E := E) (n := n) h x y
  have e24' := c_24 (lx := lx) (z := z) (E := E) (n := n) h x' y'
  obtain ⟨hL, ⟨hW15, hW19, hP, hPs, hps, _⟩, _, hF, hO, hR, hρ, _⟩ := h
  have hL2 := hL
  obtain ⟨k0, _, r1, r2, _, r4, _, _, _, rp, _⟩ := hL
  have k7 : K 102 = 7 := by have := hL2; unfold CL at this; simp [this]
  have kp := hP.1
  have k15 := hW15.1
  rcases hl_i hO x y with c | ⟨a, b, ha, hb, ea, eb, l, hi, ht⟩
  · rw [c] at e24
    refine ⟨1, mI 1, by decide, by decide, ⟨_, _, ?_, CQ_u⟩, fun I2 J2 hM => ⟨_, ?_, MQ_1⟩⟩
    · rw [f_130]
      simp [k_St, n_St, i_St, j_St, r_St, wI_St, wJ_St, k_S0, n_S0, i_S0, j_S0, r_S0, wI_S0, wJ_S0, cI_s, cJ_s, cV_s, nR_s, nQ_s, nQ_n, lt_s_, gd_T, gd_t, Option.map_some, lits, neg_mI, nI_add, pk_mul, nI_clamp, nI_eq, nI_leI, nI_ltI, nm_eq, mn_eq, nm_lt, mn_lt, nm_le, mn_le, m_eq, bI_0, bI_1, k0, rp, kp, e24, e_130_17, c_160f]
    · rw [f_263]
      have e := d_226 (lx := lx) (z := z) (E := E) (n := n) (J := J2) (MV_0 hM).1 x y
      rw [c] at e
      have km := hM.1.1.1
      simp [k_St, n_St, i_St, j_St, r_St, wI_St, wJ_St, k_S0, n_S0, i_S0, j_S0, r_S0, wI_S0, wJ_S0, cI_s, cJ_s, cV_s, nR_s, nQ_s, nQ_n, lt_s_, gd_T, gd_t, Option.map_some, lits, neg_mI, nI_add, pk_mul, nI_clamp, nI_eq, nI_leI, nI_ltI, nm_eq, mn_eq, nm_lt, mn_lt, nm_le, mn_le, m_eq, bI_0, bI_1, km, e, e_263_14, d_182]
  · rcases hl_i hO x' y' with c | ⟨a', b', ha', hb', ea', eb', l', hi', ht'⟩
    · rw [c] at e24'
      rw [ht] at e24
      refine ⟨1, mI 1, by decide, by decide, ⟨_, _, ?_, CQ_u⟩, fun I2 J2 hM => ⟨_, ?_, MQ_1⟩⟩
      · rw [f_130]
        simp [k_St, n_St, i_St, j_St, r_St, wI_St, wJ_St, k_S0, n_S0, i_S0, j_S0, r_S0, wI_S0, wJ_S0, cI_s, cJ_s, cV_s, nR_s, nQ_s, nQ_n, lt_s_, gd_T, gd_t, Option.map_some, lits, neg_mI, nI_add, pk_mul, nI_clamp, nI_eq, nI_leI, nI_ltI, nm_eq, mn_eq, nm_lt, mn_lt, nm_le, mn_le, m_eq, bI_0, bI_1, k0, rp, kp, e24, e24', e_130_17, c_160f]
      · rw [f_263]
        have e := d_226 (lx := lx) (z := z) (E := E) (n := n) (J := J2) (MV_0 hM).1 x y
        have e' := d_226 (lx := lx) (z := z) (E := E) (n := n) (J := J2) (MV_0 hM).1 x' y'
        rw [c] at e'
        rw [ht] at e
        have km := hM.1.1.1
        simp [k_St, n_St, i_St, j_St, r_St, wI_St, wJ_St, k_S0, n_S0, i_S0, j_S0, r_S0, wI_S0, wJ_S0, cI_s, cJ_s, cV_s, nR_s, nQ_s, nQ_n, lt_s_, gd_T, gd_t, Option.map_some, lits, neg_mI, nI_add, pk_mul, nI_clamp, nI_eq, nI_leI, nI_ltI, nm_eq, mn_eq, nm_lt, mn_lt, nm_le, mn_le, m_eq, bI_0, bI_1, km, e, e', e_263_14, d_182]
    · rw [ht'] at e24'
      rw [ht] at e24
      have e110 := s_110 (lx := lx) (z := z) (E := E) (n := n) hP h0.2.2.2.1 hW15 h0.2.2.2.2.2.1 hO (ROk_a hρ)
      obtain ⟨D, sq, e88, da, db⟩ := c_88 (lx := lx) (z := z) (E := E) (n := n) (O := opn F ρ true) (x := sto (unh F ρ)) (fr := 8 * b + a) h0 (fun c hc => by rw [opn_t]; exact hb_s _ hc) (fun c hc => opn_S hc) l
      have e91 := c_91 (lx := lx) (z := z) (E := E) (n := n) (N := N) (R := R) (I := u2 I 0 11 (nI 0)) (J := u2 J 102 1 (sto sq)) (D := D) hL2 l'
      refine ⟨0, leI (D (8 * b' + a')), by decide, by decide, ⟨_, _, ?_, CQ_l (D := D) (q := sto sq)⟩, fun I2 J2 hM => ?_⟩
      · rw [f_130]
        subst ea eb ea' eb'
        simp (disch := first | assumption | omega) [k_St, n_St, i_St, j_St, r_St, wI_St, wJ_St, k_S0, n_S0, i_S0, j_S0, r_S0, wI_S0, wJ_S0, cI_s, cJ_s, cV_s, nR_s, nQ_s, nQ_n, lt_s_, gd_T, gd_t, Option.map_some, lits, neg_mI, nI_add, pk_mul, nI_clamp, nI_eq, nI_leI, nI_ltI, nm_eq, mn_eq, nm_lt, mn_lt, nm_le, mn_le, m_eq, bI_0, bI_1, k0, rp, kp, e24, e24', e_130_17, c_160t, r4, r1, s_0, k7, k15, e110, e88, e91]
      · have hM0 := MV_0 hM
        obtain ⟨D', e260, da', db'⟩ := d_260 (lx := lx) (z := z) (E := E) (n := n) (J := J2) hM0.1 hρ hM0.2.1 true l hi
        refine ⟨_, ?_, MQ_l (D := D') (ρ := ρ)⟩
        rw [f_263]
        have e := d_226 (lx := lx) (z := z) (E := E) (n := n) (J := J2) hM0.1 x y
        have e' := d_226 (lx := lx) (z := z) (E := E) (n := n) (J := J2) hM0.1 x' y'
        rw [ht'] at e'
        rw [ht] at e
        have e261 := d_261 (lx := lx) (z := z) (E := E) (n := n) (I := u2 I2 132 0 (nI 0)) (J := J2) (ρ := ρ) hM.1.1 (D := D') l' (ways_le da' db' l')
        rw [← ways_eq da db da' db' l'] at e261
        rw [bt__] at e260
        subst ea eb ea' eb'
        have km := hM.1.1.1
        simp (disch := first | assumption | omega) [k_St, n_St, i_St, j_St, r_St, wI_St, wJ_St, k_S0, n_S0, i_S0, j_S0, r_S0, wI_S0, wJ_S0, cI_s, cJ_s, cV_s, nR_s, nQ_s, nQ_n, lt_s_, gd_T, gd_t, Option.map_some, lits, neg_mI, nI_add, pk_mul, nI_clamp, nI_eq, nI_leI, nI_ltI, nm_eq, mn_eq, nm_lt, mn_lt, nm_le, mn_le, m_eq, bI_0, bI_1, km, e, e', s_229, e260, e261, s_185]
theorem o_131 (h : CW K N R I J p s F ρ) (x : Int32) : OQ lx z E n K N R I J f F ρ 131 264 [.int x] := by
  have h0 : CW K N R (u2 I 0 11 (nI 0)) J p s F ρ := CW_u h
  have e62 := c_162 (lx := lx) (z := z) (E := E) (n := n) h x
  obtain ⟨hL, ⟨hW15, hW19, hP, hPs, hps, _⟩, _, hF, hO, hR, hρ, _⟩ := h
  have hL2 := hL
  obtain ⟨k0, _, r1, r2, _, r4, _, _, _, rp, _⟩ := hL
  have k7 : K 102 = 7 := by have := hL2; unfold CL at this; simp [this]
  have kp := hP.1
  have k15 := hW15.1
  have o8 : F 0 8 ≤ 4 := hO.2.2.2.2.2.2.2.2.2.2.2.2.1
  have hwS := hO.2.2.2.2.2.2.2.2.2.2.1
  have hwl := isS_lt hwS
  rcases rg_i x (n := F 0 8) (by omega) with c | ⟨g, hg, eg⟩
  · rw [c] at e62
    refine ⟨1, mI 1, by decide, by decide, ⟨_, _, ?_, CQ_u⟩, fun I2 J2 hM => ⟨_, ?_, MQ_1⟩⟩
    · rw [f_131]
      simp [k_St, n_St, i_St, j_St, r_St, wI_St, wJ_St, k_S0, n_S0, i_S0, j_S0, r_S0, wI_S0, wJ_S0, cI_s, cJ_s, cV_s, nR_s, nQ_s, nQ_n, lt_s_, gd_T, gd_t, Option.map_some, lits, neg_mI, nI_add, pk_mul, nI_clamp, nI_eq, nI_leI, nI_ltI, nm_eq, mn_eq, nm_lt, mn_lt, nm_le, mn_le, m_eq, bI_0, bI_1, k0, e62, c_160]
    · rw [f_264]
      have e := d_227 (lx := lx) (z := z) (E := E) (n := n) (J := J2) (MV_0 hM).1 x
      rw [c] at e
      have km := hM.1.1.1
      simp [k_St, n_St, i_St, j_St, r_St, wI_St, wJ_St, k_S0, n_S0, i_S0, j_S0, r_S0, wI_S0, wJ_S0, cI_s, cJ_s, cV_s, nR_s, nQ_s, nQ_n, lt_s_, gd_T, gd_t, Option.map_some, lits, neg_mI, nI_add, pk_mul, nI_clamp, nI_eq, nI_leI, nI_ltI, nm_eq, mn_eq, nm_lt, mn_lt, nm_le, mn_le, m_eq, bI_0, bI_1, km, e, d_182]
  · subst eg
    rw [rg_t hg (by omega)] at e62
    have e100 := s_100 (lx := lx) (z := z) (E := E) (n := n) hP h0.2.2.2.1 hW15 h0.2.2.2.2.2.1 hO (ROk_a hρ) hg
    have pS := plc_S hO (ROk_a hρ) hg
    have l := isS_lt pS
    obtain ⟨D, sq, e88, da, db⟩ := c_88 (lx := lx) (z := z) (E := E) (n := n) (O := opn F ρ false) (x := J p 10) (fr := plc F ρ g) h0 (fun c hc => by rw [opn_f]; exact hF.2.2.2.2.2.2.2 c hc) (fun c hc => opn_S hc) l
    have e91 := c_91 (lx := lx) (z := z) (E := E) (n := n) (N := N) (R := R) (I := u2 I 0 11 (nI 0)) (J := u2 J 102 1 (sto sq)) (D := D) hL2 hwl
    have q6 : pl (u2 I 0 11 (nI 0)) D p 6 = nI (F 0 6) := by rw [pl_n (by omega)]; exact h0.2.2.2.1.1 6 (by decide)
    refine ⟨0, leI (D (F 0 6)), by decide, by decide, ⟨_, _, ?_, CQ_l (D := D) (q := sto sq)⟩, fun I2 J2 hM => ?_⟩
    · rw [f_131]
      simp (disch := first | assumption | omega) [k_St, n_St, i_St, j_St, r_St, wI_St, wJ_St, k_S0, n_S0, i_S0, j_S0, r_S0, wI_S0, wJ_S0, cI_s, cJ_s, cV_s, nR_s, nQ_s, nQ_n, lt_s_, gd_T, gd_t, Option.map_some, lits, neg_mI, nI_add, pk_mul, nI_clamp, nI_eq, nI_leI, nI_ltI, nm_eq, mn_eq, nm_lt, mn_lt, nm_le, mn_le, m_eq, bI_0, bI_1, k0, e62, c_160, rp, kp, r4, r1, k15, e100, k7, e88, q6, e91]
    · have hM0 := MV_0 hM
      have hMp := MD_p (ρ := ρ) (m := 145) hM0.1 (show 135 < 147 by decide)
      have hvp : ∀ k, k < 145 → pr (u2 I2 132 0 (nI 0)) 135 145 ρ 134 k = nI (ρ k) := fun k hk => by rw [pr_n (by decide)]; exact hM0.2.1 k hk
      obtain ⟨D', e260, da', db'⟩ := d_260 (lx := lx) (z := z) (E := E) (n := n) (J := J2) hMp hρ hvp false l (isS_in pS)
      have sw : pr (pr (pr (u2 I2 132 0 (nI 0)) 135 145 ρ) 138 64 D') 135 145 ρ = pr (pr (u2 I2 132 0 (nI 0)) 138 64 D') 135 145 ρ := by
        funext b k
        unfold pr
        by_cases hb : b = 135
        · subst hb; simp; intro h1 h2; exact absurd h1 (by omega)
        · simp [hb]
      rw [sw] at e260
      refine ⟨_, ?_, MQ_l (D := D') (ρ := ρ)⟩
      rw [f_264]
      have e := d_227 (lx := lx) (z := z) (E := E) (n := n) (J := J2) hM0.1 (nI g)
      rw [rg_t hg (by omega)] at e
      have e231 := s_231 (lx := lx) (z := z) (E := E) (n := n) (J := J2) hM0.1 hM0.2.1
      have e233 := s_233 (lx := lx) (z := z) (E := E) (n := n) (J := J2) hM0.1 (ROk_a hρ) hg
      have e261 := d_261 (lx := lx) (z := z) (E := E) (n := n) (I := u2 I2 132 0 (nI 0)) (J := J2) (ρ := ρ) hM.1.1 (D := D') hwl (ways_le da' db' hwl)
      rw [← ways_eq da db da' db' hwl] at e261
      rw [bf_] at e260
      obtain ⟨⟨km, _⟩, ⟨f0, kf, _⟩, rf, ⟨q0, _⟩, _⟩ := hM0.1
      have q6' : pr (pr (u2 I2 132 0 (nI 0)) 138 64 D') 135 145 ρ f 6 = nI (F 0 6) := by rw [pr_n (by omega), pr_n (by omega)]; exact q0 6 (by decide)
      simp (disch := first | assumption | omega) [k_St, n_St, i_St, j_St, r_St, wI_St, wJ_St, k_S0, n_S0, i_S0, j_S0, r_S0, wI_S0, wJ_S0, cI_s, cJ_s, cV_s, nR_s, nQ_s, nQ_n, lt_s_, gd_T, gd_t, Option.map_some, lits, neg_mI, nI_add, pk_mul, nI_clamp, nI_eq, nI_leI, nI_ltI, nm_eq, mn_eq, nm_lt, mn_lt, nm_le, mn_le, m_eq, bI_0, bI_1, km, e, e231, e233, e260, rf, kf, q6', e261, s_185]
theorem o_132 (h : CW K N R I J p s F ρ) (x y m : Int32) : OQ lx z E n K N R I J f F ρ 132 265 [.int x, .int y, .int m] := by
  have h0 : CW K N R (u2 I 0 11 (nI 0)) J p s F ρ := CW_u h
  have e24 := c_24 (lx := lx) (z := z) (E := E) (n := n) h x y
  obtain ⟨hL, ⟨hW15, hW19, hP, hPs, hps, _⟩, _, hF, hO, hR, hρ, _⟩ := h
  have hL2 := hL
  obtain ⟨k0, _, r1, r2, _, r4, _, _, _, rp, _⟩ := hL
  have hL3 := hL2
  unfold CL at hL3
  have k7 : K 102 = 7 := by simp [hL3]
  have r0 : R 102 0 = some 103 := by simp [hL3]
  have k13 : K 103 = 13 := by simp [hL3]
  have n64 : N 103 = 64 := by simp [hL3]
  have kp := hP.1
  have t1 : nI 1 = bI true := rfl
  have t0 : nI 0 = bI false := rfl
  rcases hl_i hO x y with c | ⟨a, b, ha, hb, ea, eb, l, hi, ht⟩
  · rw [c] at e24
    have ca := c_161 (lx := lx) (z := z) (E := E) (n := n) (N := N) (R := R) (I := I) (J := J) k0 false true
    have cb := c_161 (lx := lx) (z := z) (E := E) (n := n) (N := N) (R := R) (I := I) (J := J) k0 false false
    rw [bt__] at ca
    simp only [bf_] at ca cb e24
    refine ⟨1, mI 1, by decide, by decide, ⟨_, _, ?_, CQ_u⟩, fun I2 J2 hM => ⟨_, ?_, MQ_1⟩⟩
    · rw [f_132]
      by_cases c1 : m < nI 0
      · simp [k_St, n_St, i_St, j_St, r_St, wI_St, wJ_St, k_S0, n_S0, i_S0, j_S0, r_S0, wI_S0, wJ_S0, cI_s, cJ_s, cV_s, nR_s, nQ_s, nQ_n, lt_s_, gd_T, gd_t, Option.map_some, lits, neg_mI, nI_add, pk_mul, nI_clamp, nI_eq, nI_leI, nI_ltI, nm_eq, mn_eq, nm_lt, mn_lt, nm_le, mn_le, m_eq, bI_0, bI_1, k0, rp, kp, e24, e_132_15, cb, c1]
      · by_cases c2 : nI 99 < m
        · simp [k_St, n_St, i_St, j_St, r_St, wI_St, wJ_St, k_S0, n_S0, i_S0, j_S0, r_S0, wI_S0, wJ_S0, cI_s, cJ_s, cV_s, nR_s, nQ_s, nQ_n, lt_s_, gd_T, gd_t, Option.map_some, lits, neg_mI, nI_add, pk_mul, nI_clamp, nI_eq, nI_leI, nI_ltI, nm_eq, mn_eq, nm_lt, mn_lt, nm_le, mn_le, m_eq, bI_0, bI_1, k0, rp, kp, e24, e_132_15, cb, c1, c2]
        · simp [k_St, n_St, i_St, j_St, r_St, wI_St, wJ_St, k_S0, n_S0, i_S0, j_S0, r_S0, wI_S0, wJ_S0, cI_s, cJ_s, cV_s, nR_s, nQ_s, nQ_n, lt_s_, gd_T, gd_t, Option.map_some, lits, neg_mI, nI_add, pk_mul, nI_clamp, nI_eq, nI_leI, nI_ltI, nm_eq, mn_eq, nm_lt, mn_lt, nm_le, mn_le, m_eq, bI_0, bI_1, k0, rp, kp, e24, e_132_15, ca, c1, c2]
    · rw [f_265]
      have e := d_226 (lx := lx) (z := z) (E := E) (n := n) (J := J2) (MV_0 hM).1 x y
      rw [c] at e
      have km := hM.1.1.1
      simp [k_St, n_St, i_St, j_St, r_St, wI_St, wJ_St, k_S0, n_S0, i_S0, j_S0, r_S0, wI_S0, wJ_S0, cI_s, cJ_s, cV_s, nR_s, nQ_s, nQ_n, lt_s_, gd_T, gd_t, Option.map_some, lits, neg_mI, nI_add, pk_mul, nI_clamp, nI_eq, nI_leI, nI_ltI, nm_eq, mn_eq, nm_lt, mn_lt, nm_le, mn_le, m_eq, bI_0, bI_1, km, e, d_182]
  · rw [ht] at e24
    rcases rg_i m (n := 100) (by omega) with c | ⟨q, hq, eq⟩
    · have cb := c_161 (lx := lx) (z := z) (E := E) (n := n) (N := N) (R := R) (I := I) (J := J) k0 true false
      simp only [bf_, bt__] at cb e24
      refine ⟨2, mI 1, by decide, by decide, ⟨_, _, ?_, CQ_u⟩, fun I2 J2 hM => ⟨_, ?_, MQ_1⟩⟩
      · rw [f_132]
        rcases rg_f (m := 99) c (by omega) with c1 | c2
        · have c1' : m < nI 0 := c1
          simp [k_St, n_St, i_St, j_St, r_St, wI_St, wJ_St, k_S0, n_S0, i_S0, j_S0, r_S0, wI_S0, wJ_S0, cI_s, cJ_s, cV_s, nR_s, nQ_s, nQ_n, lt_s_, gd_T, gd_t, Option.map_some, lits, neg_mI, nI_add, pk_mul, nI_clamp, nI_eq, nI_leI, nI_ltI, nm_eq, mn_eq, nm_lt, mn_lt, nm_le, mn_le, m_eq, bI_0, bI_1, k0, rp, kp, e24, e_132_15, cb, c1']
        · simp [k_St, n_St, i_St, j_St, r_St, wI_St, wJ_St, k_S0, n_S0, i_S0, j_S0, r_S0, wI_S0, wJ_S0, cI_s, cJ_s, cV_s, nR_s, nQ_s, nQ_n, lt_s_, gd_T, gd_t, Option.map_some, lits, neg_mI, nI_add, pk_mul, nI_clamp, nI_eq, nI_leI, nI_ltI, nm_eq, mn_eq, nm_lt, mn_lt, nm_le, mn_le, m_eq, bI_0, bI_1, k0, rp, kp, e24, e_132_15, cb, c2]
      · rw [f_265]
        have e := d_226 (lx := lx) (z := z) (E := E) (n := n) (J := J2) (MV_0 hM).1 x y
        rw [ht] at e
        have e87 := d_187 (lx := lx) m (m := 99) (by omega)
        rw [c] at e87
        have km := hM.1.1.1
        simp [k_St, n_St, i_St, j_St, r_St, wI_St, wJ_St, k_S0, n_S0, i_S0, j_S0, r_S0, wI_S0, wJ_S0, cI_s, cJ_s, cV_s, nR_s, nQ_s, nQ_n, lt_s_, gd_T, gd_t, Option.map_some, lits, neg_mI, nI_add, pk_mul, nI_clamp, nI_eq, nI_leI, nI_ltI, nm_eq, mn_eq, nm_lt, mn_lt, nm_le, mn_le, m_eq, bI_0, bI_1, km, e, e87, d_182]
    · subst eq
      have cb := c_161 (lx := lx) (z := z) (E := E) (n := n) (N := N) (R := R) (I := I) (J := J) k0 true true
      simp only [bt__] at cb e24
      obtain ⟨D, sq, e88, da, db⟩ := c_88 (lx := lx) (z := z) (E := E) (n := n) (O := opn F ρ false) (x := J p 10) (fr := 8 * b + a) h0 (fun c hc => by rw [opn_f]; exact hF.2.2.2.2.2.2.2 c hc) (fun c hc => opn_S hc) l
      have o64 : (Int32.ofNat 64 : Int32) = nI 64 := rfl
      have L := loopN (X := fun i => Am lx 92 5 [some (.ref (z + 102)), some (.int (nI q)), some (.int (nI (ctB (fun c => decide (D c ≤ q)) i))), some (.int (nI i))] [] (0, 0) (St z E n K N R (pl (u2 I 0 11 (nI 0)) D) (u2 J 102 1 (sto sq)))) (n := 64) (by
        intro i hi
        try simp only
        rw [e_92_5, ctB]
        have dl := ways_le da db hi
        by_cases c1 : D i = 9999
        · have l1 : leI (D i) = mI 2 := by unfold leI; rw [if_pos c1]
          have c2 : ¬ D i ≤ q := by omega
          simp (disch := first | assumption | omega) [k_St, n_St, i_St, j_St, r_St, wI_St, wJ_St, k_S0, n_S0, i_S0, j_S0, r_S0, wI_S0, wJ_S0, cI_s, cJ_s, cV_s, nR_s, nQ_s, nQ_n, lt_s_, gd_T, gd_t, Option.map_some, lits, neg_mI, nI_add, pk_mul, nI_clamp, nI_eq, nI_leI, nI_ltI, nm_eq, mn_eq, nm_lt, mn_lt, nm_le, mn_le, m_eq, bI_0, bI_1, if_neg, k7, r0, k13, n64, o64, pl_s, l1, c2]
        · have l1 : leI (D i) = nI (D i) := by unfold leI; rw [if_neg c1]
          by_cases c2 : D i ≤ q
          · simp (disch := first | assumption | omega) [k_St, n_St, i_St, j_St, r_St, wI_St, wJ_St, k_S0, n_S0, i_S0, j_S0, r_S0, wI_S0, wJ_S0, cI_s, cJ_s, cV_s, nR_s, nQ_s, nQ_n, lt_s_, gd_T, gd_t, Option.map_some, lits, neg_mI, nI_add, pk_mul, nI_clamp, nI_eq, nI_leI, nI_ltI, nm_eq, mn_eq, nm_lt, mn_lt, nm_le, mn_le, m_eq, bI_0, bI_1, if_neg, k7, r0, k13, n64, o64, pl_s, l1, c2]
          · simp (disch := first | assumption | omega) [k_St, n_St, i_St, j_St, r_St, wI_St, wJ_St, k_S0, n_S0, i_S0, j_S0, r_S0, wI_S0, wJ_S0, cI_s, cJ_s, cV_s, nR_s, nQ_s, nQ_n, lt_s_, gd_T, gd_t, Option.map_some, lits, neg_mI, nI_add, pk_mul, nI_clamp, nI_eq, nI_leI, nI_ltI, nm_eq, mn_eq, nm_lt, mn_lt, nm_le, mn_le, m_eq, bI_0, bI_1, if_neg, if_pos, k7, r0, k13, n64, o64, pl_s, l1, c2])
      try simp only at L
      have c0 : ctB (fun c => decide (D c ≤ q)) 0 = 0 := rfl
      rw [c0] at L
      have e92 : Ca lx 92 [.ref (z + 102), .int (nI q)] (St z E n K N R (pl (u2 I 0 11 (nI 0)) D) (u2 J 102 1 (sto sq))) = some (some (.int (nI (ctB (fun c => decide (D c ≤ q)) 64))), St z E n K N R (pl (u2 I 0 11 (nI 0)) D) (u2 J 102 1 (sto sq))) := by
        rw [f_92]
        have z0 : (0 : Int32) = nI 0 := rfl
        rw [z0, L, e_92_5]
        simp (disch := first | assumption | omega) [k_St, n_St, i_St, j_St, r_St, wI_St, wJ_St, k_S0, n_S0, i_S0, j_S0, r_S0, wI_S0, wJ_S0, cI_s, cJ_s, cV_s, nR_s, nQ_s, nQ_n, lt_s_, gd_T, gd_t, Option.map_some, lits, neg_mI, nI_add, pk_mul, nI_clamp, nI_eq, nI_leI, nI_ltI, nm_eq, mn_eq, nm_lt, mn_lt, nm_le, mn_le, m_eq, bI_0, bI_1, k7, r0, k13, n64, o64]
      refine ⟨0, nI (ctB (fun c => decide (D c ≤ q)) 64), by decide, by decide, ⟨_, _, ?_, CQ_l (D := D) (q := sto sq)⟩, fun I2 J2 hM => ?_⟩
      · rw [f_132]
        subst ea eb
        simp (disch := first | assumption | omega) [k_St, n_St, i_St, j_St, r_St, wI_St, wJ_St, k_S0, n_S0, i_S0, j_S0, r_S0, wI_S0, wJ_S0, cI_s, cJ_s, cV_s, nR_s, nQ_s, nQ_n, lt_s_, gd_T, gd_t, Option.map_some, lits, neg_mI, nI_add, pk_mul, nI_clamp, nI_eq, nI_leI, nI_ltI, nm_eq, mn_eq, nm_lt, mn_lt, nm_le, mn_le, m_eq, bI_0, bI_1, if_neg, k0, rp, kp, e24, e_132_15, cb, r4, r1, s_0, k7, e88, e92]
      · have hM0 := MV_0 hM
        obtain ⟨D', e260, da', db'⟩ := d_260 (lx := lx) (z := z) (E := E) (n := n) (J := J2) hM0.1 hρ hM0.2.1 false l hi
        refine ⟨_, ?_, MQ_l (D := D') (ρ := ρ)⟩
        rw [f_265]
        have e := d_226 (lx := lx) (z := z) (E := E) (n := n) (J := J2) hM0.1 x y
        rw [ht] at e
        have e87 := d_187 (lx := lx) (nI q) (m := 99) (by omega)
        rw [rg_t hq (by omega)] at e87
        obtain ⟨km, _, _, _, _, _, r22, _, _, _, _, _, _, _, _, _, _, _, _, k138, _, _, _, _, _, _, _, _, _, _, _, _, n138, _⟩ := hM.1.1
        have L2 := loopN (X := fun i => Am lx 265 32 [some (.ref (z + 132)), none, none, some (.int (nI q)), some (.int (nI (ctB (fun c => decide (D c ≤ q)) i))), some (.int (nI i))] [] (0, 0) (St z E n K N R (pr (pr (u2 I2 132 0 (nI 0)) 138 64 D') 135 145 ρ) J2)) (n := 64) (by
          intro i hi
          try simp only
          rw [e_265_32, ctB]
          have dl := ways_le da' db' hi
          have x1 : pr (pr (u2 I2 132 0 (nI 0)) 138 64 D') 135 145 ρ 138 i = nI (D' i) := by rw [pr_n (by decide), pr_s hi]
          rw [ways_eq da db da' db' hi]
          by_cases c2 : D' i ≤ q
          · simp (disch := first | assumption | omega) [k_St, n_St, i_St, j_St, r_St, wI_St, wJ_St, k_S0, n_S0, i_S0, j_S0, r_S0, wI_S0, wJ_S0, cI_s, cJ_s, cV_s, nR_s, nQ_s, nQ_n, lt_s_, gd_T, gd_t, Option.map_some, lits, neg_mI, nI_add, pk_mul, nI_clamp, nI_eq, nI_leI, nI_ltI, nm_eq, mn_eq, nm_lt, mn_lt, nm_le, mn_le, m_eq, bI_0, bI_1, if_neg, km, r22, k138, n138, x1, c2, e_265_46]
          · simp (disch := first | assumption | omega) [k_St, n_St, i_St, j_St, r_St, wI_St, wJ_St, k_S0, n_S0, i_S0, j_S0, r_S0, wI_S0, wJ_S0, cI_s, cJ_s, cV_s, nR_s, nQ_s, nQ_n, lt_s_, gd_T, gd_t, Option.map_some, lits, neg_mI, nI_add, pk_mul, nI_clamp, nI_eq, nI_leI, nI_ltI, nm_eq, mn_eq, nm_lt, mn_lt, nm_le, mn_le, m_eq, bI_0, bI_1, if_neg, if_pos, km, r22, k138, n138, x1, c2, e_265_46])
        try simp only at L2
        rw [c0] at L2
        rw [bf_] at e260
        subst ea eb
        simp (disch := first | assumption | omega) [k_St, n_St, i_St, j_St, r_St, wI_St, wJ_St, k_S0, n_S0, i_S0, j_S0, r_S0, wI_S0, wJ_S0, cI_s, cJ_s, cV_s, nR_s, nQ_s, nQ_n, lt_s_, gd_T, gd_t, Option.map_some, lits, neg_mI, nI_add, pk_mul, nI_clamp, nI_eq, nI_leI, nI_ltI, nm_eq, mn_eq, nm_lt, mn_lt, nm_le, mn_le, m_eq, bI_0, bI_1, km, e, e87, s_229, e260, L2]
        rw [e_265_32]
        simp (disch := first | assumption | omega) [k_St, n_St, i_St, j_St, r_St, wI_St, wJ_St, k_S0, n_S0, i_S0, j_S0, r_S0, wI_S0, wJ_S0, cI_s, cJ_s, cV_s, nR_s, nQ_s, nQ_n, lt_s_, gd_T, gd_t, Option.map_some, lits, neg_mI, nI_add, pk_mul, nI_clamp, nI_eq, nI_leI, nI_ltI, nm_eq, mn_eq, nm_lt, mn_lt, nm_le, mn_le, m_eq, bI_0, bI_1, if_pos, km, s_185]
end OP12
