section SEC4
variable {z : Nat} {E : aEt} {n : Nat} {K N : Nat → Nat} {R : Nat → Nat → Option Nat} {I : Nat → Nat → Int32} {J : Nat → Nat → Int64} {lx : List Value → aH → aO} {p s f : Nat} {F : Nat → Nat → Nat} {ρ : Nat → Nat} {I' : Nat → Nat → Int32}
theorem MFt_D (h : MD K N R I f F) (m : MFt I I' F) : MD K N R I' f F := MD_c h (fun a ha => m.2.2.1 a (by omega) (by omega))
theorem d_283 (h : MD K N R I f F) (x : Int32) : ∃ I', Ca lx 283 [.ref (z + 132), .int x] (St z E n K N R I J) = some (some (.int (if rg x (fct F) then nI (fa F 320 x.toNatClampNeg) else mI 1)), St z E n K N R I' J) ∧ MFt I I' F := by
  obtain ⟨I1, e1, m1⟩ := d_281 (lx := lx) (z := z) (E := E) (n := n) (J := J) h
  obtain ⟨km, _, _, _, _, _, _, _, _, _, _, r28, _, _, _, _, _, _, _, _, _, _, _, _, k143, _, _, _, _, _, _, _, _, _, _, _, _, n143, _⟩ := h.1
  have rf := h.2.2.1
  have fl := fct_l F
  refine ⟨I1, ?_, m1⟩
  rw [f_283]
  rcases rg_i x (n := fct F) (by omega) with c | ⟨q, hq, eq⟩
  · rw [c]
    have m31 := m1.2.1
    by_cases c0 : x < nI 0
    · simp [k_St, n_St, i_St, j_St, r_St, wI_St, wJ_St, k_S0, n_S0, i_S0, j_S0, r_S0, wI_S0, wJ_S0, cI_s, cJ_s, cV_s, nR_s, nQ_s, nQ_n, lt_s_, gd_T, gd_t, Option.map_some, lits, neg_mI, nI_add, pk_mul, nI_clamp, nI_eq, nI_leI, nI_ltI, nm_eq, mn_eq, nm_lt, mn_lt, nm_le, mn_le, m_eq, bI_0, bI_1, km, rf, e1, c0]
    · have c1 : ¬ x < nI (fct F) := by
        intro c2
        have : rg x (fct F) = true := by
          have : (0 : Int32) ≤ x := Int32.not_lt.mp c0
          simp [rg, this, c2]
        rw [c] at this; cases this
      simp [k_St, n_St, i_St, j_St, r_St, wI_St, wJ_St, k_S0, n_S0, i_S0, j_S0, r_S0, wI_S0, wJ_S0, cI_s, cJ_s, cV_s, nR_s, nQ_s, nQ_n, lt_s_, gd_T, gd_t, Option.map_some, lits, neg_mI, nI_add, pk_mul, nI_clamp, nI_eq, nI_leI, nI_ltI, nm_eq, mn_eq, nm_lt, mn_lt, nm_le, mn_le, m_eq, bI_0, bI_1, km, rf, e1, c0, m31, c1]
  · subst eq
    rw [rg_t hq (by omega)]
    simp (disch := first | assumption | omega) [k_St, n_St, i_St, j_St, r_St, wI_St, wJ_St, k_S0, n_S0, i_S0, j_S0, r_S0, wI_S0, wJ_S0, cI_s, cJ_s, cV_s, nR_s, nQ_s, nQ_n, lt_s_, gd_T, gd_t, Option.map_some, lits, neg_mI, nI_add, pk_mul, nI_clamp, nI_eq, nI_leI, nI_ltI, nm_eq, mn_eq, nm_lt, mn_lt, nm_le, mn_le, m_eq, bI_0, bI_1, if_neg, if_pos, km, rf, e1, m1.2.1, r28, k143, n143, m1.1 q hq]
theorem d_286 (h : MD K N R I f F) {m : Nat} (hm : m ≤ 60) : ∃ I', Ca lx 286 [.ref (z + 132), .int (nI m)] (St z E n K N R I J) = some (none, St z E n K N R (pr I' 144 64 (TA F m)) J) ∧ MFt I I' F := by
  obtain ⟨I1, e1, m1⟩ := d_281 (lx := lx) (z := z) (E := E) (n := n) (J := J) h
  obtain ⟨km, _, _, _, _, _, _, _, _, _, _, r28, r29, _, _, _, _, _, _, _, _, _, _, _, k143, k144, _, _, _, _, _, _, _, _, _, _, _, n143, n144, _⟩ := h.1
  have fl := fct_l F
  have L := loopN (X := fun i => Am lx 286 5 [some (.ref (z + 132)), some (.int (nI m)), some (.int (nI i))] [] (0, 0) (St z E n K N R (fun b k => if b = 144 ∧ k < i then nI 0 else I1 b k) J)) (n := 64) (by
    intro i hi
    try simp only
    rw [e_286_5]
    have e : u2 (fun b k => if b = 144 ∧ k < i then nI 0 else I1 b k) 144 i (nI 0) = fun b k => if b = 144 ∧ k < i + 1 then nI 0 else I1 b k := by
      funext b k
      unfold u2
      by_cases hb : b = 144
      · by_cases hk : k = i
        · simp [hb, hk]
        · have : k < i + 1 ↔ k < i := by omega
          simp [hb, hk, this]
      · simp [hb]
    simp (disch := first | assumption | omega) [k_St, n_St, i_St, j_St, r_St, wI_St, wJ_St, k_S0, n_S0, i_S0, j_S0, r_S0, wI_S0, wJ_S0, cI_s, cJ_s, cV_s, nR_s, nQ_s, nQ_n, lt_s_, gd_T, gd_t, Option.map_some, lits, neg_mI, nI_add, pk_mul, nI_clamp, nI_eq, nI_leI, nI_ltI, nm_eq, mn_eq, nm_lt, mn_lt, nm_le, mn_le, m_eq, bI_0, bI_1, if_neg, km, r29, k144, n144, e])
  try simp only at L
  have e0 : (fun b k => if b = 144 ∧ k < 0 then nI 0 else I1 b k) = I1 := by funext b k; simp
  have e64 : (fun b k => if b = 144 ∧ k < 64 then nI 0 else I1 b k) = pr I1 144 64 (tlA F m 0) := rfl
  rw [e0, e64] at L
  have md : ∀ τ, MD K N R (pr I1 144 64 τ) f F := fun τ => MD_p (MFt_D h m1) (by decide)
  have x31 : ∀ τ, pr I1 144 64 τ 132 31 = nI (fct F) := fun τ => by rw [pr_n (by decide)]; exact m1.2.1
  have L2 := loopN (X := fun i => Am lx 286 18 [some (.ref (z + 132)), some (.int (nI m)), some (.int (nI i))] [] (0, 0) (St z E n K N R (pr I1 144 64 (tlA F m i)) J)) (n := fct F) (by
    intro i hi
    try simp only
    rw [e_286_18, tlA]
    have x43 : pr I1 144 64 (tlA F m i) 143 i = nI (fa F 320 i) := by rw [pr_n (by decide)]; exact m1.1 i hi
    have fa1 := fa_l hi
    have e79 := s_279 (lx := lx) (z := z) (E := E) (n := n) (J := J) (md (tlA F m i)) fa1.1 fa1.2 hm
    have pe : stp F (fa F 320 i % 5) (m / F 0 2) (fa F 320 i / 5) = pkA F m i := rfl
    rw [pe] at e79
    have pl1 := isS_lt (pk_S (m := m) hi)
    simp (disch := first | assumption | omega) [k_St, n_St, i_St, j_St, r_St, wI_St, wJ_St, k_S0, n_S0, i_S0, j_S0, r_S0, wI_S0, wJ_S0, cI_s, cJ_s, cV_s, nR_s, nQ_s, nQ_n, lt_s_, gd_T, gd_t, Option.map_some, lits, neg_mI, nI_add, pk_mul, nI_clamp, nI_eq, nI_leI, nI_ltI, nm_eq, mn_eq, nm_lt, mn_lt, nm_le, mn_le, m_eq, bI_0, bI_1, if_neg, km, x31, r29, r28, k143, n143, x43, e79, k144, n144, pr_s, pr_u])
  try simp only at L2
  refine ⟨I1, ?_, m1⟩
  rw [f_286]
  simp (disch := first | assumption | omega) [k_St, n_St, i_St, j_St, r_St, wI_St, wJ_St, k_S0, n_S0, i_S0, j_S0, r_S0, wI_S0, wJ_S0, cI_s, cJ_s, cV_s, nR_s, nQ_s, nQ_n, lt_s_, gd_T, gd_t, Option.map_some, lits, neg_mI, nI_add, pk_mul, nI_clamp, nI_eq, nI_leI, nI_ltI, nm_eq, mn_eq, nm_lt, mn_lt, nm_le, mn_le, m_eq, bI_0, bI_1, km, e1, L]
  rw [e_286_5]
  simp (disch := first | assumption | omega) [k_St, n_St, i_St, j_St, r_St, wI_St, wJ_St, k_S0, n_S0, i_S0, j_S0, r_S0, wI_S0, wJ_S0, cI_s, cJ_s, cV_s, nR_s, nQ_s, nQ_n, lt_s_, gd_T, gd_t, Option.map_some, lits, neg_mI, nI_add, pk_mul, nI_clamp, nI_eq, nI_leI, nI_ltI, nm_eq, mn_eq, nm_lt, mn_lt, nm_le, mn_le, m_eq, bI_0, bI_1, if_pos, L2]
  rw [e_286_18]
  simp (disch := first | assumption | omega) [k_St, n_St, i_St, j_St, r_St, wI_St, wJ_St, k_S0, n_S0, i_S0, j_S0, r_S0, wI_S0, wJ_S0, cI_s, cJ_s, cV_s, nR_s, nQ_s, nQ_n, lt_s_, gd_T, gd_t, Option.map_some, lits, neg_mI, nI_add, pk_mul, nI_clamp, nI_eq, nI_leI, nI_ltI, nm_eq, mn_eq, nm_lt, mn_lt, nm_le, mn_le, m_eq, bI_0, bI_1, km, x31]
  rfl
theorem MQ_f {t : Nat} {I1 I2 : Nat → Nat → Int32} (m : MFt (u2 I 132 0 (nI 0)) I1 F) (h : ∀ a, a ≠ 132 → ¬ scM a → I2 a = I1 a) (h2 : ∀ k, k ≠ 27 → k ≠ 31 → k ≠ 32 → I2 132 k = I1 132 k) : MQr t I (u2 (u2 I2 132 1 (nI t)) 132 2 (mI 1)) :=
  MQ_0 (fun a h1 h3 => by rw [h a h1 h3, m.2.2.1 a h1 (fun e => h3 (by unfold scM; omega)), u2_a _ _ _ _ _ h1]) (fun k k1 k2 k3 => by rw [h2 k k1 k2 k3, m.2.2.2 k k2])
theorem o_137 (h : CW K N R I J p s F ρ) (hS : CSc I F) : OQ lx z E n K N R I J f F ρ 137 282 [] := by
  obtain ⟨hL, _, h10, hF, hO, hR, hρ, _, h16⟩ := h
  have hL' := hL
  unfold CL at hL'
  have k0 : K 0 = 9 := by simp [hL']
  have r6 : R 0 6 = some 108 := by simp [hL']
  have k4 : K 108 = 4 := by simp [hL']
  have q : ∀ v, u2 I 0 11 v 108 2 = nI (fct F) := fun v => by rw [u2_a _ _ _ _ _ (by decide)]; exact hS.1
  refine ⟨0, nI (fct F), by decide, by decide, ⟨_, _, ?_, CQ_u⟩, fun I2 J2 hM => ?_⟩
  · rw [f_137]
    simp [k_St, n_St, i_St, j_St, r_St, wI_St, wJ_St, k_S0, n_S0, i_S0, j_S0, r_S0, wI_S0, wJ_S0, cI_s, cJ_s, cV_s, nR_s, nQ_s, nQ_n, lt_s_, gd_T, gd_t, Option.map_some, lits, neg_mI, nI_add, pk_mul, nI_clamp, nI_eq, nI_leI, nI_ltI, nm_eq, mn_eq, nm_lt, mn_lt, nm_le, mn_le, m_eq, bI_0, bI_1, k0, h10, c_160t, r6, k4, q]
  · obtain ⟨I1, e1, m1⟩ := d_281 (lx := lx) (z := z) (E := E) (n := n) (J := J2) (MV_0 hM).1
    refine ⟨_, ?_, MQ_f (t := 0) m1 (fun a _ _ => rfl) (fun k _ _ _ => rfl)⟩
    have km := hM.1.1.1
    have rf := hM.1.2.2.1
    rw [f_282]
    simp [k_St, n_St, i_St, j_St, r_St, wI_St, wJ_St, k_S0, n_S0, i_S0, j_S0, r_S0, wI_S0, wJ_S0, cI_s, cJ_s, cV_s, nR_s, nQ_s, nQ_n, lt_s_, gd_T, gd_t, Option.map_some, lits, neg_mI, nI_add, pk_mul, nI_clamp, nI_eq, nI_leI, nI_ltI, nm_eq, mn_eq, nm_lt, mn_lt, nm_le, mn_le, m_eq, bI_0, bI_1, km, rf, e1, m1.2.1, s_185]
theorem o_138 (h : CW K N R I J p s F ρ) (hS : CSc I F) (x : Int32) : OQ lx z E n K N R I J f F ρ 138 284 [.int x] := by
  have e64 := c_164 (lx := lx) (z := z) (E := E) (n := n) (N := N) (R := R) (J := J) h.1 hS x
  obtain ⟨hL, _, h10, hF, hO, hR, hρ, _, h16⟩ := h
  have hL' := hL
  unfold CL at hL'
  have k0 : K 0 = 9 := by simp [hL']
  have r6 : R 0 6 = some 108 := by simp [hL']
  have k4 : K 108 = 4 := by simp [hL']
  have r0 : R 108 0 = some 109 := by simp [hL']
  have k9 : K 109 = 13 := by simp [hL']
  have n9 : N 109 = 320 := by simp [hL']
  have fl := fct_l F
  rcases rg_i x (n := fct F) (by omega) with c | ⟨q, hq, eq⟩
  · rw [c] at e64
    refine ⟨1, mI 1, by decide, by decide, ⟨_, _, ?_, CQ_u⟩, fun I2 J2 hM => ?_⟩
    · rw [f_138]
      simp [k_St, n_St, i_St, j_St, r_St, wI_St, wJ_St, k_S0, n_S0, i_S0, j_S0, r_S0, wI_S0, wJ_S0, cI_s, cJ_s, cV_s, nR_s, nQ_s, nQ_n, lt_s_, gd_T, gd_t, Option.map_some, lits, neg_mI, nI_add, pk_mul, nI_clamp, nI_eq, nI_leI, nI_ltI, nm_eq, mn_eq, nm_lt, mn_lt, nm_le, mn_le, m_eq, bI_0, bI_1, k0, e64, c_160]
    · obtain ⟨I1, e1, m1⟩ := d_283 (lx := lx) (z := z) (E := E) (n := n) (J := J2) (MV_0 hM).1 x
      rw [c] at e1
      refine ⟨_, ?_, MQ_f (t := 1) m1 (fun a _ _ => rfl) (fun k _ _ _ => rfl)⟩
      have km := hM.1.1.1
      rw [f_284]
      simp [k_St, n_St, i_St, j_St, r_St, wI_St, wJ_St, k_S0, n_S0, i_S0, j_S0, r_S0, wI_S0, wJ_S0, cI_s, cJ_s, cV_s, nR_s, nQ_s, nQ_n, lt_s_, gd_T, gd_t, Option.map_some, lits, neg_mI, nI_add, pk_mul, nI_clamp, nI_eq, nI_leI, nI_ltI, nm_eq, mn_eq, nm_lt, mn_lt, nm_le, mn_le, m_eq, bI_0, bI_1, km, e1, d_182]
  · subst eq
    rw [rg_t hq (by omega)] at e64
    obtain ⟨a, b⟩ := hS.2 q hq
    have fa1 := fa_l hq
    have l5 : fa F 320 q / 5 < 64 := by omega
    have x9 : ∀ v, u2 I 0 11 v 109 q = nI (fa F 320 q / 5) := fun v => by rw [u2_a _ _ _ _ _ (by decide)]; exact a
    refine ⟨0, nI (whl (fa F 320 q / 5)), by decide, by decide, ⟨_, _, ?_, CQ_u⟩, fun I2 J2 hM => ?_⟩
    · rw [f_138]
      simp (disch := first | assumption | omega) [k_St, n_St, i_St, j_St, r_St, wI_St, wJ_St, k_S0, n_S0, i_S0, j_S0, r_S0, wI_S0, wJ_S0, cI_s, cJ_s, cV_s, nR_s, nQ_s, nQ_n, lt_s_, gd_T, gd_t, Option.map_some, lits, neg_mI, nI_add, pk_mul, nI_clamp, nI_eq, nI_leI, nI_ltI, nm_eq, mn_eq, nm_lt, mn_lt, nm_le, mn_le, m_eq, bI_0, bI_1, k0, e64, c_160, r6, k4, r0, k9, n9, x9, s_3 l5]
    · obtain ⟨I1, e1, m1⟩ := d_283 (lx := lx) (z := z) (E := E) (n := n) (J := J2) (MV_0 hM).1 (nI q)
      rw [rg_t hq (by omega), nI_clamp (by omega)] at e1
      refine ⟨_, ?_, MQ_f (t := 0) m1 (fun a _ _ => rfl) (fun k _ _ _ => rfl)⟩
      have km := hM.1.1.1
      have d5 : nI (fa F 320 q) / nI 5 = nI (fa F 320 q / 5) := pk_div (by omega) (by omega) (by omega)
      rw [f_284]
      simp (disch := first | assumption | omega) [k_St, n_St, i_St, j_St, r_St, wI_St, wJ_St, k_S0, n_S0, i_S0, j_S0, r_S0, wI_S0, wJ_S0, cI_s, cJ_s, cV_s, nR_s, nQ_s, nQ_n, lt_s_, gd_T, gd_t, Option.map_some, lits, neg_mI, nI_add, pk_mul, nI_clamp, nI_eq, nI_leI, nI_ltI, nm_eq, mn_eq, nm_lt, mn_lt, nm_le, mn_le, m_eq, bI_0, bI_1, km, e1, d5, s_230 l5, s_185]
theorem o_139 (h : CW K N R I J p s F ρ) (hS : CSc I F) (x : Int32) : OQ lx z E n K N R I J f F ρ 139 285 [.int x] := by
  have e64 := c_164 (lx := lx) (z := z) (E := E) (n := n) (N := N) (R := R) (J := J) h.1 hS x
  obtain ⟨hL, _, h10, hF, hO, hR, hρ, _, h16⟩ := h
  have hL' := hL
  unfold CL at hL'
  have k0 : K 0 = 9 := by simp [hL']
  have r6 : R 0 6 = some 108 := by simp [hL']
  have k4 : K 108 = 4 := by simp [hL']
  have r1 : R 108 1 = some 110 := by simp [hL']
  have k9 : K 110 = 13 := by simp [hL']
  have n9 : N 110 = 320 := by simp [hL']
  have fl := fct_l F
  rcases rg_i x (n := fct F) (by omega) with c | ⟨q, hq, eq⟩
  · rw [c] at e64
    refine ⟨1, mI 1, by decide, by decide, ⟨_, _, ?_, CQ_u⟩, fun I2 J2 hM => ?_⟩
    · rw [f_139]
      simp [k_St, n_St, i_St, j_St, r_St, wI_St, wJ_St, k_S0, n_S0, i_S0, j_S0, r_S0, wI_S0, wJ_S0, cI_s, cJ_s, cV_s, nR_s, nQ_s, nQ_n, lt_s_, gd_T, gd_t, Option.map_some, lits, neg_mI, nI_add, pk_mul, nI_clamp, nI_eq, nI_leI, nI_ltI, nm_eq, mn_eq, nm_lt, mn_lt, nm_le, mn_le, m_eq, bI_0, bI_1, k0, e64, c_160]
    · obtain ⟨I1, e1, m1⟩ := d_283 (lx := lx) (z := z) (E := E) (n := n) (J := J2) (MV_0 hM).1 x
      rw [c] at e1
      refine ⟨_, ?_, MQ_f (t := 1) m1 (fun a _ _ => rfl) (fun k _ _ _ => rfl)⟩
      have km := hM.1.1.1
      rw [f_285]
      simp [k_St, n_St, i_St, j_St, r_St, wI_St, wJ_St, k_S0, n_S0, i_S0, j_S0, r_S0, wI_S0, wJ_S0, cI_s, cJ_s, cV_s, nR_s, nQ_s, nQ_n, lt_s_, gd_T, gd_t, Option.map_some, lits, neg_mI, nI_add, pk_mul, nI_clamp, nI_eq, nI_leI, nI_ltI, nm_eq, mn_eq, nm_lt, mn_lt, nm_le, mn_le, m_eq, bI_0, bI_1, km, e1, d_182]
  · subst eq
    rw [rg_t hq (by omega)] at e64
    obtain ⟨a, b⟩ := hS.2 q hq
    have fa1 := fa_l hq
    have x9 : ∀ v, u2 I 0 11 v 110 q = nI (fa F 320 q % 5) := fun v => by rw [u2_a _ _ _ _ _ (by decide)]; exact b
    refine ⟨0, nI (fa F 320 q % 5), by decide, by decide, ⟨_, _, ?_, CQ_u⟩, fun I2 J2 hM => ?_⟩
    · rw [f_139]
      simp (disch := first | assumption | omega) [k_St, n_St, i_St, j_St, r_St, wI_St, wJ_St, k_S0, n_S0, i_S0, j_S0, r_S0, wI_S0, wJ_S0, cI_s, cJ_s, cV_s, nR_s, nQ_s, nQ_n, lt_s_, gd_T, gd_t, Option.map_some, lits, neg_mI, nI_add, pk_mul, nI_clamp, nI_eq, nI_leI, nI_ltI, nm_eq, mn_eq, nm_lt, mn_lt, nm_le, mn_le, m_eq, bI_0, bI_1, k0, e64, c_160, r6, k4, r1, k9, n9, x9]
    · obtain ⟨I1, e1, m1⟩ := d_283 (lx := lx) (z := z) (E := E) (n := n) (J := J2) (MV_0 hM).1 (nI q)
      rw [rg_t hq (by omega), nI_clamp (by omega)] at e1
      refine ⟨_, ?_, MQ_f (t := 0) m1 (fun a _ _ => rfl) (fun k _ _ _ => rfl)⟩
      have km := hM.1.1.1
      have d5 : nI (fa F 320 q) - nI (fa F 320 q) / nI 5 * nI 5 = nI (fa F 320 q % 5) := pk_rem (by omega) (by omega) (by omega)
      rw [f_285]
      simp (disch := first | assumption | omega) [k_St, n_St, i_St, j_St, r_St, wI_St, wJ_St, k_S0, n_S0, i_S0, j_S0, r_S0, wI_S0, wJ_S0, cI_s, cJ_s, cV_s, nR_s, nQ_s, nQ_n, lt_s_, gd_T, gd_t, Option.map_some, lits, neg_mI, nI_add, pk_mul, nI_clamp, nI_eq, nI_leI, nI_ltI, nm_eq, mn_eq, nm_lt, mn_lt, nm_le, mn_le, m_eq, bI_0, bI_1, km, e1, d5, s_185]
end SEC4
