section WAY5
variable {z : Nat} {E : aEt} {n : Nat} {K N : Nat → Nat} {R : Nat → Nat → Option Nat} {I : Nat → Nat → Int32} {J : Nat → Nat → Int64} {lx : List Value → aH → aO} {p sp f : Nat} {F : Nat → Nat → Nat} {ρ : Nat → Nat} {O : Nat → Bool} {D : Nat → Nat} {s : Nat → Bool} {fr r c w : Nat} {x : Int64}
/-- the plan and the works as they stand while ways are looked for -/
theorem way_P (h : CW K N R I J p sp F ρ) (q : Int64) : PI (pl I D) (u2 J 102 1 q) p F ∧ WR (pl I D) (u2 J 102 1 q) 15 F ρ := by
  have hp := h.2.1.2.2.2.2.1
  refine ⟨PI_c h.2.2.2.1 (fun a a1 a2 => pl_n (by omega)) (u2_a _ _ _ _ _ (by omega)), ?_⟩
  exact (WN_f (CW_n h) (fun a a1 a2 => ⟨pl_n (by omega), u2_a _ _ _ _ _ (by omega)⟩)).1
theorem c_88w (h : CW K N R I J p sp F ρ) (hx : ∀ c, c < 64 → hb x c = O c) (hOS : ∀ c, O c = true → isS F c = true) : ∀ m w D, w + m = 5 → 1 ≤ w → SJ O (tks F ρ) fr D s r c w → r < 64 → ∃ D', Am lx 88 55 [some (.ref (z + 102)), some (.ref (z + p)), some (.ref (z + 15)), none, some (.long x), none, some (.int (nI r)), some (.int (nI c)), some (.int (nI w)), none] [] (0, 0) (St z E n K N R (pl I D) (u2 J 102 1 (sto (fun i => s i || decide (i = c))))) = Am lx 88 34 [some (.ref (z + 102)), some (.ref (z + p)), some (.ref (z + 15)), none, some (.long x), none, some (.int (nI (r + 1))), none, none, none] [] (0, 0) (St z E n K N R (pl I D') (u2 J 102 1 (sto (fun i => s i || decide (i = c))))) ∧ SJ O (tks F ρ) fr D' s r c 5 := by
  intro m
  have hL := h.1
  have hL' := hL
  unfold CL at hL'
  have k7 : K 102 = 7 := by simp [hL']
  have k15 := h.2.1.1.1
  have hO := h.2.2.2.2.1
  have hρ := h.2.2.2.2.2.2.1
  induction m with
  | zero =>
    intro w D hw w1 hj hr
    have : w = 5 := by omega
    subst this
    refine ⟨D, ?_, hj⟩
    rw [e_88_55]
    simp (disch := first | assumption | omega) [k_St, n_St, i_St, j_St, r_St, wI_St, wJ_St, k_S0, n_S0, i_S0, j_S0, r_S0, wI_S0, wJ_S0, cI_s, cJ_s, cV_s, nR_s, nQ_s, nQ_n, lt_s_, gd_T, gd_t, Option.map_some, lits, neg_mI, nI_add, pk_mul, nI_clamp, nI_eq, nI_leI, nI_ltI, nm_eq, mn_eq, nm_lt, mn_lt, nm_le, mn_le, m_eq, bI_0, bI_1, if_pos]
  | succ m ih =>
    intro w D hw w1 hj hr
    have hc := hj.2.1
    have w4 : w ≤ 4 := by omega
    have e7 := s_7 (lx := lx) hc (show w < 5 by omega)
    have js : u2 J 102 1 (sto (fun i => s i || decide (i = c))) 102 1 = sto (fun i => s i || decide (i = c)) := u2_s _ _ _ _
    by_cases hn : nxc c w < 64
    · rw [oI_lt hn] at e7
      have e5 := s_5 (lx := lx) (x &&& (sto (fun i => s i || decide (i = c)) ^^^ (-1))) hn
      rw [hb_n _ _ hn, hx _ hn, hb_s _ hn] at e5
      have xn : sto (fun i => s i || decide (i = c)) ^^^ (-1) = ~~~ (sto (fun i => s i || decide (i = c))) := by simp
      rw [xn] at e5
      cases o : O (nxc c w)
      · rw [o] at e5
        obtain ⟨D', e, hj'⟩ := ih (w + 1) D (by omega) (by omega) (SJ_k hj (fun _ q => by rw [o] at q; cases q)) hr
        refine ⟨D', ?_, hj'⟩
        rw [← e, e_88_55]
        simp (disch := first | assumption | omega) [k_St, n_St, i_St, j_St, r_St, wI_St, wJ_St, k_S0, n_S0, i_S0, j_S0, r_S0, wI_S0, wJ_S0, cI_s, cJ_s, cV_s, nR_s, nQ_s, nQ_n, lt_s_, gd_T, gd_t, Option.map_some, lits, neg_mI, nI_add, pk_mul, nI_clamp, nI_eq, nI_leI, nI_ltI, nm_eq, mn_eq, nm_lt, mn_lt, nm_le, mn_le, m_eq, bI_0, bI_1, if_neg, e7, k7, js, e5]
      · rw [o] at e5
        cases q : (s (nxc c w) || decide (nxc c w = c))
        · rw [q] at e5
          have hs := hOS _ o
          have tl := tks_le hO (ROk_a hρ) hs
          obtain ⟨hF1, hR1⟩ := way_P (D := D) h (sto (fun i => s i || decide (i = c)))
          have e91 := c_91 (lx := lx) (z := z) (E := E) (n := n) (N := N) (R := R) (I := I) (J := u2 J 102 1 (sto (fun i => s i || decide (i = c)))) (D := D) hL hc
          have dc : leI (D c) = nI (D c) := by unfold leI; rw [if_neg (by have := hj.2.2.2.1; omega)]
          rw [dc] at e91
          have e99 := s_99 (lx := lx) (z := z) (E := E) (n := n) h.2.1.2.2.1 hF1 h.2.1.1 hR1 (ROk_a hρ) hn (isS_in hs)
          have db := hj.2.2.2.2.1
          have e90 := c_90 (lx := lx) (z := z) (E := E) (n := n) (N := N) (R := R) (I := I) (J := u2 J 102 1 (sto (fun i => s i || decide (i = c)))) (D := D) hL hn (v := D c + tks F ρ (nxc c w)) (by omega) (hj.1.2.1 _ hn)
          by_cases l : D c + tks F ρ (nxc c w) < D (nxc c w)
          · rw [if_pos l] at e90
            obtain ⟨D', e, hj'⟩ := ih (w + 1) _ (by omega) (by omega) (SJ_l hj w1 w4 hn o q tl l) hr
            refine ⟨D', ?_, hj'⟩
            rw [← e, e_88_55]
            simp (disch := first | assumption | omega) [k_St, n_St, i_St, j_St, r_St, wI_St, wJ_St, k_S0, n_S0, i_S0, j_S0, r_S0, wI_S0, wJ_S0, cI_s, cJ_s, cV_s, nR_s, nQ_s, nQ_n, lt_s_, gd_T, gd_t, Option.map_some, lits, neg_mI, nI_add, pk_mul, nI_clamp, nI_eq, nI_leI, nI_ltI, nm_eq, mn_eq, nm_lt, mn_lt, nm_le, mn_le, m_eq, bI_0, bI_1, if_neg, e7, k7, js, e5, e91, k15, e99, e90]
          · rw [if_neg l] at e90
            obtain ⟨D', e, hj'⟩ := ih (w + 1) D (by omega) (by omega) (SJ_k hj (fun _ _ => by omega)) hr
            refine ⟨D', ?_, hj'⟩
            rw [← e, e_88_55]
            simp (disch := first | assumption | omega) [k_St, n_St, i_St, j_St, r_St, wI_St, wJ_St, k_S0, n_S0, i_S0, j_S0, r_S0, wI_S0, wJ_S0, cI_s, cJ_s, cV_s, nR_s, nQ_s, nQ_n, lt_s_, gd_T, gd_t, Option.map_some, lits, neg_mI, nI_add, pk_mul, nI_clamp, nI_eq, nI_leI, nI_ltI, nm_eq, mn_eq, nm_lt, mn_lt, nm_le, mn_le, m_eq, bI_0, bI_1, if_neg, e7, k7, js, e5, e91, k15, e99, e90]
        · rw [q] at e5
          obtain ⟨D', e, hj'⟩ := ih (w + 1) D (by omega) (by omega) (SJ_k hj (SJ_n hj hn q)) hr
          refine ⟨D', ?_, hj'⟩
          rw [← e, e_88_55]
          simp (disch := first | assumption | omega) [k_St, n_St, i_St, j_St, r_St, wI_St, wJ_St, k_S0, n_S0, i_S0, j_S0, r_S0, wI_S0, wJ_S0, cI_s, cJ_s, cV_s, nR_s, nQ_s, nQ_n, lt_s_, gd_T, gd_t, Option.map_some, lits, neg_mI, nI_add, pk_mul, nI_clamp, nI_eq, nI_leI, nI_ltI, nm_eq, mn_eq, nm_lt, mn_lt, nm_le, mn_le, m_eq, bI_0, bI_1, if_neg, e7, k7, js, e5]
    · rw [oI_ge hn] at e7
      obtain ⟨D', e, hj'⟩ := ih (w + 1) D (by omega) (by omega) (SJ_k hj (fun _ q => absurd (isS_lt (hOS _ q)) hn)) hr
      refine ⟨D', ?_, hj'⟩
      rw [← e, e_88_55]
      simp (disch := first | assumption | omega) [k_St, n_St, i_St, j_St, r_St, wI_St, wJ_St, k_S0, n_S0, i_S0, j_S0, r_S0, wI_S0, wJ_S0, cI_s, cJ_s, cV_s, nR_s, nQ_s, nQ_n, lt_s_, gd_T, gd_t, Option.map_some, lits, neg_mI, nI_add, pk_mul, nI_clamp, nI_eq, nI_leI, nI_ltI, nm_eq, mn_eq, nm_lt, mn_lt, nm_le, mn_le, m_eq, bI_0, bI_1, if_neg, e7]
theorem c_88r (h : CW K N R I J p sp F ρ) (hx : ∀ c, c < 64 → hb x c = O c) (hOS : ∀ c, O c = true → isS F c = true) : ∀ m r D s, r + m = 64 → SI O (tks F ρ) fr D s r → ∃ D' s', Am lx 88 34 [some (.ref (z + 102)), some (.ref (z + p)), some (.ref (z + 15)), none, some (.long x), none, some (.int (nI r)), none, none, none] [] (0, 0) (St z E n K N R (pl I D) (u2 J 102 1 (sto s))) = some (none, St z E n K N R (pl I D') (u2 J 102 1 (sto s'))) ∧ DF O (tks F ρ) fr D' := by
  intro m
  have hL := h.1
  have hL' := hL
  unfold CL at hL'
  have k7 : K 102 = 7 := by simp [hL']
  induction m with
  | zero =>
    intro r D s hr hs
    have : r = 64 := by omega
    subst this
    refine ⟨D, s, ?_, SI_end hs (fun j hj _ => ctB_all hs.2.2.2.2.2 j hj)⟩
    rw [e_88_34]
    simp (disch := first | assumption | omega) [k_St, n_St, i_St, j_St, r_St, wI_St, wJ_St, k_S0, n_S0, i_S0, j_S0, r_S0, wI_S0, wJ_S0, cI_s, cJ_s, cV_s, nR_s, nQ_s, nQ_n, lt_s_, gd_T, gd_t, Option.map_some, lits, neg_mI, nI_add, pk_mul, nI_clamp, nI_eq, nI_leI, nI_ltI, nm_eq, mn_eq, nm_lt, mn_lt, nm_le, mn_le, m_eq, bI_0, bI_1, if_pos]
  | succ m ih =>
    intro r D s hr hs
    have e89 := c_89 (lx := lx) (z := z) (E := E) (n := n) (N := N) (R := R) (I := I) (J := J) (D := D) (s := s) hL hs.1.2.1
    rcases nrs_p D s 64 (Nat.le_refl _) with ⟨a1, a2⟩ | ⟨a1, a2, a3, a4⟩
    · refine ⟨D, s, ?_, SI_end hs a2⟩
      rw [a1] at e89
      have o64 : oI 64 = mI 1 := rfl
      rw [o64] at e89
      rw [e_88_34]
      simp (disch := first | assumption | omega) [k_St, n_St, i_St, j_St, r_St, wI_St, wJ_St, k_S0, n_S0, i_S0, j_S0, r_S0, wI_S0, wJ_S0, cI_s, cJ_s, cV_s, nR_s, nQ_s, nQ_n, lt_s_, gd_T, gd_t, Option.map_some, lits, neg_mI, nI_add, pk_mul, nI_clamp, nI_eq, nI_leI, nI_ltI, nm_eq, mn_eq, nm_lt, mn_lt, nm_le, mn_le, m_eq, bI_0, bI_1, if_neg, k7, e89]
    · rw [oI_lt a1] at e89
      obtain ⟨D1, e1, j1⟩ := c_88w (lx := lx) (z := z) (E := E) (n := n) (J := J) (fr := fr) (s := s) (r := r) (c := nrs D s 64) h hx hOS 4 1 D (by omega) (by omega) (SJ_0 hs a1 a2 a3 a4) (by omega)
      obtain ⟨D2, s2, e2, j2⟩ := ih (r + 1) D1 _ (by omega) (SJ_e j1)
      refine ⟨D2, s2, ?_, j2⟩
      have js : u2 J 102 1 (sto s) 102 1 = sto s := u2_s _ _ _ _
      rw [← e2, ← e1, e_88_34]
      simp (disch := first | assumption | omega) [k_St, n_St, i_St, j_St, r_St, wI_St, wJ_St, k_S0, n_S0, i_S0, j_S0, r_S0, wI_S0, wJ_S0, cI_s, cJ_s, cV_s, nR_s, nQ_s, nQ_n, lt_s_, gd_T, gd_t, Option.map_some, lits, neg_mI, nI_add, pk_mul, nI_clamp, nI_eq, nI_leI, nI_ltI, nm_eq, mn_eq, nm_lt, mn_lt, nm_le, mn_le, m_eq, bI_0, bI_1, if_neg, k7, e89, js, sto_o, u2_uu]
theorem c_88 (h : CW K N R I J p sp F ρ) (hx : ∀ c, c < 64 → hb x c = O c) (hOS : ∀ c, O c = true → isS F c = true) (hf : fr < 64) : ∃ D s', Ca lx 88 [.ref (z + 102), .ref (z + p), .ref (z + 15), .int (nI fr), .long x] (St z E n K N R I J) = some (none, St z E n K N R (pl I D) (u2 J 102 1 (sto s'))) ∧ (O fr = true → DF O (tks F ρ) fr D) ∧ (O fr = false → ∀ c, D c = 9999) := by
  have hL' := h.1
  unfold CL at hL'
  have k7 : K 102 = 7 := by simp [hL']
  have r0 : R 102 0 = some 103 := by simp [hL']
  have k13 : K 103 = 13 := by simp [hL']
  have n64 : N 103 = 64 := by simp [hL']
  have o64 : (Int32.ofNat 64 : Int32) = nI 64 := rfl
  have L := loopN (X := fun i => Am lx 88 3 [some (.ref (z + 102)), some (.ref (z + p)), some (.ref (z + 15)), some (.int (nI fr)), some (.long x), none, some (.int (nI i)), none, none, none] [] (0, 0) (St z E n K N R (fun b k => if b = 103 ∧ k < i then mI 2 else I b k) J)) (n := 64) (by
    intro i hi
    try simp only
    rw [e_88_3]
    have e : u2 (fun b k => if b = 103 ∧ k < i then mI 2 else I b k) 103 i (mI 2) = fun b k => if b = 103 ∧ k < i + 1 then mI 2 else I b k := by
      funext b k
      unfold u2
      by_cases hb : b = 103
      · by_cases hk : k = i
        · simp [hb, hk]
        · have : k < i + 1 ↔ k < i := by omega
          simp [hb, hk, this]
      · simp [hb]
    simp (disch := first | assumption | omega) [k_St, n_St, i_St, j_St, r_St, wI_St, wJ_St, k_S0, n_S0, i_S0, j_S0, r_S0, wI_S0, wJ_S0, cI_s, cJ_s, cV_s, nR_s, nQ_s, nQ_n, lt_s_, gd_T, gd_t, Option.map_some, lits, neg_mI, nI_add, pk_mul, nI_clamp, nI_eq, nI_leI, nI_ltI, nm_eq, mn_eq, nm_lt, mn_lt, nm_le, mn_le, m_eq, bI_0, bI_1, if_neg, k7, r0, k13, n64, o64, e])
  try simp only at L
  have e0 : (fun b k => if b = 103 ∧ k < 0 then mI 2 else I b k) = I := by funext b k; simp
  have e64 : (fun b k => if b = 103 ∧ k < 64 then mI 2 else I b k) = pl I (fun _ => 9999) := by
    funext b k; simp [pl, leI]
  rw [e0, e64] at L
  have s5 := s_5 (lx := lx) x hf
  rw [hx fr hf] at s5
  have s0 : (0 : Int64) = sto (fun _ => false) := hb_ext (fun c hc => by rw [hb_s _ hc, hb_0])
  cases o : O fr
  · refine ⟨fun _ => 9999, fun _ => false, ?_, fun e => (by cases e), fun _ _ => rfl⟩
    rw [o] at s5
    rw [f_88]
    have z0 : (0 : Int32) = nI 0 := rfl
    rw [z0, L, e_88_3]
    simp (disch := first | assumption | omega) [k_St, n_St, i_St, j_St, r_St, wI_St, wJ_St, k_S0, n_S0, i_S0, j_S0, r_S0, wI_S0, wJ_S0, cI_s, cJ_s, cV_s, nR_s, nQ_s, nQ_n, lt_s_, gd_T, gd_t, Option.map_some, lits, neg_mI, nI_add, pk_mul, nI_clamp, nI_eq, nI_leI, nI_ltI, nm_eq, mn_eq, nm_lt, mn_lt, nm_le, mn_le, m_eq, bI_0, bI_1, if_pos, k7, r0, k13, n64, o64, s_6 hf, s5, s0]
  · have dI : SI O (tks F ρ) fr (D0 fr) (fun _ => false) 0 := by
      have d0 := DI_0 (t := tks F ρ) o
      refine ⟨d0, fun _ _ e => (by cases e), fun _ _ e => (by cases e), fun _ _ _ _ e => (by cases e), ?_, by decide⟩
      intro c hc q
      unfold D0 up at q ⊢
      by_cases e : c = fr
      · simp [e]
      · simp [e] at q
    obtain ⟨D2, s2, e2, j2⟩ := c_88r (lx := lx) (z := z) (E := E) (n := n) (J := J) (fr := fr) h hx hOS 64 0 (D0 fr) (fun _ => false) (by omega) dI
    refine ⟨D2, s2, ?_, fun _ => j2, fun e => (by cases e)⟩
    rw [o] at s5
    rw [f_88]
    have z0 : (0 : Int32) = nI 0 := rfl
    have hw : u2 (pl I (fun _ => 9999)) 103 fr (nI 0) = pl I (D0 fr) := pl_u hf (by omega)
    rw [z0, L, e_88_3]
    simp (disch := first | assumption | omega) [k_St, n_St, i_St, j_St, r_St, wI_St, wJ_St, k_S0, n_S0, i_S0, j_S0, r_S0, wI_S0, wJ_S0, cI_s, cJ_s, cV_s, nR_s, nQ_s, nQ_n, lt_s_, gd_T, gd_t, Option.map_some, lits, neg_mI, nI_add, pk_mul, nI_clamp, nI_eq, nI_leI, nI_ltI, nm_eq, mn_eq, nm_lt, mn_lt, nm_le, mn_le, m_eq, bI_0, bI_1, if_pos, k7, r0, k13, n64, o64, s_6 hf, s5, s0, hw]
    rw [← e2]
end WAY5
