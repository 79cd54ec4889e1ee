/-! least nights: reached by a walk, and closed under a step -/
def Wl (O : Nat → Bool) (t : Nat → Nat) (fr : Nat) : Nat → Nat → Nat → Prop
  | 0, c, d => c = fr ∧ d = 0
  | L + 1, c, d => ∃ c' w d', Wl O t fr L c' d' ∧ c' < 64 ∧ 1 ≤ w ∧ w ≤ 4 ∧ nxc c' w = c ∧ O c = true ∧ d = d' + t c
def DI (O : Nat → Bool) (t : Nat → Nat) (fr : Nat) (D : Nat → Nat) : Prop := D fr = 0 ∧ (∀ c, c < 64 → D c ≤ 9999) ∧ (∀ c, c < 64 → D c < 9999 → O c = true ∧ ∃ L, Wl O t fr L c (D c))
def Clo (O : Nat → Bool) (t : Nat → Nat) (D : Nat → Nat) (c w : Nat) : Prop := D c < 9999 → O (nxc c w) = true → D (nxc c w) ≤ D c + t (nxc c w)
def DF (O : Nat → Bool) (t : Nat → Nat) (fr : Nat) (D : Nat → Nat) : Prop := DI O t fr D ∧ ∀ c, c < 64 → ∀ w, 1 ≤ w → w ≤ 4 → Clo O t D c w
section WAY1
variable {O : Nat → Bool} {t : Nat → Nat} {fr : Nat} {D D' : Nat → Nat}
theorem DF_le (hO : ∀ c, O c = true → c < 64) (h : DF O t fr D) : ∀ L c d, Wl O t fr L c d → D c ≤ d
  | 0, c, d, w => by
    obtain ⟨e1, e2⟩ := w
    rw [e1, h.1.1]; omega
  | L + 1, c, d, w => by
    obtain ⟨c', v, d', w1, hc', v1, v2, e, o, ed⟩ := w
    have ih := DF_le hO h L c' d' w1
    have hc : c < 64 := hO c o
    by_cases q : D c' < 9999
    · have := h.2 c' hc' v v1 v2 q (by rw [e]; exact o)
      rw [e] at this
      omega
    · have := h.1.2.1 c hc
      omega
theorem DF_eq (hO : ∀ c, O c = true → c < 64) (h : DF O t fr D) (h' : DF O t fr D') {c : Nat} (hc : c < 64) : D c = D' c := by
  have a : D c ≤ D' c := by
    by_cases q : D' c < 9999
    · obtain ⟨_, L, w⟩ := h'.1.2.2 c hc q
      exact DF_le hO h L c _ w
    · have := h.1.2.1 c hc
      omega
  have b : D' c ≤ D c := by
    by_cases q : D c < 9999
    · obtain ⟨_, L, w⟩ := h.1.2.2 c hc q
      exact DF_le hO h' L c _ w
    · have := h'.1.2.1 c hc
      omega
  omega
theorem DI_up (h : DI O t fr D) {c w : Nat} (hc : c < 64) (q : D c < 9999) (w1 : 1 ≤ w) (w2 : w ≤ 4) (o : O (nxc c w) = true) (l : D c + t (nxc c w) < D (nxc c w)) (hn : nxc c w < 64) : DI O t fr (up D (nxc c w) (D c + t (nxc c w))) := by
  obtain ⟨h1, h2, h3⟩ := h
  refine ⟨?_, ?_, ?_⟩
  · have : fr ≠ nxc c w := by
      intro e; rw [← e, h1] at l; omega
    rw [up_n this]; exact h1
  · intro x hx
    by_cases e : x = nxc c w
    · rw [e, up_s]; have := h2 _ hn; omega
    · rw [up_n e]; exact h2 x hx
  · intro x hx qx
    by_cases e : x = nxc c w
    · rw [e, up_s]
      obtain ⟨_, L, wl⟩ := h3 c hc q
      exact ⟨o, L + 1, c, w, D c, wl, hc, w1, w2, rfl, o, rfl⟩
    · rw [up_n e] at qx ⊢; exact h3 x hx qx
def smD (D : Nat → Nat) : Nat → Nat
  | 0 => 0
  | n + 1 => smD D n + D n
theorem smD_o {i v : Nat} : ∀ {n : Nat}, n ≤ i → smD (up D i v) n = smD D n
  | 0, _ => rfl
  | n + 1, h => by rw [smD, smD, smD_o (by omega), up_n (by omega)]
theorem smD_up {i v : Nat} (hv : v < D i) : ∀ {n : Nat}, i < n → smD (up D i v) n < smD D n
  | 0, h => by omega
  | n + 1, h => by
    rw [smD, smD]
    by_cases e : i = n
    · subst e
      rw [up_s, smD_o (Nat.le_refl _)]; omega
    · have := smD_up hv (n := n) (by omega)
      rw [up_n (by omega)]; omega
def D0 (fr : Nat) : Nat → Nat := up (fun _ => 9999) fr 0
theorem DI_0 (o : O fr = true) : DI O t fr (D0 fr) := by
  refine ⟨up_s _ _ _, ?_, ?_⟩
  · intro c hc
    unfold D0 up; dsimp only; split <;> omega
  · intro c hc q
    unfold D0 up at q ⊢
    by_cases e : c = fr
    · subst e
      simp only [if_true]
      exact ⟨o, 0, rfl, rfl⟩
    · simp [e] at q
/-- the pairs that were looked at are closed -/
def PC (O : Nat → Bool) (t : Nat → Nat) (D : Nat → Nat) (c w : Nat) : Prop := ∀ c' w', c' < 64 → 1 ≤ w' → w' ≤ 4 → (c' < c ∨ (c' = c ∧ w' < w)) → Clo O t D c' w'
def QQ (O : Nat → Bool) (t : Nat → Nat) (fr : Nat) (A : Nat → Nat) (c w : Nat) (D : Nat → Nat) (b : Bool) : Prop := DI O t fr D ∧ (b = false → D = A ∧ PC O t A c w) ∧ (b = true → smD D 64 < smD A 64)
theorem QQ_keep {A : Nat → Nat} {c w : Nat} {b : Bool} (h : QQ O t fr A c w D b) (k : Clo O t D c w) : QQ O t fr A c (w + 1) D b := by
  obtain ⟨h1, h2, h3⟩ := h
  refine ⟨h1, fun e => ?_, h3⟩
  obtain ⟨e1, e2⟩ := h2 e
  refine ⟨e1, fun c' w' a1 a2 a3 a4 => ?_⟩
  by_cases q : c' < c ∨ (c' = c ∧ w' < w)
  · exact e2 c' w' a1 a2 a3 q
  · have : c' = c ∧ w' = w := by omega
    rw [this.1, this.2, ← e1]; exact k
theorem QQ_low {A : Nat → Nat} {c w : Nat} {b : Bool} (h : QQ O t fr A c w D b) (hc : c < 64) (q : D c < 9999) (w1 : 1 ≤ w) (w2 : w ≤ 4) (o : O (nxc c w) = true) (l : D c + t (nxc c w) < D (nxc c w)) (hn : nxc c w < 64) : QQ O t fr A c (w + 1) (up D (nxc c w) (D c + t (nxc c w))) true := by
  obtain ⟨h1, h2, h3⟩ := h
  refine ⟨DI_up h1 hc q w1 w2 o l hn, fun e => (by cases e), fun _ => ?_⟩
  have := smD_up (D := D) l hn
  cases b with
  | false => rw [(h2 rfl).1] at this ⊢; exact this
  | true => have := h3 rfl; omega
theorem QQ_next {A : Nat → Nat} {c w : Nat} {b : Bool} (h : QQ O t fr A c w D b) (k : 5 ≤ w ∨ 9999 ≤ D c) : QQ O t fr A (c + 1) 1 D b := by
  obtain ⟨h1, h2, h3⟩ := h
  refine ⟨h1, fun e => ?_, h3⟩
  obtain ⟨e1, e2⟩ := h2 e
  refine ⟨e1, fun c' w' a1 a2 a3 a4 => ?_⟩
  by_cases q : c' < c ∨ (c' = c ∧ w' < w)
  · exact e2 c' w' a1 a2 a3 q
  · have : c' = c := by omega
    subst this
    rcases k with k | k
    · omega
    · intro q2
      rw [← e1] at q2; omega
end WAY1
section WAY2
variable {z : Nat} {E : aEt} {n : Nat} {K N : Nat → Nat} {R : Nat → Nat → Option Nat} {I : Nat → Nat → Int32} {J : Nat → Nat → Int64} {lx : List Value → aH → aO} {f : Nat} {F : Nat → Nat → Nat} {ρ : Nat → Nat}
def opn (F : Nat → Nat → Nat) (ρ : Nat → Nat) (qt : Bool) (c : Nat) : Bool := isS F c && (!qt || !ovr F ρ c)
theorem opn_S {qt : Bool} {c : Nat} (h : opn F ρ qt c = true) : isS F c = true := by unfold opn at h; simp at h; exact h.1
theorem opn_l {qt : Bool} {c : Nat} (h : opn F ρ qt c = true) : c < 64 := isS_lt (opn_S h)
theorem d_260w (h : MD K N R I f F) (hρ : ROk F ρ) (hv : ∀ k, k < 145 → I 134 k = nI (ρ k)) {qt : Bool} {fr : Nat} {A : Nat → Nat} {c : Nat} (hc : c < 64) : ∀ m w D b, w + m = 5 → 1 ≤ w → QQ (opn F ρ qt) (tks F ρ) fr A c w D b → ∃ D' b', Am lx 260 49 [some (.ref (z + 132)), none, some (.int (bI qt)), some (.int (bI b)), some (.int (nI c)), some (.int (nI w)), none] [] (0, 0) (St z E n K N R (pr (pr I 138 64 D) 135 145 ρ) J) = Am lx 260 43 [some (.ref (z + 132)), none, some (.int (bI qt)), some (.int (bI b')), some (.int (nI (c + 1))), none, none] [] (0, 0) (St z E n K N R (pr (pr I 138 64 D') 135 145 ρ) J) ∧ QQ (opn F ρ qt) (tks F ρ) fr A (c + 1) 1 D' b' := by
  intro m
  have hO := h.2.2.2.2
  obtain ⟨km, _, _, _, _, _, r22, _, _, _, _, _, _, _, _, _, _, _, _, k138, _, _, _, _, _, _, _, _, _, _, _, _, n138, _⟩ := h.1
  have kf := h.2.1.2.1
  have rf := h.2.2.1
  have tz : nI 0 = bI false := rfl
  have mdp : ∀ D, MD K N R (pr (pr I 138 64 D) 135 145 ρ) f F := fun D => MD_p (MD_p h (by decide)) (by decide)
  have md8 : ∀ D, MD K N R (pr I 138 64 D) f F := fun D => MD_p h (by decide)
  have x138 : ∀ (D : Nat → Nat) k, k < 64 → pr (pr I 138 64 D) 135 145 ρ 138 k = nI (D k) := fun D k hk => by rw [pr_n (by decide), pr_s hk]
  induction m with
  | zero =>
    intro w D b hw w1 hq
    have : w = 5 := by omega
    subst this
    refine ⟨D, b, ?_, QQ_next hq (Or.inl (Nat.le_refl _))⟩
    rw [e_260_49]
    simp (disch := first | assumption | omega) [k_St, n_St, i_St, j_St, r_St, wI_St, wJ_St, k_S0, n_S0, i_S0, j_S0, r_S0, wI_S0, wJ_S0, cI_s, cJ_s, cV_s, nR_s, nQ_s, nQ_n, lt_s_, gd_T, gd_t, Option.map_some, lits, neg_mI, nI_add, pk_mul, nI_clamp, nI_eq, nI_leI, nI_ltI, nm_eq, mn_eq, nm_lt, mn_lt, nm_le, mn_le, m_eq, bI_0, bI_1, if_pos]
  | succ m ih =>
    intro w D b hw w1 hq
    by_cases q : D c < 9999
    · have w4 : w ≤ 4 := by omega
      have dc : opn F ρ qt c = true := (hq.1.2.2 c hc q).1
      have inc := isS_in (opn_S dc)
      have e177 := s_177 (lx := lx) (z := z) (E := E) (n := n) (J := J) (mdp D) hc inc (show w < 5 by omega) w1
      have e179 := s_179 (lx := lx) (z := z) (E := E) (n := n) (J := J) (mdp D) (nf F c w)
      rw [nf_S] at e179
      cases hs : isS F (nxc c w)
      · rw [hs] at e179
        have cl : Clo (opn F ρ qt) (tks F ρ) D c w := fun _ o => by rw [opn_S o] at hs; cases hs
        obtain ⟨D', b', e, hq'⟩ := ih (w + 1) D b (by omega) (by omega) (QQ_keep hq cl)
        refine ⟨D', b', ?_, hq'⟩
        rw [← e, e_260_49]
        simp (disch := first | assumption | omega) [k_St, n_St, i_St, j_St, r_St, wI_St, wJ_St, k_S0, n_S0, i_S0, j_S0, r_S0, wI_S0, wJ_S0, cI_s, cJ_s, cV_s, nR_s, nQ_s, nQ_n, lt_s_, gd_T, gd_t, Option.map_some, lits, neg_mI, nI_add, pk_mul, nI_clamp, nI_eq, nI_leI, nI_ltI, nm_eq, mn_eq, nm_lt, mn_lt, nm_le, mn_le, m_eq, bI_0, bI_1, if_neg, km, r22, k138, n138, x138, rf, kf, e177, e179]
      · rw [hs] at e179
        have nl := isS_lt hs
        rw [nf_e hs] at e177 e179
        rw [oI_lt nl] at e177 e179
        have e235 := s_235 (lx := lx) (z := z) (E := E) (n := n) (J := J) (md8 D) (ROk_a hρ) nl
        have e259 := s_259 (lx := lx) (z := z) (E := E) (n := n) (J := J) (ρ := ρ) (mdp D) (ROk_a hρ) (fun k hk => by rw [pr_n (by decide), pr_n (by decide)]; exact hv k hk) nl
        have tl := tks_le hO (ROk_a hρ) hs
        have dn := hq.1.2.1 _ nl
        by_cases lo : D c + tks F ρ (nxc c w) < D (nxc c w)
        · cases oq : opn F ρ qt (nxc c w)
          · have cl : Clo (opn F ρ qt) (tks F ρ) D c w := fun _ o => by rw [o] at oq; cases oq
            obtain ⟨D', b', e, hq'⟩ := ih (w + 1) D b (by omega) (by omega) (QQ_keep hq cl)
            refine ⟨D', b', ?_, hq'⟩
            have : qt = true ∧ ovr F ρ (nxc c w) = true := by
              unfold opn at oq; rw [hs] at oq; simpa using oq
            rw [this.2] at e259
            obtain ⟨q1, _⟩ := this
            subst q1
            rw [← e, e_260_49]
            simp (disch := first | assumption | omega) [k_St, n_St, i_St, j_St, r_St, wI_St, wJ_St, k_S0, n_S0, i_S0, j_S0, r_S0, wI_S0, wJ_S0, cI_s, cJ_s, cV_s, nR_s, nQ_s, nQ_n, lt_s_, gd_T, gd_t, Option.map_some, lits, neg_mI, nI_add, pk_mul, nI_clamp, nI_eq, nI_leI, nI_ltI, nm_eq, mn_eq, nm_lt, mn_lt, nm_le, mn_le, m_eq, bI_0, bI_1, if_neg, if_pos, km, r22, k138, n138, x138, rf, kf, e177, e179, e235, e259]
          · obtain ⟨D', b', e, hq'⟩ := ih (w + 1) (up D (nxc c w) (D c + tks F ρ (nxc c w))) true (by omega) (by omega) (QQ_low hq hc q w1 w4 oq lo nl)
            refine ⟨D', b', ?_, hq'⟩
            have hw : u2 (pr (pr I 138 64 D) 135 145 ρ) 138 (nxc c w) (nI (D c + tks F ρ (nxc c w))) = pr (pr I 138 64 (up D (nxc c w) (D c + tks F ρ (nxc c w)))) 135 145 ρ := by rw [pr_x (by decide), pr_u nl]
            have b1 : bI true = nI 1 := rfl
            rw [b1] at e
            rw [← e, e_260_49]
            cases qt
            · simp (disch := first | assumption | omega) [k_St, n_St, i_St, j_St, r_St, wI_St, wJ_St, k_S0, n_S0, i_S0, j_S0, r_S0, wI_S0, wJ_S0, cI_s, cJ_s, cV_s, nR_s, nQ_s, nQ_n, lt_s_, gd_T, gd_t, Option.map_some, lits, neg_mI, nI_add, pk_mul, nI_clamp, nI_eq, nI_leI, nI_ltI, nm_eq, mn_eq, nm_lt, mn_lt, nm_le, mn_le, m_eq, bI_0, bI_1, if_neg, if_pos, km, r22, k138, n138, x138, rf, kf, e177, e179, e235, e_260_90, hw]
            · have : ovr F ρ (nxc c w) = false := by
                unfold opn at oq; rw [hs] at oq; simpa using oq
              rw [this] at e259
              simp (disch := first | assumption | omega) [k_St, n_St, i_St, j_St, r_St, wI_St, wJ_St, k_S0, n_S0, i_S0, j_S0, r_S0, wI_S0, wJ_S0, cI_s, cJ_s, cV_s, nR_s, nQ_s, nQ_n, lt_s_, gd_T, gd_t, Option.map_some, lits, neg_mI, nI_add, pk_mul, nI_clamp, nI_eq, nI_leI, nI_ltI, nm_eq, mn_eq, nm_lt, mn_lt, nm_le, mn_le, m_eq, bI_0, bI_1, if_neg, if_pos, km, r22, k138, n138, x138, rf, kf, e177, e179, e235, e259, e_260_90, hw]
        · have cl : Clo (opn F ρ qt) (tks F ρ) D c w := fun _ _ => by omega
          obtain ⟨D', b', e, hq'⟩ := ih (w + 1) D b (by omega) (by omega) (QQ_keep hq cl)
          refine ⟨D', b', ?_, hq'⟩
          rw [← e, e_260_49]
          simp (disch := first | assumption | omega) [k_St, n_St, i_St, j_St, r_St, wI_St, wJ_St, k_S0, n_S0, i_S0, j_S0, r_S0, wI_S0, wJ_S0, cI_s, cJ_s, cV_s, nR_s, nQ_s, nQ_n, lt_s_, gd_T, gd_t, Option.map_some, lits, neg_mI, nI_add, pk_mul, nI_clamp, nI_eq, nI_leI, nI_ltI, nm_eq, mn_eq, nm_lt, mn_lt, nm_le, mn_le, m_eq, bI_0, bI_1, if_neg, if_pos, km, r22, k138, n138, x138, rf, kf, e177, e179, e235]
    · refine ⟨D, b, ?_, QQ_next hq (Or.inr (by omega))⟩
      have dn := hq.1.2.1 c hc
      rw [e_260_49]
      simp (disch := first | assumption | omega) [k_St, n_St, i_St, j_St, r_St, wI_St, wJ_St, k_S0, n_S0, i_S0, j_S0, r_S0, wI_S0, wJ_S0, cI_s, cJ_s, cV_s, nR_s, nQ_s, nQ_n, lt_s_, gd_T, gd_t, Option.map_some, lits, neg_mI, nI_add, pk_mul, nI_clamp, nI_eq, nI_leI, nI_ltI, nm_eq, mn_eq, nm_lt, mn_lt, nm_le, mn_le, m_eq, bI_0, bI_1, if_neg, if_pos, km, r22, k138, n138, x138]
theorem d_260c (h : MD K N R I f F) (hρ : ROk F ρ) (hv : ∀ k, k < 145 → I 134 k = nI (ρ k)) {qt : Bool} {fr : Nat} {A : Nat → Nat} : ∀ m c D b, c + m = 64 → QQ (opn F ρ qt) (tks F ρ) fr A c 1 D b → ∃ D' b', Am lx 260 43 [some (.ref (z + 132)), none, some (.int (bI qt)), some (.int (bI b)), some (.int (nI c)), none, none] [] (0, 0) (St z E n K N R (pr (pr I 138 64 D) 135 145 ρ) J) = Am lx 260 36 [some (.ref (z + 132)), none, some (.int (bI qt)), some (.int (bI b')), none, none, none] [] (0, 0) (St z E n K N R (pr (pr I 138 64 D') 135 145 ρ) J) ∧ QQ (opn F ρ qt) (tks F ρ) fr A 64 1 D' b' := by
  intro m
  induction m with
  | zero =>
    intro c D b hc hq
    have : c = 64 := by omega
    subst this
    refine ⟨D, b, ?_, hq⟩
    rw [e_260_43]
    simp (disch := first | assumption | omega) [k_St, n_St, i_St, j_St, r_St, wI_St, wJ_St, k_S0, n_S0, i_S0, j_S0, r_S0, wI_S0, wJ_S0, cI_s, cJ_s, cV_s, nR_s, nQ_s, nQ_n, lt_s_, gd_T, gd_t, Option.map_some, lits, neg_mI, nI_add, pk_mul, nI_clamp, nI_eq, nI_leI, nI_ltI, nm_eq, mn_eq, nm_lt, mn_lt, nm_le, mn_le, m_eq, bI_0, bI_1, if_pos]
  | succ m ih =>
    intro c D b hc hq
    obtain ⟨D1, b1, e1, q1⟩ := d_260w (lx := lx) (z := z) (E := E) (n := n) (J := J) h hρ hv (c := c) (by omega) 4 1 D b (by omega) (by omega) hq
    obtain ⟨D2, b2, e2, q2⟩ := ih (c + 1) D1 b1 (by omega) q1
    refine ⟨D2, b2, ?_, q2⟩
    rw [← e2, ← e1, e_260_43]
    simp (disch := first | assumption | omega) [k_St, n_St, i_St, j_St, r_St, wI_St, wJ_St, k_S0, n_S0, i_S0, j_S0, r_S0, wI_S0, wJ_S0, cI_s, cJ_s, cV_s, nR_s, nQ_s, nQ_n, lt_s_, gd_T, gd_t, Option.map_some, lits, neg_mI, nI_add, pk_mul, nI_clamp, nI_eq, nI_leI, nI_ltI, nm_eq, mn_eq, nm_lt, mn_lt, nm_le, mn_le, m_eq, bI_0, bI_1, if_neg]
theorem d_260l (h : MD K N R I f F) (hρ : ROk F ρ) (hv : ∀ k, k < 145 → I 134 k = nI (ρ k)) {qt : Bool} {fr : Nat} : ∀ m D, smD D 64 ≤ m → DI (opn F ρ qt) (tks F ρ) fr D → ∃ D', Am lx 260 36 [some (.ref (z + 132)), none, some (.int (bI qt)), some (.int (bI true)), none, none, none] [] (0, 0) (St z E n K N R (pr (pr I 138 64 D) 135 145 ρ) J) = some (none, St z E n K N R (pr (pr I 138 64 D') 135 145 ρ) J) ∧ DF (opn F ρ qt) (tks F ρ) fr D' := by
  intro m
  induction m using Nat.strongRecOn with
  | _ m ih =>
    intro D hm hD
    obtain ⟨D1, b1, e1, q1⟩ := d_260c (lx := lx) (z := z) (E := E) (n := n) (J := J) h hρ hv (qt := qt) (fr := fr) (A := D) 64 0 D false (by omega) ⟨hD, fun _ => ⟨rfl, fun c' w' _ _ _ a => by omega⟩, fun e => by cases e⟩
    have st : Am lx 260 36 [some (.ref (z + 132)), none, some (.int (bI qt)), some (.int (bI true)), none, none, none] [] (0, 0) (St z E n K N R (pr (pr I 138 64 D) 135 145 ρ) J) = Am lx 260 36 [some (.ref (z + 132)), none, some (.int (bI qt)), some (.int (bI b1)), none, none, none] [] (0, 0) (St z E n K N R (pr (pr I 138 64 D1) 135 145 ρ) J) := by
      rw [← e1, e_260_36]
      simp (disch := first | assumption | omega) [k_St, n_St, i_St, j_St, r_St, wI_St, wJ_St, k_S0, n_S0, i_S0, j_S0, r_S0, wI_S0, wJ_S0, cI_s, cJ_s, cV_s, nR_s, nQ_s, nQ_n, lt_s_, gd_T, gd_t, Option.map_some, lits, neg_mI, nI_add, pk_mul, nI_clamp, nI_eq, nI_leI, nI_ltI, nm_eq, mn_eq, nm_lt, mn_lt, nm_le, mn_le, m_eq, bI_0, bI_1]
      rfl
    cases b1 with
    | false =>
      obtain ⟨ed, pc⟩ := q1.2.1 rfl
      refine ⟨D1, ?_, q1.1, ?_⟩
      · rw [st, e_260_36]
        simp (disch := first | assumption | omega) [k_St, n_St, i_St, j_St, r_St, wI_St, wJ_St, k_S0, n_S0, i_S0, j_S0, r_S0, wI_S0, wJ_S0, cI_s, cJ_s, cV_s, nR_s, nQ_s, nQ_n, lt_s_, gd_T, gd_t, Option.map_some, lits, neg_mI, nI_add, pk_mul, nI_clamp, nI_eq, nI_leI, nI_ltI, nm_eq, mn_eq, nm_lt, mn_lt, nm_le, mn_le, m_eq, bI_0, bI_1]
      · intro c hc w w1 w2
        rw [ed]
        exact pc c w hc w1 w2 (Or.inl hc)
    | true =>
      have lt := q1.2.2 rfl
      obtain ⟨D2, e2, q2⟩ := ih (smD D1 64) (by omega) D1 (Nat.le_refl _) q1.1
      exact ⟨D2, by rw [st, e2], q2⟩
theorem d_260 (h : MD K N R I f F) (hρ : ROk F ρ) (hv : ∀ k, k < 145 → I 134 k = nI (ρ k)) (qt : Bool) {fr : Nat} (hf : fr < 64) (hi : inF F fr = true) : ∃ D, Ca lx 260 [.ref (z + 132), .int (nI fr), .int (bI qt)] (St z E n K N R I J) = some (none, St z E n K N R (pr (pr I 138 64 D) 135 145 ρ) J) ∧ (opn F ρ qt fr = true → DF (opn F ρ qt) (tks F ρ) fr D) ∧ (opn F ρ qt fr = false → ∀ c, D c = 9999) := by
  obtain ⟨km, _, _, _, _, _, r22, _, _, _, _, _, _, _, _, _, _, _, _, k138, _, _, _, _, _, _, _, _, _, _, _, _, n138, _⟩ := h.1
  have kf := h.2.1.2.1
  have rf := h.2.2.1
  have e231 := s_231 (lx := lx) (z := z) (E := E) (n := n) (J := J) h hv
  have L := loopN (X := fun i => Am lx 260 5 [some (.ref (z + 132)), some (.int (nI fr)), some (.int (bI qt)), some (.int (nI i)), none, none, none] [] (0, 0) (St z E n K N R (pr (fun b k => if b = 138 ∧ k < i then nI 9999 else I b k) 135 145 ρ) J)) (n := 64) (by
    intro i hi
    try simp only
    rw [e_260_5]
    have e : u2 (fun b k => if b = 138 ∧ k < i then nI 9999 else I b k) 138 i (nI 9999) = fun b k => if b = 138 ∧ k < i + 1 then nI 9999 else I b k := by
      funext b k
      unfold u2
      by_cases hb : b = 138
      · by_cases hk : k = i
        · simp [hb, hk]
        · have : k < i + 1 ↔ k < i := by omega
          simp [hb, hk, this]
      · simp [hb]
    simp (disch := first | assumption | omega) [k_St, n_St, i_St, j_St, r_St, wI_St, wJ_St, k_S0, n_S0, i_S0, j_S0, r_S0, wI_S0, wJ_S0, cI_s, cJ_s, cV_s, nR_s, nQ_s, nQ_n, lt_s_, gd_T, gd_t, Option.map_some, lits, neg_mI, nI_add, pk_mul, nI_clamp, nI_eq, nI_leI, nI_ltI, nm_eq, mn_eq, nm_lt, mn_lt, nm_le, mn_le, m_eq, bI_0, bI_1, if_neg, km, r22, k138, n138, pr_x, e])
  try simp only at L
  have e0 : (fun b k => if b = 138 ∧ k < 0 then nI 9999 else I b k) = I := by funext b k; simp
  have e64 : (fun b k => if b = 138 ∧ k < 64 then nI 9999 else I b k) = pr I 138 64 (fun _ => 9999) := rfl
  rw [e0, e64] at L
  have mdp : ∀ D, MD K N R (pr (pr I 138 64 D) 135 145 ρ) f F := fun D => MD_p (MD_p h (by decide)) (by decide)
  have e178 := s_178 (lx := lx) (z := z) (E := E) (n := n) (J := J) (mdp (fun _ => 9999)) hf
  have e259 := s_259 (lx := lx) (z := z) (E := E) (n := n) (J := J) (ρ := ρ) (mdp (fun _ => 9999)) (ROk_a hρ) (fun k hk => by rw [pr_n (by decide), pr_n (by decide)]; exact hv k hk) hf
  have sis : isS F fr = !decide (F 1 fr = 3) := by simp [isS, hf, hi]
  have bt' : bI true = nI 1 := rfl
  cases oq : opn F ρ qt fr
  · refine ⟨fun _ => 9999, ?_, fun e => (by cases e), fun _ _ => rfl⟩
    rw [f_260]
    simp (disch := first | assumption | omega) [k_St, n_St, i_St, j_St, r_St, wI_St, wJ_St, k_S0, n_S0, i_S0, j_S0, r_S0, wI_S0, wJ_S0, cI_s, cJ_s, cV_s, nR_s, nQ_s, nQ_n, lt_s_, gd_T, gd_t, Option.map_some, lits, neg_mI, nI_add, pk_mul, nI_clamp, nI_eq, nI_leI, nI_ltI, nm_eq, mn_eq, nm_lt, mn_lt, nm_le, mn_le, m_eq, bI_0, bI_1, km, e231, L]
    rw [e_260_5]
    by_cases c3 : F 1 fr = 3
    · simp only [c3, decide_true] at e178
      simp (disch := first | assumption | omega) [k_St, n_St, i_St, j_St, r_St, wI_St, wJ_St, k_S0, n_S0, i_S0, j_S0, r_S0, wI_S0, wJ_S0, cI_s, cJ_s, cV_s, nR_s, nQ_s, nQ_n, lt_s_, gd_T, gd_t, Option.map_some, lits, neg_mI, nI_add, pk_mul, nI_clamp, nI_eq, nI_leI, nI_ltI, nm_eq, mn_eq, nm_lt, mn_lt, nm_le, mn_le, m_eq, bI_0, bI_1, if_pos, km, rf, kf, e178]
    · have : qt = true ∧ ovr F ρ fr = true := by
        unfold opn at oq; rw [sis] at oq; simpa [c3] using oq
      simp only [c3, decide_false] at e178
      rw [this.2] at e259
      obtain ⟨q1, _⟩ := this
      subst q1
      simp (disch := first | assumption | omega) [k_St, n_St, i_St, j_St, r_St, wI_St, wJ_St, k_S0, n_S0, i_S0, j_S0, r_S0, wI_S0, wJ_S0, cI_s, cJ_s, cV_s, nR_s, nQ_s, nQ_n, lt_s_, gd_T, gd_t, Option.map_some, lits, neg_mI, nI_add, pk_mul, nI_clamp, nI_eq, nI_leI, nI_ltI, nm_eq, mn_eq, nm_lt, mn_lt, nm_le, mn_le, m_eq, bI_0, bI_1, if_pos, km, rf, kf, e178, e259]
  · obtain ⟨D', e2, q2⟩ := d_260l (lx := lx) (z := z) (E := E) (n := n) (J := J) h hρ hv (qt := qt) (fr := fr) _ (D0 fr) (Nat.le_refl _) (DI_0 oq)
    refine ⟨D', ?_, fun _ => q2, fun e => by cases e⟩
    have c3 : ¬ F 1 fr = 3 := by
      have := opn_S oq; rw [sis] at this; simpa using this
    simp only [c3, decide_false] at e178
    have hw : u2 (pr (pr I 138 64 (fun _ => 9999)) 135 145 ρ) 138 fr (nI 0) = pr (pr I 138 64 (D0 fr)) 135 145 ρ := by rw [pr_x (by decide), pr_u hf]; rfl
    rw [bt'] at e2
    rw [f_260]
    simp (disch := first | assumption | omega) [k_St, n_St, i_St, j_St, r_St, wI_St, wJ_St, k_S0, n_S0, i_S0, j_S0, r_S0, wI_S0, wJ_S0, cI_s, cJ_s, cV_s, nR_s, nQ_s, nQ_n, lt_s_, gd_T, gd_t, Option.map_some, lits, neg_mI, nI_add, pk_mul, nI_clamp, nI_eq, nI_leI, nI_ltI, nm_eq, mn_eq, nm_lt, mn_lt, nm_le, mn_le, m_eq, bI_0, bI_1, km, e231, L]
    rw [e_260_5]
    cases qt
    · simp (disch := first | assumption | omega) [k_St, n_St, i_St, j_St, r_St, wI_St, wJ_St, k_S0, n_S0, i_S0, j_S0, r_S0, wI_S0, wJ_S0, cI_s, cJ_s, cV_s, nR_s, nQ_s, nQ_n, lt_s_, gd_T, gd_t, Option.map_some, lits, neg_mI, nI_add, pk_mul, nI_clamp, nI_eq, nI_leI, nI_ltI, nm_eq, mn_eq, nm_lt, mn_lt, nm_le, mn_le, m_eq, bI_0, bI_1, if_pos, km, rf, kf, e178, e_260_28, r22, k138, n138, hw, e2]
    · have : ovr F ρ fr = false := by
        unfold opn at oq; simp at oq; exact oq.2
      rw [this] at e259
      simp (disch := first | assumption | omega) [k_St, n_St, i_St, j_St, r_St, wI_St, wJ_St, k_S0, n_S0, i_S0, j_S0, r_S0, wI_S0, wJ_S0, cI_s, cJ_s, cV_s, nR_s, nQ_s, nQ_n, lt_s_, gd_T, gd_t, Option.map_some, lits, neg_mI, nI_add, pk_mul, nI_clamp, nI_eq, nI_leI, nI_ltI, nm_eq, mn_eq, nm_lt, mn_lt, nm_le, mn_le, m_eq, bI_0, bI_1, if_pos, km, rf, kf, e178, e259, e_260_28, r22, k138, n138, hw, e2]
end WAY2
