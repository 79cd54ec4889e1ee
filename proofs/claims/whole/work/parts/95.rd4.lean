theorem rn_c {P Q : Nat → Bool} : ∀ n q, (∀ i, q ≤ i → i < q + n → P i = Q i) → rn P q n = rn Q q n
  | 0, _, _ => rfl
  | n + 1, q, h => by
    rw [rn, rn, h q (Nat.le_refl _) (by omega), rn_c n (q + 1) (fun i h1 h2 => h i (by omega) (by omega))]
theorem fdi_c {P Q : Nat → Bool} {n : Nat} (h : ∀ i, i < n → P i = Q i) : fdi P n = fdi Q n := rn_c n 0 (fun i _ h2 => by rw [h i (by omega)])
theorem rn_s (P : Nat → Bool) : ∀ n q, rn P q n < n → P (q + rn P q n) = false
  | 0, _, h => by simp [rn] at h
  | n + 1, q, h => by
    rw [rn] at h ⊢
    cases hp : P q
    · simpa using hp
    · rw [hp] at h
      simp only [if_true] at h ⊢
      have := rn_s P n (q + 1) (by omega)
      rw [show q + (rn P (q + 1) n + 1) = q + 1 + rn P (q + 1) n by omega]; exact this
theorem fdi_p {P : Nat → Bool} {n : Nat} (h : fdi P n < n) : P (fdi P n) = true := by
  have := rn_s (fun i => !P i) n 0 h
  rw [Nat.zero_add] at this
  show P (rn (fun i => !P i) 0 n) = true
  simpa using this
theorem fdi_m {P : Nat → Bool} {n i : Nat} (h : i < fdi P n) : P i = false := by
  have := rn_t (fun i => !P i) n 0 i h
  rw [Nat.zero_add] at this
  simpa using this
theorem fdi_t {P : Nat → Bool} {n : Nat} : fdi P n < n ↔ anyB P n = true := by
  rw [anyB_t]
  constructor
  · intro h; exact ⟨_, h, fdi_p h⟩
  · intro ⟨i, hi, h⟩
    by_cases c : fdi P n < n
    · exact c
    · have := fdi_m (P := P) (n := n) (i := i) (by omega)
      rw [h] at this; exact absurd this (by decide)
theorem w8_63 {T : Nat → Nat} {m s : Nat} (h : tK T m s = 1) : w8 T m s < 2 ^ 63 := by
  have := tK_c h (Or.inl rfl)
  exact p8_63 (this.2.2.2.1 rfl) (fun i hi => (kc_1 (this.2.2.2.2.2 i hi)).2)
theorem wv_lt {T : Nat → Nat} {m s : Nat} (h : tK T m s = 2) : wv T m s < 1000 := by
  have := tK_c h (Or.inr rfl)
  have a := vv_lt (T := T) (s := s) (tLn T m s) (fun i hi => (kc_2 (this.2.2.2.2.2 i hi)).2)
  have b : 10 ^ tLn T m s ≤ 10 ^ 3 := Nat.pow_le_pow_right (by decide) (this.2.2.2.2.1 rfl)
  have : (10 : Nat) ^ 3 = 1000 := by decide
  show vv T s (tLn T m s) < 1000
  omega
section RD4
variable {z : Nat} {E : aEt} {n : Nat} {K N : Nat → Nat} {R : Nat → Nat → Option Nat} {I : Nat → Nat → Int32} {J : Nat → Nat → Int64} {lx : List Value → aH → aO} {p s q m e : Nat} {T : Nat → Nat} {F G : Nat → Nat → Nat} {w r : Bool} {x : Exc Nat}
theorem b_26 (hP : Pl K N R p) : Ca lx 26 [.ref (z + p), .int (nI 0)] (St z E n K N R I J) = some (some (.int (bI (hb (J p 10) 0))), (St z E n K N R I J)) := by
  rw [f_26]
  obtain ⟨p0, pr1, pr2, pr3, pr4, pr5, pr6, pr7, pr8, pk1, pk2, pk3, pk4, pk5, pk6, pk7, pk8, pn1, pn2, pn3, pn4, pn5, pn6, pn7, pn8⟩ := hP
  simp only [s_6 (show 0 < 64 by decide), cI_s, j_St, s_5 _ (show 0 < 64 by decide), k_St, p0]
  cases hb (J p 10) 0 <;> simp [lits, bI_0, bI_1, gd_T] <;> rfl
theorem CBd_6 (h : CBd I p T m e q) (hp : 114 ≤ p) (v : Int32) : CBd (u2 I 1 6 v) p T m e q := by
  obtain ⟨h1, h2, h3, h4, h5, ⟨s, t2, t3, t4, t5, ts⟩, a4, a5, a7, a8, a9, n4, n5, n7, n8, n9, m4, m5, m7, m8, m9⟩ := h
  refine ⟨h1, h2, ?_, ?_, ?_, ⟨s, ?_, ?_, ?_, ?_, ts⟩, a4, a5, a7, a8, a9, n4, n5, n7, n8, n9, ?_, ?_, ?_, ?_, ?_⟩ <;> simp (disch := first | assumption | omega) [u2_s, u2_a, u2_k] <;> assumption
theorem b_46 (hR : Rd K N R p) (h : CBd I p T m e q) : Am lx 46 9 [some (.ref (z + 1))] [] (0, 0) (St z E n K N R I J) = some (none, St z E n K N R (u2 I 1 6 (nI 1)) J) := by
  obtain ⟨d0, d1, d2, d3, d4, d5, d6, d7, d8, d9, d10, d11, d12, hP, hp⟩ := hR
  obtain ⟨h1, h2, h3, _⟩ := h
  rw [e_46_9]
  simp (disch := first | assumption | omega) [k_St, n_St, i_St, j_St, r_St, wI_St, wJ_St, k_S0, n_S0, i_S0, j_S0, r_S0, wI_S0, wJ_S0, cI_s, cJ_s, cV_s, nR_s, nQ_s, nQ_n, lt_s_, gd_T, gd_t, Option.map_some, lits, neg_mI, nI_add, pk_mul, nI_clamp, nI_eq, nI_leI, nI_ltI, nm_eq, mn_eq, nm_lt, mn_lt, nm_le, mn_le, m_eq, bI_0, bI_1, d0, u2_s, u2_a, u2_k, h3, if_neg]
theorem c_46 (hR : Rd K N R p) (hB : CB I T m) (hn : FCn F) (h : CS I J p T m F w r G x) : ∃ I', Ca lx 46 [.ref (z + 1)] (St z E n K N R I J) = some (none, St z E n K N R I' J) ∧ CS I' J p T m F w true G (x.bind (pLB T m F)) ∧ FRs I I' := by
  have hR' := hR
  obtain ⟨d0, d1, d2, d3, d4, d5, d6, d7, d8, d9, d10, d11, d12, hP, hp⟩ := hR
  have kp := hP.1
  have n5 := hn.2.1
  cases x with
  | error v =>
    have h' : CBd I p T m v.1 v.2 := h
    have hb := b_46 (lx := lx) (z := z) (E := E) (n := n) (J := J) hR' h'
    have e1 := b_58 (lx := lx) (z := z) (E := E) (n := n) (J := J) hR' h'
    refine ⟨u2 I 1 6 (nI 1), ?_, CBd_6 h' hp _, fun a a1 a2 => by simp (disch := first | assumption | omega) [u2_s, u2_a, u2_k]⟩
    obtain ⟨_, _, _, _, _, _, a4, a5, a7, a8, a9, n4, n5', n7, n8, n9, m4, m5, m7, m8, m9⟩ := h'
    rw [f_46]
    by_cases c : 2 ≤ a5
    · simp (disch := first | assumption | omega) [k_St, n_St, i_St, j_St, r_St, wI_St, wJ_St, k_S0, n_S0, i_S0, j_S0, r_S0, wI_S0, wJ_S0, cI_s, cJ_s, cV_s, nR_s, nQ_s, nQ_n, lt_s_, gd_T, gd_t, Option.map_some, lits, neg_mI, nI_add, pk_mul, nI_clamp, nI_eq, nI_leI, nI_ltI, nm_eq, mn_eq, nm_lt, mn_lt, nm_le, mn_le, m_eq, bI_0, bI_1, d0, d12, kp, m5, if_pos, hb]
    · simp (disch := first | assumption | omega) [k_St, n_St, i_St, j_St, r_St, wI_St, wJ_St, k_S0, n_S0, i_S0, j_S0, r_S0, wI_S0, wJ_S0, cI_s, cJ_s, cV_s, nR_s, nQ_s, nQ_n, lt_s_, gd_T, gd_t, Option.map_some, lits, neg_mI, nI_add, pk_mul, nI_clamp, nI_eq, nI_leI, nI_ltI, nm_eq, mn_eq, nm_lt, mn_lt, nm_le, mn_le, m_eq, bI_0, bI_1, d0, d12, kp, m5, if_neg, e1, hb]
  | ok s =>
    have h' : COk I J p T m F w r G s := h
    obtain ⟨h1, h2, h3, h4, h5, ⟨t2, t3, t4, t5, ts⟩, ⟨q0, q1⟩, h8, h9⟩ := h'
    rw [eb_o]
    unfold pLB
    by_cases c : F 0 5 < 2
    · obtain ⟨I1, e1, e2, e3⟩ := kk_58 (lx := lx) (z := z) (E := E) (n := n) (e := 6) hR' h hn (by decide) (by decide)
      have hb := b_46 (lx := lx) (z := z) (E := E) (n := n) (J := J) hR' e2
      rw [if_pos c]
      refine ⟨u2 I1 1 6 (nI 1), ?_, CBd_6 e2 hp _, fun a a1 a2 => ?_⟩
      · rw [f_46]
        simp (disch := first | assumption | omega) [k_St, n_St, i_St, j_St, r_St, wI_St, wJ_St, k_S0, n_S0, i_S0, j_S0, r_S0, wI_S0, wJ_S0, cI_s, cJ_s, cV_s, nR_s, nQ_s, nQ_n, lt_s_, gd_T, gd_t, Option.map_some, lits, neg_mI, nI_add, pk_mul, nI_clamp, nI_eq, nI_leI, nI_ltI, nm_eq, mn_eq, nm_lt, mn_lt, nm_le, mn_le, m_eq, bI_0, bI_1, d0, d12, kp, q0, if_neg, e1, hb]
      · rw [u2_a _ _ _ _ _ a1]; exact e3 a a1 a2
    · have hok : COk (u2 I 1 6 (nI 1)) J p T m F w true G s := by
        refine ⟨?_, ?_, ?_, ?_, ?_, ⟨?_, ?_, ?_, ?_, ts⟩, PI_c ⟨q0, q1⟩ (fun b b1 b2 => u2_a _ _ _ _ _ (by omega)) rfl, h8, h9⟩ <;> simp (disch := first | assumption | omega) [u2_s, u2_a, u2_k] <;> first | assumption | rfl
      have hB' : CB (u2 I 1 6 (nI 1)) T m := CB_f hB (fun a a1 a2 => u2_a _ _ _ _ _ a1)
      obtain ⟨I1, e1, e2, e3⟩ := kk_80 (lx := lx) (z := z) (E := E) (n := n) hR' hB' hok
      rw [if_neg c]
      refine ⟨I1, ?_, e2, fun a a1 a2 => ?_⟩
      · rw [f_46]
        simp (disch := first | assumption | omega) [k_St, n_St, i_St, j_St, r_St, wI_St, wJ_St, k_S0, n_S0, i_S0, j_S0, r_S0, wI_S0, wJ_S0, cI_s, cJ_s, cV_s, nR_s, nQ_s, nQ_n, lt_s_, gd_T, gd_t, Option.map_some, lits, neg_mI, nI_add, pk_mul, nI_clamp, nI_eq, nI_leI, nI_ltI, nm_eq, mn_eq, nm_lt, mn_lt, nm_le, mn_le, m_eq, bI_0, bI_1, d0, d12, kp, q0, if_pos]
        rw [e_46_9]
        simp (disch := first | assumption | omega) [k_St, n_St, i_St, j_St, r_St, wI_St, wJ_St, k_S0, n_S0, i_S0, j_S0, r_S0, wI_S0, wJ_S0, cI_s, cJ_s, cV_s, nR_s, nQ_s, nQ_n, lt_s_, gd_T, gd_t, Option.map_some, lits, neg_mI, nI_add, pk_mul, nI_clamp, nI_eq, nI_leI, nI_ltI, nm_eq, mn_eq, nm_lt, mn_lt, nm_le, mn_le, m_eq, bI_0, bI_1, d0, d1, d8, u2_s, u2_a, u2_k, h1, e1]
      · rw [e3 a a1 a2, u2_a _ _ _ _ _ a1]
theorem c_49 {L H : Int32} {lo hi : Nat} (hR : Rd K N R p) (hB : CB I T m) (hn : FCn F) (h : CS I J p T m F w r G x) (hL : ∀ s, x = .ok s → L = nI lo ∧ H = nI hi) (hlo : lo < 2 ^ 31) (hhi : hi < 2 ^ 31) : ∃ v I', Ca lx 49 [.ref (z + 1), .int L, .int H] (St z E n K N R I J) = some (some (.int v), St z E n K N R I' J) ∧ CS I' J p T m F w r G ((x.bind (pWh T m lo hi)).map Prod.snd) ∧ FRs I I' ∧ (∀ a, x.bind (pWh T m lo hi) = .ok a → v = nI a.1) ∧ (∀ a, x.bind (pWh T m lo hi) = .error a → v = nI 0) := by
  have hR' := hR
  obtain ⟨d0, d1, d2, d3, d4, d5, d6, d7, d8, d9, d10, d11, d12, hP, hp⟩ := hR
  have hb := hB.1
  cases x with
  | error v =>
    have e0 := b_49 (lx := lx) (z := z) (E := E) (n := n) (J := J) hR' hB h L H
    exact ⟨nI 0, I, e0, h, FRs_r, fun a e => absurd e (by rw [eb_e]; simp), fun _ _ => rfl⟩
  | ok s =>
    obtain ⟨l1, l2⟩ := hL s rfl
    rw [l1, l2]
    have h' : COk I J p T m F w r G s := h
    obtain ⟨h1, h2, h3, h4, h5, ⟨t2, t3, t4, t5, ts⟩, ⟨q0, q1⟩, h8, h9⟩ := h'
    have lk := tK_le T m s
    rw [eb_o]
    unfold pWh
    by_cases c : tK T m s = 2
    · rw [if_pos c]
      have e83 := c_83 (lx := lx) (z := z) (E := E) (n := n) (J := J) hR' hB h.2.2.2.2.2.1
      have tc := tK_c c (Or.inr rfl)
      rw [Nat.min_eq_left (tc.2.2.2.2.1 rfl), vI_v _ (fun i hi => (kc_2 (tc.2.2.2.2.2 i hi)).1)] at e83
      change _ = some (some (Value.int (nI (wv T m s))), _) at e83
      have v3 := wv_lt c
      by_cases c2 : lo ≤ wv T m s ∧ wv T m s ≤ hi
      · rw [if_pos c2]
        obtain ⟨I1, e1, e2, e3⟩ := kk_80 (lx := lx) (z := z) (E := E) (n := n) hR' hB h
        refine ⟨nI (wv T m s), I1, ?_, e2, e3, fun a e => ?_, fun a e => by simp at e⟩
        · rw [f_49]
          simp (disch := first | assumption | omega) [k_St, n_St, i_St, j_St, r_St, wI_St, wJ_St, k_S0, n_S0, i_S0, j_S0, r_S0, wI_S0, wJ_S0, cI_s, cJ_s, cV_s, nR_s, nQ_s, nQ_n, lt_s_, gd_T, gd_t, Option.map_some, lits, neg_mI, nI_add, pk_mul, nI_clamp, nI_eq, nI_leI, nI_ltI, nm_eq, mn_eq, nm_lt, mn_lt, nm_le, mn_le, m_eq, bI_0, bI_1, d0, d1, d8, t5, c]
          rw [e_49_9]
          simp (disch := first | assumption | omega) [k_St, n_St, i_St, j_St, r_St, wI_St, wJ_St, k_S0, n_S0, i_S0, j_S0, r_S0, wI_S0, wJ_S0, cI_s, cJ_s, cV_s, nR_s, nQ_s, nQ_n, lt_s_, gd_T, gd_t, Option.map_some, lits, neg_mI, nI_add, pk_mul, nI_clamp, nI_eq, nI_leI, nI_ltI, nm_eq, mn_eq, nm_lt, mn_lt, nm_le, mn_le, m_eq, bI_0, bI_1, d0, d1, d8, e83, if_neg, if_pos]
          rw [e_49_24]
          simp (disch := first | assumption | omega) [k_St, n_St, i_St, j_St, r_St, wI_St, wJ_St, k_S0, n_S0, i_S0, j_S0, r_S0, wI_S0, wJ_S0, cI_s, cJ_s, cV_s, nR_s, nQ_s, nQ_n, lt_s_, gd_T, gd_t, Option.map_some, lits, neg_mI, nI_add, pk_mul, nI_clamp, nI_eq, nI_leI, nI_ltI, nm_eq, mn_eq, nm_lt, mn_lt, nm_le, mn_le, m_eq, bI_0, bI_1, d0, d1, d8, h1, e1]
        · injection e with e; rw [← e]
      · rw [if_neg c2]
        obtain ⟨I1, e1, e2, e3⟩ := kk_58 (lx := lx) (z := z) (E := E) (n := n) (e := 4) hR' h hn (by decide) (by decide)
        have g3 := e2.2.2.1
        refine ⟨nI 0, I1, ?_, e2, e3, fun a e => by simp at e, fun _ _ => rfl⟩
        have f20 : Am lx 49 20 [some (.ref (z + 1)), none, none, some (.int (nI (wv T m s)))] [] (0, 0) (St z E n K N R I J) = some (some (.int (nI 0)), St z E n K N R I1 J) := by
          rw [e_49_20]
          simp (disch := first | assumption | omega) [k_St, n_St, i_St, j_St, r_St, wI_St, wJ_St, k_S0, n_S0, i_S0, j_S0, r_S0, wI_S0, wJ_S0, cI_s, cJ_s, cV_s, nR_s, nQ_s, nQ_n, lt_s_, gd_T, gd_t, Option.map_some, lits, neg_mI, nI_add, pk_mul, nI_clamp, nI_eq, nI_leI, nI_ltI, nm_eq, mn_eq, nm_lt, mn_lt, nm_le, mn_le, m_eq, bI_0, bI_1, d0, e1]
          rw [e_49_24]
          simp (disch := first | assumption | omega) [k_St, n_St, i_St, j_St, r_St, wI_St, wJ_St, k_S0, n_S0, i_S0, j_S0, r_S0, wI_S0, wJ_S0, cI_s, cJ_s, cV_s, nR_s, nQ_s, nQ_n, lt_s_, gd_T, gd_t, Option.map_some, lits, neg_mI, nI_add, pk_mul, nI_clamp, nI_eq, nI_leI, nI_ltI, nm_eq, mn_eq, nm_lt, mn_lt, nm_le, mn_le, m_eq, bI_0, bI_1, d0, d1, d8, g3]
        rw [f_49]
        simp (disch := first | assumption | omega) [k_St, n_St, i_St, j_St, r_St, wI_St, wJ_St, k_S0, n_S0, i_S0, j_S0, r_S0, wI_S0, wJ_S0, cI_s, cJ_s, cV_s, nR_s, nQ_s, nQ_n, lt_s_, gd_T, gd_t, Option.map_some, lits, neg_mI, nI_add, pk_mul, nI_clamp, nI_eq, nI_leI, nI_ltI, nm_eq, mn_eq, nm_lt, mn_lt, nm_le, mn_le, m_eq, bI_0, bI_1, d0, d1, d8, t5, c]
        rw [e_49_9]
        simp (disch := first | assumption | omega) [k_St, n_St, i_St, j_St, r_St, wI_St, wJ_St, k_S0, n_S0, i_S0, j_S0, r_S0, wI_S0, wJ_S0, cI_s, cJ_s, cV_s, nR_s, nQ_s, nQ_n, lt_s_, gd_T, gd_t, Option.map_some, lits, neg_mI, nI_add, pk_mul, nI_clamp, nI_eq, nI_leI, nI_ltI, nm_eq, mn_eq, nm_lt, mn_lt, nm_le, mn_le, m_eq, bI_0, bI_1, d0, d1, d8, e83]
        by_cases c3 : wv T m s < lo
        · rw [if_pos c3]; exact f20
        · rw [if_neg c3, if_neg (by omega)]; exact f20
    · rw [if_neg c]
      obtain ⟨I1, e1, e2, e3⟩ := kk_58 (lx := lx) (z := z) (E := E) (n := n) (e := 1) hR' h hn (by decide) (by decide)
      have e0 := b_49a (lx := lx) (z := z) (E := E) (n := n) (J := J) hR' (CB_f hB e3) e2 (nI lo) (nI hi)
      refine ⟨nI 0, I1, ?_, e2, e3, fun a e => by simp at e, fun _ _ => rfl⟩
      rw [f_49]
      simp (disch := first | assumption | omega) [k_St, n_St, i_St, j_St, r_St, wI_St, wJ_St, k_S0, n_S0, i_S0, j_S0, r_S0, wI_S0, wJ_S0, cI_s, cJ_s, cV_s, nR_s, nQ_s, nQ_n, lt_s_, gd_T, gd_t, Option.map_some, lits, neg_mI, nI_add, pk_mul, nI_clamp, nI_eq, nI_leI, nI_ltI, nm_eq, mn_eq, nm_lt, mn_lt, nm_le, mn_le, m_eq, bI_0, bI_1, d0, d1, d8, t5, c, e1, e0]
theorem c_48 {k lo hi : Nat} (hR : Rd K N R p) (hB : CB I T m) (hE : EOk E) (hk : k < 12) (hn : FCn F) (h : CS I J p T m F w r G x) (hlo : lo < 2 ^ 31) (hhi : hi < 2 ^ 31) : ∃ v I', Ca lx 48 [.ref (z + 1), .ref (E.1 k), .int (nI lo), .int (nI hi)] (St z E n K N R I J) = some (some (.int v), St z E n K N R I' J) ∧ CS I' J p T m F w r G ((x.bind (pPt T m k lo hi)).map Prod.snd) ∧ FRs I I' ∧ (∀ a, x.bind (pPt T m k lo hi) = .ok a → v = nI a.1) := by
  have hR' := hR
  obtain ⟨d0, d1, d2, d3, d4, d5, d6, d7, d8, d9, d10, d11, d12, hP, hp⟩ := hR
  cases x with
  | error v =>
    have e0 := b_48 (lx := lx) (z := z) (E := E) (n := n) (J := J) hR' hB hE hk h (nI lo) (nI hi)
    exact ⟨nI 0, I, e0, h, FRs_r, fun a e => absurd e (by rw [eb_e]; simp)⟩
  | ok s =>
    have h' : COk I J p T m F w r G s := h
    have hT := h'.2.2.2.2.2.1
    have h1 := h'.1
    have e2 := c_81 (lx := lx) (z := z) (E := E) (n := n) (J := J) hR' hB hE hk hT
    rw [eb_o]
    unfold pPt
    by_cases c : isW T m s k = true
    · rw [if_pos c]
      rw [c] at e2
      obtain ⟨I1, e3, e4, e5⟩ := kk_80 (lx := lx) (z := z) (E := E) (n := n) hR' hB h
      obtain ⟨v, I2, e6, e7, e8, e9, _⟩ := c_49 (lx := lx) (z := z) (E := E) (n := n) (x := .ok (adv T m s)) (L := nI lo) (H := nI hi) (lo := lo) (hi := hi) hR' (CB_f hB e5) hn e4 (fun _ _ => ⟨rfl, rfl⟩) hlo hhi
      refine ⟨v, I2, ?_, e7, FRs_t e5 e8, e9⟩
      rw [f_48]
      simp (disch := first | assumption | omega) [k_St, n_St, i_St, j_St, r_St, wI_St, wJ_St, k_S0, n_S0, i_S0, j_S0, r_S0, wI_S0, wJ_S0, cI_s, cJ_s, cV_s, nR_s, nQ_s, nQ_n, lt_s_, gd_T, gd_t, Option.map_some, lits, neg_mI, nI_add, pk_mul, nI_clamp, nI_eq, nI_leI, nI_ltI, nm_eq, mn_eq, nm_lt, mn_lt, nm_le, mn_le, m_eq, bI_0, bI_1, d0, d1, d8, e2]
      rw [e_48_9]
      simp (disch := first | assumption | omega) [k_St, n_St, i_St, j_St, r_St, wI_St, wJ_St, k_S0, n_S0, i_S0, j_S0, r_S0, wI_S0, wJ_S0, cI_s, cJ_s, cV_s, nR_s, nQ_s, nQ_n, lt_s_, gd_T, gd_t, Option.map_some, lits, neg_mI, nI_add, pk_mul, nI_clamp, nI_eq, nI_leI, nI_ltI, nm_eq, mn_eq, nm_lt, mn_lt, nm_le, mn_le, m_eq, bI_0, bI_1, d0, d1, d8, h1, e3]
      rw [e_48_16]
      simp (disch := first | assumption | omega) [k_St, n_St, i_St, j_St, r_St, wI_St, wJ_St, k_S0, n_S0, i_S0, j_S0, r_S0, wI_S0, wJ_S0, cI_s, cJ_s, cV_s, nR_s, nQ_s, nQ_n, lt_s_, gd_T, gd_t, Option.map_some, lits, neg_mI, nI_add, pk_mul, nI_clamp, nI_eq, nI_leI, nI_ltI, nm_eq, mn_eq, nm_lt, mn_lt, nm_le, mn_le, m_eq, bI_0, bI_1, d0, e6]
    · rw [if_neg c]
      have c' : isW T m s k = false := by simpa using c
      rw [c'] at e2
      obtain ⟨I1, e3, e4, e5⟩ := kk_58 (lx := lx) (z := z) (E := E) (n := n) (e := 1) hR' h hn (by decide) (by decide)
      have e0 := b_49 (lx := lx) (z := z) (E := E) (n := n) (J := J) hR' (CB_f hB e5) e4 (nI lo) (nI hi)
      have g3 := e4.2.2.1
      refine ⟨nI 0, I1, ?_, e4, e5, fun a e => by simp at e⟩
      rw [f_48]
      simp (disch := first | assumption | omega) [k_St, n_St, i_St, j_St, r_St, wI_St, wJ_St, k_S0, n_S0, i_S0, j_S0, r_S0, wI_S0, wJ_S0, cI_s, cJ_s, cV_s, nR_s, nQ_s, nQ_n, lt_s_, gd_T, gd_t, Option.map_some, lits, neg_mI, nI_add, pk_mul, nI_clamp, nI_eq, nI_leI, nI_ltI, nm_eq, mn_eq, nm_lt, mn_lt, nm_le, mn_le, m_eq, bI_0, bI_1, d0, d1, d8, e2, e3]
      rw [e_48_9]
      simp (disch := first | assumption | omega) [k_St, n_St, i_St, j_St, r_St, wI_St, wJ_St, k_S0, n_S0, i_S0, j_S0, r_S0, wI_S0, wJ_S0, cI_s, cJ_s, cV_s, nR_s, nQ_s, nQ_n, lt_s_, gd_T, gd_t, Option.map_some, lits, neg_mI, nI_add, pk_mul, nI_clamp, nI_eq, nI_leI, nI_ltI, nm_eq, mn_eq, nm_lt, mn_lt, nm_le, mn_le, m_eq, bI_0, bI_1, d0, g3, if_neg]
      rw [e_48_16]
      simp (disch := first | assumption | omega) [k_St, n_St, i_St, j_St, r_St, wI_St, wJ_St, k_S0, n_S0, i_S0, j_S0, r_S0, wI_S0, wJ_S0, cI_s, cJ_s, cV_s, nR_s, nQ_s, nQ_n, lt_s_, gd_T, gd_t, Option.map_some, lits, neg_mI, nI_add, pk_mul, nI_clamp, nI_eq, nI_leI, nI_ltI, nm_eq, mn_eq, nm_lt, mn_lt, nm_le, mn_le, m_eq, bI_0, bI_1, d0, e0]
end RD4
