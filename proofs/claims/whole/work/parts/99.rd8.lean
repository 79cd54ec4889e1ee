section RD8
variable {z : Nat} {E : aEt} {n : Nat} {K N : Nat → Nat} {R : Nat → Nat → Option Nat} {I : Nat → Nat → Int32} {J : Nat → Nat → Int64} {lx : List Value → aH → aO} {p s q m e : Nat} {T : Nat → Nat} {F G : Nat → Nat → Nat} {w r : Bool} {x : Exc Nat}
def CLn (I : Nat → Nat → Int32) (J : Nat → Nat → Int64) (p : Nat) (T : Nat → Nat) (m : Nat) (x : Exc Sg) : Prop := match x with
  | .ok σ => COk I J p T m σ.2.1 σ.2.2.1 σ.2.2.2.1 σ.2.2.2.2 σ.1
  | .error v => CBd I p T m v.1 v.2
def CSF (I : Nat → Nat → Int32) (J : Nat → Nat → Int64) (p : Nat) (T : Nat → Nat) (m : Nat) (w r : Bool) (G : Nat → Nat → Nat) (y : Exc ((Nat → Nat → Nat) × Nat)) : Prop := match y with
  | .ok a => COk I J p T m a.1 w r G a.2 ∧ FCn a.1
  | .error v => CBd I p T m v.1 v.2
theorem CSF_l {y : Exc ((Nat → Nat → Nat) × Nat)} (h : CSF I J p T m w r G y) : CLn I J p T m (y.bind fun a => .ok (a.2, a.1, w, r, G)) := by
  cases y with
  | error v => exact h
  | ok a => exact h.1
theorem COk_w {j a : Nat} (h : COk I J p T m F w r G s) (hp : 114 ≤ p) (hj : j < 4 ∨ j = 6) : COk (u2 I p j (nI a)) J p T m (u2 F 0 j a) w r G s := by
  obtain ⟨h1, h2, h3, h4, h5, ⟨t2, t3, t4, t5, ts⟩, h7, h8, h9⟩ := h
  have a1 : u2 I p j (nI a) 1 = I 1 := u2_a _ _ _ _ _ (by omega)
  have a2 : u2 I p j (nI a) 2 = I 2 := u2_a _ _ _ _ _ (by omega)
  have f9 : u2 F 0 j a 9 = F 9 := u2_a _ _ _ _ _ (by decide)
  have f7 : u2 F 0 j a 0 7 = F 0 7 := u2_k _ _ _ _ _ (by omega)
  have f8 : u2 F 0 j a 0 8 = F 0 8 := u2_k _ _ _ _ _ (by omega)
  exact ⟨by rw [a1]; exact h1, by rw [a1, f9]; exact h2, by rw [a1]; exact h3, by rw [a1]; exact h4, by rw [a2]; exact h5, ⟨by rw [a2]; exact t2, by rw [a2]; exact t3, by rw [a2]; exact t4, by rw [a2]; exact t5, ts⟩, PI_u h7 hj, by rw [f7]; exact h8, by rw [f8]; exact h9⟩
theorem FCn_w {j a : Nat} (h : FCn F) (hj : j < 4 ∨ j = 6) : FCn (u2 F 0 j a) := by
  unfold FCn
  rw [u2_k F 0 j 4 a (by omega), u2_k F 0 j 5 a (by omega), u2_k F 0 j 7 a (by omega), u2_k F 0 j 8 a (by omega), u2_k F 0 j 9 a (by omega)]
  exact h
theorem st_48 {k lo hi j : Nat} {y : Exc ((Nat → Nat → Nat) × Nat)} (hR : Rd K N R p) (hB : CB I T m) (hE : EOk E) (hk : k < 12) (h : CSF I J p T m w r G y) (hlo : lo < 2 ^ 31) (hhi : hi < 2 ^ 31) (hj : j < 4 ∨ j = 6) : ∃ v I', Ca lx 48 [.ref (z + 1), .ref (E.1 k), .int (nI lo), .int (nI hi)] (St z E n K N R I J) = some (some (.int v), St z E n K N R I' J) ∧ CSF (u2 I' p j v) J p T m w r G (y.bind fun b => (pPt T m k lo hi b.2).bind fun a => .ok (u2 b.1 0 j a.1, a.2)) ∧ FRc p I (u2 I' p j v) := by
  have hp := hR.2.2.2.2.2.2.2.2.2.2.2.2.2.2
  cases y with
  | error v =>
    exact ⟨nI 0, I, b_48 hR hB hE hk h _ _, CBd_4 h hp hj _, fun a a1 a2 a3 => u2_a _ _ _ _ _ (by omega)⟩
  | ok b =>
    obtain ⟨F, s⟩ := b
    obtain ⟨h', hn⟩ := h
    simp only at h' hn
    obtain ⟨v, I', e1, e2, e3, e4⟩ := c_48 (lx := lx) (z := z) (E := E) (n := n) (x := .ok s) hR hB hE hk hn h' hlo hhi
    refine ⟨v, I', e1, ?_, fun a a1 a2 a3 => by rw [u2_a _ _ _ _ _ (by omega)]; exact e3 a a1 a2⟩
    rw [eb_o] at e2 e4 ⊢
    simp only
    cases hx : pPt T m k lo hi s with
    | error u => rw [hx] at e2; exact CBd_4 e2 hp hj _
    | ok a =>
      rw [hx] at e2 e4
      rw [e4 a rfl, eb_o]
      exact ⟨COk_w e2 hp hj, FCn_w hn hj⟩
theorem c_38 (hR : Rd K N R p) (hB : CB I T m) (hE : EOk E) (hn : FCn F) (h : COk I J p T m F w r G s) : ∃ I', Ca lx 38 [.ref (z + 1)] (St z E n K N R I J) = some (none, St z E n K N R I' J) ∧ CLn I' J p T m ((pFl T m F s).bind fun a => .ok (a.2, a.1, w, r, G)) ∧ FRc p I I' := by
  have hR' := hR
  obtain ⟨d0, d1, d2, d3, d4, d5, d6, d7, d8, d9, d10, d11, d12, hP, hp⟩ := hR
  have kp := hP.1
  have h2 := h.2.1
  unfold pFl
  by_cases c : 0 < F 9 0
  · obtain ⟨I1, e1, e2, e3⟩ := kk_58 (lx := lx) (z := z) (E := E) (n := n) (e := 3) hR' h hn (by decide) (by decide)
    refine ⟨I1, ?_, by rw [if_pos c]; exact e2, FRs_c e3⟩
    have h2' : I 1 4 = nI 1 := by rw [h2, decide_eq_true c]; rfl
    rw [f_38]
    simp (disch := first | assumption | omega) [k_St, n_St, i_St, j_St, r_St, wI_St, wJ_St, k_S0, n_S0, i_S0, j_S0, r_S0, wI_S0, wJ_S0, cI_s, cJ_s, cV_s, nR_s, nQ_s, nQ_n, lt_s_, gd_T, gd_t, Option.map_some, lits, neg_mI, nI_add, pk_mul, nI_clamp, nI_eq, nI_leI, nI_ltI, nm_eq, mn_eq, nm_lt, mn_lt, nm_le, mn_le, m_eq, bI_0, bI_1, d0, h2', e1]
  · have h2' : I 1 4 = nI 0 := by rw [h2, decide_eq_false c]; rfl
    have ok0 : COk (u2 I 1 4 (nI 1)) J p T m (u2 F 9 0 1) w r G s := by
      obtain ⟨h1, _, h3, h4, h5, ⟨t2, t3, t4, t5, ts⟩, h7, h8, h9⟩ := h
      refine ⟨?_, ?_, ?_, ?_, ?_, ⟨?_, ?_, ?_, ?_, ts⟩, ?_, h8, h9⟩
      · simp (disch := first | assumption | omega) [u2_s, u2_a, u2_k, h1]
      · rw [u2_s, u2_s]; rfl
      · simp (disch := first | assumption | omega) [u2_s, u2_a, u2_k, h3]
      · simp (disch := first | assumption | omega) [u2_s, u2_a, u2_k, h4]
      · simp (disch := first | assumption | omega) [u2_s, u2_a, u2_k, h5]
      · simp (disch := first | assumption | omega) [u2_s, u2_a, u2_k, t2]
      · simp (disch := first | assumption | omega) [u2_s, u2_a, u2_k, t3]
      · simp (disch := first | assumption | omega) [u2_s, u2_a, u2_k, t4]
      · simp (disch := first | assumption | omega) [u2_s, u2_a, u2_k, t5]
      · have := PI_c (I' := u2 I 1 4 (nI 1)) h7 (fun a a1 a2 => u2_a _ _ _ _ _ (by omega)) rfl
        exact this
    have hB0 : CB (u2 I 1 4 (nI 1)) T m := CB_f hB (fun a a1 a2 => u2_a _ _ _ _ _ a1)
    obtain ⟨I1, a1, a2, a3⟩ := kk_80 (lx := lx) (z := z) (E := E) (n := n) hR' hB0 ok0
    have f1 : FRc p I I1 := fun a h1 h2 h3 => (a3 a h1 h2).trans (u2_a _ _ _ _ _ h1)
    have y0 : CSF I1 J p T m w r G (.ok (u2 F 9 0 1, adv T m s)) := ⟨a2, hn⟩
    obtain ⟨v1, I2, b1, b2, b3⟩ := st_48 (lx := lx) (z := z) (E := E) (n := n) (k := 6) (lo := 1) (hi := 14) (j := 0) hR' (CB_g hB f1 hp) hE (by decide) y0 (by decide) (by decide) (by decide)
    have f2 := FRc_t f1 b3
    obtain ⟨v2, I3, c1, c2, c3⟩ := st_48 (lx := lx) (z := z) (E := E) (n := n) (k := 7) (lo := 0) (hi := 3) (j := 1) hR' (CB_g hB f2 hp) hE (by decide) b2 (by decide) (by decide) (by decide)
    have f3 := FRc_t f2 c3
    obtain ⟨v3, I4, g1, g2, g3⟩ := st_48 (lx := lx) (z := z) (E := E) (n := n) (k := 8) (lo := 1) (hi := 9) (j := 2) hR' (CB_g hB f3 hp) hE (by decide) c2 (by decide) (by decide) (by decide)
    have f4 := FRc_t f3 g3
    obtain ⟨v4, I5, k1, k2, k3⟩ := st_48 (lx := lx) (z := z) (E := E) (n := n) (k := 9) (lo := 0) (hi := 100) (j := 3) hR' (CB_g hB f4 hp) hE (by decide) g2 (by decide) (by decide) (by decide)
    refine ⟨u2 I5 p 3 v4, ?_, ?_, FRc_t f4 k3⟩
    · rw [f_38]
      simp (disch := first | assumption | omega) [k_St, n_St, i_St, j_St, r_St, wI_St, wJ_St, k_S0, n_S0, i_S0, j_S0, r_S0, wI_S0, wJ_S0, cI_s, cJ_s, cV_s, nR_s, nQ_s, nQ_n, lt_s_, gd_T, gd_t, Option.map_some, lits, neg_mI, nI_add, pk_mul, nI_clamp, nI_eq, nI_leI, nI_ltI, nm_eq, mn_eq, nm_lt, mn_lt, nm_le, mn_le, m_eq, bI_0, bI_1, g_St, d0, d1, d8, d12, kp, h2', a1, b1, c1, g1, k1]
    · have := CSF_l k2
      rw [if_neg c]
      simp only [eb_o, eb_m] at this ⊢
      exact this
/-! rows -/
theorem kk_58h (hR : Rd K N R p) (h1 : I 1 1 = nI 0) (h5 : I 2 1 = nI 0) (hT : CTk I T m s) (q0 : ∀ j, j < 10 → I p j = nI (F 0 j)) (hn : FCn F) (he : 1 ≤ e) (he2 : e < 9) : ∃ I', Ca lx 58 [.ref (z + 1), .int (nI e)] (St z E n K N R I J) = some (none, St z E n K N R I' J) ∧ CBd I' p T m e s ∧ FRs I I' := by
  obtain ⟨d0, d1, d2, d3, d4, d5, d6, d7, d8, d9, d10, d11, d12, hP, hp⟩ := hR
  obtain ⟨t2, t3, t4, t5, ts⟩ := hT
  obtain ⟨n1, n2, n3, n4, n5⟩ := hn
  refine ⟨u2 (u2 I 1 1 (nI e)) 1 2 (nI s), ?_, ⟨he, he2, ?_, ?_, ?_, ⟨s, ?_, ?_, ?_, ?_, ts⟩, F 0 4, F 0 5, F 0 7, F 0 8, F 0 9, n1, n2, n3, n4, n5, ?_, ?_, ?_, ?_, ?_⟩, ?_⟩
  · rw [f_58]
    simp (disch := first | assumption | omega) [k_St, n_St, i_St, j_St, r_St, wI_St, wJ_St, k_S0, n_S0, i_S0, j_S0, r_S0, wI_S0, wJ_S0, cI_s, cJ_s, cV_s, nR_s, nQ_s, nQ_n, lt_s_, gd_T, gd_t, Option.map_some, lits, neg_mI, nI_add, pk_mul, nI_clamp, nI_eq, nI_leI, nI_ltI, nm_eq, mn_eq, nm_lt, mn_lt, nm_le, mn_le, m_eq, bI_0, bI_1, d0, d1, d8, t3]
    rw [f_59]
    simp (disch := first | assumption | omega) [k_St, n_St, i_St, j_St, r_St, wI_St, wJ_St, k_S0, n_S0, i_S0, j_S0, r_S0, wI_S0, wJ_S0, cI_s, cJ_s, cV_s, nR_s, nQ_s, nQ_n, lt_s_, gd_T, gd_t, Option.map_some, lits, neg_mI, nI_add, pk_mul, nI_clamp, nI_eq, nI_leI, nI_ltI, nm_eq, mn_eq, nm_lt, mn_lt, nm_le, mn_le, m_eq, bI_0, bI_1, d0, h1]
  · simp (disch := first | assumption | omega) [u2_s, u2_a, u2_k]
  · simp (disch := first | assumption | omega) [u2_s, u2_a, u2_k]
  · simp (disch := first | assumption | omega) [u2_s, u2_a, u2_k, h5]
  · simp (disch := first | assumption | omega) [u2_s, u2_a, u2_k, t2]
  · simp (disch := first | assumption | omega) [u2_s, u2_a, u2_k, t3]
  · simp (disch := first | assumption | omega) [u2_s, u2_a, u2_k, t4]
  · simp (disch := first | assumption | omega) [u2_s, u2_a, u2_k, t5]
  · simp (disch := first | assumption | omega) [u2_s, u2_a, u2_k, q0 4 (by decide)]
  · simp (disch := first | assumption | omega) [u2_s, u2_a, u2_k, q0 5 (by decide)]
  · simp (disch := first | assumption | omega) [u2_s, u2_a, u2_k, q0 7 (by decide)]
  · simp (disch := first | assumption | omega) [u2_s, u2_a, u2_k, q0 8 (by decide)]
  · simp (disch := first | assumption | omega) [u2_s, u2_a, u2_k, q0 9 (by decide)]
  · intro a a1 a2; simp (disch := first | assumption | omega) [u2_s, u2_a, u2_k]
def btc (k c : Nat) : Int64 := if k = 3 then 0 else (1 : Int64) <<< ((nI c).toInt64 &&& 63)
theorem hb_b (y : Int64) {k c i : Nat} (hc : c < 64) : hb (y ||| btc k c) i = (hb y i || (decide (i = c) && decide (k ≠ 3))) := by
  unfold btc
  by_cases h : k = 3
  · rw [if_pos h]
    simp [h, hb, Int64.toBitVec_or]
  · rw [if_neg h, hb_o y hc]
    simp [h]
theorem s_27 (hP : Pl K N R p) {c k : Nat} (hc : c < 64) (hk : k < 4) : Ca lx 27 [.ref (z + p), .int (nI c), .int (nI k)] (St z E n K N R I J) = some (none, St z E n K N R (u2 I (p + 1) c (nI k)) (u2 J p 10 (J p 10 ||| btc k c))) := by
  rw [f_27]
  obtain ⟨p0, pr1, pr2, pr3, pr4, pr5, pr6, pr7, pr8, pk1, pk2, pk3, pk4, pk5, pk6, pk7, pk8, pn1, pn2, pn3, pn4, pn5, pn6, pn7, pn8⟩ := hP
  unfold btc
  by_cases c3 : k = 3
  · simp (disch := first | assumption | omega) [k_St, n_St, i_St, j_St, r_St, wI_St, wJ_St, k_S0, n_S0, i_S0, j_S0, r_S0, wI_S0, wJ_S0, cI_s, cJ_s, cV_s, nR_s, nQ_s, nQ_n, lt_s_, gd_T, gd_t, Option.map_some, lits, neg_mI, nI_add, pk_mul, nI_clamp, nI_eq, nI_leI, nI_ltI, nm_eq, mn_eq, nm_lt, mn_lt, nm_le, mn_le, m_eq, bI_0, bI_1, s_6 hc, p0, pr1, pk1, pn1, c3]
    rw [e_27_20]
    simp (disch := first | assumption | omega) [k_St, n_St, i_St, j_St, r_St, wI_St, wJ_St, k_S0, n_S0, i_S0, j_S0, r_S0, wI_S0, wJ_S0, cI_s, cJ_s, cV_s, nR_s, nQ_s, nQ_n, lt_s_, gd_T, gd_t, Option.map_some, lits, neg_mI, nI_add, pk_mul, nI_clamp, nI_eq, nI_leI, nI_ltI, nm_eq, mn_eq, nm_lt, mn_lt, nm_le, mn_le, m_eq, bI_0, bI_1, p0]
  · simp (disch := first | assumption | omega) [k_St, n_St, i_St, j_St, r_St, wI_St, wJ_St, k_S0, n_S0, i_S0, j_S0, r_S0, wI_S0, wJ_S0, cI_s, cJ_s, cV_s, nR_s, nQ_s, nQ_n, lt_s_, gd_T, gd_t, Option.map_some, lits, neg_mI, nI_add, pk_mul, nI_clamp, nI_eq, nI_leI, nI_ltI, nm_eq, mn_eq, nm_lt, mn_lt, nm_le, mn_le, m_eq, bI_0, bI_1, s_6 hc, p0, pr1, pk1, pn1, c3]
    rw [e_27_20]
    simp (disch := first | assumption | omega) [k_St, n_St, i_St, j_St, r_St, wI_St, wJ_St, k_S0, n_S0, i_S0, j_S0, r_S0, wI_S0, wJ_S0, cI_s, cJ_s, cV_s, nR_s, nQ_s, nQ_n, lt_s_, gd_T, gd_t, Option.map_some, lits, neg_mI, nI_add, pk_mul, nI_clamp, nI_eq, nI_leI, nI_ltI, nm_eq, mn_eq, nm_lt, mn_lt, nm_le, mn_le, m_eq, bI_0, bI_1, p0]
theorem s_56 {b : Nat} (hb : b < 256) (S : aH) : Ca lx 56 [.int (nI b)] S = some (some (.int (if slc b = 4 then mI 1 else nI (slc b))), S) := by
  rw [f_56]
  unfold slc
  simp (disch := first | assumption | omega) [k_St, n_St, i_St, j_St, r_St, wI_St, wJ_St, k_S0, n_S0, i_S0, j_S0, r_S0, wI_S0, wJ_S0, cI_s, cJ_s, cV_s, nR_s, nQ_s, nQ_n, lt_s_, gd_T, gd_t, Option.map_some, lits, neg_mI, nI_add, pk_mul, nI_clamp, nI_eq, nI_leI, nI_ltI, nm_eq, mn_eq, nm_lt, mn_lt, nm_le, mn_le, m_eq, bI_0, bI_1]
  by_cases h1 : b = 99
  · simp [h1]
  · by_cases h2 : b = 103
    · simp [h2]
    · by_cases h3 : b = 114
      · simp [h3]
      · by_cases h4 : b = 115
        · simp [h4]
        · simp [h1, h2, h3, h4]
theorem slc_b (b : Nat) : slc b ≤ 4 := by unfold slc; (repeat' split) <;> omega
def rwI (I : Nat → Nat → Int32) (p : Nat) (T : Nat → Nat) (s h : Nat) : Nat → (Nat → Nat → Int32)
  | 0 => I
  | x + 1 => u2 (rwI I p T s h x) (p + 1) (8 * h + x) (nI (slc (T (s + x))))
def rwJ (J : Nat → Nat → Int64) (p : Nat) (T : Nat → Nat) (s h : Nat) : Nat → (Nat → Nat → Int64)
  | 0 => J
  | x + 1 => u2 (rwJ J p T s h x) p 10 (rwJ J p T s h x p 10 ||| btc (slc (T (s + x))) (8 * h + x))
theorem rwI_a {a h : Nat} (ha : a ≠ p + 1) : ∀ x, rwI I p T s h x a = I a
  | 0 => rfl
  | x + 1 => by rw [rwI, u2_a _ _ _ _ _ ha]; exact rwI_a ha x
theorem rwI_c {h : Nat} (c : Nat) : ∀ x, rwI I p T s h x (p + 1) c = if 8 * h ≤ c ∧ c < 8 * h + x then nI (slc (T (s + (c - 8 * h)))) else I (p + 1) c
  | 0 => by rw [if_neg (by omega)]; rfl
  | x + 1 => by
    rw [rwI]
    by_cases e : c = 8 * h + x
    · rw [e, u2_s, if_pos (by omega), show 8 * h + x - 8 * h = x by omega]
    · rw [u2_k _ _ _ _ _ e, rwI_c c x]
      by_cases e2 : 8 * h ≤ c ∧ c < 8 * h + x
      · rw [if_pos e2, if_pos (by omega)]
      · rw [if_neg e2, if_neg (by omega)]
theorem rwJ_a {a h : Nat} (ha : a ≠ p) : ∀ x, rwJ J p T s h x a = J a
  | 0 => rfl
  | x + 1 => by rw [rwJ, u2_a _ _ _ _ _ ha]; exact rwJ_a ha x
theorem rwJ_h {h : Nat} (c : Nat) : ∀ x, 8 * h + x ≤ 64 → hb (rwJ J p T s h x p 10) c = (hb (J p 10) c || (decide (8 * h ≤ c ∧ c < 8 * h + x) && decide (slc (T (s + (c - 8 * h))) ≠ 3)))
  | 0, _ => by rw [decide_eq_false (show ¬ (8 * h ≤ c ∧ c < 8 * h + 0) by omega)]; simp [rwJ]
  | x + 1, hx => by
    rw [rwJ, u2_s, hb_b _ (by omega), rwJ_h c x (by omega)]
    by_cases e : c = 8 * h + x
    · rw [decide_eq_false (show ¬ (8 * h ≤ c ∧ c < 8 * h + x) by omega), decide_eq_true (show (8 * h ≤ c ∧ c < 8 * h + (x + 1)) by omega), show c - 8 * h = x by omega, decide_eq_true e]
      simp
    · rw [decide_eq_false e]
      by_cases e2 : 8 * h ≤ c ∧ c < 8 * h + x
      · rw [decide_eq_true e2, decide_eq_true (show (8 * h ≤ c ∧ c < 8 * h + (x + 1)) by omega)]; simp
      · rw [decide_eq_false e2, decide_eq_false (show ¬ (8 * h ≤ c ∧ c < 8 * h + (x + 1)) by omega)]; simp
theorem c_40a {l h : Nat} (hR : Rd K N R p) (hB : CB I T m) (h3 : I 2 3 = nI s) (h4 : I 2 4 = nI l) (h5 : I p 5 = nI h) (hh : h < 8) (hl : l ≤ 8) (hs : s + l ≤ m) (b : aB) : ∀ n' x, x + n' = l → (∀ i, i < x → slc (T (s + i)) ≠ 4) → ∃ y, y ≤ l ∧ (anyB (fun i => decide (slc (T (s + i)) = 4)) l = false → y = l) ∧ Am lx 40 28 [some (.ref (z + 1)), some (.int (nI x)), none] [] b (St z E n K N R (rwI I p T s h x) (rwJ J p T s h x)) = some (some (.int (bI (!anyB (fun i => decide (slc (T (s + i)) = 4)) l))), St z E n K N R (rwI I p T s h y) (rwJ J p T s h y))
  | 0, x, hx, ha => by
    have d0 := hR.1
    have d1 := hR.2.1
    have d8 := hR.2.2.2.2.2.2.2.2.1
    have hp := hR.2.2.2.2.2.2.2.2.2.2.2.2.2.2
    have e2 := rwI_a (I := I) (p := p) (T := T) (s := s) (h := h) (a := 2) (by omega) x
    have hx' : x = l := by omega
    subst hx'
    refine ⟨x, Nat.le_refl _, fun _ => rfl, ?_⟩
    have : anyB (fun i => decide (slc (T (s + i)) = 4)) x = false := anyB_f.mpr (fun i hi => by simp [ha i hi])
    rw [this, e_40_28]
    simp (disch := first | assumption | omega) [k_St, n_St, i_St, j_St, r_St, wI_St, wJ_St, k_S0, n_S0, i_S0, j_S0, r_S0, wI_S0, wJ_S0, cI_s, cJ_s, cV_s, nR_s, nQ_s, nQ_n, lt_s_, gd_T, gd_t, Option.map_some, lits, neg_mI, nI_add, pk_mul, nI_clamp, nI_eq, nI_leI, nI_ltI, nm_eq, mn_eq, nm_lt, mn_lt, nm_le, mn_le, m_eq, bI_0, bI_1, d0, d1, d8, e2, h4, if_pos] <;> rfl
  | n' + 1, x, hx, ha => by
    have hR' := hR
    obtain ⟨d0, d1, d2, d3, d4, d5, d6, d7, d8, d9, d10, d11, d12, hP, hp⟩ := hR
    have kp := hP.1
    have hb := hB.1
    have e2 := rwI_a (I := I) (p := p) (T := T) (s := s) (h := h) (a := 2) (by omega) x
    have ep := rwI_a (I := I) (p := p) (T := T) (s := s) (h := h) (a := p) (by omega) x
    have hB' : CB (rwI I p T s h x) T m := ⟨hB.1, fun k hk => by rw [rwI_a (by omega)]; exact hB.2 k hk⟩
    have e := c_82 (lx := lx) (z := z) (E := E) (n := n) (J := rwJ J p T s h x) (i := x) hR' hB' (by rw [e2]; exact h3) (by omega)
    have hT := (hB.2 (s + x) (by omega)).1
    have e56 := s_56 (lx := lx) hT (St z E n K N R (rwI I p T s h x) (rwJ J p T s h x))
    have sb := slc_b (T (s + x))
    by_cases c4 : slc (T (s + x)) = 4
    · have ht : anyB (fun i => decide (slc (T (s + i)) = 4)) l = true := anyB_m (show x < l by omega) (by simp [c4])
      refine ⟨x, by omega, fun h => by rw [ht] at h; exact absurd h (by decide), ?_⟩
      rw [if_pos c4] at e56
      rw [ht, e_40_28]
      simp (disch := first | assumption | omega) [k_St, n_St, i_St, j_St, r_St, wI_St, wJ_St, k_S0, n_S0, i_S0, j_S0, r_S0, wI_S0, wJ_S0, cI_s, cJ_s, cV_s, nR_s, nQ_s, nQ_n, lt_s_, gd_T, gd_t, Option.map_some, lits, neg_mI, nI_add, pk_mul, nI_clamp, nI_eq, nI_leI, nI_ltI, nm_eq, mn_eq, nm_lt, mn_lt, nm_le, mn_le, m_eq, bI_0, bI_1, d0, d1, d8, e2, h4, if_neg, e, e56, if_pos] <;> rfl
    · obtain ⟨y, y1, y2, y3⟩ := c_40a (b := b) hR' hB h3 h4 h5 hh hl hs n' (x + 1) (by omega) (fun i hi => by
        by_cases ei : i = x
        · rw [ei]; exact c4
        · exact ha i (by omega))
      refine ⟨y, y1, y2, ?_⟩
      rw [if_neg c4] at e56
      have e27 := s_27 (lx := lx) (z := z) (E := E) (n := n) (I := rwI I p T s h x) (J := rwJ J p T s h x) (c := 8 * h + x) (k := slc (T (s + x))) hP (by omega) (by omega)
      rw [e_40_28]
      simp (disch := first | assumption | omega) [k_St, n_St, i_St, j_St, r_St, wI_St, wJ_St, k_S0, n_S0, i_S0, j_S0, r_S0, wI_S0, wJ_S0, cI_s, cJ_s, cV_s, nR_s, nQ_s, nQ_n, lt_s_, gd_T, gd_t, Option.map_some, lits, neg_mI, nI_add, pk_mul, nI_clamp, nI_eq, nI_leI, nI_ltI, nm_eq, mn_eq, nm_lt, mn_lt, nm_le, mn_le, m_eq, bI_0, bI_1, d0, d1, d8, d12, kp, e2, ep, h4, h5, if_neg, e, e56, s_0, e27]
      exact y3
end RD8
