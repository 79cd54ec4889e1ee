section RM8
variable {z : Nat} {E : aEt} {n : Nat} {K N : Nat → Nat} {R : Nat → Nat → Option Nat} {I : Nat → Nat → Int32} {J : Nat → Nat → Int64} {lx : List Value → aH → aO} {f s q m e : Nat} {T : Nat → Nat} {F G : Nat → Nat → Nat} {w r : Bool} {x : Exc Nat}
theorem d_219a {c g : Nat} (hM : Rm K N R f) (h7 : ∀ k, k < m → T k < 256) (hn : FCn F) (hb : ∀ c, c < 64 → F 1 c ≤ 3) (hT : MTk I J T m s) (h1 : tK T m s = 1) (i4 : I f 4 = nI (F 0 4)) (i5 : I f 5 = nI (F 0 5)) (q1 : ∀ c, c < 64 → I (f + 1) c = nI (F 1 c)) (hg : g < 4) (hc : isS F c = true) (b : aB) : ∀ n' x, x + n' = tLn T m s → (∀ i, i < x → isS F (wy T s c (i + 1)) = true) → ∃ y, y ≤ tLn T m s ∧ (wyO T F s c (tLn T m s) = true → y = tLn T m s) ∧ Am lx 219 13 [some (.ref (z + 132)), some (.int (nI g)), none, some (.int (nI (wy T s c x))), some (.int (nI x)), none, none] [] b (St z E n K N R (wyI I f T s c g x) J) = some (some (.int (bI (wyO T F s c (tLn T m s)))), St z E n K N R (wyI I f T s c g y) J)
  | 0, x, hx, ha => by
    have m0 := hM.1
    have hf := hM.2.2.2.2.2.1
    have a1 := (hT.2.2.2.1 h1).1
    have l8 := (tK_c h1 (Or.inl rfl)).2.2.2.1 rfl
    have z1 := wyI_a (I := I) (p := f) (T := T) (s := s) (c := c) (g := g) (a := 132) (by omega) x
    have hx' : x = tLn T m s := by omega
    refine ⟨x, by omega, fun _ => hx', ?_⟩
    have : wyO T F s c (tLn T m s) = true := by
      unfold wyO
      rw [anyB_f.mpr (fun i hi => by simp [ha i (by omega)])]; rfl
    rw [this, e_219_13]
    simp (disch := first | assumption | omega) [k_St, n_St, i_St, j_St, r_St, wI_St, wJ_St, k_S0, n_S0, i_S0, j_S0, r_S0, wI_S0, wJ_S0, cI_s, cJ_s, cV_s, nR_s, nQ_s, nQ_n, lt_s_, gd_T, gd_t, Option.map_some, lits, neg_mI, nI_add, pk_mul, nI_clamp, nI_eq, nI_leI, nI_ltI, nm_eq, mn_eq, nm_lt, mn_lt, nm_le, mn_le, m_eq, bI_0, bI_1, m0, z1, a1, if_pos] <;> rfl
  | n' + 1, x, hx, ha => by
    have hM' := hM
    obtain ⟨m0, m1, m2, m3, m4, hf, fk, fr12, fr13, fr14, fr15, fr16, fr17, fr18, fr19, fr20, fr21, fr22, fk1, fk2, fk3, fk4, fk5, fk6, fk7, fk8, fk9, fk10, fk11, fn1, fn2, fn3, fn4, fn5, fn6, fn7, fn8, fn9, fn10, fn11⟩ := hM
    have a1 := (hT.2.2.2.1 h1).1
    have ts := hT.2.2.2.2.2
    have l8 := (tK_c h1 (Or.inl rfl)).2.2.2.1 rfl
    have ll := tL_le (T := T) ts
    have hbt := h7 (s + x) (by omega)
    have z1 := wyI_a (I := I) (p := f) (T := T) (s := s) (c := c) (g := g) (a := 132) (by omega) x
    have zf := wyI_a (I := I) (p := f) (T := T) (s := s) (c := c) (g := g) (a := f) (by omega) x
    have z2 := wyI_a (I := I) (p := f) (T := T) (s := s) (c := c) (g := g) (a := f + 1) (by omega) x
    have e4 := d_204 (lx := lx) (z := z) (E := E) (n := n) (k := x) hM' (MTk_c (I1 := wyI I f T s c g x) (J1 := J) hT z1 rfl) h1 (by omega)
    have e5 := s_218 (lx := lx) hbt (St z E n K N R (wyI I f T s c g x) J)
    have wb := wyl_b (T (s + x))
    have hw : isS F (wy T s c x) = true := by
      cases x with
      | zero => exact hc
      | succ i => exact ha i (by omega)
    have q1' : ∀ c', c' < 64 → wyI I f T s c g x (f + 1) c' = nI (F 1 c') := by rw [z2]; exact q1
    have ew : nxc (wy T s c x) (wyl (T (s + x))) = wy T s c (x + 1) := rfl
    have r32 : ∃ o, Am lx 219 13 [some (.ref (z + 132)), some (.int (nI g)), none, some (.int (nI (wy T s c x))), some (.int (nI x)), none, none] [] b (St z E n K N R (wyI I f T s c g x) J) = Am lx 219 32 [some (.ref (z + 132)), some (.int (nI g)), none, none, some (.int (nI x)), none, none] [.int (oI o)] b (St z E n K N R (wyI I f T s c g x) J) ∧ (decide (o < 64) && !decide (F 1 o = 3)) = isS F (wy T s c (x + 1)) ∧ (isS F (wy T s c (x + 1)) = true → o = wy T s c (x + 1)) := by
      by_cases c0 : wyl (T (s + x)) = 0
      · refine ⟨64, ?_, ?_, fun h => ?_⟩
        · rw [e_219_13]
          have o64 : oI 64 = mI 1 := by decide
          rw [c0] at e5
          simp (disch := first | assumption | omega) [k_St, n_St, i_St, j_St, r_St, wI_St, wJ_St, k_S0, n_S0, i_S0, j_S0, r_S0, wI_S0, wJ_S0, cI_s, cJ_s, cV_s, nR_s, nQ_s, nQ_n, lt_s_, gd_T, gd_t, Option.map_some, lits, neg_mI, nI_add, pk_mul, nI_clamp, nI_eq, nI_leI, nI_ltI, nm_eq, mn_eq, nm_lt, mn_lt, nm_le, mn_le, m_eq, bI_0, bI_1, m0, z1, a1, if_neg, e4, e5, o64]
        · rw [← ew, c0, show nxc (wy T s c x) 0 = 64 by simp [nxc], isS_64 F (by decide)]; rfl
        · rw [← ew, c0, show nxc (wy T s c x) 0 = 64 by simp [nxc], isS_64 F (by decide)] at h; exact absurd h (by decide)
      · have e77 := d_177 (lx := lx) (z := z) (E := E) (n := n) (N := N) (R := R) (J := J) (I := wyI I f T s c g x) (f := f) (F := F) (c := wy T s c x) (w := wyl (T (s + x))) fk (by rw [zf]; exact i4) (by rw [zf]; exact i5) hn.1 hn.2.1 (isS_lt hw) (isS_in hw) (by omega) (by omega)
        refine ⟨nf F (wy T s c x) (wyl (T (s + x))), ?_, by rw [nf_S, ew], fun h => by rw [← ew] at h ⊢; exact nf_e h⟩
        rw [e_219_13]
        simp (disch := first | assumption | omega) [k_St, n_St, i_St, j_St, r_St, wI_St, wJ_St, k_S0, n_S0, i_S0, j_S0, r_S0, wI_S0, wJ_S0, cI_s, cJ_s, cV_s, nR_s, nQ_s, nQ_n, lt_s_, gd_T, gd_t, Option.map_some, lits, neg_mI, nI_add, pk_mul, nI_clamp, nI_eq, nI_leI, nI_ltI, nm_eq, mn_eq, nm_lt, mn_lt, nm_le, mn_le, m_eq, bI_0, bI_1, m0, m4, fk, z1, a1, if_neg, e4, e5, c0, e77]
    obtain ⟨o, r1, r2, r3⟩ := r32
    have e79 := d_179 (lx := lx) (z := z) (E := E) (n := n) (J := J) hM' q1' hb o
    rw [r2] at e79
    by_cases c4 : isS F (wy T s c (x + 1)) = true
    · obtain ⟨y, y1, y2, y3⟩ := d_219a (b := b) hM' h7 hn hb hT h1 i4 i5 q1 hg hc n' (x + 1) (by omega) (fun i hi => by
        by_cases ei : i = x
        · rw [ei]; exact c4
        · exact ha i (by omega))
      refine ⟨y, y1, y2, ?_⟩
      rw [r1, ← y3, e_219_32]
      rw [c4] at e79
      have ho := r3 c4
      subst ho
      rw [oI_lt (isS_lt c4)] at e79 ⊢
      have ea : 9 * g + x + 1 = g * 9 + (x + 1) := by omega
      simp (disch := first | assumption | omega) [k_St, n_St, i_St, j_St, r_St, wI_St, wJ_St, k_S0, n_S0, i_S0, j_S0, r_S0, wI_S0, wJ_S0, cI_s, cJ_s, cV_s, nR_s, nQ_s, nQ_n, lt_s_, gd_T, gd_t, Option.map_some, lits, neg_mI, nI_add, pk_mul, nI_clamp, nI_eq, nI_leI, nI_ltI, nm_eq, mn_eq, nm_lt, mn_lt, nm_le, mn_le, m_eq, bI_0, bI_1, m0, m4, fk, fr16, fk5, fn5, e79, ea]
      rfl
    · have c4' : isS F (wy T s c (x + 1)) = false := by simpa using c4
      have ht : wyO T F s c (tLn T m s) = false := by
        unfold wyO
        rw [anyB_m (show x < tLn T m s by omega) (by simp [c4'])]; rfl
      refine ⟨x, by omega, fun h => by rw [ht] at h; exact absurd h (by decide), ?_⟩
      rw [r1, e_219_32, ht]
      rw [c4'] at e79
      simp (disch := first | assumption | omega) [k_St, n_St, i_St, j_St, r_St, wI_St, wJ_St, k_S0, n_S0, i_S0, j_S0, r_S0, wI_S0, wJ_S0, cI_s, cJ_s, cV_s, nR_s, nQ_s, nQ_n, lt_s_, gd_T, gd_t, Option.map_some, lits, neg_mI, nI_add, pk_mul, nI_clamp, nI_eq, nI_leI, nI_ltI, nm_eq, mn_eq, nm_lt, mn_lt, nm_le, mn_le, m_eq, bI_0, bI_1, m0, m4, fk, e79] <;> rfl
theorem d_219 {c g : Nat} (hM : Rm K N R f) (h7 : ∀ k, k < m → T k < 256) (hn : FCn F) (hb : ∀ c, c < 64 → F 1 c ≤ 3) (h : MOk I J f T m F w r G s) (h1 : tK T m s = 1) (hg : g < 4) (hc : isS F c = true) : ∃ y, y ≤ tLn T m s ∧ (wyO T F s c (tLn T m s) = true → y = tLn T m s) ∧ Ca lx 219 [.ref (z + 132), .int (nI g), .int (nI c)] (St z E n K N R I J) = some (some (.int (bI (wyO T F s c (tLn T m s)))), St z E n K N R (wyI I f T s c g y) J) := by
  obtain ⟨y, y1, y2, y3⟩ := d_219a (lx := lx) (z := z) (E := E) (n := n) (g := g) hM h7 hn hb h.2.1 h1 (h.2.2.1.1 4 (by decide) (by decide)) (h.2.2.1.1 5 (by decide) (by decide)) h.2.2.1.2.2.1 hg hc (0, 0) (tLn T m s) 0 (by omega) (fun i hi => by omega)
  refine ⟨y, y1, y2, ?_⟩
  obtain ⟨m0, m1, m2, m3, m4, hf, fk, fr12, fr13, fr14, fr15, fr16, fr17, fr18, fr19, fr20, fr21, fr22, fk1, fk2, fk3, fk4, fk5, fk6, fk7, fk8, fk9, fk10, fk11, fn1, fn2, fn3, fn4, fn5, fn6, fn7, fn8, fn9, fn10, fn11⟩ := hM
  have ea : 9 * g = g * 9 + 0 := by omega
  rw [f_219, ← y3]
  simp (disch := first | assumption | omega) [k_St, n_St, i_St, j_St, r_St, wI_St, wJ_St, k_S0, n_S0, i_S0, j_S0, r_S0, wI_S0, wJ_S0, cI_s, cJ_s, cV_s, nR_s, nQ_s, nQ_n, lt_s_, gd_T, gd_t, Option.map_some, lits, neg_mI, nI_add, pk_mul, nI_clamp, nI_eq, nI_leI, nI_ltI, nm_eq, mn_eq, nm_lt, mn_lt, nm_le, mn_le, m_eq, bI_0, bI_1, m0, m4, fk, fr16, fk5, fn5, ea]
  rfl
theorem MOk_y {u c y : Nat} (h : MOk I J f T m F w r G s) (hG : OG F) (hf : 147 ≤ f) : MOk (wyI I f T u c (F 0 8) y) J f T m F w r G s := by
  obtain ⟨h1, hT, ⟨w0, w1, w2, w3, w4, w5, w6, w7⟩, h4, h5, h6⟩ := h
  have za : ∀ a, a ≠ f + 5 → wyI I f T u c (F 0 8) y a = I a := fun a ha => wyI_a ha y
  refine ⟨by rw [za 132 (by omega)]; exact h1, MTk_c hT (za 132 (by omega)) rfl, ⟨by rw [za f (by omega)]; exact w0, by rw [za f (by omega)]; exact w1, by rw [za _ (by omega)]; exact w2, by rw [za _ (by omega)]; exact w3, by rw [za _ (by omega)]; exact w4, by rw [za _ (by omega)]; exact w5, ?_, by rw [za (f + 6) (by omega), za (f + 7) (by omega), za (f + 8) (by omega)]; exact w7⟩, by rw [za f (by omega)]; exact h4, by rw [za f (by omega)]; exact h5, by rw [za (f + 10) (by omega), za (f + 11) (by omega)]; exact h6⟩
  intro g k hg hk
  have := (hG g hg).2.2.1
  rw [wyI_c, if_neg (by omega)]
  exact w6 g k hg hk
theorem MOk_g {c t d l u : Nat} (hw : ∀ k, k ≤ l → I (f + 5) (9 * F 0 8 + k) = nI (wy T u c k)) (hG : OG F) (h : MOk I J f T m F w r G s) (hf : 147 ≤ f) : MOk (u2 (u2 (u2 (u2 (u2 (u2 I (f + 10) (F 0 7 + F 0 8) (nI 1)) (f + 11) (F 0 7 + F 0 8) (nI (F 0 8))) f 10 (nI (F 0 7 + F 0 8 + 1))) (f + 3) (F 0 8) (nI d)) (f + 4) (F 0 8) (nI l)) f 8 (nI (F 0 8 + 1))) (u2 J (f + 9) (F 0 7 + F 0 8) (lN (w5 T m t))) f T m (u2 (u2 (u2 (wyF T F u c l) 3 (F 0 8) d) 4 (F 0 8) l) 0 8 (F 0 8 + 1)) w r (nmG F G 1 t (F 0 8)) s := by
  obtain ⟨h1, hT, ⟨w0, w1, w2, w3, w4, w5, w6, w7⟩, h4, hN⟩ := h
  have f0 : ∀ j, j ≠ 8 → u2 (u2 (u2 (wyF T F u c l) 3 (F 0 8) d) 4 (F 0 8) l) 0 8 (F 0 8 + 1) 0 j = F 0 j := fun j j1 => by
    rw [u2_k _ _ _ _ _ j1, u2_a _ _ _ _ _ (by decide), u2_a _ _ _ _ _ (by decide)]; simp [wyF]
  have f8 : u2 (u2 (u2 (wyF T F u c l) 3 (F 0 8) d) 4 (F 0 8) l) 0 8 (F 0 8 + 1) 0 8 = F 0 8 + 1 := u2_s _ _ _ _
  have fb : ∀ b, b ≠ 0 → b ≠ 3 → b ≠ 4 → b ≠ 5 → u2 (u2 (u2 (wyF T F u c l) 3 (F 0 8) d) 4 (F 0 8) l) 0 8 (F 0 8 + 1) b = F b := fun b b1 b2 b3 b4 => by
    rw [u2_a _ _ _ _ _ b1, u2_a _ _ _ _ _ b3, u2_a _ _ _ _ _ b2]; funext k; simp [wyF, b4]
  have g3 : ∀ g, u2 (u2 (u2 (wyF T F u c l) 3 (F 0 8) d) 4 (F 0 8) l) 0 8 (F 0 8 + 1) 3 g = if g = F 0 8 then d else F 3 g := fun g => by
    rw [u2_a _ _ _ _ _ (by decide), u2_a _ _ _ _ _ (by decide)]
    by_cases e : g = F 0 8
    · rw [e, u2_s, if_pos rfl]
    · rw [u2_k _ _ _ _ _ e, if_neg e]; simp [wyF]
  have g4 : ∀ g, u2 (u2 (u2 (wyF T F u c l) 3 (F 0 8) d) 4 (F 0 8) l) 0 8 (F 0 8 + 1) 4 g = if g = F 0 8 then l else F 4 g := fun g => by
    rw [u2_a _ _ _ _ _ (by decide)]
    by_cases e : g = F 0 8
    · rw [e, u2_s, if_pos rfl]
    · rw [u2_k _ _ _ _ _ e, u2_a _ _ _ _ _ (by decide), if_neg e]; simp [wyF]
  have g5 : ∀ k, u2 (u2 (u2 (wyF T F u c l) 3 (F 0 8) d) 4 (F 0 8) l) 0 8 (F 0 8 + 1) 5 k = if F 0 8 * 9 ≤ k ∧ k ≤ F 0 8 * 9 + l then wy T u c (k - F 0 8 * 9) else F 5 k := fun k => by
    rw [u2_a _ _ _ _ _ (by decide), u2_a _ _ _ _ _ (by decide), u2_a _ _ _ _ _ (by decide)]; simp [wyF]
  generalize hI1 : u2 (u2 (u2 (u2 (u2 (u2 I (f + 10) (F 0 7 + F 0 8) (nI 1)) (f + 11) (F 0 7 + F 0 8) (nI (F 0 8))) f 10 (nI (F 0 7 + F 0 8 + 1))) (f + 3) (F 0 8) (nI d)) (f + 4) (F 0 8) (nI l)) f 8 (nI (F 0 8 + 1)) = I1
  have i1 : ∀ a, a ≠ f → a ≠ f + 3 → a ≠ f + 4 → a ≠ f + 10 → a ≠ f + 11 → I1 a = I a := fun a a1 a2 a3 a4 a5 => by
    rw [← hI1, u2_a _ _ _ _ _ a1, u2_a _ _ _ _ _ a3, u2_a _ _ _ _ _ a2, u2_a _ _ _ _ _ a1, u2_a _ _ _ _ _ a5, u2_a _ _ _ _ _ a4]
  have if0 : ∀ j, j ≠ 8 → j ≠ 10 → I1 f j = I f j := fun j j1 j2 => by rw [← hI1]; simp (disch := first | assumption | omega) [u2_s, u2_a, u2_k]
  have i8 : I1 f 8 = nI (F 0 8 + 1) := by rw [← hI1]; simp (disch := first | assumption | omega) [u2_s, u2_a, u2_k]
  have i10 : I1 f 10 = nI (F 0 7 + F 0 8 + 1) := by rw [← hI1]; simp (disch := first | assumption | omega) [u2_s, u2_a, u2_k]
  have i3 : ∀ g, I1 (f + 3) g = if g = F 0 8 then nI d else I (f + 3) g := fun g => by
    rw [← hI1]
    by_cases e : g = F 0 8
    · rw [if_pos e, e]; simp (disch := first | assumption | omega) [u2_s, u2_a, u2_k]
    · rw [if_neg e]; simp (disch := first | assumption | omega) [u2_s, u2_a, u2_k]
  have i4 : ∀ g, I1 (f + 4) g = if g = F 0 8 then nI l else I (f + 4) g := fun g => by
    rw [← hI1]
    by_cases e : g = F 0 8
    · rw [if_pos e, e]; simp (disch := first | assumption | omega) [u2_s, u2_a, u2_k]
    · rw [if_neg e]; simp (disch := first | assumption | omega) [u2_s, u2_a, u2_k]
  have iA : ∀ k, I1 (f + 10) k = u2 I (f + 10) (F 0 7 + F 0 8) (nI 1) (f + 10) k := fun k => by
    rw [← hI1, u2_a _ f 8 _ _ (by omega), u2_a _ (f + 4) _ _ _ (by omega), u2_a _ (f + 3) _ _ _ (by omega), u2_a _ f 10 _ _ (by omega), u2_a _ (f + 11) _ _ _ (by omega)]
  have iB : ∀ k, I1 (f + 11) k = u2 I (f + 11) (F 0 7 + F 0 8) (nI (F 0 8)) (f + 11) k := fun k => by
    rw [← hI1, u2_a _ f 8 _ _ (by omega), u2_a _ (f + 4) _ _ _ (by omega), u2_a _ (f + 3) _ _ _ (by omega), u2_a _ f 10 _ _ (by omega)]
    unfold u2
    simp
  have a1 := i1 132 (by omega) (by omega) (by omega) (by omega) (by omega)
  refine ⟨by rw [a1]; exact h1, MTk_c hT a1 (u2_a _ _ _ _ _ (by omega)), ⟨?_, by rw [if0 6 (by decide) (by decide), f0 6 (by decide)]; exact w1, ?_, ?_, ?_, ?_, ?_, ?_⟩, by rw [if0 11 (by decide) (by decide)]; exact h4, ?_⟩
  · intro j j1 j2
    by_cases j8 : j = 8
    · rw [j8, i8, f8]
    · rw [if0 j j8 (by omega), f0 j j8]; exact w0 j j1 j2
  · rw [i1 _ (by omega) (by omega) (by omega) (by omega) (by omega), fb 1 (by decide) (by decide) (by decide) (by decide)]; exact w2
  · rw [f0 7 (by decide), fb 2 (by decide) (by decide) (by decide) (by decide), i1 _ (by omega) (by omega) (by omega) (by omega) (by omega)]; exact w3
  · intro g hg
    rw [f8] at hg
    rw [i3, g3]
    by_cases e : g = F 0 8
    · rw [if_pos e, if_pos e]
    · rw [if_neg e, if_neg e]; exact w4 g (by omega)
  · intro g hg
    rw [f8] at hg
    rw [i4, g4]
    by_cases e : g = F 0 8
    · rw [if_pos e, if_pos e]
    · rw [if_neg e, if_neg e]; exact w5 g (by omega)
  · intro g k hg hk
    rw [f8] at hg
    rw [g4] at hk
    rw [i1 _ (by omega) (by omega) (by omega) (by omega) (by omega), g5]
    by_cases e : g = F 0 8
    · rw [if_pos e] at hk
      rw [e, if_pos (by omega), show F 0 8 * 9 + k - F 0 8 * 9 = k by omega]; exact hw k hk
    · rw [if_neg e] at hk
      have := (hG g (by omega)).2.2.1
      rw [if_neg (by omega)]; exact w6 g k (by omega) hk
  · rw [f0 9 (by decide), fb 6 (by decide) (by decide) (by decide) (by decide), fb 7 (by decide) (by decide) (by decide) (by decide), fb 8 (by decide) (by decide) (by decide) (by decide), i1 (f + 6) (by omega) (by omega) (by omega) (by omega) (by omega), i1 (f + 7) (by omega) (by omega) (by omega) (by omega) (by omega), i1 (f + 8) (by omega) (by omega) (by omega) (by omega) (by omega)]; exact w7
  · rw [f8, f0 7 (by decide), ← Nat.add_assoc]
    exact MN_a (by decide) hN i10 iA iB
def pSe (T : Nat → Nat) (m s : Nat) : Exc Nat := if isW T m s 11 || isW T m s 10 then .ok s else .error (1, s)
theorem pSe_d : ((x.bind (pSe T m)).bind fun s => .ok (adv T m s)) = (x.bind (pSd T m)).map Prod.snd := by
  cases x with
  | error v => rfl
  | ok s =>
    rw [eb_o, eb_o]
    unfold pSe pSd
    cases isW T m s 11 <;> cases isW T m s 10 <;> rfl
theorem w10_11 (h : isW T m s 10 = true) : isW T m s 11 = false := by
  cases h2 : isW T m s 11 with
  | false => rfl
  | true =>
    have a := (isW_t.mp h).2.1
    have b := (isW_t.mp h2).2.1
    rw [a] at b
    exact absurd b (by decide)
theorem t_220 (hM : Rm K N R f) (hE : EOk E) (hn : FCn F) (h : MS I J f T m F w r G x) (y : Int64) : ∃ (o : Bool) (I' : Nat → Nat → Int32), (gd (aK (St z E n K N R I J) (z + 132) = 11) (cI (Ca lx 198 [.ref (z + 132), .ref (aG (St z E n K N R I J) 10)] (St z E n K N R I J)) fun x6 S5 => (if x6 = 0 then gd (aK S5 (z + 132) = 11) (cI (Ca lx 198 [.ref (z + 132), .ref (aG S5 11)] S5) fun x8 S7 => (if x8 = 0 then gd (aK S7 (z + 132) = 11) (cV (Ca lx 197 [.ref (z + 132), .int 1] S7) fun S9 => Am lx 220 23 [some (.ref (z + 132)), some (.long y), none, some (.int x6), none, none, none] [] (0, 0) S9) else Am lx 220 23 [some (.ref (z + 132)), some (.long y), none, some (.int x6), none, none, none] [] (0, 0) S7)) else Am lx 220 23 [some (.ref (z + 132)), some (.long y), none, some (.int x6), none, none, none] [] (0, 0) S5))) = Am lx 220 23 [some (.ref (z + 132)), some (.long y), none, some (.int (bI o)), none, none, none] [] (0, 0) (St z E n K N R I' J) ∧ MS I' J f T m F w r G (x.bind (pSe T m)) ∧ MF f I I' J J ∧ (∀ a, x.bind (pSd T m) = .ok a → (if o then 0 else 1) = a.1) := by
  have m0 := hM.1
  cases x with
  | error v =>
    have h' : MBd I f v.1 v.2 := h
    have e1 := fun a => b_198 (lx := lx) (z := z) (E := E) (n := n) (J := J) hM h' a
    have e2 := b_197 (lx := lx) (z := z) (E := E) (n := n) (J := J) hM h' (nI 1)
    refine ⟨false, I, ?_, h, MF_r, fun a e => by rw [eb_e] at e; simp at e⟩
    simp (disch := first | assumption | omega) [k_St, n_St, i_St, j_St, r_St, wI_St, wJ_St, k_S0, n_S0, i_S0, j_S0, r_S0, wI_S0, wJ_S0, cI_s, cJ_s, cV_s, nR_s, nQ_s, nQ_n, lt_s_, gd_T, gd_t, Option.map_some, lits, neg_mI, nI_add, pk_mul, nI_clamp, nI_eq, nI_leI, nI_ltI, nm_eq, mn_eq, nm_lt, mn_lt, nm_le, mn_le, m_eq, bI_0, bI_1, m0, e1, e2]
  | ok s =>
    have h' : MOk I J f T m F w r G s := h
    have e0 := d_198 (lx := lx) (z := z) (n := n) hM hE (show 10 < 12 by decide) h'.2.1
    have e1 := d_198 (lx := lx) (z := z) (n := n) hM hE (show 11 < 12 by decide) h'.2.1
    rw [eb_o, eb_o]
    unfold pSe pSd
    by_cases c0 : isW T m s 10 = true
    · have c1 := w10_11 c0
      rw [c0] at e0
      refine ⟨true, I, ?_, by rw [c0, c1]; exact h', MF_r, fun a e => by rw [c0, c1] at e; simp at e; rw [← e]; rfl⟩
      simp (disch := first | assumption | omega) [k_St, n_St, i_St, j_St, r_St, wI_St, wJ_St, k_S0, n_S0, i_S0, j_S0, r_S0, wI_S0, wJ_S0, cI_s, cJ_s, cV_s, nR_s, nQ_s, nQ_n, lt_s_, gd_T, gd_t, Option.map_some, lits, neg_mI, nI_add, pk_mul, nI_clamp, nI_eq, nI_leI, nI_ltI, nm_eq, mn_eq, nm_lt, mn_lt, nm_le, mn_le, m_eq, bI_0, bI_1, g_St, m0, e0]
    · have c0' : isW T m s 10 = false := by simpa using c0
      rw [c0'] at e0
      by_cases c1 : isW T m s 11 = true
      · rw [c1] at e1
        refine ⟨false, I, ?_, by rw [c0', c1]; exact h', MF_r, fun a e => by rw [c1] at e; simp at e; rw [← e]; rfl⟩
        simp (disch := first | assumption | omega) [k_St, n_St, i_St, j_St, r_St, wI_St, wJ_St, k_S0, n_S0, i_S0, j_S0, r_S0, wI_S0, wJ_S0, cI_s, cJ_s, cV_s, nR_s, nQ_s, nQ_n, lt_s_, gd_T, gd_t, Option.map_some, lits, neg_mI, nI_add, pk_mul, nI_clamp, nI_eq, nI_leI, nI_ltI, nm_eq, mn_eq, nm_lt, mn_lt, nm_le, mn_le, m_eq, bI_0, bI_1, g_St, m0, e0, e1]
      · have c1' : isW T m s 11 = false := by simpa using c1
        rw [c1'] at e1
        obtain ⟨I1, g1, g2, g3⟩ := kk_197 (lx := lx) (z := z) (E := E) (n := n) (e := 1) hM h' hn (by decide) (by decide)
        refine ⟨false, I1, ?_, by rw [c0', c1']; exact g2, g3, fun a e => by rw [c0', c1'] at e; simp at e⟩
        simp (disch := first | assumption | omega) [k_St, n_St, i_St, j_St, r_St, wI_St, wJ_St, k_S0, n_S0, i_S0, j_S0, r_S0, wI_S0, wJ_S0, cI_s, cJ_s, cV_s, nR_s, nQ_s, nQ_n, lt_s_, gd_T, gd_t, Option.map_some, lits, neg_mI, nI_add, pk_mul, nI_clamp, nI_eq, nI_leI, nI_ltI, nm_eq, mn_eq, nm_lt, mn_lt, nm_le, mn_le, m_eq, bI_0, bI_1, g_St, m0, e0, e1, g1]
theorem b_220 (hM : Rm K N R f) (h : MBd I f e q) (y : Int64) (o g : Int32) (b : aB) : Am lx 220 49 [some (.ref (z + 132)), some (.long y), none, some (.int o), none, some (.int g), none] [] b (St z E n K N R I J) = some (none, (St z E n K N R I J)) := by
  have m0 := hM.1
  have h9 := h.2.2.1
  have e6 := b_196 (lx := lx) (z := z) (E := E) (n := n) (J := J) hM h
  rw [e_220_49]
  simp (disch := first | assumption | omega) [k_St, n_St, i_St, j_St, r_St, wI_St, wJ_St, k_S0, n_S0, i_S0, j_S0, r_S0, wI_S0, wJ_S0, cI_s, cJ_s, cV_s, nR_s, nQ_s, nQ_n, lt_s_, gd_T, gd_t, Option.map_some, lits, neg_mI, nI_add, pk_mul, nI_clamp, nI_eq, nI_leI, nI_ltI, nm_eq, mn_eq, nm_lt, mn_lt, nm_le, mn_le, m_eq, bI_0, bI_1, m0, e6, h9]
end RM8
