section RM7
variable {z : Nat} {E : aEt} {n : Nat} {K N : Nat → Nat} {R : Nat → Nat → Option Nat} {I : Nat → Nat → Int32} {J : Nat → Nat → Int64} {lx : List Value → aH → aO} {f s q m e : Nat} {T : Nat → Nat} {F G : Nat → Nat → Nat} {w r : Bool} {x : Exc Nat}
theorem so_5 (h : MOk I J f T m F w r G s) : ¬ I 132 9 = nI 5 := by
  have lk := tK_le T m s
  rw [h.2.1.2.1, nI_eq (by unfold srt; split <;> omega) (by decide)]
  unfold srt; split <;> omega
theorem MOk_6 {c : Nat} (h : MOk I J f T m F w r G s) (hf : 147 ≤ f) : MOk (u2 I f 6 (nI c)) J f T m (u2 F 0 6 c) true r G s := by
  obtain ⟨h1, hT, ⟨w0, w1, w2⟩, h4, h5, h6⟩ := h
  have a1 : u2 I f 6 (nI c) 132 = I 132 := u2_a _ _ _ _ _ (by omega)
  have f0 : ∀ j, j ≠ 6 → u2 F 0 6 c 0 j = F 0 j := fun j hj => u2_k _ _ _ _ _ hj
  have fb : ∀ b, b ≠ 0 → u2 F 0 6 c b = F b := fun b hb => u2_a _ _ _ _ _ hb
  refine ⟨by rw [a1]; exact h1, MTk_c hT a1 rfl, ⟨fun i i1 i2 => by rw [u2_k _ _ _ _ _ i2, f0 i i2]; exact w0 i i1 i2, by rw [u2_s, u2_s]; rfl, ?_⟩, by rw [u2_k _ _ _ _ _ (by decide)]; exact h4, ?_⟩
  · rw [u2_a _ _ _ (f + 1) _ (by omega), u2_a _ _ _ (f + 2) _ (by omega), u2_a _ _ _ (f + 3) _ (by omega), u2_a _ _ _ (f + 4) _ (by omega), u2_a _ _ _ (f + 5) _ (by omega), u2_a _ _ _ (f + 6) _ (by omega), u2_a _ _ _ (f + 7) _ (by omega), u2_a _ _ _ (f + 8) _ (by omega), f0 7 (by decide), f0 8 (by decide), f0 9 (by decide), fb 1 (by decide), fb 2 (by decide), fb 3 (by decide), fb 4 (by decide), fb 5 (by decide), fb 6 (by decide), fb 7 (by decide), fb 8 (by decide)]; exact w2
  · unfold MNm
    rw [u2_k _ _ _ _ _ (by decide), u2_a _ _ _ (f + 10) _ (by omega), u2_a _ _ _ (f + 11) _ (by omega), f0 7 (by decide), f0 8 (by decide)]; exact ⟨h5, h6⟩
theorem lc_er {c C : Nat} (h : ¬ 2 ≤ F 0 5) (x : Exc Nat) : ∃ v, x.bind (pLc T m c C F) = .error v := by
  cases x with
  | error v => exact ⟨v, rfl⟩
  | ok s =>
    rw [eb_o]
    unfold pLc
    by_cases hc : C ≤ c
    · exact ⟨_, by rw [if_pos hc]⟩
    · exact ⟨(6, s), by rw [if_neg hc]; unfold pLB; rw [if_pos (by omega)]⟩
theorem d_216 (hM : Rm K N R f) (hB : MB I T m) (hn : FCn F) (h1 : ∀ c, c < 64 → F 1 c ≤ 3) (h45 : 0 < F 0 5 → 2 ≤ F 0 4) (hw : w = true → F 0 6 < 64) (ks : tK T m s = 1) (h : MOk I J f T m F w r G s) : ∃ I' J', Ca lx 216 [.ref (z + 132)] (St z E n K N R I J) = some (none, St z E n K N R I' J') ∧ MLn I' J' f T m ((pWl T m F w s).bind fun a => .ok (a.2, a.1, true, true, G)) ∧ MF f I I' J J' := by
  have hM' := hM
  obtain ⟨m0, m1, m2, m3, m4, hf, fk, fr12, fr13, fr14, fr15, fr16, fr17, fr18, fr19, fr20, fr21, fr22, fk1, fk2, fk3, fk4, fk5, fk6, fk7, fk8, fk9, fk10, fk11, fn1, fn2, fn3, fn4, fn5, fn6, fn7, fn8, fn9, fn10, fn11⟩ := hM
  have i6 := h.2.2.1.2.1
  obtain ⟨I0, e0, h0, f0⟩ : ∃ I0, Ca lx 216 [.ref (z + 132)] (St z E n K N R I J) = Am lx 216 9 [some (.ref (z + 132)), none] [] (0, 0) (St z E n K N R I0 J) ∧ MS I0 J f T m F w r G (if w then .error (3, s) else .ok s) ∧ MF f I I0 J J := by
    cases w with
    | true =>
      obtain ⟨I1, g1, g2, g3⟩ := kk_197 (lx := lx) (z := z) (E := E) (n := n) (e := 3) hM' h hn (by decide) (by decide)
      refine ⟨I1, ?_, g2, g3⟩
      have i6' : I f 6 = nI (F 0 6) := i6
      have l6 := hw rfl
      rw [f_216]
      simp (disch := first | assumption | omega) [k_St, n_St, i_St, j_St, r_St, wI_St, wJ_St, k_S0, n_S0, i_S0, j_S0, r_S0, wI_S0, wJ_S0, cI_s, cJ_s, cV_s, nR_s, nQ_s, nQ_n, lt_s_, gd_T, gd_t, Option.map_some, lits, neg_mI, nI_add, pk_mul, nI_clamp, nI_eq, nI_leI, nI_ltI, nm_eq, mn_eq, nm_lt, mn_lt, nm_le, mn_le, m_eq, bI_0, bI_1, m0, m4, fk, i6', g1]
    | false =>
      refine ⟨I, ?_, h, MF_r⟩
      have i6' : I f 6 = mI 1 := i6
      rw [f_216]
      simp (disch := first | assumption | omega) [k_St, n_St, i_St, j_St, r_St, wI_St, wJ_St, k_S0, n_S0, i_S0, j_S0, r_S0, wI_S0, wJ_S0, cI_s, cJ_s, cV_s, nR_s, nQ_s, nQ_n, lt_s_, gd_T, gd_t, Option.map_some, lits, neg_mI, nI_add, pk_mul, nI_clamp, nI_eq, nI_leI, nI_ltI, nm_eq, mn_eq, nm_lt, mn_lt, nm_le, mn_le, m_eq, bI_0, bI_1, m0, m4, fk, i6']
  obtain ⟨I1, J1, e1, e2, e3⟩ := d_206 (lx := lx) (z := z) (E := E) (n := n) (c := 0) (C := 1) (A := nI 0) hM' (MB_f hB f0 hf) hn h0 (fun t ht => ⟨rfl, by
    cases w with
    | true => simp at ht
    | false => injection ht with ht; rw [← ht]; exact ks⟩) (by decide) (by decide)
  have f1 := MF_t f0 e3
  obtain ⟨v, I2, J2, g1, g2, g3, g4⟩ := d_209 (lx := lx) (z := z) (E := E) (n := n) hM' (MB_f hB f1 hf) hn h1 e2 (fun t ht => by
    by_cases c : 2 ≤ F 0 5
    · exact ⟨h45 (by omega), c⟩
    · obtain ⟨u, hu⟩ := lc_er (T := T) (m := m) (c := 0) (C := 1) c (if w then .error (3, s) else .ok s)
      rw [hu] at ht; simp at ht)
  have f2 := MF_t f1 g3
  have run : Ca lx 216 [.ref (z + 132)] (St z E n K N R I J) = if I2 132 9 = nI 5 then some (none, St z E n K N R I2 J2) else some (none, St z E n K N R (u2 I2 f 6 v) J2) := by
    rw [e0, e_216_9]
    simp (disch := first | assumption | omega) [k_St, n_St, i_St, j_St, r_St, wI_St, wJ_St, k_S0, n_S0, i_S0, j_S0, r_S0, wI_S0, wJ_S0, cI_s, cJ_s, cV_s, nR_s, nQ_s, nQ_n, lt_s_, gd_T, gd_t, Option.map_some, lits, neg_mI, nI_add, pk_mul, nI_clamp, nI_eq, nI_leI, nI_ltI, nm_eq, mn_eq, nm_lt, mn_lt, nm_le, mn_le, m_eq, bI_0, bI_1, m0, m4, fk, e1, g1]
  have er : ∀ u, MBd I2 f u.1 u.2 → pWl T m F w s = .error u → ∃ I' J', Ca lx 216 [.ref (z + 132)] (St z E n K N R I J) = some (none, St z E n K N R I' J') ∧ MLn I' J' f T m ((pWl T m F w s).bind fun a => .ok (a.2, a.1, true, true, G)) ∧ MF f I I' J J' := fun u hu e' =>
    ⟨I2, J2, by rw [run, if_pos hu.2.2.1], by rw [e']; exact hu, f2⟩
  cases w with
  | true =>
    rw [if_pos rfl] at g2
    exact er _ g2 (by unfold pWl; rfl)
  | false =>
    have el : (pLc T m 0 1 F s) = pLB T m F s := by unfold pLc; rw [if_neg (by decide)]
    rw [if_neg (by decide), eb_o, el] at g2 g4
    cases c1 : pLB T m F s with
    | error u => rw [c1] at g2; exact er u g2 (by unfold pWl; rw [if_neg (by decide), c1]; rfl)
    | ok s1 =>
      rw [c1, eb_o] at g2 g4
      cases c2 : pCl T m F s1 with
      | error u => rw [c2] at g2; exact er u g2 (by unfold pWl; rw [if_neg (by decide), c1, eb_o, c2]; rfl)
      | ok a =>
        rw [c2] at g2 g4
        have hv := g4 a rfl
        subst hv
        have g2' : MOk I2 J2 f T m F false true G a.2 := g2
        have ep : pWl T m F false s = .ok (u2 F 0 6 a.1, a.2) := by
          unfold pWl; rw [if_neg (by decide), c1, eb_o, c2, eb_o]
        refine ⟨u2 I2 f 6 (nI a.1), J2, by rw [run, if_neg (so_5 g2')], ?_, MF_t f2 (MF_w _ hf)⟩
        rw [ep, eb_o]
        exact MOk_6 g2' hf
/-! names -/
theorem d_208 {c : Nat} (hM : Rm K N R f) (h10 : I f 10 = nI c) (hc : c < 8) (y : Int64) (a b : Int32) : Ca lx 208 [.ref (z + 132), .long y, .int a, .int b] (St z E n K N R I J) = some (none, St z E n K N R (u2 (u2 (u2 I (f + 10) c a) (f + 11) c b) f 10 (nI (c + 1))) (u2 J (f + 9) c y)) := by
  obtain ⟨m0, m1, m2, m3, m4, hf, fk, fr12, fr13, fr14, fr15, fr16, fr17, fr18, fr19, fr20, fr21, fr22, fk1, fk2, fk3, fk4, fk5, fk6, fk7, fk8, fk9, fk10, fk11, fn1, fn2, fn3, fn4, fn5, fn6, fn7, fn8, fn9, fn10, fn11⟩ := hM
  rw [f_208]
  simp (disch := first | assumption | omega) [k_St, n_St, i_St, j_St, r_St, wI_St, wJ_St, k_S0, n_S0, i_S0, j_S0, r_S0, wI_S0, wJ_S0, cI_s, cJ_s, cV_s, nR_s, nQ_s, nQ_n, lt_s_, gd_T, gd_t, Option.map_some, lits, neg_mI, nI_add, pk_mul, nI_clamp, nI_eq, nI_leI, nI_ltI, nm_eq, mn_eq, nm_lt, mn_lt, nm_le, mn_le, m_eq, bI_0, bI_1, m0, m4, fk, fr20, fr21, fr22, fk9, fk10, fk11, fn9, fn10, fn11, h10, u2_s, u2_a, u2_k]
theorem MN_a {a t c : Nat} {I1 : Nat → Nat → Int32} (ha : a < 2) (hI : MNm I J f T m (F 0 7 + F 0 8) G) (e10 : I1 f 10 = nI (F 0 7 + F 0 8 + 1)) (eA : ∀ k, I1 (f + 10) k = u2 I (f + 10) (F 0 7 + F 0 8) (nI a) (f + 10) k) (eB : ∀ k, I1 (f + 11) k = u2 I (f + 11) (F 0 7 + F 0 8) (nI c) (f + 11) k) : MNm I1 (u2 J (f + 9) (F 0 7 + F 0 8) (lN (w5 T m t))) f T m (F 0 7 + F 0 8 + 1) (nmG F G a t c) := by
  refine ⟨e10, fun k hk => ?_⟩
  obtain ⟨g2, g3, g4⟩ := nmG_2 (F := F) (G := G) (s := t) (n := c) ha k
  rw [g2, g3, g4, eA, eB]
  by_cases e : k = F 0 7 + F 0 8
  · rw [if_pos e, if_pos e, if_pos e, e, u2_s, u2_s, u2_s]; exact ⟨rfl, rfl, rfl⟩
  · rw [if_neg e, if_neg e, if_neg e, u2_k _ _ _ _ _ e, u2_k _ _ _ _ _ e, u2_k _ _ _ _ _ e]; exact hI.2 k (by omega)
theorem MOk_d {c t : Nat} (h : MOk I J f T m F w r G s) (hf : 147 ≤ f) : MOk (u2 (u2 (u2 (u2 (u2 I (f + 10) (F 0 7 + F 0 8) (nI 0)) (f + 11) (F 0 7 + F 0 8) (nI (F 0 7))) f 10 (nI (F 0 7 + F 0 8 + 1))) (f + 2) (F 0 7) (nI c)) f 7 (nI (F 0 7 + 1))) (u2 J (f + 9) (F 0 7 + F 0 8) (lN (w5 T m t))) f T m (u2 (u2 F 2 (F 0 7) c) 0 7 (F 0 7 + 1)) w r (nmG F G 0 t (F 0 7)) s := by
  obtain ⟨h1, hT, ⟨w0, w1, w2, w3, w4, w5, w6, w7⟩, h4, hN⟩ := h
  have f0 : ∀ j, j ≠ 7 → u2 (u2 F 2 (F 0 7) c) 0 7 (F 0 7 + 1) 0 j = F 0 j := fun j j1 => by
    rw [u2_k _ _ _ _ _ j1, u2_a _ _ _ _ _ (by decide)]
  have f7 : u2 (u2 F 2 (F 0 7) c) 0 7 (F 0 7 + 1) 0 7 = F 0 7 + 1 := u2_s _ _ _ _
  have fb : ∀ b, b ≠ 0 → b ≠ 2 → u2 (u2 F 2 (F 0 7) c) 0 7 (F 0 7 + 1) b = F b := fun b b1 b2 => by
    rw [u2_a _ _ _ _ _ b1, u2_a _ _ _ _ _ b2]
  have f2 : ∀ d, u2 (u2 F 2 (F 0 7) c) 0 7 (F 0 7 + 1) 2 d = if d = F 0 7 then c else F 2 d := fun d => by
    rw [u2_a _ _ _ _ _ (by decide)]
    by_cases e : d = F 0 7
    · rw [e, u2_s, if_pos rfl]
    · rw [u2_k _ _ _ _ _ e, if_neg e]
  generalize hI1 : u2 (u2 (u2 (u2 (u2 I (f + 10) (F 0 7 + F 0 8) (nI 0)) (f + 11) (F 0 7 + F 0 8) (nI (F 0 7))) f 10 (nI (F 0 7 + F 0 8 + 1))) (f + 2) (F 0 7) (nI c)) f 7 (nI (F 0 7 + 1)) = I1
  have i1 : ∀ a, a ≠ f → a ≠ f + 2 → a ≠ f + 10 → a ≠ f + 11 → I1 a = I a := fun a a1 a2 a3 a4 => by
    rw [← hI1, u2_a _ _ _ _ _ a1, u2_a _ _ _ _ _ a2, u2_a _ _ _ _ _ a1, u2_a _ _ _ _ _ a4, u2_a _ _ _ _ _ a3]
  have if0 : ∀ j, j ≠ 7 → j ≠ 10 → I1 f j = I f j := fun j j1 j2 => by rw [← hI1]; simp (disch := first | assumption | omega) [u2_s, u2_a, u2_k]
  have i7 : I1 f 7 = nI (F 0 7 + 1) := by rw [← hI1]; simp (disch := first | assumption | omega) [u2_s, u2_a, u2_k]
  have i10 : I1 f 10 = nI (F 0 7 + F 0 8 + 1) := by rw [← hI1]; simp (disch := first | assumption | omega) [u2_s, u2_a, u2_k]
  have i2 : ∀ d, I1 (f + 2) d = if d = F 0 7 then nI c else I (f + 2) d := fun d => by
    rw [← hI1]
    by_cases e : d = F 0 7
    · rw [if_pos e, e]; simp (disch := first | assumption | omega) [u2_s, u2_a, u2_k]
    · rw [if_neg e]; simp (disch := first | assumption | omega) [u2_s, u2_a, u2_k]
  have iA : ∀ k, I1 (f + 10) k = u2 I (f + 10) (F 0 7 + F 0 8) (nI 0) (f + 10) k := fun k => by
    rw [← hI1, u2_a _ _ _ _ _ (by omega), u2_a _ _ _ _ _ (by omega), u2_a _ _ _ _ _ (by omega), u2_a _ _ _ _ _ (by omega)]
  have iB : ∀ k, I1 (f + 11) k = u2 I (f + 11) (F 0 7 + F 0 8) (nI (F 0 7)) (f + 11) k := fun k => by
    rw [← hI1, u2_a _ f 7 _ _ (by omega), u2_a _ (f + 2) _ _ _ (by omega), u2_a _ f 10 _ _ (by omega)]
    unfold u2
    simp
  have a1 := i1 132 (by omega) (by omega) (by omega) (by omega)
  refine ⟨by rw [a1]; exact h1, MTk_c hT a1 (u2_a _ _ _ _ _ (by omega)), ⟨?_, by rw [if0 6 (by decide) (by decide), f0 6 (by decide)]; exact w1, ?_, ?_, ?_, ?_, ?_, ?_⟩, by rw [if0 11 (by decide) (by decide)]; exact h4, ?_⟩
  · intro j j1 j2
    by_cases j7 : j = 7
    · rw [j7, i7, f7]
    · rw [if0 j j7 (by omega), f0 j j7]; exact w0 j j1 j2
  · rw [i1 _ (by omega) (by omega) (by omega) (by omega), fb 1 (by decide) (by decide)]; exact w2
  · intro d hd
    rw [f7] at hd
    rw [i2, f2]
    by_cases e : d = F 0 7
    · rw [if_pos e, if_pos e]
    · rw [if_neg e, if_neg e]; exact w3 d (by omega)
  · rw [f0 8 (by decide), fb 3 (by decide) (by decide), i1 _ (by omega) (by omega) (by omega) (by omega)]; exact w4
  · rw [f0 8 (by decide), fb 4 (by decide) (by decide), i1 _ (by omega) (by omega) (by omega) (by omega)]; exact w5
  · rw [f0 8 (by decide), fb 4 (by decide) (by decide), fb 5 (by decide) (by decide), i1 _ (by omega) (by omega) (by omega) (by omega)]; exact w6
  · rw [f0 9 (by decide), fb 6 (by decide) (by decide), fb 7 (by decide) (by decide), fb 8 (by decide) (by decide), i1 (f + 6) (by omega) (by omega) (by omega) (by omega), i1 (f + 7) (by omega) (by omega) (by omega) (by omega), i1 (f + 8) (by omega) (by omega) (by omega) (by omega)]; exact w7
  · rw [f7, f0 8 (by decide), show F 0 7 + 1 + F 0 8 = F 0 7 + F 0 8 + 1 by omega]
    exact MN_a (by decide) hN i10 iA iB
theorem d_217 (hM : Rm K N R f) (hB : MB I T m) (hE : EOk E) (hn : FCn F) (hN : NM T m (F 0 7) (F 0 8) G) (h1 : ∀ c, c < 64 → F 1 c ≤ 3) (h45 : 0 < F 0 5 → 2 ≤ F 0 4) (ks : tK T m s = 1) (h : MOk I J f T m F w r G s) : ∃ I' J', Ca lx 217 [.ref (z + 132)] (St z E n K N R I J) = some (none, St z E n K N R I' J') ∧ MLn I' J' f T m ((pDr T m F G s).bind fun a => .ok (a.2, a.1.1, w, true, a.1.2)) ∧ MF f I I' J J' := by
  have hM' := hM
  obtain ⟨m0, m1, m2, m3, m4, hf, fk, fr12, fr13, fr14, fr15, fr16, fr17, fr18, fr19, fr20, fr21, fr22, fk1, fk2, fk3, fk4, fk5, fk6, fk7, fk8, fk9, fk10, fk11, fn1, fn2, fn3, fn4, fn5, fn6, fn7, fn8, fn9, fn10, fn11⟩ := hM
  have i7 := h.2.2.1.1 7 (by decide) (by decide)
  obtain ⟨n4, n5, n7, n8, n9⟩ := id hn
  obtain ⟨I1, J1, e1, e2, e3⟩ := d_206 (lx := lx) (z := z) (E := E) (n := n) (c := F 0 7) (C := 4) (A := nI (F 0 7)) (x := .ok s) hM' hB hn h (fun t ht => ⟨rfl, by injection ht with ht; rw [← ht]; exact ks⟩) n7 (by decide)
  obtain ⟨y, I2, J2, g1, g2, g3, g4⟩ := d_207 (lx := lx) (z := z) (E := E) (n := n) hM' (MB_f hB e3 hf) hE hn hN e2
  have f2 := MF_t e3 g3
  obtain ⟨v, I3, J3, k1, k2, k3, k4⟩ := d_209 (lx := lx) (z := z) (E := E) (n := n) hM' (MB_f hB f2 hf) hn h1 g2 (fun t ht => by
    by_cases c : 2 ≤ F 0 5
    · exact ⟨h45 (by omega), c⟩
    · obtain ⟨u, hu⟩ := lc_er (T := T) (m := m) (c := F 0 7) (C := 4) c (.ok s)
      rw [hu] at ht; simp [eb_e] at ht)
  have f3 := MF_t f2 k3
  have er : ∀ u, MBd I3 f u.1 u.2 → pDr T m F G s = .error u → ∃ I' J', Ca lx 217 [.ref (z + 132)] (St z E n K N R I J) = some (none, St z E n K N R I' J') ∧ MLn I' J' f T m ((pDr T m F G s).bind fun a => .ok (a.2, a.1.1, w, true, a.1.2)) ∧ MF f I I' J J' := fun u hu e' => by
    have h9 := hu.2.2.1
    refine ⟨I3, J3, ?_, by rw [e']; exact hu, f3⟩
    rw [f_217]
    simp (disch := first | assumption | omega) [k_St, n_St, i_St, j_St, r_St, wI_St, wJ_St, k_S0, n_S0, i_S0, j_S0, r_S0, wI_S0, wJ_S0, cI_s, cJ_s, cV_s, nR_s, nQ_s, nQ_n, lt_s_, gd_T, gd_t, Option.map_some, lits, neg_mI, nI_add, pk_mul, nI_clamp, nI_eq, nI_leI, nI_ltI, nm_eq, mn_eq, nm_lt, mn_lt, nm_le, mn_le, m_eq, bI_0, bI_1, m0, m4, fk, i7, e1, g1, k1, h9]
  rw [eb_o] at k2 k4 g4
  by_cases c0 : 4 ≤ F 0 7
  · have el : pLc T m (F 0 7) 4 F s = .error (5, s) := by unfold pLc; rw [if_pos c0]
    simp only [el, eb_e, Except.map] at k2
    exact er _ k2 (by unfold pDr; rw [if_pos c0])
  · have el : pLc T m (F 0 7) 4 F s = pLB T m F s := by unfold pLc; rw [if_neg c0]
    rw [el] at k2 k4 g4
    cases c1 : pLB T m F s with
    | error u =>
      simp only [c1, eb_e, Except.map] at k2
      exact er u k2 (by unfold pDr; rw [if_neg c0, c1, eb_e])
    | ok s1 =>
      simp only [c1, eb_o] at k2 k4 g4
      cases c2 : pNm T m F G s1 with
      | error u =>
        simp only [c2, eb_e, Except.map] at k2
        exact er u k2 (by unfold pDr; rw [if_neg c0, c1, eb_o, c2, eb_e])
      | ok s2 =>
        simp only [c2, eb_o] at k2 k4
        have hy := g4 s1 s2 rfl c2
        subst hy
        cases c3 : pCl T m F s2 with
        | error u =>
          rw [c3] at k2
          exact er u k2 (by unfold pDr; rw [if_neg c0, c1, eb_o, c2, eb_o, c3, eb_e])
        | ok a =>
          rw [c3] at k2 k4
          have hv := k4 a rfl
          subst hv
          have k2' : MOk I3 J3 f T m F w true G a.2 := k2
          have s5 := so_5 k2'
          have j7 := k2'.2.2.1.1 7 (by decide) (by decide)
          have j10 := k2'.2.2.2.2.1
          have e8 := d_208 (lx := lx) (z := z) (E := E) (n := n) (J := J3) hM' j10 (by omega) (lN (w5 T m s1)) (nI 0) (nI (F 0 7))
          have ep : pDr T m F G s = .ok ((u2 (u2 F 2 (F 0 7) a.1) 0 7 (F 0 7 + 1), nmG F G 0 s1 (F 0 7)), a.2) := by
            unfold pDr; rw [if_neg c0, c1, eb_o, c2, eb_o, c3, eb_o]
          refine ⟨_, _, ?_, by rw [ep, eb_o]; exact MOk_d (c := a.1) (t := s1) k2' hf, MF_t f3 ⟨fun b b1 b2 => ?_, fun k hk => ?_, fun b b1 b2 => u2_a _ _ _ _ _ b2, fun k hk => by rw [u2_a _ _ _ _ _ (by omega)]⟩⟩
          · rw [f_217]
            simp (disch := first | assumption | omega) [k_St, n_St, i_St, j_St, r_St, wI_St, wJ_St, k_S0, n_S0, i_S0, j_S0, r_S0, wI_S0, wJ_S0, cI_s, cJ_s, cV_s, nR_s, nQ_s, nQ_n, lt_s_, gd_T, gd_t, Option.map_some, lits, neg_mI, nI_add, pk_mul, nI_clamp, nI_eq, nI_leI, nI_ltI, nm_eq, mn_eq, nm_lt, mn_lt, nm_le, mn_le, m_eq, bI_0, bI_1, m0, m4, fk, i7, e1, g1, k1, s5, j7, e8, fr13, fk2, fn2, u2_s, u2_a, u2_k]
          · rw [u2_a _ _ _ _ _ (by omega), u2_a _ _ _ _ _ (by omega), u2_a _ _ _ _ _ (by omega), u2_a _ _ _ _ _ (by omega), u2_a _ _ _ _ _ (by omega)]
          · rw [u2_a _ _ _ _ _ (by omega), u2_a _ _ _ _ _ (by omega), u2_a _ _ _ _ _ (by omega), u2_a _ _ _ _ _ (by omega), u2_a _ _ _ _ _ (by omega)]
end RM7
