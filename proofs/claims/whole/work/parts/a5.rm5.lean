section RM5
variable {z : Nat} {E : aEt} {n : Nat} {K N : Nat → Nat} {R : Nat → Nat → Option Nat} {I : Nat → Nat → Int32} {J : Nat → Nat → Int64} {lx : List Value → aH → aO} {f s q m e : Nat} {T : Nat → Nat} {F G : Nat → Nat → Nat} {w r : Bool} {x : Exc Nat}
def MLn (I : Nat → Nat → Int32) (J : Nat → Nat → Int64) (f : Nat) (T : Nat → Nat) (m : Nat) (x : Exc Sg) : Prop := match x with
  | .ok σ => MOk I J f T m σ.2.1 σ.2.2.1 σ.2.2.2.1 σ.2.2.2.2 σ.1
  | .error v => MBd I f v.1 v.2
theorem MTk_c {I1 : Nat → Nat → Int32} {J1 : Nat → Nat → Int64} (h : MTk I J T m s) (e : I1 132 = I 132) (e2 : J1 132 = J 132) : MTk I1 J1 T m s := by
  unfold MTk; rw [e, e2]; exact h
theorem MOk_w {j a : Nat} (h : MOk I J f T m F w r G s) (hf : 147 ≤ f) (hj : j < 4) : MOk (u2 I f j (nI a)) J f T m (u2 F 0 j a) w r G s := by
  obtain ⟨h1, hT, ⟨w0, w1, w2⟩, h4, h5, h6⟩ := h
  have a1 : u2 I f j (nI a) 132 = I 132 := u2_a _ _ _ _ _ (by omega)
  have f6 : u2 F 0 j a 0 6 = F 0 6 := u2_k _ _ _ _ _ (by omega)
  have f7 : u2 F 0 j a 0 7 = F 0 7 := u2_k _ _ _ _ _ (by omega)
  have f8 : u2 F 0 j a 0 8 = F 0 8 := u2_k _ _ _ _ _ (by omega)
  have f9 : u2 F 0 j a 0 9 = F 0 9 := u2_k _ _ _ _ _ (by omega)
  have fb : ∀ b, b ≠ 0 → u2 F 0 j a b = F b := fun b hb => u2_a _ _ _ _ _ hb
  refine ⟨by rw [a1]; exact h1, MTk_c hT a1 rfl, ⟨fun i i1 i2 => ?_, by rw [u2_k _ _ _ _ _ (by omega), f6]; exact w1, ?_⟩, by rw [u2_k _ _ _ _ _ (by omega)]; exact h4, ?_⟩
  · by_cases c : i = j
    · rw [c, u2_s, u2_s]
    · rw [u2_k _ _ _ _ _ c, u2_k _ _ _ _ _ c]; exact w0 i i1 i2
  · rw [u2_a _ _ _ (f + 1) _ (by omega), u2_a _ _ _ (f + 2) _ (by omega), u2_a _ _ _ (f + 3) _ (by omega), u2_a _ _ _ (f + 4) _ (by omega), u2_a _ _ _ (f + 5) _ (by omega), u2_a _ _ _ (f + 6) _ (by omega), u2_a _ _ _ (f + 7) _ (by omega), u2_a _ _ _ (f + 8) _ (by omega), f7, f8, f9, fb 1 (by decide), fb 2 (by decide), fb 3 (by decide), fb 4 (by decide), fb 5 (by decide), fb 6 (by decide), fb 7 (by decide), fb 8 (by decide)]; exact w2
  · unfold MNm
    rw [u2_k _ _ _ _ _ (by omega), u2_a _ _ _ (f + 10) _ (by omega), u2_a _ _ _ (f + 11) _ (by omega), f7, f8]; exact ⟨h5, h6⟩
theorem MF_w {j : Nat} (v : Int32) (hf : 147 ≤ f) : MF f I (u2 I f j v) J J :=
  ⟨fun a a1 a2 => u2_a _ _ _ _ _ (by omega), fun k hk => by rw [u2_a _ _ _ _ _ (by omega)], fun _ _ _ => rfl, fun _ _ => rfl⟩
theorem kk_196x (hM : Rm K N R f) (hB : MB I T m) (h : MS I J f T m F w r G x) (hk : ∀ s, x = .ok s → tK T m s = 1 ∨ tK T m s = 2 ∨ tK T m s = 3) : ∃ I' J', Ca lx 196 [.ref (z + 132)] (St z E n K N R I J) = some (none, St z E n K N R I' J') ∧ MS I' J' f T m F w r G (x.bind fun s => .ok (adv T m s)) ∧ MF f I I' J J' := by
  cases x with
  | error v => exact ⟨I, J, b_196 hM h, h, MF_r⟩
  | ok s => exact kk_196 hM hB h (hk s rfl)
theorem d_212 (hM : Rm K N R f) (hB : MB I T m) (hE : EOk E) (hn : FCn F) (h9 : 0 < F 9 0 ↔ 0 < F 0 0) (b0 : F 0 0 ≤ 14) (ks : tK T m s = 1) (h : MOk I J f T m F w r G s) : ∃ I' J', Ca lx 212 [.ref (z + 132)] (St z E n K N R I J) = some (none, St z E n K N R I' J') ∧ MLn I' J' f T m ((pFl T m F s).bind fun a => .ok (a.2, a.1, w, r, G)) ∧ MF f I I' J J' := by
  have hM' := hM
  obtain ⟨m0, m1, m2, m3, m4, hf, fk, fr12, fr13, fr14, fr15, fr16, fr17, fr18, fr19, fr20, fr21, fr22, fk1, fk2, fk3, fk4, fk5, fk6, fk7, fk8, fk9, fk10, fk11, fn1, fn2, fn3, fn4, fn5, fn6, fn7, fn8, fn9, fn10, fn11⟩ := hM
  have i0 := h.2.2.1.1 0 (by decide) (by decide)
  obtain ⟨I0, e0, h0, f0⟩ : ∃ I0, Ca lx 212 [.ref (z + 132)] (St z E n K N R I J) = Am lx 212 8 [some (.ref (z + 132)), none, none, none, none] [] (0, 0) (St z E n K N R I0 J) ∧ MS I0 J f T m F w r G (if 0 < F 9 0 then .error (3, s) else .ok s) ∧ MF f I I0 J J := by
    by_cases c : 0 < F 9 0
    · obtain ⟨I1, g1, g2, g3⟩ := kk_197 (lx := lx) (z := z) (E := E) (n := n) (e := 3) hM' h hn (by decide) (by decide)
      refine ⟨I1, ?_, by rw [if_pos c]; exact g2, g3⟩
      have c' := h9.mp c
      rw [f_212]
      simp (disch := first | assumption | omega) [k_St, n_St, i_St, j_St, r_St, wI_St, wJ_St, k_S0, n_S0, i_S0, j_S0, r_S0, wI_S0, wJ_S0, cI_s, cJ_s, cV_s, nR_s, nQ_s, nQ_n, lt_s_, gd_T, gd_t, Option.map_some, lits, neg_mI, nI_add, pk_mul, nI_clamp, nI_eq, nI_leI, nI_ltI, nm_eq, mn_eq, nm_lt, mn_lt, nm_le, mn_le, m_eq, bI_0, bI_1, m0, m4, fk, i0, if_neg, g1]
    · refine ⟨I, ?_, by rw [if_neg c]; exact h, MF_r⟩
      have c' : F 0 0 = 0 := by omega
      rw [f_212]
      simp (disch := first | assumption | omega) [k_St, n_St, i_St, j_St, r_St, wI_St, wJ_St, k_S0, n_S0, i_S0, j_S0, r_S0, wI_S0, wJ_S0, cI_s, cJ_s, cV_s, nR_s, nQ_s, nQ_n, lt_s_, gd_T, gd_t, Option.map_some, lits, neg_mI, nI_add, pk_mul, nI_clamp, nI_eq, nI_leI, nI_ltI, nm_eq, mn_eq, nm_lt, mn_lt, nm_le, mn_le, m_eq, bI_0, bI_1, m0, m4, fk, i0, c']
  obtain ⟨I1, J1, e1, e2, e3'⟩ := kk_196x (lx := lx) (z := z) (E := E) (n := n) hM' (MB_f hB f0 hf) h0 (fun t ht => by
    by_cases c : 0 < F 9 0
    · rw [if_pos c] at ht; simp at ht
    · rw [if_neg c] at ht; injection ht with ht; rw [← ht]; exact Or.inl ks)
  have e3 := MF_t f0 e3'
  obtain ⟨v1, I2, J2, g1, g2, g3, g4⟩ := d_203 (lx := lx) (z := z) (E := E) (n := n) (k := 6) (lo := 1) (hi := 14) hM' (MB_f hB e3 hf) hE (by decide) hn e2 (by decide) (by decide)
  have f2 := MF_t e3 g3
  obtain ⟨v2, I3, J3, k1, k2, k3, k4⟩ := d_203 (lx := lx) (z := z) (E := E) (n := n) (k := 7) (lo := 0) (hi := 3) hM' (MB_f hB f2 hf) hE (by decide) hn g2 (by decide) (by decide)
  have f3 := MF_t f2 k3
  obtain ⟨v3, I4, J4, l1, l2, l3, l4⟩ := d_203 (lx := lx) (z := z) (E := E) (n := n) (k := 8) (lo := 1) (hi := 9) hM' (MB_f hB f3 hf) hE (by decide) hn k2 (by decide) (by decide)
  have f4 := MF_t f3 l3
  obtain ⟨v4, I5, J5, o1, o2, o3, o4⟩ := d_203 (lx := lx) (z := z) (E := E) (n := n) (k := 9) (lo := 0) (hi := 100) hM' (MB_f hB f4 hf) hE (by decide) hn l2 (by decide) (by decide)
  have f5 := MF_t f4 o3
  have run : Ca lx 212 [.ref (z + 132)] (St z E n K N R I J) = if I5 132 9 = nI 5 then some (none, St z E n K N R I5 J5) else some (none, St z E n K N R (u2 (u2 (u2 (u2 I5 f 0 v1) f 1 v2) f 2 v3) f 3 v4) J5) := by
    rw [e0, e_212_8]
    simp (disch := first | assumption | omega) [k_St, n_St, i_St, j_St, r_St, wI_St, wJ_St, k_S0, n_S0, i_S0, j_S0, r_S0, wI_S0, wJ_S0, cI_s, cJ_s, cV_s, nR_s, nQ_s, nQ_n, lt_s_, gd_T, gd_t, Option.map_some, lits, neg_mI, nI_add, pk_mul, nI_clamp, nI_eq, nI_leI, nI_ltI, nm_eq, mn_eq, nm_lt, mn_lt, nm_le, mn_le, m_eq, bI_0, bI_1, g_St, m0, m4, fk, e1, g1, k1, l1, o1]
  have er : ∀ u, MBd I5 f u.1 u.2 → pFl T m F s = .error u → ∃ I' J', Ca lx 212 [.ref (z + 132)] (St z E n K N R I J) = some (none, St z E n K N R I' J') ∧ MLn I' J' f T m ((pFl T m F s).bind fun a => .ok (a.2, a.1, w, r, G)) ∧ MF f I I' J J' := fun u hu e' =>
    ⟨I5, J5, by rw [run, if_pos hu.2.2.1], by rw [e']; exact hu, f5⟩
  by_cases c : 0 < F 9 0
  · simp only [if_pos c, eb_e, Except.map] at o2
    exact er _ o2 (by unfold pFl; rw [if_pos c])
  · simp only [if_neg c, eb_o] at g2 g4 k2 k4 l2 l4 o2 o4
    cases c1 : pPt T m 6 1 14 (adv T m s) with
    | error u =>
      simp only [c1, eb_e, Except.map] at o2
      exact er _ o2 (by unfold pFl; rw [if_neg c, c1, eb_e])
    | ok a1 =>
      simp only [c1, eb_o, Except.map] at g2 g4 k2 k4 l2 l4 o2 o4
      cases c2 : pPt T m 7 0 3 a1.2 with
      | error u =>
        simp only [c2, eb_e, Except.map] at o2
        exact er _ o2 (by unfold pFl; rw [if_neg c, c1, eb_o, c2, eb_e])
      | ok a2 =>
        simp only [c2, eb_o, Except.map] at k2 k4 l2 l4 o2 o4
        cases c3 : pPt T m 8 1 9 a2.2 with
        | error u =>
          simp only [c3, eb_e, Except.map] at o2
          exact er _ o2 (by unfold pFl; rw [if_neg c, c1, eb_o, c2, eb_o, c3, eb_e])
        | ok a3 =>
          simp only [c3, eb_o, Except.map] at l2 l4 o2 o4
          cases c4 : pPt T m 9 0 100 a3.2 with
          | error u =>
            simp only [c4] at o2
            exact er _ o2 (by unfold pFl; rw [if_neg c, c1, eb_o, c2, eb_o, c3, eb_o, c4, eb_e])
          | ok a4 =>
            simp only [c4] at o2 o4
            have x1 := g4 a1 rfl
            have x2 := k4 a2 rfl
            have x3 := l4 a3 rfl
            have x4 := o4 a4 rfl
            subst x1 x2 x3 x4
            have ok5 : MOk I5 J5 f T m (u2 F 9 0 1) w r G a4.2 := o2
            have ep : pFl T m F s = .ok (u2 (u2 (u2 (u2 (u2 F 9 0 1) 0 0 a1.1) 0 1 a2.1) 0 2 a3.1) 0 3 a4.1, a4.2) := by
              unfold pFl; rw [if_neg c, c1, eb_o, c2, eb_o, c3, eb_o, c4, eb_o]
            have lk := tK_le T m a4.2
            have s5 : ¬ I5 132 9 = nI 5 := by
              rw [ok5.2.1.2.1, nI_eq (by unfold srt; split <;> omega) (by decide)]
              unfold srt; split <;> omega
            refine ⟨u2 (u2 (u2 (u2 I5 f 0 (nI a1.1)) f 1 (nI a2.1)) f 2 (nI a3.1)) f 3 (nI a4.1), J5, by rw [run, if_neg s5], ?_, MF_t f5 (MF_t (MF_t (MF_t (MF_w _ hf) (MF_w _ hf)) (MF_w _ hf)) (MF_w _ hf))⟩
            rw [ep, eb_o]
            exact MOk_w (MOk_w (MOk_w (MOk_w ok5 hf (by decide)) hf (by decide)) hf (by decide)) hf (by decide)
end RM5
