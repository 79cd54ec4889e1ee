section INV3
variable {z : Nat} {E : aEt} {n : Nat} {K N : Nat → Nat} {R : Nat → Nat → Option Nat} {I : Nat → Nat → Int32} {J : Nat → Nat → Int64} {lx : List Value → aH → aO} {p s f t t' hd nn m : Nat} {T : Nat → Nat} {F : Nat → Nat → Nat} {ρ : Nat → Nat} {cnt img : Nat} {H M : Nat → Nat → Nat} {I1 I2 : Nat → Nat → Int32} {J1 J2 : Nat → Nat → Int64}
theorem St_B2 {R2 : Nat → Nat → Option Nat} (h : Cm K N R I J n p s t hd T) : Bas z E (St z E nn K N R2 I1 J1) := by
  obtain ⟨h1, _, h3, ⟨h4, h5⟩, _⟩ := h
  exact ⟨e_St, by rw [k_St]; exact h1.1, by rw [k_St]; exact h3.1, by rw [k_St]; exact h4, by rw [n_St]; exact h5⟩
theorem Mo_sw (h : Mo K N R) : Mo K N (sw R p s) := by
  unfold Mo; rw [sw_a (by decide)]; exact h
theorem p_113 (hE : EOk E) (x : Int32) : OpI z E (Iv z E) (Iv z E) 113 223 [.int x] := by
  intro S hS
  obtain ⟨n, K, N, R, I, J, p, s, t, hd, T, rfl, hC, hw⟩ := hS
  obtain ⟨h1, h2, h3, h4, h5, h6, h7, h8, h9, h10, h11, h12, h13, h14, h15, h16, h17⟩ := id hC
  have hps : p = 114 ∧ s = 123 ∨ p = 123 ∧ s = 114 := h2.2.2.2.2.1
  obtain ⟨k0, r0, _, _, _, _, _, _, _, r8, r9, k1, r10, _, _, _, _, _, _, k2, _⟩ := id h1
  have m0 := h3.1
  rcases rg_i x (n := hd + 1) (by omega) with hb | ⟨m, hm, rfl⟩
  · -- it is refused
    have hlt : ¬ x < 0 → ¬ x ≤ nI hd := fun a b => by
      have a' : 0 ≤ x := Int32.not_lt.mp a
      have c : ¬ x < nI (hd + 1) := fun c => by
        unfold rg at hb
        rw [decide_eq_true ⟨a', c⟩] at hb
        exact absurd hb (by decide)
      have d := Int32.le_trans (Int32.not_lt.mp c) b
      rw [nI_leI (by omega) (by omega)] at d
      omega
    have z0 : (0 : Int32) = nI 0 := rfl
    have n2 : (2 : Int32) = nI 2 := rfl
    have e9 : Am lx_ 113 9 [some (.ref z), none, none, none] [] (0, 0) (St z E n K N R I J) = some (some (.int (mI 1)), St z E n K N R (u2 I 0 11 (nI 2)) J) := by
      rw [e_113_9]
      simp only [k_S0, k0, gd_t, n2, c_159 k0, cI_s]
    have e1 : Ca lx_ 113 [.ref z, .int x] (St z E n K N R I J) = some (some (.int (mI 1)), St z E n K N R (u2 I 0 11 (nI 2)) J) := by
      rw [f_113]
      by_cases c : x < 0
      · rw [if_pos c]; exact e9
      · rw [if_neg c]
        simp only [k_S0, k_St, r_S0, r_St, i_St, k0, k1, k2, r0, r10, gd_t, Option.map_some, nR_s, h15, if_neg (hlt c)]
        exact e9
    have e2 : Ca lx_ 223 [.ref (z + 132), .int x] (St z E n K N R (u2 I 0 11 (nI 2)) J) = some (some (.int (mI 1)), St z E n K N R (u2 (u2 (u2 (u2 I 0 11 (nI 2)) 132 0 (nI 0)) 132 1 (nI 2)) 132 2 (mI 1)) J) := by
      have e10 : Am lx_ 223 10 [some (.ref (z + 132)), none, none] [] (12, 177) (St z E n K N R (u2 (u2 I 0 11 (nI 2)) 132 0 (nI 0)) J) = some (some (.int (mI 1)), St z E n K N R (u2 (u2 (u2 (u2 I 0 11 (nI 2)) 132 0 (nI 0)) 132 1 (nI 2)) 132 2 (mI 1)) J) := by
        rw [e_223_10]
        simp only [k_St, m0, gd_t, n2, d_182 m0, cI_s]
      have q6 : u2 (u2 I 0 11 (nI 2)) 132 0 (nI 0) 132 6 = nI hd := by
        rw [u2_k _ _ _ _ _ (by decide), u2_a _ _ _ _ _ (by decide)]; exact h16
      rw [f_223]
      simp only [k_St, m0, gd_t, wI_St, lt_s_]
      by_cases c : x < 0
      · rw [if_pos c]; exact e10
      · rw [if_neg c]
        simp only [k_St, m0, gd_t, i_St, z0, q6, if_neg (hlt c)]
        exact e10
    obtain ⟨nxt, x1, x2⟩ := h7
    refine ⟨mI 1, _, _, e1, St_B hC, e2, n, K, N, R, _, J, p, s, 2, hd, T, rfl, Cm_T hC CX_u MX_u (by decide) (by decide) ⟨nxt, x1, by rw [u2_a _ _ _ _ _ (by decide)]; exact x2⟩, ?_⟩
    rcases hw with ⟨f, F, ρ, cnt, img, H, M, c1, c2, c3, c4⟩ | hu
    · left
      refine Tw_T hC CX_u MX_u (CT_0 c1 _) c2 (MT_e c3 h3 c3.1.1.2.1 c3.1.1.2.2.1 (fun a a1 a2 a3 => ?_) ?_ ?_) c4
      · simp (disch := first | assumption | omega) [u2_s, u2_a, u2_k]
      · simp (disch := first | assumption | omega) [u2_s, u2_a, u2_k]
      · simp (disch := first | assumption | omega) [u2_s, u2_a, u2_k]
    · right
      refine Uw_e hu (by omega) (by omega) ?_ (fun a a1 a2 a3 => ?_) (by omega)
      · simp (disch := first | assumption | omega) [u2_s, u2_a, u2_k]
      · simp (disch := first | assumption | omega) [u2_s, u2_a, u2_k]
  · have hCB : CB I T m := ⟨by omega, fun k hk => ⟨(h17 k (by omega)).1, (h17 k (by omega)).2.1⟩⟩
    have hR := Rd_of (p := s) (s := p) h1 h2
    obtain ⟨I1, J1, e1, e2, e3, e4⟩ := c_113h (lx := lx_) (z := z) (E := E) (n := n) (J := J) hR hE hCB k0 r0 r9 h15 (by omega) h14
    cases hx : pAl T m 701 (tsk T m 0, Z00, false, false, Z00) with
    | error v =>
      rw [hx] at e2
      have cb : CBd I1 s T m v.1 v.2 := e2
      obtain ⟨b1, b2, b3, b4, b5, _⟩ := cb
      have eC : Ca lx_ 113 [.ref z, .int (nI m)] (St z E n K N R I J) = some (some (.int (mI 1)), St z E n K N (u2 R 1 3 (some s)) (u2 I1 0 11 (nI 4)) J1) := by
        have t0 : u2 R 1 3 (some s) 0 0 = some 1 := by rw [u2_a _ _ _ _ _ (by decide)]; exact r0
        rw [e1, e_113_36]
        simp (disch := first | assumption | omega) [k_St, n_St, i_St, j_St, r_St, wI_St, wJ_St, k_S0, n_S0, i_S0, j_S0, r_S0, wI_S0, wJ_S0, cI_s, cJ_s, cV_s, nR_s, nQ_s, nQ_n, lt_s_, gd_T, gd_t, Option.map_some, lits, neg_mI, nI_add, pk_mul, nI_clamp, nI_eq, nI_leI, nI_ltI, nm_eq, mn_eq, nm_lt, mn_lt, nm_le, mn_le, m_eq, bI_0, bI_1, k0, k1, t0, b3, if_neg, c_159 k0]
      have rr : ∀ a, a ≠ 1 → a ≠ 2 → ¬ (s ≤ a ∧ a ≤ s + 8) → a ≠ 0 → u2 I1 0 11 (nI 4) a = I a := fun a x1 x2 x3 x4 => by
        rw [u2_a _ _ _ _ _ x4]; exact e3 a x1 x2 x3
      have mo1 : Mo K N (u2 R 1 3 (some s)) := by unfold Mo; rw [u2_a _ _ _ _ _ (by decide)]; exact h3
      have fr1 : Fr n (u2 R 1 3 (some s)) (u2 I1 0 11 (nI 4)) J1 := fun a ha => by
        obtain ⟨y1, y2, y3⟩ := h6 a ha
        exact ⟨by rw [u2_a _ _ _ _ _ (by omega)]; exact y1, by rw [rr a (by omega) (by omega) (by omega) (by omega)]; exact y2, by rw [e4 a (by omega) (by omega) (by omega)]; exact y3⟩
      obtain ⟨K', N', R', I', J', d1, d2, d3, d4⟩ := d_223 (lx := lx_) (z := z) (E := E) (n := n) (T := T) (m := m) (hd := hd) mo1 fr1 h5 hE (by rw [rr 132 (by omega) (by omega) (by omega) (by omega)]; exact h16) (by omega) h14 (fun k hk => ⟨(h17 k (by omega)).1, by rw [rr 133 (by omega) (by omega) (by omega) (by omega)]; exact (h17 k (by omega)).2.2⟩)
      rw [hx] at d2
      have mb : MBd I' n v.1 v.2 := d2
      obtain ⟨y1, y2, y3, y4, y5, _⟩ := mb
      obtain ⟨f1, f2, f3, f4, f5, f6, f7⟩ := d4
      have eM : Ca lx_ 223 [.ref (z + 132), .int (nI m)] (St z E n K N (u2 R 1 3 (some s)) (u2 I1 0 11 (nI 4)) J1) = some (some (.int (mI 1)), St z E (n + 12) K' N' R' (u2 (u2 I' 132 1 (nI 4)) 132 2 (I' 132 13)) J') := by
        rw [d1, y4, if_neg]
        rw [show (0 : Int32) = nI 0 from rfl, nI_leI (by omega) (by decide)]; omega
      have kr : KR n K K' N N' R R' := ⟨f1, fun a a1 a2 a3 => by rw [(f2 a a1 a3).1, u2_a _ _ _ _ _ a2], fun k hk => by rw [(f2 1 (by omega) (by decide)).1, u2_k _ _ _ _ _ hk], fun k k1 k2 => by rw [f3 k k2, u2_a _ _ _ _ _ (by decide)]⟩
      have ii : ∀ a, a < n → a ≠ 132 → u2 (u2 I' 132 1 (nI 4)) 132 2 (I' 132 13) a = u2 I1 0 11 (nI 4) a := fun a a1 a2 => by
        rw [u2_a _ _ _ _ _ a2, u2_a _ _ _ _ _ a2]; exact (f2 a a1 a2).2.1
      have ij : ∀ a, a < n → a ≠ 132 → a ≠ 13 → a ≠ 14 → a ≠ s → J' a = J a := fun a a1 a2 a3 a4 a5 => by
        rw [(f2 a a1 a2).2.2]; exact e4 a a3 a4 a5
      have i0 : ∀ a, a < n → a ≠ 132 → a ≠ 0 → a ≠ 1 → a ≠ 2 → ¬ (s ≤ a ∧ a ≤ s + 8) → u2 (u2 I' 132 1 (nI 4)) 132 2 (I' 132 13) a = I a := fun a a1 a2 a3 a4 a5 a6 => by
        rw [ii a a1 a2]; exact rr a a4 a5 a6 a3
      have hL' := CL_k kr h5 h1
      have hW' := CLw_k kr h5 h2
      have hM' := Mo_k kr h5 h3
      refine ⟨mI 1, _, _, eC, St_B2 hC, eM, n + 12, K', N', R', _, J', p, s, 4, 0, T, rfl, ⟨hL', hW', hM', ⟨by rw [(f1 146 (by omega)).1]; exact h4.1, by rw [(f1 146 (by omega)).2]; exact h4.2⟩, by omega, fun a ha => ?_, ?_, by decide, ?_, ?_, fun _ => ?_, fun h => absurd rfl h, ?_, by decide, ?_, ?_, fun k hk => by omega⟩, ?_⟩
      · obtain ⟨y1, y2, y3⟩ := f7 a ha
        exact ⟨y1, by rw [u2_a _ _ _ _ _ (by omega), u2_a _ _ _ _ _ (by omega)]; exact y2, y3⟩
      · rw [i0 23 (by omega) (by decide) (by decide) (by decide) (by decide) (by omega)]; exact h7
      · rw [ii 0 (by omega) (by decide), u2_s]
      · rw [u2_k _ _ _ _ _ (by decide), u2_s]
      · rw [u2_s, ii 1 (by omega) (by decide), u2_a _ _ _ _ _ (by decide), y5, b4]
      · rw [u2_k _ _ _ _ _ (by decide), u2_k _ _ _ _ _ (by decide), ii 1 (by omega) (by decide), u2_a _ _ _ _ _ (by decide), y4, b3]
      · rw [ii 2 (by omega) (by decide), u2_a _ _ _ _ _ (by decide)]; exact b5
      · rw [u2_k _ _ _ _ _ (by decide), u2_k _ _ _ _ _ (by decide)]; exact f6
      · rcases hw with ⟨f, F, ρ, cnt, img, H, M, c1, c2, c3, c4⟩ | hu
        · left
          refine ⟨f, F, ρ, cnt, img, H, M, CT_e c1 hL' hW' ?_ (fun a a1 a2 => ⟨i0 a (by omega) (by omega) (by omega) (by omega) (by omega) (by omega), ij a (by omega) (by omega) (by omega) (by omega) (by omega)⟩) (fun a a1 a2 => i0 a (by omega) (by omega) (by omega) (by omega) (by omega) (by omega)) (ij p (by omega) (by omega) (by omega) (by omega) (by omega)), CSc_e c2 (fun a a1 a2 => i0 a (by omega) (by omega) (by omega) (by omega) (by omega) (by omega)), MT_e c3 hM' (Fl_k kr c4 c3.1.1.2.1) ?_ (fun a a1 a2 a3 => i0 a (by omega) (by omega) (by omega) (by omega) (by omega) (by omega)) ?_ ?_, by omega⟩
          · rw [ii 0 (by omega) (by decide), u2_k _ _ _ _ _ (by decide), e3 0]
            · decide
            · decide
            · omega
          · rw [f3 3 (by decide), u2_a _ _ _ _ _ (by decide)]; exact c3.1.1.2.2.1
          · rw [u2_k _ _ _ _ _ (by decide), u2_k _ _ _ _ _ (by decide), f4 20 (by omega), rr 132 (by omega) (by omega) (by omega) (by omega)]
          · rw [u2_k _ _ _ _ _ (by decide), u2_k _ _ _ _ _ (by decide), f4 21 (by omega), rr 132 (by omega) (by omega) (by omega) (by omega)]
        · right
          obtain ⟨u1, u2', u3, u4, u5, u6, u7⟩ := hu
          refine ⟨by rw [f3 3 (by decide), u2_a _ _ _ _ _ (by decide)]; exact u1, ?_, by rw [i0 p (by omega) (by omega) (by omega) (by omega) (by omega) (by omega)]; exact u3, by rw [i0 15 (by omega) (by omega) (by omega) (by omega) (by omega) (by omega)]; exact u4, by rw [i0 23 (by omega) (by omega) (by omega) (by omega) (by omega) (by omega)]; exact u5, by rw [i0 23 (by omega) (by omega) (by omega) (by omega) (by omega) (by omega)]; exact u6, by rw [i0 108 (by omega) (by omega) (by omega) (by omega) (by omega) (by omega)]; exact u7⟩
          rw [ii 0 (by omega) (by decide), u2_k _ _ _ _ _ (by decide), e3 0 (by decide) (by decide) (by omega)]; exact u2'
    | ok σ =>
      obtain ⟨q, F, w, r, G⟩ := σ
      obtain ⟨pv, hwt⟩ := al_ok 701 (tsk T m 0, Z00, false, false, Z00) _ (PV_0 (T := T) (m := m)) hx
      simp only at pv hwt
      subst hwt
      have hO : FOk F := PV_F pv
      rw [hx] at e2
      have ck : COk I1 J1 s T m F true r G q := e2
      obtain ⟨nxt, x1, x2⟩ := h7
      obtain ⟨I2, J2, g1, g2, g3, g4, g5⟩ := c_113o (lx := lx_) (z := z) (E := E) (n := n) (p := s) (s := p) (H := fun _ _ => 0) (M := fun _ _ => 0) h1 h2 x1 (show I1 23 2 = nI nxt by rw [e3 23 (by decide) (by decide) (by omega)]; exact x2) ck hO
      have eC := e1.trans g1
      have rr : ∀ a, 110 < a → ¬ (s ≤ a ∧ a ≤ s + 8) → I2 a = I a := fun a a1 a2 => by
        rw [(g4 a (by omega) (by omega)).1]; exact e3 a (by omega) (by omega) a2
      have fr1 : Fr n (sw R s p) I2 J2 := fun a ha => by
        obtain ⟨y1, y2, y3⟩ := h6 a ha
        exact ⟨by rw [sw_a (by omega)]; exact y1, by rw [rr a (by omega) (by omega)]; exact y2, by rw [(g4 a (by omega) (by omega)).2, e4 a (by omega) (by omega) (by omega)]; exact y3⟩
      obtain ⟨K', N', R', I', J', d1, d2, d3, d4⟩ := d_223 (lx := lx_) (z := z) (E := E) (n := n) (T := T) (m := m) (hd := hd) (Mo_sw h3) fr1 h5 hE (by rw [rr 132 (by omega) (by omega)]; exact h16) (by omega) h14 (fun k hk => ⟨(h17 k (by omega)).1, by rw [rr 133 (by omega) (by omega)]; exact (h17 k (by omega)).2.2⟩)
      rw [hx] at d2
      have mk : MOk I' J' n T m F true r G q := d2
      obtain ⟨f1, f2, f3, f4, f5, f6, f7⟩ := d4
      have kr : KR n K K' N N' (sw R s p) (u2 R' 132 3 (some n)) := ⟨f1, fun a a1 a2 a3 => by rw [u2_a _ _ _ _ _ a3, (f2 a a1 a3).1], fun k hk => by rw [u2_a _ _ _ _ _ (by decide), (f2 1 (by omega) (by decide)).1], fun k k1 k2 => by rw [u2_k _ _ _ _ _ k1, f3 k k2]⟩
      have hL' := CL_k kr h5 g2.1.1
      have hW' := CLw_k kr h5 g2.1.2.1
      have hM' := Mo_k kr h5 (Mo_sw h3)
      have fl' : Fl K' N' (u2 R' 132 3 (some n)) n := by
        obtain ⟨z1, z2, z3⟩ := d3.2.2.2.2.2
        refine ⟨z1, z2, ?_⟩
        rw [u2_a _ _ _ n _ (by omega)]; exact z3
      have md : MD K' N' (u2 R' 132 3 (some n)) I' n F := ⟨hM', fl', u2_s _ _ _ _, FW_F mk.2.2.1, hO⟩
      have et := d_223t (lx := lx_) (z := z) (E := E) (n := n + 12) (J := J') md (0, 0)
      have eM : Ca lx_ 223 [.ref (z + 132), .int (nI m)] (St z E n K N (sw R s p) I2 J2) = some (some (.int (nI (F 0 8))), St z E (n + 12) K' N' (u2 R' 132 3 (some n)) (u2 (u2 (u2 (u2 (pr (pr I' 135 145 (ini F)) 134 145 (ini F)) 132 20 (nI 0)) 132 21 (nI 0)) 132 1 (nI 0)) 132 2 (mI 1)) J') := by
        rw [d1, if_pos (by rw [mk.1]; decide)]; exact et
      generalize hI3 : u2 (u2 (u2 (u2 (pr (pr I' 135 145 (ini F)) 134 145 (ini F)) 132 20 (nI 0)) 132 21 (nI 0)) 132 1 (nI 0)) 132 2 (mI 1) = I3 at eM
      have j0 : ∀ a, a ≠ 132 → a ≠ 134 → a ≠ 135 → I3 a = I' a := fun a a1 a2 a3 => by
        rw [← hI3, u2_a _ _ _ _ _ a1, u2_a _ _ _ _ _ a1, u2_a _ _ _ _ _ a1, u2_a _ _ _ _ _ a1, pr_n a2, pr_n a3]
      have j132 : ∀ k, k ≠ 20 → k ≠ 21 → k ≠ 1 → k ≠ 2 → I3 132 k = I' 132 k := fun k k1 k2 k3 k4 => by
        rw [← hI3, u2_k _ _ _ _ _ k4, u2_k _ _ _ _ _ k3, u2_k _ _ _ _ _ k2, u2_k _ _ _ _ _ k1, pr_n (by decide), pr_n (by decide)]
      have j134 : ∀ k, k < 145 → I3 134 k = nI (ini F k) := fun k hk => by
        rw [← hI3, u2_a _ _ _ _ _ (by decide), u2_a _ _ _ _ _ (by decide), u2_a _ _ _ _ _ (by decide), u2_a _ _ _ _ _ (by decide), pr_s hk]
      have j20 : I3 132 20 = nI 0 := by rw [← hI3]; simp (disch := first | assumption | omega) [u2_s, u2_a, u2_k]
      have j21 : I3 132 21 = nI 0 := by rw [← hI3]; simp (disch := first | assumption | omega) [u2_s, u2_a, u2_k]
      have j1 : I3 132 1 = nI 0 := by rw [← hI3]; simp (disch := first | assumption | omega) [u2_s, u2_a, u2_k]
      have j2 : I3 132 2 = mI 1 := by rw [← hI3]; simp (disch := first | assumption | omega) [u2_s, u2_a, u2_k]
      have i0 : ∀ a, a < 132 → I3 a = I2 a := fun a a1 => by
        rw [j0 a (by omega) (by omega) (by omega)]; exact (f2 a (by omega) (by omega)).2.1
      have ij : ∀ a, a < 132 → J' a = J2 a := fun a a1 => (f2 a (by omega) (by omega)).2.2
      have rk := ini_k hO
      obtain ⟨ny, y1, y2, _⟩ := id g2.2
      refine ⟨nI (F 0 8), _, _, eC, St_B2 hC, eM, n + 12, K', N', _, I3, J', s, p, 0, 0, T, rfl, ⟨hL', hW', hM', ⟨by rw [(f1 146 (by omega)).1]; exact h4.1, by rw [(f1 146 (by omega)).2]; exact h4.2⟩, by omega, fun a ha => ?_, ⟨ny, y2, by rw [i0 23 (by omega)]; exact y1⟩, by decide, ?_, j1, fun h => absurd h (by decide), fun _ => j2, ?_, by decide, ?_, ?_, fun k hk => by omega⟩, Or.inl ⟨n, F, ini F, 0, 0, fun _ _ => 0, fun _ _ => 0, CT_e g2 hL' hW' (by rw [i0 0 (by omega)]) (fun a a1 a2 => ⟨i0 a (by omega), ij a (by omega)⟩) (fun a a1 a2 => i0 a (by omega)) (ij s (by omega)), CSc_e g3 (fun a a1 a2 => i0 a (by omega)), ⟨⟨⟨hM', fl', u2_s _ _ _ _, FI_e (FW_F mk.2.2.1) (fun a a1 a2 => j0 a (by omega) (by omega) (by omega)), hO⟩, j134, rk.1, rk.2⟩, j20, by decide, j21, by decide, fun i hi => by omega, fun i hi => by omega⟩, Nat.le_refl _⟩⟩
      · obtain ⟨z1, z2, z3⟩ := f7 a ha
        exact ⟨by rw [u2_a _ _ _ _ _ (by omega)]; exact z1, by rw [j0 a (by omega) (by omega) (by omega)]; exact z2, z3⟩
      · rw [i0 0 (by omega)]; exact g5
      · rw [j132 12 (by decide) (by decide) (by decide) (by decide), i0 1 (by omega), (g4 1 (by omega) (by omega)).1, mk.1, ck.1]
      · rw [i0 2 (by omega), (g4 2 (by omega) (by omega)).1]; exact ck.2.2.2.2.1
      · rw [j132 6 (by decide) (by decide) (by decide) (by decide)]; exact f6
end INV3
