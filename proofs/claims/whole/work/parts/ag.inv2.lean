/-! what holds between calls -/
def Cm (K N : Nat → Nat) (R : Nat → Nat → Option Nat) (I : Nat → Nat → Int32) (J : Nat → Nat → Int64) (n p s t hd : Nat) (T : Nat → Nat) : Prop := CL K N R p s ∧ CLw K N R p s ∧ Mo K N R ∧ (K 146 = 14 ∧ N 146 = 1) ∧ 147 ≤ n ∧ Fr n R I J ∧ (∃ nxt, nxt < 16 ∧ I 23 2 = nI nxt) ∧ t < 7 ∧ I 0 11 = nI t ∧ I 132 1 = nI t ∧ (t = 4 → I 132 2 = I 1 2) ∧ (t ≠ 4 → I 132 2 = mI 1) ∧ I 132 12 = I 1 1 ∧ hd ≤ 700 ∧ I 2 1 = nI hd ∧ I 132 6 = nI hd ∧ ∀ k, k < hd → T k < 256 ∧ I 3 k = nI (T k) ∧ I 133 k = (nI (T k)).toInt8.toInt32
def Tw (K N : Nat → Nat) (R : Nat → Nat → Option Nat) (I : Nat → Nat → Int32) (J : Nat → Nat → Int64) (n p s : Nat) : Prop := ∃ (f : Nat) (F : Nat → Nat → Nat) (ρ : Nat → Nat) (cnt img : Nat) (H M : Nat → Nat → Nat), CT K N R I J p s F ρ cnt img H M ∧ CSc I F ∧ MT K N R I f F ρ cnt img H M ∧ f + 12 ≤ n
def Uw (R : Nat → Nat → Option Nat) (I : Nat → Nat → Int32) (p : Nat) : Prop := R 132 3 = none ∧ I 0 10 = nI 0 ∧ (∀ j, j < 10 → I p j = nI 0) ∧ I 15 2 = nI 0 ∧ I 23 3 = nI 0 ∧ I 23 4 = nI 0 ∧ I 108 2 = nI 0
def Iv (z : Nat) (E : aEt) (S : aH) : Prop := ∃ (n : Nat) (K N : Nat → Nat) (R : Nat → Nat → Option Nat) (I : Nat → Nat → Int32) (J : Nat → Nat → Int64) (p s t hd : Nat) (T : Nat → Nat), S = St z E n K N R I J ∧ Cm K N R I J n p s t hd T ∧ (Tw K N R I J n p s ∨ Uw R I p)
section INV2
variable {z : Nat} {E : aEt} {n : Nat} {K N : Nat → Nat} {R : Nat → Nat → Option Nat} {I : Nat → Nat → Int32} {J : Nat → Nat → Int64} {lx : List Value → aH → aO} {p s f t t' hd nn : Nat} {T : Nat → Nat} {F : Nat → Nat → Nat} {ρ : Nat → Nat} {cnt img : Nat} {H M : Nat → Nat → Nat} {I1 I2 : Nat → Nat → Int32} {J1 J2 : Nat → Nat → Int64}
theorem St_B (h : Cm K N R I J n p s t hd T) : Bas z E (St z E nn K N R I1 J1) := by
  obtain ⟨h1, _, h3, ⟨h4, h5⟩, _⟩ := h
  exact ⟨e_St, by rw [k_St]; exact h1.1, by rw [k_St]; exact h3.1, by rw [k_St]; exact h4, by rw [n_St]; exact h5⟩
theorem Iv_B {S : aH} (h : Iv z E S) : Bas z E S := by
  obtain ⟨n, K, N, R, I, J, p, s, t, hd, T, rfl, hC, _⟩ := h
  exact St_B hC
theorem Cm_T (h : Cm K N R I J n p s t hd T) (c : CX t' I I1 J J1) (m : MX t' I1 I2) (t4 : t' ≠ 4) (t7 : t' < 7) (hx : ∃ nxt, nxt < 16 ∧ I1 23 2 = nI nxt) : Cm K N R I2 J1 n p s t' hd T := by
  obtain ⟨h1, h2, h3, h4, h5, h6, h7, h8, h9, h10, h11, h12, h13, h14, h15, h16, h17⟩ := h
  obtain ⟨c1, c2, c3, c4⟩ := c
  obtain ⟨m1, m2, m3, m4, m5⟩ := m
  obtain ⟨nxt, x1, x2⟩ := hx
  have r1 : I2 1 = I 1 := (m1 1 (by omega)).trans (c1 1 (by omega) (by omega) (by omega)).1
  have r2 : I2 2 = I 2 := (m1 2 (by omega)).trans (c1 2 (by omega) (by omega) (by omega)).1
  have r3 : I2 3 = I 3 := (m1 3 (by omega)).trans (c1 3 (by omega) (by omega) (by omega)).1
  have r132 : I1 132 = I 132 := (c1 132 (by omega) (by omega) (by omega)).1
  have r133 : I2 133 = I 133 := (m1 133 (by omega)).trans (c1 133 (by omega) (by omega) (by omega)).1
  refine ⟨h1, h2, h3, h4, h5, fun a ha => ?_, ⟨nxt, x1, by rw [m1 23 (by omega)]; exact x2⟩, t7, by rw [m1 0 (by omega)]; exact c3, m4, fun e => absurd e t4, fun _ => m5, ?_, h14, by rw [r2]; exact h15, by rw [m2 6 (by omega) (by omega), r132]; exact h16, by rw [r3, r133]; exact h17⟩
  · obtain ⟨a1, a2, a3⟩ := h6 a ha
    have := c1 a (by omega) (by omega) (by omega)
    exact ⟨a1, by rw [m1 a (by omega), this.1]; exact a2, by rw [this.2]; exact a3⟩
  · rw [m2 12 (by omega) (by omega), r132, r1]; exact h13
theorem Tw_T (hC : Cm K N R I J n p s t hd T) (c : CX t' I I1 J J1) (m : MX t' I1 I2) (e : CT K N R I1 J1 p s F ρ cnt img H M) (hs : CSc I F) (g : MT K N R I2 f F ρ cnt img H M) (hf : f + 12 ≤ n) : Tw K N R I2 J1 n p s := by
  obtain ⟨m1, m2, m3, m4, m5⟩ := m
  have hp : p = 114 ∨ p = 123 := by have := hC.2.1.2.2.2.2.1; omega
  exact ⟨f, F, ρ, cnt, img, H, M, CT_e e hC.1 hC.2.1 (by rw [m1 0 (by omega)]) (fun a a1 a2 => ⟨m1 a (by omega), rfl⟩) (fun a a1 a2 => m1 a (by omega)) rfl, CSc_e hs (fun a a1 a2 => by rw [m1 a (by omega)]; exact (c.1 a (by omega) (by omega) (by omega)).1), g, hf⟩
theorem MX_u : MX t I (u2 (u2 (u2 I 132 0 (nI 0)) 132 1 (nI t)) 132 2 (mI 1)) := by
  refine ⟨fun a ha => ?_, fun k k1 k2 => ?_, ?_, ?_, ?_⟩ <;> simp (disch := first | assumption | omega) [u2_s, u2_a, u2_k]
theorem CX_u : CX t I (u2 I 0 11 (nI t)) J J := by
  refine ⟨fun a a1 a2 a3 => ⟨u2_a _ _ _ _ _ (by omega), rfl⟩, fun k hk => u2_k _ _ _ _ _ hk, u2_s _ _ _ _, rfl⟩
theorem Uw_e (h : Uw R I p) (hp : 15 ≤ p) (hp2 : p < 132) (e0 : I1 0 10 = I 0 10) (e : ∀ a, 15 ≤ a → a < 132 → ¬ (102 ≤ a ∧ a ≤ 107) → I1 a = I a) (e2 : p < 102 ∨ 107 < p) : Uw R I1 p := by
  obtain ⟨h1, h2, h3, h4, h5, h6, h7⟩ := h
  exact ⟨h1, by rw [e0]; exact h2, by rw [e p hp hp2 (by omega)]; exact h3, by rw [e 15 (by omega) (by omega) (by omega)]; exact h4, by rw [e 23 (by omega) (by omega) (by omega)]; exact h5, by rw [e 23 (by omega) (by omega) (by omega)]; exact h6, by rw [e 108 (by omega) (by omega) (by omega)]; exact h7⟩
theorem op_I {u w : Nat} {as : List Value} (hT : ∀ (n : Nat) (K N : Nat → Nat) (R : Nat → Nat → Option Nat) (I : Nat → Nat → Int32) (J : Nat → Nat → Int64) (p s f : Nat) (F : Nat → Nat → Nat) (ρ : Nat → Nat) (cnt img : Nat) (H M : Nat → Nat → Nat), CT K N R I J p s F ρ cnt img H M → CSc I F → OT lx_ z E n K N R I J p s f F ρ cnt img H M u w as) (hU : ∀ (n : Nat) (K N : Nat → Nat) (R : Nat → Nat → Option Nat) (I : Nat → Nat → Int32) (J : Nat → Nat → Int64) (p s t hd : Nat) (T : Nat → Nat), Cm K N R I J n p s t hd T → Uw R I p → ∃ (t' : Nat) (r : Int32), t' ≠ 4 ∧ t' < 7 ∧ Ca lx_ u (.ref (z + 0) :: as) (St z E n K N R I J) = some (some (.int r), St z E n K N R (u2 I 0 11 (nI t')) J) ∧ ∀ (I2 : Nat → Nat → Int32) (J2 : Nat → Nat → Int64), Ca lx_ w (.ref (z + 132) :: as) (St z E n K N R I2 J2) = some (some (.int r), St z E n K N R (u2 (u2 (u2 I2 132 0 (nI 0)) 132 1 (nI t')) 132 2 (mI 1)) J2)) : OpI z E (Iv z E) (Iv z E) u w as := by
  intro S hS
  obtain ⟨n, K, N, R, I, J, p, s, t, hd, T, rfl, hC, hw⟩ := hS
  rcases hw with ⟨f, F, ρ, cnt, img, H, M, c1, c2, c3, c4⟩ | hu
  · obtain ⟨t', r, ρ', cnt', img', H', M', t4, t7, ⟨I1, J1, e1, e2, e3⟩, m⟩ := hT n K N R I J p s f F ρ cnt img H M c1 c2
    have r132 : I1 132 = I 132 := (e3.1 132 (by omega) (by omega) (by omega)).1
    have mt1 : MT K N R I1 f F ρ cnt img H M := MT_e c3 hC.2.2.1 c3.1.1.2.1 c3.1.1.2.2.1 (fun a a1 a2 a3 => (e3.1 a (by omega) (by omega) (by omega)).1) (by rw [r132]) (by rw [r132])
    obtain ⟨I2, g1, g2, g3⟩ := m I1 J1 mt1
    obtain ⟨nxt, x1, x2, _⟩ := e2.2
    exact ⟨r, _, _, e1, St_B hC, g1, n, K, N, R, I2, J1, p, s, t', hd, T, rfl, Cm_T hC e3 g3 t4 t7 ⟨nxt, x2, x1⟩, Or.inl (Tw_T hC e3 g3 e2 c2 g2 c4)⟩
  · obtain ⟨t', r, t4, t7, e1, e2⟩ := hU n K N R I J p s t hd T hC hu
    have hp : p = 114 ∨ p = 123 := by have := hC.2.1.2.2.2.2.1; omega
    obtain ⟨nxt, x1, x2⟩ := hC.2.2.2.2.2.2.1
    refine ⟨r, _, _, e1, St_B hC, e2 _ _, n, K, N, R, _, J, p, s, t', hd, T, rfl, Cm_T hC CX_u MX_u t4 t7 ⟨nxt, x1, by rw [u2_a _ _ _ _ _ (by decide)]; exact x2⟩, Or.inr (Uw_e hu (by omega) (by omega) ?_ (fun a a1 a2 a3 => ?_) (by omega))⟩
    · simp (disch := first | assumption | omega) [u2_s, u2_a, u2_k]
    · simp (disch := first | assumption | omega) [u2_s, u2_a, u2_k]
theorem op_J {u w : Nat} {as : List Value} (hT : ∀ (n : Nat) (K N : Nat → Nat) (R : Nat → Nat → Option Nat) (I : Nat → Nat → Int32) (J : Nat → Nat → Int64) (p s f : Nat) (F : Nat → Nat → Nat) (ρ : Nat → Nat) (cnt img : Nat) (H M : Nat → Nat → Nat), CT K N R I J p s F ρ cnt img H M → CSc I F → OTj lx_ z E n K N R I J p s f F ρ cnt img H M u w as) (hU : ∀ (n : Nat) (K N : Nat → Nat) (R : Nat → Nat → Option Nat) (I : Nat → Nat → Int32) (J : Nat → Nat → Int64) (p s t hd : Nat) (T : Nat → Nat), Cm K N R I J n p s t hd T → Uw R I p → ∃ (t' : Nat) (r : Int64), t' ≠ 4 ∧ t' < 7 ∧ Ca lx_ u (.ref (z + 0) :: as) (St z E n K N R I J) = some (some (.long r), St z E n K N R (u2 I 0 11 (nI t')) J) ∧ ∀ (I2 : Nat → Nat → Int32) (J2 : Nat → Nat → Int64), Ca lx_ w (.ref (z + 132) :: as) (St z E n K N R I2 J2) = some (some (.long r), St z E n K N R (u2 (u2 (u2 I2 132 0 (nI 0)) 132 1 (nI t')) 132 2 (mI 1)) J2)) : OpJ z E (Iv z E) (Iv z E) u w as := by
  intro S hS
  obtain ⟨n, K, N, R, I, J, p, s, t, hd, T, rfl, hC, hw⟩ := hS
  rcases hw with ⟨f, F, ρ, cnt, img, H, M, c1, c2, c3, c4⟩ | hu
  · obtain ⟨t', r, ρ', cnt', img', H', M', t4, t7, ⟨I1, J1, e1, e2, e3⟩, m⟩ := hT n K N R I J p s f F ρ cnt img H M c1 c2
    have r132 : I1 132 = I 132 := (e3.1 132 (by omega) (by omega) (by omega)).1
    have mt1 : MT K N R I1 f F ρ cnt img H M := MT_e c3 hC.2.2.1 c3.1.1.2.1 c3.1.1.2.2.1 (fun a a1 a2 a3 => (e3.1 a (by omega) (by omega) (by omega)).1) (by rw [r132]) (by rw [r132])
    obtain ⟨I2, g1, g2, g3⟩ := m I1 J1 mt1
    obtain ⟨nxt, x1, x2, _⟩ := e2.2
    exact ⟨r, _, _, e1, St_B hC, g1, n, K, N, R, I2, J1, p, s, t', hd, T, rfl, Cm_T hC e3 g3 t4 t7 ⟨nxt, x2, x1⟩, Or.inl (Tw_T hC e3 g3 e2 c2 g2 c4)⟩
  · obtain ⟨t', r, t4, t7, e1, e2⟩ := hU n K N R I J p s t hd T hC hu
    have hp : p = 114 ∨ p = 123 := by have := hC.2.1.2.2.2.2.1; omega
    obtain ⟨nxt, x1, x2⟩ := hC.2.2.2.2.2.2.1
    refine ⟨r, _, _, e1, St_B hC, e2 _ _, n, K, N, R, _, J, p, s, t', hd, T, rfl, Cm_T hC CX_u MX_u t4 t7 ⟨nxt, x1, by rw [u2_a _ _ _ _ _ (by decide)]; exact x2⟩, Or.inr (Uw_e hu (by omega) (by omega) ?_ (fun a a1 a2 a3 => ?_) (by omega))⟩
    · simp (disch := first | assumption | omega) [u2_s, u2_a, u2_k]
    · simp (disch := first | assumption | omega) [u2_s, u2_a, u2_k]
/-- nothing changes but whether the reference threw, its works at hand, and what was written out -/
theorem Iv_0 (hC : Cm K N R I J n p s t hd T) (hw : Tw K N R I J n p s ∨ Uw R I p) (hn : n ≤ nn) (e : ∀ a, a ≠ 132 → a ≠ 135 → I1 a = I a) (e1 : ∀ k, k ≠ 0 → I1 132 k = I 132 k) (e2 : ∀ a, a ≠ 146 → J1 a = J a) : Iv z E (St z E nn K N R I1 J1) := by
  obtain ⟨h1, h2, h3, h4, h5, h6, h7, h8, h9, h10, h11, h12, h13, h14, h15, h16, h17⟩ := id hC
  have hp : p = 114 ∨ p = 123 := by have := h2.2.2.2.2.1; omega
  refine ⟨nn, K, N, R, I1, J1, p, s, t, hd, T, rfl, ⟨h1, h2, h3, h4, by omega, fun a ha => ?_, ?_, h8, ?_, ?_, ?_, ?_, ?_, h14, ?_, ?_, ?_⟩, ?_⟩
  · obtain ⟨a1, a2, a3⟩ := h6 a (by omega)
    exact ⟨a1, by rw [e a (by omega) (by omega)]; exact a2, by rw [e2 a (by omega)]; exact a3⟩
  · rw [e 23 (by omega) (by omega)]; exact h7
  · rw [e 0 (by omega) (by omega)]; exact h9
  · rw [e1 1 (by omega)]; exact h10
  · rw [e1 2 (by omega), e 1 (by omega) (by omega)]; exact h11
  · rw [e1 2 (by omega)]; exact h12
  · rw [e1 12 (by omega), e 1 (by omega) (by omega)]; exact h13
  · rw [e 2 (by omega) (by omega)]; exact h15
  · rw [e1 6 (by omega)]; exact h16
  · rw [e 3 (by omega) (by omega), e 133 (by omega) (by omega)]; exact h17
  · rcases hw with ⟨f, F, ρ, cnt, img, H, M, c1, c2, c3, c4⟩ | hu
    · left
      exact ⟨f, F, ρ, cnt, img, H, M, CT_e c1 h1 h2 (by rw [e 0 (by omega) (by omega)]) (fun a a1 a2 => ⟨e a (by omega) (by omega), e2 a (by omega)⟩) (fun a a1 a2 => e a (by omega) (by omega)) (e2 p (by omega)), CSc_e c2 (fun a a1 a2 => e a (by omega) (by omega)), MT_e c3 h3 c3.1.1.2.1 c3.1.1.2.2.1 (fun a a1 a2 a3 => e a (by omega) (by omega)) (e1 20 (by omega)) (e1 21 (by omega)), by omega⟩
    · right
      exact Uw_e hu (by omega) (by omega) (by rw [e 0 (by omega) (by omega)]) (fun a a1 a2 a3 => e a (by omega) (by omega)) (by omega)
theorem p_114 : OpI z E (Iv z E) (Iv z E) 114 224 [] := by
  intro S hS
  obtain ⟨n, K, N, R, I, J, p, s, t, hd, T, rfl, hC, hw⟩ := hS
  have h1 := hC.1
  have hm := hC.2.2.1.1
  have h13 := hC.2.2.2.2.2.2.2.2.2.2.2.2.1
  have k1 : K 1 = 3 := h1.2.2.2.2.2.2.2.2.2.2.2.1
  refine ⟨I 1 1, _, _, s_114 h1.1 h1.2.1 k1, St_B hC, ?_, Iv_0 (I1 := u2 I 132 0 0) (J1 := J) hC hw (Nat.le_refl _) (fun a a1 a2 => u2_a _ _ _ _ _ a1) (fun k hk => u2_k _ _ _ _ _ hk) (fun _ _ => rfl)⟩
  rw [s_224 hm, h13]
theorem p_115 : OpI z E (Iv z E) (Iv z E) 115 225 [] := by
  intro S hS
  obtain ⟨n, K, N, R, I, J, p, s, t, hd, T, rfl, hC, hw⟩ := hS
  have h1 := hC.1
  have hm := hC.2.2.1.1
  have k1 : K 1 = 3 := h1.2.2.2.2.2.2.2.2.2.2.2.1
  obtain ⟨_, _, _, _, _, _, _, h8, h9, _, h11, h12, _⟩ := id hC
  refine ⟨_, _, _, s_115 h1.1 h1.2.1 k1, St_B hC, ?_, Iv_0 (I1 := u2 I 132 0 0) (J1 := J) hC hw (Nat.le_refl _) (fun a a1 a2 => u2_a _ _ _ _ _ a1) (fun k hk => u2_k _ _ _ _ _ hk) (fun _ _ => rfl)⟩
  rw [s_225 hm, h9]
  have n4 : (4 : Int32) = nI 4 := rfl
  by_cases c : t = 4
  · rw [h11 c, if_pos (by rw [c]; rfl)]
  · rw [h12 c, if_neg (by rw [n4, nI_eq (by omega) (by decide)]; exact c)]; rfl
theorem p_158 : OpI z E (Iv z E) (Iv z E) 158 313 [] := by
  intro S hS
  obtain ⟨n, K, N, R, I, J, p, s, t, hd, T, rfl, hC, hw⟩ := hS
  have h1 := hC.1
  have hm := hC.2.2.1.1
  obtain ⟨_, _, _, _, _, _, _, h8, h9, h10, _⟩ := id hC
  refine ⟨_, _, _, s_158 h1.1, St_B hC, ?_, Iv_0 (I1 := u2 I 132 0 0) (J1 := J) hC hw (Nat.le_refl _) (fun a a1 a2 => u2_a _ _ _ _ _ a1) (fun k hk => u2_k _ _ _ _ _ hk) (fun _ _ => rfl)⟩
  rw [s_313 hm, h9, h10]
theorem p_157 (x : Int32) : OpI z E (Iv z E) (Iv z E) 157 312 [.int x] := by
  intro S hS
  obtain ⟨n, K, N, R, I, J, p, s, t, hd, T, rfl, hC, hw⟩ := hS
  have h1 := hC.1
  have hm := hC.2.2.1.1
  obtain ⟨_, h2, _, _, _, _, _, _, _, _, _, _, _, _, h15, h16, _⟩ := id hC
  have z0 : (0 : Int32) = nI 0 := rfl
  have iv := Iv_0 (z := z) (E := E) (nn := n) (I1 := u2 I 132 0 0) (J1 := J) hC hw (Nat.le_refl _) (fun a a1 a2 => u2_a _ _ _ _ _ a1) (fun k hk => u2_k _ _ _ _ _ hk) (fun _ _ => rfl)
  rcases hw with ⟨f, F, ρ, cnt, img, H, M, c1, c2, c3, c4⟩ | hu
  · exact ⟨_, _, _, c_157 c1 h15 x, St_B hC, d_312 c3 h16 x, iv⟩
  · obtain ⟨u1, u2', u3, u4, u5, u6, u7⟩ := hu
    obtain ⟨k0, r0, r1, _, r3, _, _, _, _, r8, _, k1, r10, _, _, _, _, _, _, k2, _, _, _, k23, _⟩ := id h1
    refine ⟨_, _, _, u_157 (p := p) k0 r0 r1 r3 r8 r10 k1 k2 h2.1.1 k23 h2.2.2.1.1 u3 u4 u5 u6 x, St_B hC, ?_, iv⟩
    rw [u_312 hm u1 x, h15, h16]
theorem p_led (x : Int32) : OpL z E (Iv z E) (Iv z E) x := by
  intro S hS
  obtain ⟨n, K, N, R, I, J, p, s, t, hd, T, rfl, hC, hw⟩ := hS
  have h1 := hC.1
  have h2 := hC.2.1
  have hm := hC.2.2.1.1
  obtain ⟨k46, n46⟩ := hC.2.2.2.1
  have hn := hC.2.2.2.2.1
  rcases hw with ⟨f, F, ρ, cnt, img, H, M, c1, c2, c3, c4⟩ | hu
  · have e1 := c_316 (lx := lx0) (z := z) (E := E) (n := n) c1.1 x
    have hw' : Tw K N R I J n p s ∨ Uw R I p := Or.inl ⟨f, F, ρ, cnt, img, H, M, c1, c2, c3, c4⟩
    cases ho : ldS F ρ x (F 0 8) 0 0 with
    | some g =>
      rw [ho] at e1
      have e5 : Ca lx_ 905 [.ref (z + 0), .int x, .ref (z + 146)] (St z E n K N R I J) = some (some (.int (nI 0)), St z E n K N R I (u2 J 146 0 (nI g).toInt64)) := by
        rw [ca_905]
        show gd (aK (St z E n K N R I J) (z + 0) = 9) (lx2 (z + 146) (Ca lx0 316 [.ref z, .int x] (St z E n K N R I J))) = _
        rw [gd_t (by rw [k_St]; exact h1.1), e1]
        show gd (aK (St z E n K N R I J) (z + 146) = 14 ∧ 0 < aN (St z E n K N R I J) (z + 146)) (some (some (.int 0), wJ (St z E n K N R I J) (z + 146) 0 (nI g).toInt64)) = _
        rw [gd_t (by rw [k_St, n_St, k46, n46]; decide), wJ_St]
        rfl
      have mt : MV K N R I f F ρ := c3.1
      have e6 : Ca lx_ 311 [.ref (z + 132), .int x] (St z E n K N R I (u2 J 146 0 (nI g).toInt64)) = some (some (.int (nI g)), St z E n K N R (u2 (pr (u2 I 132 0 (nI 0)) 135 145 ρ) 132 0 (nI 0)) (u2 J 146 0 (nI g).toInt64)) := by
        have := d_311 (lx := lx_) (z := z) (E := E) (n := n) (J := u2 J 146 0 (nI g).toInt64) mt x
        rw [ho] at this
        exact this
      refine ⟨nI 0, nI g, _, _, St z E n K N R (u2 (pr (u2 I 132 0 (nI 0)) 135 145 ρ) 132 0 (nI 0)) (u2 J 146 0 (nI g).toInt64), e5, St_B hC, e6, St_B hC, ?_, fun _ => ?_, St_B hC, Iv_0 (I1 := u2 (pr (u2 I 132 0 (nI 0)) 135 145 ρ) 132 0 (nI 0)) (J1 := u2 J 146 0 (nI g).toInt64) hC hw' (Nat.le_refl _) (fun a a1 a2 => ?_) (fun k hk => ?_) (fun a ha => u2_a _ _ _ _ _ ha)⟩
      · rw [s_181 hm, u2_s]
      · rw [j_St, u2_s]
      · rw [u2_a _ _ _ _ _ a1, pr_n a2, u2_a _ _ _ _ _ a1]
      · rw [u2_k _ _ _ _ _ hk, pr_n (by decide), u2_k _ _ _ _ _ hk]
    | none =>
      rw [ho] at e1
      have e5 : Ca lx_ 905 [.ref (z + 0), .int x, .ref (z + 146)] (St z E n K N R I J) = some (some (.int (nI 1)), St z E (n + 1) K N R I J) := by
        rw [ca_905]
        show gd (aK (St z E n K N R I J) (z + 0) = 9) (lx2 (z + 146) (Ca lx0 316 [.ref z, .int x] (St z E n K N R I J))) = _
        rw [gd_t (by rw [k_St]; exact h1.1), e1]
        show some (some (Value.int 1), bmp (St z E n K N R I J)) = _
        rw [bmp_St]
        rfl
      have mt : MV K N R I f F ρ := c3.1
      have e6 : Ca lx_ 311 [.ref (z + 132), .int x] (St z E (n + 1) K N R I J) = some (some (.int (nI 0)), St z E (n + 1) K N R (u2 (pr (u2 I 132 0 (nI 0)) 135 145 ρ) 132 0 (nI 1)) J) := by
        have := d_311 (lx := lx_) (z := z) (E := E) (n := n + 1) (J := J) mt x
        rw [ho] at this
        exact this
      refine ⟨nI 1, nI 0, _, _, St z E (n + 1) K N R (u2 (pr (u2 I 132 0 (nI 0)) 135 145 ρ) 132 0 (nI 1)) J, e5, St_B hC, e6, St_B hC, ?_, fun h => absurd h (by decide), St_B hC, Iv_0 (I1 := u2 (pr (u2 I 132 0 (nI 0)) 135 145 ρ) 132 0 (nI 1)) (J1 := J) hC hw' (Nat.le_succ _) (fun a a1 a2 => ?_) (fun k hk => ?_) (fun a ha => rfl)⟩
      · rw [s_181 hm, u2_s]
      · rw [u2_a _ _ _ _ _ a1, pr_n a2, u2_a _ _ _ _ _ a1]
      · rw [u2_k _ _ _ _ _ hk, pr_n (by decide), u2_k _ _ _ _ _ hk]
  · have hw' : Tw K N R I J n p s ∨ Uw R I p := Or.inr hu
    have r8 : R 0 8 = some p := h1.2.2.2.2.2.2.2.2.2.1
    refine ⟨1, 0, _, _, St z E (n + 1) K N R (u2 I 132 0 1) J, u_905 (p := p) h1.1 r8 h2.2.2.1.1 (hu.2.2.1 8 (by decide)) x, St_B hC, u_311 hm hu.1 x, St_B hC, ?_, fun h => absurd h (by decide), St_B hC, Iv_0 (I1 := u2 I 132 0 1) (J1 := J) hC hw' (Nat.le_succ _) (fun a a1 a2 => u2_a _ _ _ _ _ a1) (fun k hk => u2_k _ _ _ _ _ hk) (fun a ha => rfl)⟩
    rw [s_181 hm, u2_s]
theorem p_112 (v1 v2 v3 v4 v5 : Int32) : OpI z E (Iv z E) (Iv z E) 112 222 [.int v1, .int v2, .int v3, .int v4, .int v5] := by
  intro S hS
  obtain ⟨n, K, N, R, I, J, p, s, t, hd, T, rfl, hC, hw⟩ := hS
  obtain ⟨h1, h2, h3, h4, h5, h6, h7, h8, h9, h10, h11, h12, h13, h14, h15, h16, h17⟩ := id hC
  obtain ⟨k0, r0, _, _, _, _, _, _, _, _, _, k1, r10, _, _, _, _, _, _, k2, r2, k3, n3, _⟩ := id h1
  obtain ⟨m0, m1, _, _, _, _, _, _, _, _, _, _, _, _, mk, _, _, _, _, _, _, _, _, _, _, _, _, mn, _⟩ := id h3
  have hp : p = 114 ∨ p = 123 := by have := h2.2.2.2.2.1; omega
  obtain ⟨I1, a1, a2, a3, a4, a5⟩ := c_112 (lx := lx_) (z := z) (E := E) (n := n) (J := J) k0 r0 k1 r10 k2 r2 k3 n3 v1 v2 v3 v4 v5 h15 h14
  have q6 : I1 132 6 = nI hd := by rw [a4 132 (by decide) (by decide)]; exact h16
  obtain ⟨I2, b1, b2, b3, b4, b5⟩ := d_222 (lx := lx_) (z := z) (E := E) (n := n) (J := J) m0 m1 mk mn v1 v2 v3 v4 v5 q6 h14
  have e : ∀ a, a ≠ 2 → a ≠ 3 → a ≠ 132 → a ≠ 133 → I2 a = I a := fun a x1 x2 x3 x4 => by rw [b4 a x3 x4, a4 a x1 x2]
  have e1 : ∀ k, k ≠ 0 → k ≠ 6 → I2 132 k = I 132 k := fun k x1 x2 => by rw [b5 k x1 x2, a4 132 (by decide) (by decide)]
  have hw2 : Tw K N R I2 J n p s ∨ Uw R I2 p := by
    rcases hw with ⟨f, F, ρ, cnt, img, H, M, c1, c2, c3, c4⟩ | hu
    · left
      exact ⟨f, F, ρ, cnt, img, H, M, CT_e c1 h1 h2 (by rw [e 0 (by omega) (by omega) (by omega) (by omega)]) (fun a x1 x2 => ⟨e a (by omega) (by omega) (by omega) (by omega), rfl⟩) (fun a x1 x2 => e a (by omega) (by omega) (by omega) (by omega)) rfl, CSc_e c2 (fun a x1 x2 => e a (by omega) (by omega) (by omega) (by omega)), MT_e c3 h3 c3.1.1.2.1 c3.1.1.2.2.1 (fun a x1 x2 x3 => e a (by omega) (by omega) (by omega) (by omega)) (e1 20 (by omega) (by omega)) (e1 21 (by omega) (by omega)), c4⟩
    · right
      exact Uw_e hu (by omega) (by omega) (by rw [e 0 (by omega) (by omega) (by omega) (by omega)]) (fun a x1 x2 x3 => e a (by omega) (by omega) (by omega) (by omega)) (by omega)
  have com : ∀ (hd' : Nat) (T' : Nat → Nat), hd' ≤ 700 → I2 2 1 = nI hd' → I2 132 6 = nI hd' → (∀ k, k < hd' → T' k < 256 ∧ I2 3 k = nI (T' k) ∧ I2 133 k = (nI (T' k)).toInt8.toInt32) → Cm K N R I2 J n p s t hd' T' := fun hd' T' x1 x2 x3 x4 => by
    refine ⟨h1, h2, h3, h4, h5, fun a ha => ?_, by rw [e 23 (by omega) (by omega) (by omega) (by omega)]; exact h7, h8, by rw [e 0 (by omega) (by omega) (by omega) (by omega)]; exact h9, by rw [e1 1 (by omega) (by omega)]; exact h10, by rw [e1 2 (by omega) (by omega), e 1 (by omega) (by omega) (by omega) (by omega)]; exact h11, by rw [e1 2 (by omega) (by omega)]; exact h12, by rw [e1 12 (by omega) (by omega), e 1 (by omega) (by omega) (by omega) (by omega)]; exact h13, x1, x2, x3, x4⟩
    obtain ⟨y1, y2, y3⟩ := h6 a ha
    exact ⟨y1, by rw [e a (by omega) (by omega) (by omega) (by omega)]; exact y2, y3⟩
  have r2' : I2 2 = I1 2 := b4 2 (by decide) (by decide)
  have r3' : I2 3 = I1 3 := b4 3 (by decide) (by decide)
  have r133 : I1 133 = I 133 := a4 133 (by decide) (by decide)
  refine ⟨_, _, _, a1, St_B hC, b1, ?_⟩
  by_cases c : hd + 20 ≤ 700
  · obtain ⟨x1, x2, x3⟩ := a2 c
    obtain ⟨y1, y2, y3⟩ := b2 c
    refine ⟨n, K, N, R, I2, J, p, s, t, hd + 20, fun k => if k < hd then T k else yB (arg5 v1 v2 v3 v4 v5 (k - hd)) (24 - 8 * ((k - hd) % 4)), rfl, com _ _ c (by rw [r2']; exact x1) y1 (fun k hk => ?_), hw2⟩
    by_cases ck : k < hd
    · simp only [if_pos ck]
      obtain ⟨z1, z2, z3⟩ := h17 k ck
      exact ⟨z1, by rw [r3', x3 k ck]; exact z2, by rw [y3 k ck, r133]; exact z3⟩
    · simp only [if_neg ck]
      have := x2 (k - hd) (by omega)
      have w2 := y2 (k - hd) (by omega)
      rw [show hd + (k - hd) = k by omega] at this w2
      exact ⟨yB_l _ _, by rw [r3']; exact this, w2⟩
  · have x1 := a3 c
    have y1 := b3 c
    refine ⟨n, K, N, R, I2, J, p, s, t, hd, T, rfl, com hd T h14 (by rw [r2', x1]; exact h15) ?_ (fun k hk => ?_), hw2⟩
    · rw [y1, u2_k _ _ _ _ _ (by decide)]; exact q6
    · obtain ⟨z1, z2, z3⟩ := h17 k hk
      exact ⟨z1, by rw [r3', x1]; exact z2, by rw [y1, u2_a _ _ _ _ _ (by decide), r133]; exact z3⟩
end INV2
