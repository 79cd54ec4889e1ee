section RMC
variable {z : Nat} {E : aEt} {n : Nat} {K N : Nat → Nat} {R : Nat → Nat → Option Nat} {I : Nat → Nat → Int32} {J : Nat → Nat → Int64} {lx : List Value → aH → aO} {f s q m e : Nat} {T : Nat → Nat} {F G : Nat → Nat → Nat} {w r : Bool} {x : Exc Nat}
theorem al_ok : ∀ (u : Nat) (σ τ : Sg), PV T m σ.2.1 σ.2.2.1 σ.2.2.2.1 σ.2.2.2.2 → pAl T m u σ = .ok τ → PV T m τ.2.1 τ.2.2.1 τ.2.2.2.1 τ.2.2.2.2 ∧ τ.2.2.1 = true
  | 0, σ, τ, h, e => by rw [pAl] at e; simp at e
  | u + 1, σ, τ, h, e => by
    rw [pAl] at e
    obtain ⟨τ1, e1, e2⟩ := ob_b e
    have pv := PV_ln h e1
    by_cases c3 : tK T m τ1.1 = 3
    · rw [if_pos c3] at e2
      exact al_ok u (adv T m τ1.1, τ1.2) τ pv e2
    · rw [if_neg c3] at e2
      by_cases c0 : tK T m τ1.1 = 0
      · rw [if_pos c0] at e2
        by_cases cw : τ1.2.2.1 = true
        · rw [if_pos cw] at e2; injection e2 with e2; rw [← e2]; exact ⟨pv, cw⟩
        · rw [if_neg cw] at e2; simp at e2
      · rw [if_neg c0] at e2; simp at e2
theorem mk_F (hn : 147 ≤ n) (hF : Fr n R I J) : ∃ K' N' R', Ca lx 174 [.ref (z + n)] (St z E (n + 1) (va_up K n 10) (va_up N n 0) R I J) = some (none, St z E (n + 12) K' N' R' (u2 I n 6 (-1)) J) ∧ Fl K' N' R' n ∧ (∀ a, a < n → K' a = K a ∧ N' a = N a ∧ R' a = R a) ∧ (∀ a, n + 12 ≤ a → R' a = fun _ => none) := by
  have e := ct_174 (lx := lx) (z := z) (E := E) (n := n + 1) (a := n) (K := va_up K n 10) (N := va_up N n 0) (R := R) (I := I) (J := J) hF.s (by omega) (by simp [va_up])
  refine ⟨_, _, _, e, ?_, fun a ha => ⟨?_, ?_, ?_⟩, fun a ha => ?_⟩
  · refine ⟨hn, ?_, ?_, ?_, ?_, ?_, ?_, ?_, ?_, ?_, ?_, ?_, ?_, ?_, ?_, ?_, ?_, ?_, ?_, ?_, ?_, ?_, ?_, ?_, ?_, ?_, ?_, ?_, ?_, ?_, ?_, ?_, ?_, ?_, ?_⟩ <;> simp [va_up, u2, Nat.add_assoc]
  · simp only [va_up]
    rw [if_neg (by omega), if_neg (by omega), if_neg (by omega), if_neg (by omega), if_neg (by omega), if_neg (by omega), if_neg (by omega), if_neg (by omega), if_neg (by omega), if_neg (by omega), if_neg (by omega), if_neg (by omega)]
  · simp only [va_up]
    rw [if_neg (by omega), if_neg (by omega), if_neg (by omega), if_neg (by omega), if_neg (by omega), if_neg (by omega), if_neg (by omega), if_neg (by omega), if_neg (by omega), if_neg (by omega), if_neg (by omega), if_neg (by omega)]
  · rw [u2_a _ _ _ _ _ (by omega), u2_a _ _ _ _ _ (by omega), u2_a _ _ _ _ _ (by omega), u2_a _ _ _ _ _ (by omega), u2_a _ _ _ _ _ (by omega), u2_a _ _ _ _ _ (by omega), u2_a _ _ _ _ _ (by omega), u2_a _ _ _ _ _ (by omega), u2_a _ _ _ _ _ (by omega), u2_a _ _ _ _ _ (by omega), u2_a _ _ _ _ _ (by omega)]
  · rw [u2_a _ _ _ _ _ (by omega), u2_a _ _ _ _ _ (by omega), u2_a _ _ _ _ _ (by omega), u2_a _ _ _ _ _ (by omega), u2_a _ _ _ _ _ (by omega), u2_a _ _ _ _ _ (by omega), u2_a _ _ _ _ _ (by omega), u2_a _ _ _ _ _ (by omega), u2_a _ _ _ _ _ (by omega), u2_a _ _ _ _ _ (by omega), u2_a _ _ _ _ _ (by omega)]
    exact (hF a (by omega)).1
/-- what of the heap a field's telling leaves as it was on the reference's side -/
def FF (n : Nat) (K K' N N' : Nat → Nat) (R R' : Nat → Nat → Option Nat) (I I' : Nat → Nat → Int32) (J J' : Nat → Nat → Int64) : Prop := (∀ a, a < n → K' a = K a ∧ N' a = N a) ∧ (∀ a, a < n → a ≠ 132 → R' a = R a ∧ I' a = I a ∧ J' a = J a) ∧ (∀ k, k ≠ 4 → R' 132 k = R 132 k) ∧ (∀ k, (1 ≤ k ∧ k ≤ 5) ∨ 14 < k → I' 132 k = I 132 k) ∧ I' 132 0 = nI 0 ∧ I' 132 6 = nI 0 ∧ Fr (n + 12) R' I' J'
theorem d_223 {hd : Nat} (hM : Mo K N R) (hF : Fr n R I J) (hn : 147 ≤ n) (hE : EOk E) (h6 : I 132 6 = nI hd) (hm : m ≤ hd) (h7 : hd ≤ 700) (hT : ∀ k, k < m → T k < 256 ∧ I 133 k = (nI (T k)).toInt8.toInt32) : ∃ K' N' R' I' J', Ca lx 223 [.ref (z + 132), .int (nI m)] (St z E n K N R I J) = (if I' 132 12 ≤ 0 then Am lx 223 57 [some (.ref (z + 132)), none, some (.int (nI 0))] [] (0, 0) (St z E (n + 12) K' N' (u2 R' 132 3 (some n)) I' J') else some (some (.int (mI 1)), St z E (n + 12) K' N' R' (u2 (u2 I' 132 1 (nI 4)) 132 2 (I' 132 13)) J')) ∧ MLn I' J' n T m (pAl T m 701 (tsk T m 0, Z00, false, false, Z00)) ∧ Rm K' N' R' n ∧ FF n K K' N N' R R' I I' J J' := by
  obtain ⟨m0, m1, _, _, _, _, _, _, _, _, _, _, _, _, mk, _, _, _, _, _, _, _, _, _, _, _, _, mn, _⟩ := hM
  have hF1 : Fr n R (u2 (u2 (u2 (u2 (u2 I 132 0 (nI 0)) 132 7 (nI m)) 132 6 (nI 0)) 132 8 (nI 0)) 132 12 (nI 0)) J := ((((hF.i (by omega) _ _).i (by omega) _ _).i (by omega) _ _).i (by omega) _ _).i (by omega) _ _
  obtain ⟨K', N', R', c1, c2, c3, c4⟩ := mk_F (lx := lx) (z := z) (E := E) (K := K) (N := N) hn hF1
  have hz : ∀ k, I n k = nI 0 := fun k => by rw [(hF n (Nat.le_refl _)).2.1]; rfl
  have hz2 : ∀ j k, I (n + j) k = nI 0 := fun j k => by rw [(hF (n + j) (by omega)).2.1]; rfl
  have hR : Rm K' N' (u2 R' 132 4 (some n)) n := by
    refine ⟨by rw [(c3 132 (by omega)).1]; exact m0, by rw [u2_k _ _ _ _ _ (by decide), (c3 132 (by omega)).2.2]; exact m1, by rw [(c3 133 (by omega)).1]; exact mk, by rw [(c3 133 (by omega)).2.1]; exact mn, u2_s _ _ _ _, ?_⟩
    obtain ⟨a0, a1, a2⟩ := c2
    refine ⟨a0, a1, ?_⟩
    rw [u2_a _ _ _ n _ (by omega)]
    exact a2
  generalize hI0 : u2 (u2 (u2 (u2 (u2 (u2 (u2 I 132 0 (nI 0)) 132 7 (nI m)) 132 6 (nI 0)) 132 8 (nI 0)) 132 12 (nI 0)) n 6 (-1)) 132 9 (nI 0) = I0
  have g0 : ∀ a, a ≠ 132 → a ≠ n → I0 a = I a := fun a a1 a2 => by
    rw [← hI0, u2_a _ _ _ _ _ a1, u2_a _ _ _ _ _ a2, u2_a _ _ _ _ _ a1, u2_a _ _ _ _ _ a1, u2_a _ _ _ _ _ a1, u2_a _ _ _ _ _ a1, u2_a _ _ _ _ _ a1]
  have gn : ∀ k, k ≠ 6 → I0 n k = nI 0 := fun k hk => by
    rw [← hI0, u2_a _ _ _ _ _ (by omega), u2_k _ _ _ _ _ hk, u2_a _ _ _ _ _ (by omega), u2_a _ _ _ _ _ (by omega), u2_a _ _ _ _ _ (by omega), u2_a _ _ _ _ _ (by omega), u2_a _ _ _ _ _ (by omega)]; exact hz k
  have g6 : I0 n 6 = mI 1 := by rw [← hI0, u2_a _ _ _ _ _ (by omega), u2_s]; rfl
  have gk : ∀ k, (1 ≤ k ∧ k ≤ 5) ∨ 14 < k → I0 132 k = I 132 k := fun k hk => by
    rw [← hI0]; simp (disch := first | assumption | omega) [u2_s, u2_a, u2_k]
  have q0 : I0 132 0 = nI 0 := by rw [← hI0]; simp (disch := first | assumption | omega) [u2_s, u2_a, u2_k]
  have q6 : I0 132 6 = nI 0 := by rw [← hI0]; simp (disch := first | assumption | omega) [u2_s, u2_a, u2_k]
  have q7 : I0 132 7 = nI m := by rw [← hI0]; simp (disch := first | assumption | omega) [u2_s, u2_a, u2_k]
  have q8 : I0 132 8 = nI 0 := by rw [← hI0]; simp (disch := first | assumption | omega) [u2_s, u2_a, u2_k]
  have q9 : I0 132 9 = nI 0 := by rw [← hI0]; simp (disch := first | assumption | omega) [u2_s, u2_a, u2_k]
  have q12 : I0 132 12 = nI 0 := by rw [← hI0]; simp (disch := first | assumption | omega) [u2_s, u2_a, u2_k]
  have hB0 : MB I0 T m := ⟨by omega, q7, fun k hk => by rw [g0 133 (by decide) (by omega)]; exact hT k hk⟩
  obtain ⟨I1, J1, e1, e2, e3⟩ := d_196 (lx := lx) (z := z) (E := E) (n := n + 12) (J := J) hR hB0 q9 (by decide) q8 (Nat.zero_le _)
  have ok1 : MOk I1 J1 n T m Z00 false false Z00 (tsk T m 0) := by
    have i1 : ∀ a, a ≠ 132 → I1 a = I0 a := e3.1
    have j9 : ∀ j, 1 ≤ j → ∀ k, I1 (n + j) k = nI 0 := fun j hj k => by rw [i1 _ (by omega), g0 _ (by omega) (by omega)]; exact hz2 j k
    refine ⟨by rw [e3.2.1 12 (by decide)]; exact q12, e2, ⟨fun j j1 j2 => by rw [i1 n (by omega)]; exact gn j j2, by rw [i1 n (by omega)]; exact g6, fun c _ => j9 1 (by decide) c, fun d hd => absurd hd (by simp [Z00]), fun d hd => absurd hd (by simp [Z00]), fun d hd => absurd hd (by simp [Z00]), fun d k hd => absurd hd (by simp [Z00]), fun d hd => absurd hd (by simp [Z00])⟩, by rw [i1 n (by omega), gn 11 (by decide)]; rfl, by rw [i1 n (by omega), gn 10 (by decide)]; rfl, fun k hk => absurd hk (by simp [Z00])⟩
  obtain ⟨I2, J2, k1, k2, k3⟩ := d_210l (lx := lx) (z := z) (n := n + 12) hR hE (0, 0) 701 (tsk T m 0) Z00 false false Z00 I1 J1 (MB_t hB0 e3) PV_0 ok1 (by omega)
  have f2 : MF n I0 I2 J J2 := MF_t (TF_F e3) k3
  have m132 := (c3 132 (by omega)).1
  refine ⟨K', N', u2 R' 132 4 (some n), I2, J2, ?_, k2, hR, ⟨fun a ha => ⟨(c3 a ha).1, (c3 a ha).2.1⟩, fun a ha h1 => ⟨?_, ?_, ?_⟩, fun k hk => ?_, fun k hk => ?_, ?_, ?_, fun a ha => ⟨?_, ?_, ?_⟩⟩⟩
  · have r4 : u2 R' 132 4 (some n) 132 4 = some n := u2_s _ _ _ _
    have p0 : ∀ S : aH, Ca lx 210 [.ref (z + 132)] S = Am lx 210 3 [some (.ref (z + 132)), some (.int (nI 1))] [] (0, 0) S := fun S => f_210 _ S
    have ez : z + n = z + n := rfl
    rw [f_223]
    simp (disch := first | assumption | omega) [k_St, n_St, i_St, j_St, r_St, wI_St, wJ_St, k_S0, n_S0, i_S0, j_S0, r_S0, wI_S0, wJ_S0, cI_s, cJ_s, cV_s, nR_s, nQ_s, nQ_n, lt_s_, gd_T, gd_t, Option.map_some, lits, neg_mI, nI_add, pk_mul, nI_clamp, nI_eq, nI_leI, nI_ltI, nm_eq, mn_eq, nm_lt, mn_lt, nm_le, mn_le, m_eq, bI_0, bI_1, z_St, m0, h6, if_neg, if_pos, u2_s, u2_a, u2_k, wN_F hF1]
    rw [c1]
    simp only [cV_s, k_St, m132, m0, gd_t, lt_s_, wR_St, wI_St, hI0, e1, p0, k1, i_St, r_St, r4, Option.map_some, nR_s, show (0 : Int32) = nI 0 from rfl]
    by_cases c : I2 132 12 ≤ nI 0
    · rw [if_pos c, if_pos c]
    · rw [if_neg c, if_neg c]
      simp (disch := first | assumption | omega) [k_St, n_St, i_St, j_St, r_St, wI_St, wJ_St, k_S0, n_S0, i_S0, j_S0, r_S0, wI_S0, wJ_S0, cI_s, cJ_s, cV_s, nR_s, nQ_s, nQ_n, lt_s_, gd_T, gd_t, Option.map_some, lits, neg_mI, nI_add, pk_mul, nI_clamp, nI_eq, nI_leI, nI_ltI, nm_eq, mn_eq, nm_lt, mn_lt, nm_le, mn_le, m_eq, bI_0, bI_1, m132, m0, u2_s, u2_a, u2_k]
  · rw [u2_a _ _ _ _ _ h1]; exact (c3 a ha).2.2
  · rw [f2.1 a h1 (by omega), g0 a h1 (by omega)]
  · rw [f2.2.2.1 a h1 (by omega)]
  · rw [u2_k _ _ _ _ _ hk, (c3 132 (by omega)).2.2]
  · rw [f2.2.1 k (by omega)]; exact gk k hk
  · rw [f2.2.1 0 (by decide)]; exact q0
  · rw [f2.2.1 6 (by decide)]; exact q6
  · rw [u2_a _ _ _ _ _ (by omega)]; exact c4 a ha
  · rw [f2.1 a (by omega) (by omega), g0 a (by omega) (by omega)]; exact (hF a (by omega)).2.1
  · rw [f2.2.2.1 a (by omega) (by omega)]; exact (hF a (by omega)).2.2
end RMC
