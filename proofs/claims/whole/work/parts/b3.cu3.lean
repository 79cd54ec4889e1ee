/-! a search, as both keep it: whence each node was come to, and the line of nodes -/
theorem pgn : ∀ (n k : Nat) (f : Nat → Nat), (∀ i, i < k → f i < n) → (∀ i j, i < j → j < k → f i ≠ f j) → k ≤ n
  | 0, k, f, h1, _ => by
    by_cases c : k = 0
    · omega
    · have := h1 0 (by omega); omega
  | n + 1, k, f, h1, h2 => by
    by_cases c : ∃ i, i < k ∧ f i = n
    · obtain ⟨i0, i1, i2⟩ := c
      have := pgn n (k - 1) (fun i => if i = i0 then f (k - 1) else f i) (fun i hi => by
        try simp only
        by_cases e : i = i0
        · rw [if_pos e]
          have a := h1 (k - 1) (by omega)
          have b := h2 i0 (k - 1) (by omega) (by omega)
          omega
        · rw [if_neg e]
          have a := h1 i (by omega)
          by_cases l : i < i0
          · have := h2 i i0 l i1; omega
          · have := h2 i0 i (by omega) (by omega); omega) (fun i j hi hj => by
        try simp only
        by_cases e : i = i0
        · rw [if_pos e, if_neg (by omega)]
          exact (h2 j (k - 1) (by omega) (by omega)).symm
        · rw [if_neg e]
          by_cases e2 : j = i0
          · rw [if_pos e2]; exact h2 i (k - 1) (by omega) (by omega)
          · rw [if_neg e2]; exact h2 i j hi (by omega))
      omega
    · have := pgn n k f (fun i hi => by
        have a := h1 i hi
        have : f i ≠ n := fun e => c ⟨i, hi, e⟩
        omega) h2
      omega
section CU3
variable {I I' : Nat → Nat → Int32} {g g' : Nat → Nat → Bool} {us us' : Nat → Bool} {F : Nat → Nat → Nat} {a b k x c d w A L h hk cnt : Nat} {Q : Nat → Nat}
def Bf (A L h hk : Nat) (F : Nat → Nat → Nat) (g : Nat → Nat → Bool) (us : Nat → Bool) (a : Nat) (I : Nat → Nat → Int32) (cnt : Nat) (Q : Nat → Nat) : Prop := 1 ≤ cnt ∧ I h hk = nI cnt ∧ (∀ j, j < cnt → Q j < 128 ∧ I L j = nI (Q j) ∧ isS F (Q j / 2) = true) ∧ (∀ i j, i < j → j < cnt → Q i ≠ Q j) ∧ Q 0 = 2 * a + 1 ∧ (∃ y, y < 128 ∧ I A (2 * a + 1) = nI y) ∧ (∀ j, 1 ≤ j → j < cnt → ∃ i, i < j ∧ I A (Q j) = nI (Q i) ∧ Rs F g us (Q i) (Q j)) ∧ ∀ x, x < 128 → I A x = mI 1 ∨ ∃ j, j < cnt ∧ Q j = x
def Vs (Q : Nat → Nat) (cnt x : Nat) : Prop := ∃ j, j < cnt ∧ Q j = x
theorem Bf_n (H : Bf A L h hk F g us a I cnt Q) : cnt ≤ 128 := pgn 128 cnt Q (fun i hi => (H.2.2.1 i hi).1) H.2.2.2.1
theorem Bf_v (H : Bf A L h hk F g us a I cnt Q) (hx : x < 128) : Vs Q cnt x ↔ I A x ≠ mI 1 := by
  obtain ⟨h1, h2, h3, h4, h5, ⟨y, hy, h6⟩, h7, h8⟩ := H
  constructor
  · intro ⟨j, hj, e⟩
    by_cases j0 : j = 0
    · rw [j0, h5] at e
      rw [← e, h6]
      rw [Ne, nm_eq (by omega) (by decide) (by decide)]; exact id
    · obtain ⟨i, i1, i2, _⟩ := h7 j (by omega) hj
      rw [e] at i2
      have := (h3 i (by omega)).1
      rw [i2, Ne, nm_eq (by omega) (by decide) (by decide)]; exact id
  · intro e
    rcases h8 x hx with q | q
    · exact absurd q e
    · exact q
theorem Bf_l (H : Bf A L h hk F g us a I cnt Q) (hx : x < 128) (e : I A x = mI 1) : cnt < 128 := by
  have := pgn 128 (cnt + 1) (fun j => if j = cnt then x else Q j) (fun i hi => by
    try simp only
    by_cases e : i = cnt
    · rw [if_pos e]; exact hx
    · rw [if_neg e]; exact (H.2.2.1 i (by omega)).1) (fun i j hi hj => by
    try simp only
    rw [if_neg (by omega)]
    by_cases e2 : j = cnt
    · rw [if_pos e2]
      intro e3
      exact (Bf_v H hx).mp ⟨i, by omega, e3⟩ e
    · rw [if_neg e2]; exact H.2.2.2.1 i j hi (by omega))
  omega
theorem Bf_r {i v : Nat} (H : Bf A L h hk F g us a I cnt Q) (hAL : A ≠ L) (hAh : A ≠ h) (hLh : L ≠ h) (hi : i < cnt) (hv : v < 128) (hr : Rs F g us (Q i) v) (hs : isS F (v / 2) = true) (e : I A v = mI 1) : Bf A L h hk F g us a (u2 (u2 (u2 I A v (nI (Q i))) L cnt (nI v)) h hk (nI (cnt + 1))) (cnt + 1) (fun j => if j = cnt then v else Q j) := by
  have nv := fun hv' => (Bf_v H hv).mp hv' e
  obtain ⟨h1, h2, h3, h4, h5, ⟨y, hy, h6⟩, h7, h8⟩ := id H
  have rA : ∀ x, u2 (u2 (u2 I A v (nI (Q i))) L cnt (nI v)) h hk (nI (cnt + 1)) A x = if x = v then nI (Q i) else I A x := fun x => by
    rw [u2_a _ _ _ _ _ hAh, u2_a _ _ _ _ _ hAL]
    by_cases e1 : x = v
    · rw [e1, u2_s, if_pos rfl]
    · rw [u2_k _ _ _ _ _ e1, if_neg e1]
  have rL : ∀ x, u2 (u2 (u2 I A v (nI (Q i))) L cnt (nI v)) h hk (nI (cnt + 1)) L x = if x = cnt then nI v else I L x := fun x => by
    rw [u2_a _ _ _ _ _ hLh]
    by_cases e1 : x = cnt
    · rw [e1, u2_s, if_pos rfl]
    · rw [u2_k _ _ _ _ _ e1, u2_a _ _ _ _ _ (Ne.symm hAL), if_neg e1]
  have av : 2 * a + 1 ≠ v := fun e1 => nv ⟨0, by omega, by rw [h5, e1]⟩
  refine ⟨by omega, u2_s _ _ _ _, fun j hj => ?_, fun p q hp hq => ?_, ?_, ⟨y, hy, by rw [rA, if_neg av]; exact h6⟩, fun j j1 hj => ?_, fun x hx => ?_⟩
  · simp only
    rw [rL]
    by_cases e1 : j = cnt
    · rw [if_pos e1, if_pos e1]; exact ⟨hv, rfl, hs⟩
    · rw [if_neg e1, if_neg e1]; exact h3 j (by omega)
  · simp only
    rw [if_neg (by omega)]
    by_cases e1 : q = cnt
    · rw [if_pos e1]; exact fun e2 => nv ⟨p, by omega, e2⟩
    · rw [if_neg e1]; exact h4 p q hp (by omega)
  · try simp only
    rw [if_neg (by omega)]; exact h5
  · simp only
    by_cases e1 : j = cnt
    · rw [if_pos e1]
      refine ⟨i, by omega, ?_, ?_⟩
      · rw [rA, if_pos rfl, if_neg (by omega)]
      · rw [if_neg (by omega)]; exact hr
    · rw [if_neg e1]
      obtain ⟨p, p1, p2, p3⟩ := h7 j j1 (by omega)
      refine ⟨p, p1, ?_, ?_⟩
      · rw [rA, if_neg (fun e2 => nv ⟨j, by omega, e2⟩), if_neg (by omega)]; exact p2
      · rw [if_neg (by omega)]; exact p3
  · rw [rA]
    by_cases e1 : x = v
    · right; exact ⟨cnt, by omega, by simp [e1]⟩
    · rw [if_neg e1]
      rcases h8 x hx with q | ⟨j, hj, q⟩
      · exact Or.inl q
      · exact Or.inr ⟨j, by omega, by simp only; rw [if_neg (by omega)]; exact q⟩
/-- one search goes on from another -/
def Mo2 (cnt : Nat) (Q : Nat → Nat) (cnt' : Nat) (Q' : Nat → Nat) : Prop := cnt ≤ cnt' ∧ ∀ j, j < cnt → Q' j = Q j
theorem Mo2_r : Mo2 cnt Q cnt Q := ⟨Nat.le_refl _, fun _ _ => rfl⟩
theorem Mo2_t {c2 c3 : Nat} {Q2 Q3 : Nat → Nat} (h1 : Mo2 cnt Q c2 Q2) (h2 : Mo2 c2 Q2 c3 Q3) : Mo2 cnt Q c3 Q3 := ⟨Nat.le_trans h1.1 h2.1, fun j hj => by rw [h2.2 j (by have := h1.1; omega), h1.2 j hj]⟩
theorem Vs_m {c2 : Nat} {Q2 : Nat → Nat} (h1 : Mo2 cnt Q c2 Q2) (h : Vs Q cnt x) : Vs Q2 c2 x := by
  obtain ⟨j, hj, e⟩ := h
  exact ⟨j, by have := h1.1; omega, by rw [h1.2 j hj]; exact e⟩
/-- what has been tried from a node -/
def Ce (F : Nat → Nat → Nat) (g : Nat → Nat → Bool) (us : Nat → Bool) (a u : Nat) (V : Nat → Prop) : Prop := (∀ c, c < 64 → u = 2 * c → c ≠ a → us c = false → V (2 * c + 1)) ∧ (∀ c, c < 64 → u = 2 * c + 1 → c ≠ a → us c = true → V (2 * c)) ∧ (∀ c w, c < 64 → 1 ≤ w → w ≤ 4 → u = 2 * c + 1 → isS F (nxc c w) = true → g c w = false → nxc c w ≠ a → V (2 * nxc c w)) ∧ (∀ c w, c < 64 → 1 ≤ w → w ≤ 4 → u = 2 * c → isS F (nxc c w) = true → g (nxc c w) (op w) = true → V (2 * nxc c w + 1))
theorem Ce_m {u : Nat} {V V' : Nat → Prop} (h : Ce F g us a u V) (e : ∀ x, V x → V' x) : Ce F g us a u V' :=
  ⟨fun c x1 x2 x3 x4 => e _ (h.1 c x1 x2 x3 x4), fun c x1 x2 x3 x4 => e _ (h.2.1 c x1 x2 x3 x4), fun c w x1 x2 x3 x4 x5 x6 x7 => e _ (h.2.2.1 c w x1 x2 x3 x4 x5 x6 x7), fun c w x1 x2 x3 x4 x5 x6 => e _ (h.2.2.2 c w x1 x2 x3 x4 x5 x6)⟩
theorem Cl_e (h : ∀ i, i < cnt → Ce F g us a (Q i) (Vs Q cnt)) (V : Nat → Bool) (hV : ∀ x, V x = true ↔ Vs Q cnt x) : Cl F g us a V := by
  refine ⟨fun c c1 c2 c3 c4 => ?_, fun c c1 c2 c3 c4 => ?_, fun c w c1 c2 c3 c4 c5 c6 c7 => ?_, fun c w c1 c2 c3 c4 c5 c6 c7 => ?_⟩
  · obtain ⟨j, j1, j2⟩ := (hV _).mp c3
    exact (hV _).mpr ((h j j1).1 c c1 j2 c2 c4)
  · obtain ⟨j, j1, j2⟩ := (hV _).mp c3
    exact (hV _).mpr ((h j j1).2.1 c c1 j2 c2 c4)
  · obtain ⟨j, j1, j2⟩ := (hV _).mp c4
    exact (hV _).mpr ((h j j1).2.2.1 c w c1 c2 c3 j2 c5 c6 c7)
  · obtain ⟨j, j1, j2⟩ := (hV _).mp c6
    obtain ⟨n1, n2, n3, n4⟩ := nx_op c c1 w (by omega) c2 c4
    have := (h j j1).2.2.2 (nxc c w) (op w) c4 n3 (by omega) j2
    rw [n1, n2] at this
    exact (hV _).mpr (this c5 c7)
/-- the way to a node found -/
theorem Bf_w (H : Bf A L h hk F g us a I cnt Q) : ∀ n j, j ≤ n → j < cnt → ∃ (l : Nat) (ch ix : Nat → Nat), ch 0 = Q j ∧ ch l = 2 * a + 1 ∧ l ≤ j ∧ ix 0 = j ∧ (∀ i, i ≤ l → ix i < cnt ∧ ch i = Q (ix i)) ∧ (∀ i, i < l → ix (i + 1) < ix i ∧ I A (ch i) = nI (ch (i + 1)) ∧ Rs F g us (ch (i + 1)) (ch i)) := by
  obtain ⟨h1, h2, h3, h4, h5, h6, h7, h8⟩ := id H
  intro n
  induction n with
  | zero =>
    intro j hj hc
    have : j = 0 := by omega
    subst this
    exact ⟨0, fun _ => Q 0, fun _ => 0, rfl, h5, Nat.le_refl _, rfl, fun i _ => ⟨hc, rfl⟩, fun i hi => by omega⟩
  | succ n ih =>
    intro j hj hc
    by_cases j0 : j = 0
    · subst j0
      exact ⟨0, fun _ => Q 0, fun _ => 0, rfl, h5, Nat.le_refl _, rfl, fun i _ => ⟨hc, rfl⟩, fun i hi => by omega⟩
    · obtain ⟨i, i1, i2, i3⟩ := h7 j (by omega) hc
      obtain ⟨l, ch, ix, e1, e2, e3, e4, e5, e6⟩ := ih i (by omega) (by omega)
      refine ⟨l + 1, fun t => if t = 0 then Q j else ch (t - 1), fun t => if t = 0 then j else ix (t - 1), by simp, by simp; exact e2, by omega, by simp, fun t ht => ?_, fun t ht => ?_⟩
      · simp only
        by_cases t0 : t = 0
        · rw [if_pos t0, if_pos t0]; exact ⟨hc, rfl⟩
        · rw [if_neg t0, if_neg t0]; exact e5 (t - 1) (by omega)
      · simp only
        rw [if_neg (show t + 1 ≠ 0 by omega), if_neg (show t + 1 ≠ 0 by omega), show t + 1 - 1 = t by omega]
        by_cases t0 : t = 0
        · rw [if_pos t0, if_pos t0, t0, e4, e1]; exact ⟨i1, i2, i3⟩
        · rw [if_neg t0, if_neg t0]
          have := e6 (t - 1) (by omega)
          rw [show t - 1 + 1 = t by omega] at this
          exact this
theorem Bf_wy (H : Bf A L h hk F g us a I cnt Q) (hv : Vs Q cnt (2 * b)) : ∃ (l : Nat) (ch : Nat → Nat), Wy F g us a b l ch ∧ l < 128 ∧ ∀ i, i ≤ l → ch i < 128 ∧ (i < l → I A (ch i) = nI (ch (i + 1))) := by
  obtain ⟨j, hj, e⟩ := hv
  have hn := Bf_n H
  obtain ⟨l, ch, ix, e1, e2, e3, e4, e5, e6⟩ := Bf_w H j j (Nat.le_refl _) hj
  have dec : ∀ t i, i + t ≤ l → ix (i + t) + t ≤ ix i := by
    intro t
    induction t with
    | zero => intro i _; exact Nat.le_refl _
    | succ t ih =>
      intro i hi
      have := ih i (by omega)
      have := (e6 (i + t) (by omega)).1
      rw [show i + (t + 1) = i + t + 1 by omega]; omega
  refine ⟨l, ch, ⟨by rw [e1, e], e2, fun p q hp hq => ?_, fun i hi => (e6 i hi).2.2⟩, by omega, fun i hi => ⟨by rw [(e5 i hi).2]; exact (H.2.2.1 _ (e5 i hi).1).1, fun hl => (e6 i hl).2.1⟩⟩
  rw [(e5 p (by omega)).2, (e5 q hq).2]
  have := dec (q - p) p (by omega)
  rw [show p + (q - p) = q by omega] at this
  exact (H.2.2.2.1 (ix q) (ix p) (by omega) (e5 p (by omega)).1).symm
end CU3
